theorem dX6_readPlace_0 : decode cX6_readPlace 0 = .ok (.aload_n 0, 1) := by decide +kernel
theorem dX6_readPlace_1 : decode cX6_readPlace 1 = .ok (.getfield 9, 3) := by decide +kernel
theorem dX6_readPlace_4 : decode cX6_readPlace 4 = .ok (.iconst 0, 1) := by decide +kernel
theorem dX6_readPlace_5 : decode cX6_readPlace 5 = .ok (.iconst 2, 1) := by decide +kernel
theorem dX6_readPlace_6 : decode cX6_readPlace 6 = .ok (.invokevirtual 53, 3) := by decide +kernel
theorem dX6_readPlace_9 : decode cX6_readPlace 9 = .ok (.istore_n 1, 1) := by decide +kernel
theorem dX6_readPlace_10 : decode cX6_readPlace 10 = .ok (.iload_n 1, 1) := by decide +kernel
theorem dX6_readPlace_11 : decode cX6_readPlace 11 = .ok (.iconst (-1), 1) := by decide +kernel
theorem dX6_readPlace_12 : decode cX6_readPlace 12 = .ok (.if_icmp .ne 5, 3) := by decide +kernel
theorem dX6_readPlace_15 : decode cX6_readPlace 15 = .ok (.iconst 0, 1) := by decide +kernel
theorem dX6_readPlace_16 : decode cX6_readPlace 16 = .ok (.ireturn, 1) := by decide +kernel
theorem dX6_readPlace_17 : decode cX6_readPlace 17 = .ok (.aload_n 0, 1) := by decide +kernel
theorem dX6_readPlace_18 : decode cX6_readPlace 18 = .ok (.getfield 9, 3) := by decide +kernel
theorem dX6_readPlace_21 : decode cX6_readPlace 21 = .ok (.iconst 0, 1) := by decide +kernel
theorem dX6_readPlace_22 : decode cX6_readPlace 22 = .ok (.aload_n 0, 1) := by decide +kernel
theorem dX6_readPlace_23 : decode cX6_readPlace 23 = .ok (.getfield 15, 3) := by decide +kernel
theorem dX6_readPlace_26 : decode cX6_readPlace 26 = .ok (.getfield 67, 3) := by decide +kernel
theorem dX6_readPlace_29 : decode cX6_readPlace 29 = .ok (.iconst 1, 1) := by decide +kernel
theorem dX6_readPlace_30 : decode cX6_readPlace 30 = .ok (.isub, 1) := by decide +kernel
theorem dX6_readPlace_31 : decode cX6_readPlace 31 = .ok (.invokevirtual 53, 3) := by decide +kernel
theorem dX6_readPlace_34 : decode cX6_readPlace 34 = .ok (.istore_n 2, 1) := by decide +kernel
theorem dX6_readPlace_35 : decode cX6_readPlace 35 = .ok (.iload_n 2, 1) := by decide +kernel
theorem dX6_readPlace_36 : decode cX6_readPlace 36 = .ok (.iconst (-1), 1) := by decide +kernel
theorem dX6_readPlace_37 : decode cX6_readPlace 37 = .ok (.if_icmp .ne 5, 3) := by decide +kernel
theorem dX6_readPlace_40 : decode cX6_readPlace 40 = .ok (.iconst 0, 1) := by decide +kernel
theorem dX6_readPlace_41 : decode cX6_readPlace 41 = .ok (.ireturn, 1) := by decide +kernel
theorem dX6_readPlace_42 : decode cX6_readPlace 42 = .ok (.aload_n 0, 1) := by decide +kernel
theorem dX6_readPlace_43 : decode cX6_readPlace 43 = .ok (.getfield 9, 3) := by decide +kernel
theorem dX6_readPlace_46 : decode cX6_readPlace 46 = .ok (.iconst 0, 1) := by decide +kernel
theorem dX6_readPlace_47 : decode cX6_readPlace 47 = .ok (.aload_n 0, 1) := by decide +kernel
theorem dX6_readPlace_48 : decode cX6_readPlace 48 = .ok (.getfield 15, 3) := by decide +kernel
theorem dX6_readPlace_51 : decode cX6_readPlace 51 = .ok (.getfield 78, 3) := by decide +kernel
theorem dX6_readPlace_54 : decode cX6_readPlace 54 = .ok (.getfield 82, 3) := by decide +kernel
theorem dX6_readPlace_57 : decode cX6_readPlace 57 = .ok (.iconst 1, 1) := by decide +kernel
theorem dX6_readPlace_58 : decode cX6_readPlace 58 = .ok (.isub, 1) := by decide +kernel
theorem dX6_readPlace_59 : decode cX6_readPlace 59 = .ok (.invokevirtual 53, 3) := by decide +kernel
theorem dX6_readPlace_62 : decode cX6_readPlace 62 = .ok (.istore_n 3, 1) := by decide +kernel
theorem dX6_readPlace_63 : decode cX6_readPlace 63 = .ok (.iload_n 3, 1) := by decide +kernel
theorem dX6_readPlace_64 : decode cX6_readPlace 64 = .ok (.iconst (-1), 1) := by decide +kernel
theorem dX6_readPlace_65 : decode cX6_readPlace 65 = .ok (.if_icmp .ne 5, 3) := by decide +kernel
theorem dX6_readPlace_68 : decode cX6_readPlace 68 = .ok (.iconst 0, 1) := by decide +kernel
theorem dX6_readPlace_69 : decode cX6_readPlace 69 = .ok (.ireturn, 1) := by decide +kernel
theorem dX6_readPlace_70 : decode cX6_readPlace 70 = .ok (.aload_n 0, 1) := by decide +kernel
theorem dX6_readPlace_71 : decode cX6_readPlace 71 = .ok (.getfield 15, 3) := by decide +kernel
theorem dX6_readPlace_74 : decode cX6_readPlace 74 = .ok (.getfield 78, 3) := by decide +kernel
theorem dX6_readPlace_77 : decode cX6_readPlace 77 = .ok (.iload_n 1, 1) := by decide +kernel
theorem dX6_readPlace_78 : decode cX6_readPlace 78 = .ok (.iload_n 2, 1) := by decide +kernel
theorem dX6_readPlace_79 : decode cX6_readPlace 79 = .ok (.iload_n 3, 1) := by decide +kernel
theorem dX6_readPlace_80 : decode cX6_readPlace 80 = .ok (.invokevirtual 87, 3) := by decide +kernel
theorem dX6_readPlace_83 : decode cX6_readPlace 83 = .ok (.ifCond .eq 12, 3) := by decide +kernel
theorem dX6_readPlace_86 : decode cX6_readPlace 86 = .ok (.aload_n 0, 1) := by decide +kernel
theorem dX6_readPlace_87 : decode cX6_readPlace 87 = .ok (.getfield 9, 3) := by decide +kernel
theorem dX6_readPlace_90 : decode cX6_readPlace 90 = .ok (.iconst 3, 1) := by decide +kernel
theorem dX6_readPlace_91 : decode cX6_readPlace 91 = .ok (.invokevirtual 91, 3) := by decide +kernel
theorem dX6_readPlace_94 : decode cX6_readPlace 94 = .ok (.ireturn, 1) := by decide +kernel
theorem dX6_readPlace_95 : decode cX6_readPlace 95 = .ok (.aload_n 0, 1) := by decide +kernel
theorem dX6_readPlace_96 : decode cX6_readPlace 96 = .ok (.getfield 15, 3) := by decide +kernel
theorem dX6_readPlace_99 : decode cX6_readPlace 99 = .ok (.getfield 78, 3) := by decide +kernel
theorem dX6_readPlace_102 : decode cX6_readPlace 102 = .ok (.iload_n 1, 1) := by decide +kernel
theorem dX6_readPlace_103 : decode cX6_readPlace 103 = .ok (.iload_n 2, 1) := by decide +kernel
theorem dX6_readPlace_104 : decode cX6_readPlace 104 = .ok (.iload_n 3, 1) := by decide +kernel
theorem dX6_readPlace_105 : decode cX6_readPlace 105 = .ok (.invokevirtual 94, 3) := by decide +kernel
theorem dX6_readPlace_108 : decode cX6_readPlace 108 = .ok (.aload_n 0, 1) := by decide +kernel
theorem dX6_readPlace_109 : decode cX6_readPlace 109 = .ok (.getfield 9, 3) := by decide +kernel
theorem dX6_readPlace_112 : decode cX6_readPlace 112 = .ok (.bipush 59, 2) := by decide +kernel
theorem dX6_readPlace_114 : decode cX6_readPlace 114 = .ok (.invokevirtual 63, 3) := by decide +kernel
theorem dX6_readPlace_117 : decode cX6_readPlace 117 = .ok (.ireturn, 1) := by decide +kernel
def fX6_readPlace (M : Mm) : Option (Int32 × Mm) := (fX7_takeNumber M (0 : Int32) (2 : Int32)).bind fun q1 => if q1.1 = (-1 : Int32) then some ((0 : Int32), q1.2) else (fX7_takeNumber q1.2 (0 : Int32) ((q1.2.1 (9, 1, 0) 2) - (1 : Int32))).bind fun q4 => if q4.1 = (-1 : Int32) then some ((0 : Int32), q4.2) else (fX7_takeNumber q4.2 (0 : Int32) ((q4.2.1 (10, 1, 0) 1) - (1 : Int32))).bind fun q7 => if q7.1 = (-1 : Int32) then some ((0 : Int32), q7.2) else (fX3_hasPin q7.2 1 q1.1 q4.1 q7.1).bind fun q10 => if q10 = 0 then ((fX3_putPin q7.2 1 q1.1 q4.1 q7.1).bind fun q13 => (fX7_takeSign q13 (59 : Int32)).bind fun q15 => some ((bz q15.1), q15.2)) else (fX7_failTaken q7.2 (3 : Int32)).bind fun q17 => some ((bz q17.1), q17.2)
set_option maxRecDepth 20000 in
set_option maxHeartbeats 2000000 in
theorem sX6_readPlace {wv : Nat} (M : Mm) {res : (Int32 × Mm)} (h : fX6_readPlace M  = some res) : TF wv yX6_readPlace cX6_readPlace 4 (some .boolean) 3 [.inr (5, 0, 0)] M (some (.int res.1)) res.2 := by
  rw [fX6_readPlace] at h
  refine TF.go (n := 3) (ls := [some (.inr (5, 0, 0)), none, none, none]) rfl rfl rfl rfl rfl ?_
  refine z_aload_n (i := 0) dX6_readPlace_0 rfl rfl ?_
  refine z_getR (r' := (3, 0, 0)) dX6_readPlace_1 fl_X6_9 mk5 rfl rfl ?_
  refine z_iconst (v := (0 : Int32)) dX6_readPlace_4 kc_0 ?_
  refine z_iconst (v := (2 : Int32)) dX6_readPlace_5 kc_2 ?_
  obtain ⟨q1, hq2, h⟩ := bnd h
  refine z_fVi (sX7_takeNumber M (0 : Int32) (2 : Int32) hq2) dX6_readPlace_6 ml_X6_53 cd_X7_takeNumber mk3 rfl rfl rfl rfl rfl rfl ?_
  refine z_istore_n (i := 1) dX6_readPlace_9 rfl (Nat.le_of_ble_eq_true rfl) rfl ?_
  refine z_iload_n (i := 1) dX6_readPlace_10 rfl rfl ?_
  refine z_iconst (v := (-1 : Int32)) dX6_readPlace_11 kc_m1 ?_
  refine z_icmp_ne (tgt := 17) dX6_readPlace_12 rfl (fun hc3 => ?_) (fun hc3 => ?_)
  · have h := it_f h hc3
    refine z_aload_n (i := 0) dX6_readPlace_17 rfl rfl ?_
    refine z_getR (r' := (3, 0, 0)) dX6_readPlace_18 fl_X6_9 mk5 rfl rfl ?_
    refine z_iconst (v := (0 : Int32)) dX6_readPlace_21 kc_0 ?_
    refine z_aload_n (i := 0) dX6_readPlace_22 rfl rfl ?_
    refine z_getR (r' := (9, 1, 0)) dX6_readPlace_23 fl_X6_15 mk5 rfl rfl ?_
    refine z_getI (x := (q1.2.1 (9, 1, 0) 2)) dX6_readPlace_26 fl_X6_67 (m9 _ (Nat.le_of_ble_eq_true rfl)) rfl rfl ?_
    refine z_iconst (v := (1 : Int32)) dX6_readPlace_29 kc_1 ?_
    refine z_isub dX6_readPlace_30 ?_
    obtain ⟨q4, hq5, h⟩ := bnd h
    refine z_fVi (sX7_takeNumber q1.2 (0 : Int32) ((q1.2.1 (9, 1, 0) 2) - (1 : Int32)) hq5) dX6_readPlace_31 ml_X6_53 cd_X7_takeNumber mk3 rfl rfl rfl rfl rfl rfl ?_
    refine z_istore_n (i := 2) dX6_readPlace_34 rfl (Nat.le_of_ble_eq_true rfl) rfl ?_
    refine z_iload_n (i := 2) dX6_readPlace_35 rfl rfl ?_
    refine z_iconst (v := (-1 : Int32)) dX6_readPlace_36 kc_m1 ?_
    refine z_icmp_ne (tgt := 42) dX6_readPlace_37 rfl (fun hc6 => ?_) (fun hc6 => ?_)
    · have h := it_f h hc6
      refine z_aload_n (i := 0) dX6_readPlace_42 rfl rfl ?_
      refine z_getR (r' := (3, 0, 0)) dX6_readPlace_43 fl_X6_9 mk5 rfl rfl ?_
      refine z_iconst (v := (0 : Int32)) dX6_readPlace_46 kc_0 ?_
      refine z_aload_n (i := 0) dX6_readPlace_47 rfl rfl ?_
      refine z_getR (r' := (9, 1, 0)) dX6_readPlace_48 fl_X6_15 mk5 rfl rfl ?_
      refine z_getR (r' := (10, 1, 0)) dX6_readPlace_51 fl_X6_78 (m9 _ (Nat.le_of_ble_eq_true rfl)) rfl rfl ?_
      refine z_getI (x := (q4.2.1 (10, 1, 0) 1)) dX6_readPlace_54 fl_X6_82 (m10 _ (Nat.le_of_ble_eq_true rfl)) rfl rfl ?_
      refine z_iconst (v := (1 : Int32)) dX6_readPlace_57 kc_1 ?_
      refine z_isub dX6_readPlace_58 ?_
      obtain ⟨q7, hq8, h⟩ := bnd h
      refine z_fVi (sX7_takeNumber q4.2 (0 : Int32) ((q4.2.1 (10, 1, 0) 1) - (1 : Int32)) hq8) dX6_readPlace_59 ml_X6_53 cd_X7_takeNumber mk3 rfl rfl rfl rfl rfl rfl ?_
      refine z_istore_n (i := 3) dX6_readPlace_62 rfl (Nat.le_of_ble_eq_true rfl) rfl ?_
      refine z_iload_n (i := 3) dX6_readPlace_63 rfl rfl ?_
      refine z_iconst (v := (-1 : Int32)) dX6_readPlace_64 kc_m1 ?_
      refine z_icmp_ne (tgt := 70) dX6_readPlace_65 rfl (fun hc9 => ?_) (fun hc9 => ?_)
      · have h := it_f h hc9
        refine z_aload_n (i := 0) dX6_readPlace_70 rfl rfl ?_
        refine z_getR (r' := (9, 1, 0)) dX6_readPlace_71 fl_X6_15 mk5 rfl rfl ?_
        refine z_getR (r' := (10, 1, 0)) dX6_readPlace_74 fl_X6_78 (m9 _ (Nat.le_of_ble_eq_true rfl)) rfl rfl ?_
        refine z_iload_n (i := 1) dX6_readPlace_77 rfl rfl ?_
        refine z_iload_n (i := 2) dX6_readPlace_78 rfl rfl ?_
        refine z_iload_n (i := 3) dX6_readPlace_79 rfl rfl ?_
        obtain ⟨q10, hq11, h⟩ := bnd h
        refine z_fVi (sX3_hasPin q7.2 1 q1.1 q4.1 q7.1 (Nat.le_of_ble_eq_true rfl) hq11) dX6_readPlace_80 ml_X6_87 cd_X3_hasPin (m10 _ (Nat.le_of_ble_eq_true rfl)) rfl rfl rfl rfl rfl rfl ?_
        refine z_if_eq (tgt := 95) dX6_readPlace_83 rfl (fun hc12 => ?_) (fun hc12 => ?_)
        · have h := it_t h hc12
          refine z_aload_n (i := 0) dX6_readPlace_95 rfl rfl ?_
          refine z_getR (r' := (9, 1, 0)) dX6_readPlace_96 fl_X6_15 mk5 rfl rfl ?_
          refine z_getR (r' := (10, 1, 0)) dX6_readPlace_99 fl_X6_78 (m9 _ (Nat.le_of_ble_eq_true rfl)) rfl rfl ?_
          refine z_iload_n (i := 1) dX6_readPlace_102 rfl rfl ?_
          refine z_iload_n (i := 2) dX6_readPlace_103 rfl rfl ?_
          refine z_iload_n (i := 3) dX6_readPlace_104 rfl rfl ?_
          obtain ⟨q13, hq14, h⟩ := bnd h
          refine z_fVv (sX3_putPin q7.2 1 q1.1 q4.1 q7.1 (Nat.le_of_ble_eq_true rfl) hq14) dX6_readPlace_105 ml_X6_94 cd_X3_putPin (m10 _ (Nat.le_of_ble_eq_true rfl)) rfl rfl rfl rfl rfl rfl ?_
          refine z_aload_n (i := 0) dX6_readPlace_108 rfl rfl ?_
          refine z_getR (r' := (3, 0, 0)) dX6_readPlace_109 fl_X6_9 mk5 rfl rfl ?_
          refine z_bipush (v := (59 : Int32)) dX6_readPlace_112 kb_59 ?_
          obtain ⟨q15, hq16, h⟩ := bnd h
          refine z_fVi (sX7_takeSign q13 (59 : Int32) hq16) dX6_readPlace_114 ml_X6_63 cd_X7_takeSign mk3 rfl rfl rfl rfl rfl rfl ?_
          cases h
          exact z_iret dX6_readPlace_117 rfl (bz_ok _) (Nat.le_refl _) (Nat.le_refl _) ⟨rfl, rfl⟩
        · have h := it_f h hc12
          refine z_aload_n (i := 0) dX6_readPlace_86 rfl rfl ?_
          refine z_getR (r' := (3, 0, 0)) dX6_readPlace_87 fl_X6_9 mk5 rfl rfl ?_
          refine z_iconst (v := (3 : Int32)) dX6_readPlace_90 kc_3 ?_
          obtain ⟨q17, hq18, h⟩ := bnd h
          refine z_fVi (sX7_failTaken q7.2 (3 : Int32) hq18) dX6_readPlace_91 ml_X6_91 cd_X7_failTaken mk3 rfl rfl rfl rfl rfl rfl ?_
          cases h
          exact z_iret dX6_readPlace_94 rfl (bz_ok _) (Nat.le_refl _) (Nat.le_refl _) ⟨rfl, rfl⟩
      · have h := it_t h hc9
        refine z_iconst (v := (0 : Int32)) dX6_readPlace_68 kc_0 ?_
        cases h
        exact z_iret dX6_readPlace_69 rfl rfl (Nat.le_refl _) (Nat.le_refl _) ⟨rfl, rfl⟩
    · have h := it_t h hc6
      refine z_iconst (v := (0 : Int32)) dX6_readPlace_40 kc_0 ?_
      cases h
      exact z_iret dX6_readPlace_41 rfl rfl (Nat.le_refl _) (Nat.le_refl _) ⟨rfl, rfl⟩
  · have h := it_t h hc3
    refine z_iconst (v := (0 : Int32)) dX6_readPlace_15 kc_0 ?_
    cases h
    exact z_iret dX6_readPlace_16 rfl rfl (Nat.le_refl _) (Nat.le_refl _) ⟨rfl, rfl⟩
theorem dX6_readSetup_0 : decode cX6_readSetup 0 = .ok (.aload_n 0, 1) := by decide +kernel
theorem dX6_readSetup_1 : decode cX6_readSetup 1 = .ok (.getfield 9, 3) := by decide +kernel
theorem dX6_readSetup_4 : decode cX6_readSetup 4 = .ok (.invokevirtual 19, 3) := by decide +kernel
theorem dX6_readSetup_7 : decode cX6_readSetup 7 = .ok (.aload_n 0, 1) := by decide +kernel
theorem dX6_readSetup_8 : decode cX6_readSetup 8 = .ok (.invokevirtual 24, 3) := by decide +kernel
theorem dX6_readSetup_11 : decode cX6_readSetup 11 = .ok (.ifCond .eq 10, 3) := by decide +kernel
theorem dX6_readSetup_14 : decode cX6_readSetup 14 = .ok (.aload_n 0, 1) := by decide +kernel
theorem dX6_readSetup_15 : decode cX6_readSetup 15 = .ok (.invokevirtual 28, 3) := by decide +kernel
theorem dX6_readSetup_18 : decode cX6_readSetup 18 = .ok (.ifCond .ne 5, 3) := by decide +kernel
theorem dX6_readSetup_21 : decode cX6_readSetup 21 = .ok (.iconst 0, 1) := by decide +kernel
theorem dX6_readSetup_22 : decode cX6_readSetup 22 = .ok (.ireturn, 1) := by decide +kernel
theorem dX6_readSetup_23 : decode cX6_readSetup 23 = .ok (.iconst 0, 1) := by decide +kernel
theorem dX6_readSetup_24 : decode cX6_readSetup 24 = .ok (.istore_n 1, 1) := by decide +kernel
theorem dX6_readSetup_25 : decode cX6_readSetup 25 = .ok (.iload_n 1, 1) := by decide +kernel
theorem dX6_readSetup_26 : decode cX6_readSetup 26 = .ok (.bipush 12, 2) := by decide +kernel
theorem dX6_readSetup_28 : decode cX6_readSetup 28 = .ok (.if_icmp .ge 30, 3) := by decide +kernel
theorem dX6_readSetup_31 : decode cX6_readSetup 31 = .ok (.aload_n 0, 1) := by decide +kernel
theorem dX6_readSetup_32 : decode cX6_readSetup 32 = .ok (.getfield 9, 3) := by decide +kernel
theorem dX6_readSetup_35 : decode cX6_readSetup 35 = .ok (.ldc 31, 2) := by decide +kernel
theorem dX6_readSetup_37 : decode cX6_readSetup 37 = .ok (.invokevirtual 33, 3) := by decide +kernel
theorem dX6_readSetup_40 : decode cX6_readSetup 40 = .ok (.ifCond .eq 18, 3) := by decide +kernel
theorem dX6_readSetup_43 : decode cX6_readSetup 43 = .ok (.aload_n 0, 1) := by decide +kernel
theorem dX6_readSetup_44 : decode cX6_readSetup 44 = .ok (.invokevirtual 28, 3) := by decide +kernel
theorem dX6_readSetup_47 : decode cX6_readSetup 47 = .ok (.ifCond .ne 5, 3) := by decide +kernel
theorem dX6_readSetup_50 : decode cX6_readSetup 50 = .ok (.iconst 0, 1) := by decide +kernel
theorem dX6_readSetup_51 : decode cX6_readSetup 51 = .ok (.ireturn, 1) := by decide +kernel
theorem dX6_readSetup_52 : decode cX6_readSetup 52 = .ok (.iinc 1 1, 3) := by decide +kernel
theorem dX6_readSetup_55 : decode cX6_readSetup 55 = .ok (.goto (-30), 3) := by decide +kernel
theorem dX6_readSetup_58 : decode cX6_readSetup 58 = .ok (.iconst 0, 1) := by decide +kernel
theorem dX6_readSetup_59 : decode cX6_readSetup 59 = .ok (.istore_n 1, 1) := by decide +kernel
theorem dX6_readSetup_60 : decode cX6_readSetup 60 = .ok (.iload_n 1, 1) := by decide +kernel
theorem dX6_readSetup_61 : decode cX6_readSetup 61 = .ok (.sipush 800, 3) := by decide +kernel
theorem dX6_readSetup_64 : decode cX6_readSetup 64 = .ok (.if_icmp .ge 37, 3) := by decide +kernel
theorem dX6_readSetup_67 : decode cX6_readSetup 67 = .ok (.aload_n 0, 1) := by decide +kernel
theorem dX6_readSetup_68 : decode cX6_readSetup 68 = .ok (.getfield 9, 3) := by decide +kernel
theorem dX6_readSetup_71 : decode cX6_readSetup 71 = .ok (.ldc 37, 2) := by decide +kernel
theorem dX6_readSetup_73 : decode cX6_readSetup 73 = .ok (.invokevirtual 33, 3) := by decide +kernel
theorem dX6_readSetup_76 : decode cX6_readSetup 76 = .ok (.ifCond .eq 25, 3) := by decide +kernel
theorem dX6_readSetup_79 : decode cX6_readSetup 79 = .ok (.aload_n 0, 1) := by decide +kernel
theorem dX6_readSetup_80 : decode cX6_readSetup 80 = .ok (.getfield 9, 3) := by decide +kernel
theorem dX6_readSetup_83 : decode cX6_readSetup 83 = .ok (.invokevirtual 39, 3) := by decide +kernel
theorem dX6_readSetup_86 : decode cX6_readSetup 86 = .ok (.aload_n 0, 1) := by decide +kernel
theorem dX6_readSetup_87 : decode cX6_readSetup 87 = .ok (.invokevirtual 42, 3) := by decide +kernel
theorem dX6_readSetup_90 : decode cX6_readSetup 90 = .ok (.ifCond .ne 5, 3) := by decide +kernel
theorem dX6_readSetup_93 : decode cX6_readSetup 93 = .ok (.iconst 0, 1) := by decide +kernel
theorem dX6_readSetup_94 : decode cX6_readSetup 94 = .ok (.ireturn, 1) := by decide +kernel
theorem dX6_readSetup_95 : decode cX6_readSetup 95 = .ok (.iinc 1 1, 3) := by decide +kernel
theorem dX6_readSetup_98 : decode cX6_readSetup 98 = .ok (.goto (-38), 3) := by decide +kernel
theorem dX6_readSetup_101 : decode cX6_readSetup 101 = .ok (.aload_n 0, 1) := by decide +kernel
theorem dX6_readSetup_102 : decode cX6_readSetup 102 = .ok (.getfield 9, 3) := by decide +kernel
theorem dX6_readSetup_105 : decode cX6_readSetup 105 = .ok (.invokevirtual 45, 3) := by decide +kernel
theorem dX6_readSetup_108 : decode cX6_readSetup 108 = .ok (.ireturn, 1) := by decide +kernel
def fX6_readSetup_L25 (K : Int32 → Mm → Option (Int32 × Mm)) : Nat → Int32 → Mm → Option (Int32 × Mm)
  | 0, _, _ => none
  | n + 1, v1, M => if (12 : Int32) ≤ v1 then K v1 M else (fX7_atWord M 2).bind fun q10 => if q10 = 0 then K v1 M else (fX6_readTooth M).bind fun q13 => if q13.1 = 0 then some ((0 : Int32), q13.2) else fX6_readSetup_L25 K n (v1 + (1 : Int32)) q13.2
def fX6_readSetup_L60 (K : Int32 → Mm → Option (Int32 × Mm)) : Nat → Int32 → Mm → Option (Int32 × Mm)
  | 0, _, _ => none
  | n + 1, v1, M => if (800 : Int32) ≤ v1 then K v1 M else (fX7_atWord M 3).bind fun q19 => if q19 = 0 then K v1 M else (fX6_readPlace (fX7_advance M)).bind fun q22 => if q22.1 = 0 then some ((0 : Int32), q22.2) else fX6_readSetup_L60 K n (v1 + (1 : Int32)) q22.2
def fX6_readSetup (M : Mm) : Option (Int32 × Mm) := (fX7_scan M).bind fun q1 => (fX6_readHead q1).bind fun q3 => if q3.1 = 0 then some ((0 : Int32), q3.2) else (fX6_readTooth q3.2).bind fun q6 => if q6.1 = 0 then some ((0 : Int32), q6.2) else fX6_readSetup_L25 (fun w16 M17 => fX6_readSetup_L60 (fun w25 M26 => (fX7_takeEnd M26).bind fun q27 => some ((bz q27.1), q27.2)) NF (0 : Int32) M17) NF (0 : Int32) q6.2
set_option maxRecDepth 20000 in
set_option maxHeartbeats 2000000 in
theorem sX6_readSetup_L25 {wv : Nat} {res : (Int32 × Mm)} {K : Int32 → Mm → Option (Int32 × Mm)} : ∀ (n : Nat) (v1 : Int32) (M : Mm), fX6_readSetup_L25 K n v1 M = some res →
    (∀ (v1 : Int32) (M : Mm), K v1 M = some res → Z RX6 cX6_readSetup 2 (some .boolean) [] "readSetup" (rmD 10 0 0) (QM SH (allR wv) 0 0 (fun v M9 => v = some (.int res.1) ∧ M9 = res.2) (fun _ _ => False)) (allR wv) SH 0 0 58 [some (.inr (5, 0, 0)), some (.inl (.int v1))] [] M) → Z RX6 cX6_readSetup 2 (some .boolean) [] "readSetup" (rmD 10 0 0) (QM SH (allR wv) 0 0 (fun v M9 => v = some (.int res.1) ∧ M9 = res.2) (fun _ _ => False)) (allR wv) SH 0 0 25 [some (.inr (5, 0, 0)), some (.inl (.int v1))] [] M := by
  intro n
  induction n with
  | zero => intro v1 M h; cases h
  | succ n ih =>
    intro v1 M h hK
    rw [fX6_readSetup_L25] at h
    refine z_iload_n (i := 1) dX6_readSetup_25 rfl rfl ?_
    refine z_bipush (v := (12 : Int32)) dX6_readSetup_26 kb_12 ?_
    refine z_icmp_ge (tgt := 58) dX6_readSetup_28 rfl (fun hc9 => ?_) (fun hc9 => ?_)
    · have h := it_t h hc9
      exact hK _ _ h
    · have h := it_f h hc9
      refine z_aload_n (i := 0) dX6_readSetup_31 rfl rfl ?_
      refine z_getR (r' := (3, 0, 0)) dX6_readSetup_32 fl_X6_9 mk5 rfl rfl ?_
      refine z_ldcS (j := 2) dX6_readSetup_35 sw_RX6_31 ?_
      obtain ⟨q10, hq11, h⟩ := bnd h
      refine z_fVi (sX7_atWord M 2 (Nat.le_of_ble_eq_true rfl) hq11) dX6_readSetup_37 ml_X6_33 cd_X7_atWord mk3 rfl rfl rfl rfl rfl rfl ?_
      refine z_if_eq (tgt := 58) dX6_readSetup_40 rfl (fun hc12 => ?_) (fun hc12 => ?_)
      · have h := it_t h hc12
        exact hK _ _ h
      · have h := it_f h hc12
        refine z_aload_n (i := 0) dX6_readSetup_43 rfl rfl ?_
        obtain ⟨q13, hq14, h⟩ := bnd h
        refine z_fVi (sX6_readTooth M hq14) dX6_readSetup_44 ml_X6_28 cd_X6_readTooth mk5 rfl rfl rfl rfl rfl rfl ?_
        refine z_if_ne (tgt := 52) dX6_readSetup_47 rfl (fun hc15 => ?_) (fun hc15 => ?_)
        · have h := it_f h hc15
          refine z_iinc (i := 1) (v := (v1 + (1 : Int32))) dX6_readSetup_52 rfl (iinc_k kc_1) (Nat.le_of_ble_eq_true rfl) rfl ?_
          refine z_goto (tgt := 25) dX6_readSetup_55 rfl ?_
          exact ih _ _ h hK
        · have h := it_t h hc15
          refine z_iconst (v := (0 : Int32)) dX6_readSetup_50 kc_0 ?_
          cases h
          exact z_iret dX6_readSetup_51 rfl rfl (Nat.le_refl _) (Nat.le_refl _) ⟨rfl, rfl⟩
set_option maxRecDepth 20000 in
set_option maxHeartbeats 2000000 in
theorem sX6_readSetup_L60 {wv : Nat} {res : (Int32 × Mm)} {K : Int32 → Mm → Option (Int32 × Mm)} : ∀ (n : Nat) (v1 : Int32) (M : Mm), fX6_readSetup_L60 K n v1 M = some res →
    (∀ (v1 : Int32) (M : Mm), K v1 M = some res → Z RX6 cX6_readSetup 2 (some .boolean) [] "readSetup" (rmD 10 0 0) (QM SH (allR wv) 0 0 (fun v M9 => v = some (.int res.1) ∧ M9 = res.2) (fun _ _ => False)) (allR wv) SH 0 0 101 [some (.inr (5, 0, 0)), some (.inl (.int v1))] [] M) → Z RX6 cX6_readSetup 2 (some .boolean) [] "readSetup" (rmD 10 0 0) (QM SH (allR wv) 0 0 (fun v M9 => v = some (.int res.1) ∧ M9 = res.2) (fun _ _ => False)) (allR wv) SH 0 0 60 [some (.inr (5, 0, 0)), some (.inl (.int v1))] [] M := by
  intro n
  induction n with
  | zero => intro v1 M h; cases h
  | succ n ih =>
    intro v1 M h hK
    rw [fX6_readSetup_L60] at h
    refine z_iload_n (i := 1) dX6_readSetup_60 rfl rfl ?_
    refine z_sipush (v := (800 : Int32)) dX6_readSetup_61 ks_800 ?_
    refine z_icmp_ge (tgt := 101) dX6_readSetup_64 rfl (fun hc18 => ?_) (fun hc18 => ?_)
    · have h := it_t h hc18
      exact hK _ _ h
    · have h := it_f h hc18
      refine z_aload_n (i := 0) dX6_readSetup_67 rfl rfl ?_
      refine z_getR (r' := (3, 0, 0)) dX6_readSetup_68 fl_X6_9 mk5 rfl rfl ?_
      refine z_ldcS (j := 3) dX6_readSetup_71 sw_RX6_37 ?_
      obtain ⟨q19, hq20, h⟩ := bnd h
      refine z_fVi (sX7_atWord M 3 (Nat.le_of_ble_eq_true rfl) hq20) dX6_readSetup_73 ml_X6_33 cd_X7_atWord mk3 rfl rfl rfl rfl rfl rfl ?_
      refine z_if_eq (tgt := 101) dX6_readSetup_76 rfl (fun hc21 => ?_) (fun hc21 => ?_)
      · have h := it_t h hc21
        exact hK _ _ h
      · have h := it_f h hc21
        refine z_aload_n (i := 0) dX6_readSetup_79 rfl rfl ?_
        refine z_getR (r' := (3, 0, 0)) dX6_readSetup_80 fl_X6_9 mk5 rfl rfl ?_
        refine z_fVv (sX7_advance M) dX6_readSetup_83 ml_X6_39 cd_X7_advance mk3 rfl rfl rfl rfl rfl rfl ?_
        refine z_aload_n (i := 0) dX6_readSetup_86 rfl rfl ?_
        obtain ⟨q22, hq23, h⟩ := bnd h
        refine z_fVi (sX6_readPlace (fX7_advance M) hq23) dX6_readSetup_87 ml_X6_42 cd_X6_readPlace mk5 rfl rfl rfl rfl rfl rfl ?_
        refine z_if_ne (tgt := 95) dX6_readSetup_90 rfl (fun hc24 => ?_) (fun hc24 => ?_)
        · have h := it_f h hc24
          refine z_iinc (i := 1) (v := (v1 + (1 : Int32))) dX6_readSetup_95 rfl (iinc_k kc_1) (Nat.le_of_ble_eq_true rfl) rfl ?_
          refine z_goto (tgt := 60) dX6_readSetup_98 rfl ?_
          exact ih _ _ h hK
        · have h := it_t h hc24
          refine z_iconst (v := (0 : Int32)) dX6_readSetup_93 kc_0 ?_
          cases h
          exact z_iret dX6_readSetup_94 rfl rfl (Nat.le_refl _) (Nat.le_refl _) ⟨rfl, rfl⟩
set_option maxRecDepth 20000 in
set_option maxHeartbeats 2000000 in
theorem sX6_readSetup {wv : Nat} (M : Mm) {res : (Int32 × Mm)} (h : fX6_readSetup M  = some res) : TF wv yX6_readSetup cX6_readSetup 2 (some .boolean) 10 [.inr (5, 0, 0)] M (some (.int res.1)) res.2 := by
  rw [fX6_readSetup] at h
  refine TF.go (n := 1) (ls := [some (.inr (5, 0, 0)), none]) rfl rfl rfl rfl rfl ?_
  refine z_aload_n (i := 0) dX6_readSetup_0 rfl rfl ?_
  refine z_getR (r' := (3, 0, 0)) dX6_readSetup_1 fl_X6_9 mk5 rfl rfl ?_
  obtain ⟨q1, hq2, h⟩ := bnd h
  refine z_fVv (sX7_scan M hq2) dX6_readSetup_4 ml_X6_19 cd_X7_scan mk3 rfl rfl rfl rfl rfl rfl ?_
  refine z_aload_n (i := 0) dX6_readSetup_7 rfl rfl ?_
  obtain ⟨q3, hq4, h⟩ := bnd h
  refine z_fVi (sX6_readHead q1 hq4) dX6_readSetup_8 ml_X6_24 cd_X6_readHead mk5 rfl rfl rfl rfl rfl rfl ?_
  refine z_if_eq (tgt := 21) dX6_readSetup_11 rfl (fun hc5 => ?_) (fun hc5 => ?_)
  · have h := it_t h hc5
    refine z_iconst (v := (0 : Int32)) dX6_readSetup_21 kc_0 ?_
    cases h
    exact z_iret dX6_readSetup_22 rfl rfl (Nat.le_refl _) (Nat.le_refl _) ⟨rfl, rfl⟩
  · have h := it_f h hc5
    refine z_aload_n (i := 0) dX6_readSetup_14 rfl rfl ?_
    obtain ⟨q6, hq7, h⟩ := bnd h
    refine z_fVi (sX6_readTooth q3.2 hq7) dX6_readSetup_15 ml_X6_28 cd_X6_readTooth mk5 rfl rfl rfl rfl rfl rfl ?_
    refine z_if_ne (tgt := 23) dX6_readSetup_18 rfl (fun hc8 => ?_) (fun hc8 => ?_)
    · have h := it_f h hc8
      refine z_iconst (v := (0 : Int32)) dX6_readSetup_23 kc_0 ?_
      refine z_istore_n (i := 1) dX6_readSetup_24 rfl (Nat.le_of_ble_eq_true rfl) rfl ?_
      refine sX6_readSetup_L25  NF _ _ h (fun w16 M17 h => ?_)
      refine z_iconst (v := (0 : Int32)) dX6_readSetup_58 kc_0 ?_
      refine z_istore_n (i := 1) dX6_readSetup_59 rfl (Nat.le_of_ble_eq_true rfl) rfl ?_
      refine sX6_readSetup_L60  NF _ _ h (fun w25 M26 h => ?_)
      refine z_aload_n (i := 0) dX6_readSetup_101 rfl rfl ?_
      refine z_getR (r' := (3, 0, 0)) dX6_readSetup_102 fl_X6_9 mk5 rfl rfl ?_
      obtain ⟨q27, hq28, h⟩ := bnd h
      refine z_fVi (sX7_takeEnd M26 hq28) dX6_readSetup_105 ml_X6_45 cd_X7_takeEnd mk3 rfl rfl rfl rfl rfl rfl ?_
      cases h
      exact z_iret dX6_readSetup_108 rfl (bz_ok _) (Nat.le_refl _) (Nat.le_refl _) ⟨rfl, rfl⟩
    · have h := it_t h hc8
      refine z_iconst (v := (0 : Int32)) dX6_readSetup_21 kc_0 ?_
      cases h
      exact z_iret dX6_readSetup_22 rfl rfl (Nat.le_refl _) (Nat.le_refl _) ⟨rfl, rfl⟩
theorem dX9_bytesIn_0 : decode cX9_bytesIn 0 = .ok (.iconst 0, 1) := by decide +kernel
theorem dX9_bytesIn_1 : decode cX9_bytesIn 1 = .ok (.istore_n 1, 1) := by decide +kernel
theorem dX9_bytesIn_2 : decode cX9_bytesIn 2 = .ok (.bipush 24, 2) := by decide +kernel
theorem dX9_bytesIn_4 : decode cX9_bytesIn 4 = .ok (.istore_n 2, 1) := by decide +kernel
theorem dX9_bytesIn_5 : decode cX9_bytesIn 5 = .ok (.iload_n 2, 1) := by decide +kernel
theorem dX9_bytesIn_6 : decode cX9_bytesIn 6 = .ok (.ifCond .lt 22, 3) := by decide +kernel
theorem dX9_bytesIn_9 : decode cX9_bytesIn 9 = .ok (.iload_n 0, 1) := by decide +kernel
theorem dX9_bytesIn_10 : decode cX9_bytesIn 10 = .ok (.iload_n 2, 1) := by decide +kernel
theorem dX9_bytesIn_11 : decode cX9_bytesIn 11 = .ok (.iushr, 1) := by decide +kernel
theorem dX9_bytesIn_12 : decode cX9_bytesIn 12 = .ok (.sipush 255, 3) := by decide +kernel
theorem dX9_bytesIn_15 : decode cX9_bytesIn 15 = .ok (.iand, 1) := by decide +kernel
theorem dX9_bytesIn_16 : decode cX9_bytesIn 16 = .ok (.ifCond .eq 6, 3) := by decide +kernel
theorem dX9_bytesIn_19 : decode cX9_bytesIn 19 = .ok (.iinc 1 1, 3) := by decide +kernel
theorem dX9_bytesIn_22 : decode cX9_bytesIn 22 = .ok (.iinc 2 (-8), 3) := by decide +kernel
theorem dX9_bytesIn_25 : decode cX9_bytesIn 25 = .ok (.goto (-20), 3) := by decide +kernel
theorem dX9_bytesIn_28 : decode cX9_bytesIn 28 = .ok (.iload_n 1, 1) := by decide +kernel
theorem dX9_bytesIn_29 : decode cX9_bytesIn 29 = .ok (.ireturn, 1) := by decide +kernel
def fX9_bytesIn_L5 (M : Mm) (c0 : Int32) (K : Int32 → Int32 → Option Int32) : Nat → Int32 → Int32 → Option Int32
  | 0, _, _ => none
  | n + 1, v1, v2 => if v2 < 0 then K v1 v2 else if (((c0.toUInt32 >>> (v2.toUInt32 &&& Int32.toUInt32 31)).toInt32) &&& (255 : Int32)) = 0 then fX9_bytesIn_L5 M c0 K n v1 (v2 + (-8 : Int32)) else fX9_bytesIn_L5 M c0 K n (v1 + (1 : Int32)) (v2 + (-8 : Int32))
def fX9_bytesIn (M : Mm) (x1 : Int32) : Option Int32 := fX9_bytesIn_L5 M x1 (fun w3 w4 => some w3) NF (0 : Int32) (24 : Int32)
set_option maxRecDepth 20000 in
set_option maxHeartbeats 2000000 in
theorem sX9_bytesIn_L5 {wv : Nat} (M : Mm) (c0 : Int32) {res : Int32} {K : Int32 → Int32 → Option Int32} : ∀ (n : Nat) (v1 : Int32) (v2 : Int32), fX9_bytesIn_L5 M c0 K n v1 v2 = some res →
    (∀ (v1 : Int32) (v2 : Int32), K v1 v2 = some res → Z RX9 cX9_bytesIn 3 (some .int) [] "bytesIn" (rmD 0 0 0) (QM SH (allR wv) 0 0 (fun v M9 => v = some (.int res) ∧ M9 = M) (fun _ _ => False)) (allR wv) SH 0 0 28 [some (.inl (.int c0)), some (.inl (.int v1)), some (.inl (.int v2))] [] M) → Z RX9 cX9_bytesIn 3 (some .int) [] "bytesIn" (rmD 0 0 0) (QM SH (allR wv) 0 0 (fun v M9 => v = some (.int res) ∧ M9 = M) (fun _ _ => False)) (allR wv) SH 0 0 5 [some (.inl (.int c0)), some (.inl (.int v1)), some (.inl (.int v2))] [] M := by
  intro n
  induction n with
  | zero => intro v1 v2 h; cases h
  | succ n ih =>
    intro v1 v2 h hK
    rw [fX9_bytesIn_L5] at h
    refine z_iload_n (i := 2) dX9_bytesIn_5 rfl rfl ?_
    refine z_if_lt (tgt := 28) dX9_bytesIn_6 rfl (fun hc1 => ?_) (fun hc1 => ?_)
    · have h := it_t h hc1
      exact hK _ _ h
    · have h := it_f h hc1
      refine z_iload_n (i := 0) dX9_bytesIn_9 rfl rfl ?_
      refine z_iload_n (i := 2) dX9_bytesIn_10 rfl rfl ?_
      refine z_iushr dX9_bytesIn_11 ?_
      refine z_sipush (v := (255 : Int32)) dX9_bytesIn_12 ks_255 ?_
      refine z_iand dX9_bytesIn_15 ?_
      refine z_if_eq (tgt := 22) dX9_bytesIn_16 rfl (fun hc2 => ?_) (fun hc2 => ?_)
      · have h := it_t h hc2
        refine z_iinc (i := 2) (v := (v2 + (-8 : Int32))) dX9_bytesIn_22 rfl (iinc_k kc_m8) (Nat.le_of_ble_eq_true rfl) rfl ?_
        refine z_goto (tgt := 5) dX9_bytesIn_25 rfl ?_
        exact ih _ _ h hK
      · have h := it_f h hc2
        refine z_iinc (i := 1) (v := (v1 + (1 : Int32))) dX9_bytesIn_19 rfl (iinc_k kc_1) (Nat.le_of_ble_eq_true rfl) rfl ?_
        refine z_iinc (i := 2) (v := (v2 + (-8 : Int32))) dX9_bytesIn_22 rfl (iinc_k kc_m8) (Nat.le_of_ble_eq_true rfl) rfl ?_
        refine z_goto (tgt := 5) dX9_bytesIn_25 rfl ?_
        exact ih _ _ h hK
set_option maxRecDepth 20000 in
set_option maxHeartbeats 2000000 in
theorem sX9_bytesIn {wv : Nat} (M : Mm) (x1 : Int32) {res : Int32} (h : fX9_bytesIn M x1 = some res) : TF wv yX9_bytesIn cX9_bytesIn 3 (some .int) 0 [.inl (.int x1)] M (some (.int res)) M := by
  rw [fX9_bytesIn] at h
  refine TF.go (n := 2) (ls := [some (.inl (.int x1)), none, none]) rfl rfl rfl rfl rfl ?_
  refine z_iconst (v := (0 : Int32)) dX9_bytesIn_0 kc_0 ?_
  refine z_istore_n (i := 1) dX9_bytesIn_1 rfl (Nat.le_of_ble_eq_true rfl) rfl ?_
  refine z_bipush (v := (24 : Int32)) dX9_bytesIn_2 kb_24 ?_
  refine z_istore_n (i := 2) dX9_bytesIn_4 rfl (Nat.le_of_ble_eq_true rfl) rfl ?_
  refine sX9_bytesIn_L5 M x1 NF _ _ h (fun w3 w4 h => ?_)
  refine z_iload_n (i := 1) dX9_bytesIn_28 rfl rfl ?_
  cases h
  exact z_iret dX9_bytesIn_29 rfl rfl (Nat.le_refl _) (Nat.le_refl _) ⟨rfl, rfl⟩
theorem dX9_putBytes_0 : decode cX9_putBytes 0 = .ok (.bipush 24, 2) := by decide +kernel
theorem dX9_putBytes_2 : decode cX9_putBytes 2 = .ok (.istore_n 2, 1) := by decide +kernel
theorem dX9_putBytes_3 : decode cX9_putBytes 3 = .ok (.iload_n 2, 1) := by decide +kernel
theorem dX9_putBytes_4 : decode cX9_putBytes 4 = .ok (.ifCond .lt 29, 3) := by decide +kernel
theorem dX9_putBytes_7 : decode cX9_putBytes 7 = .ok (.iload_n 1, 1) := by decide +kernel
theorem dX9_putBytes_8 : decode cX9_putBytes 8 = .ok (.iload_n 2, 1) := by decide +kernel
theorem dX9_putBytes_9 : decode cX9_putBytes 9 = .ok (.iushr, 1) := by decide +kernel
theorem dX9_putBytes_10 : decode cX9_putBytes 10 = .ok (.sipush 255, 3) := by decide +kernel
theorem dX9_putBytes_13 : decode cX9_putBytes 13 = .ok (.iand, 1) := by decide +kernel
theorem dX9_putBytes_14 : decode cX9_putBytes 14 = .ok (.istore_n 3, 1) := by decide +kernel
theorem dX9_putBytes_15 : decode cX9_putBytes 15 = .ok (.iload_n 3, 1) := by decide +kernel
theorem dX9_putBytes_16 : decode cX9_putBytes 16 = .ok (.ifCond .eq 11, 3) := by decide +kernel
theorem dX9_putBytes_19 : decode cX9_putBytes 19 = .ok (.aload_n 0, 1) := by decide +kernel
theorem dX9_putBytes_20 : decode cX9_putBytes 20 = .ok (.getfield 14, 3) := by decide +kernel
theorem dX9_putBytes_23 : decode cX9_putBytes 23 = .ok (.iload_n 3, 1) := by decide +kernel
theorem dX9_putBytes_24 : decode cX9_putBytes 24 = .ok (.invokevirtual 92, 3) := by decide +kernel
theorem dX9_putBytes_27 : decode cX9_putBytes 27 = .ok (.iinc 2 (-8), 3) := by decide +kernel
theorem dX9_putBytes_30 : decode cX9_putBytes 30 = .ok (.goto (-27), 3) := by decide +kernel
theorem dX9_putBytes_33 : decode cX9_putBytes 33 = .ok (.return_, 1) := by decide +kernel
def fX9_putBytes_L3 (c1 : Int32) (K : Int32 → Mm → Option Mm) : Nat → Int32 → Mm → Option Mm
  | 0, _, _ => none
  | n + 1, v2, M => if v2 < 0 then K v2 M else if (((c1.toUInt32 >>> (v2.toUInt32 &&& Int32.toUInt32 31)).toInt32) &&& (255 : Int32)) = 0 then fX9_putBytes_L3 c1 K n (v2 + (-8 : Int32)) M else (fX1_put M 0 (((c1.toUInt32 >>> (v2.toUInt32 &&& Int32.toUInt32 31)).toInt32) &&& (255 : Int32))).bind fun q3 => fX9_putBytes_L3 c1 K n (v2 + (-8 : Int32)) q3
def fX9_putBytes (M : Mm) (x1 : Int32) : Option Mm := fX9_putBytes_L3 x1 (fun w5 M6 => some M6) NF (24 : Int32) M
set_option maxRecDepth 20000 in
set_option maxHeartbeats 2000000 in
theorem sX9_putBytes_L3 {wv : Nat} (c1 : Int32) {res : Mm} {K : Int32 → Mm → Option Mm} : ∀ (n : Nat) (v2 : Int32) (M : Mm), fX9_putBytes_L3 c1 K n v2 M = some res →
    (∀ (v2 : Int32) (M : Mm), K v2 M = some res → Z RX9 cX9_putBytes 4 none [] "putBytes" (rmD 1 0 0) (QM SH (allR wv) 0 0 (fun v M9 => v = none ∧ M9 = res) (fun _ _ => False)) (allR wv) SH 0 0 33 [some (.inr (0, 0, 0)), some (.inl (.int c1)), some (.inl (.int v2)), none] [] M) → Z RX9 cX9_putBytes 4 none [] "putBytes" (rmD 1 0 0) (QM SH (allR wv) 0 0 (fun v M9 => v = none ∧ M9 = res) (fun _ _ => False)) (allR wv) SH 0 0 3 [some (.inr (0, 0, 0)), some (.inl (.int c1)), some (.inl (.int v2)), none] [] M := by
  intro n
  induction n with
  | zero => intro v2 M h; cases h
  | succ n ih =>
    intro v2 M h hK
    rw [fX9_putBytes_L3] at h
    refine z_iload_n (i := 2) dX9_putBytes_3 rfl rfl ?_
    refine z_if_lt (tgt := 33) dX9_putBytes_4 rfl (fun hc1 => ?_) (fun hc1 => ?_)
    · have h := it_t h hc1
      exact hK _ _ h
    · have h := it_f h hc1
      refine z_iload_n (i := 1) dX9_putBytes_7 rfl rfl ?_
      refine z_iload_n (i := 2) dX9_putBytes_8 rfl rfl ?_
      refine z_iushr dX9_putBytes_9 ?_
      refine z_sipush (v := (255 : Int32)) dX9_putBytes_10 ks_255 ?_
      refine z_iand dX9_putBytes_13 ?_
      refine z_istore_n (i := 3) dX9_putBytes_14 rfl (Nat.le_of_ble_eq_true rfl) rfl ?_
      refine z_iload_n (i := 3) dX9_putBytes_15 rfl rfl ?_
      refine z_if_eq (tgt := 27) dX9_putBytes_16 rfl (fun hc2 => ?_) (fun hc2 => ?_)
      · have h := it_t h hc2
        refine z_iinc (i := 2) (v := (v2 + (-8 : Int32))) dX9_putBytes_27 rfl (iinc_k kc_m8) (Nat.le_of_ble_eq_true rfl) rfl ?_
        refine z_goto (tgt := 3) dX9_putBytes_30 rfl ?_
        refine z_fgt (i := 3) ?_
        exact ih _ _ h hK
      · have h := it_f h hc2
        refine z_aload_n (i := 0) dX9_putBytes_19 rfl rfl ?_
        refine z_getR (r' := (1, 0, 0)) dX9_putBytes_20 fl_X9_14 mk0 rfl rfl ?_
        refine z_iload_n (i := 3) dX9_putBytes_23 rfl rfl ?_
        obtain ⟨q3, hq4, h⟩ := bnd h
        refine z_fVv (sX1_put M 0 (((c1.toUInt32 >>> (v2.toUInt32 &&& Int32.toUInt32 31)).toInt32) &&& (255 : Int32)) (Nat.le_of_ble_eq_true rfl) hq4) dX9_putBytes_24 ml_X9_92 cd_X1_put (m1 _ (Nat.le_of_ble_eq_true rfl)) rfl rfl rfl rfl rfl rfl ?_
        refine z_iinc (i := 2) (v := (v2 + (-8 : Int32))) dX9_putBytes_27 rfl (iinc_k kc_m8) (Nat.le_of_ble_eq_true rfl) rfl ?_
        refine z_goto (tgt := 3) dX9_putBytes_30 rfl ?_
        refine z_fgt (i := 3) ?_
        exact ih _ _ h hK
set_option maxRecDepth 20000 in
set_option maxHeartbeats 2000000 in
theorem sX9_putBytes {wv : Nat} (M : Mm) (x1 : Int32) {res : Mm} (h : fX9_putBytes M x1 = some res) : TF wv yX9_putBytes cX9_putBytes 4 none 1 [.inr (0, 0, 0), .inl (.int x1)] M (none) res := by
  rw [fX9_putBytes] at h
  refine TF.go (n := 2) (ls := [some (.inr (0, 0, 0)), some (.inl (.int x1)), none, none]) rfl rfl rfl rfl rfl ?_
  refine z_bipush (v := (24 : Int32)) dX9_putBytes_0 kb_24 ?_
  refine z_istore_n (i := 2) dX9_putBytes_2 rfl (Nat.le_of_ble_eq_true rfl) rfl ?_
  refine sX9_putBytes_L3 x1 NF _ _ h (fun w5 M6 h => ?_)
  cases h
  exact z_vret dX9_putBytes_33 rfl (Nat.le_refl _) (Nat.le_refl _) ⟨rfl, rfl⟩
theorem dX9_takeSetup_0 : decode cX9_takeSetup 0 = .ok (.aload_n 0, 1) := by decide +kernel
theorem dX9_takeSetup_1 : decode cX9_takeSetup 1 = .ok (.getfield 52, 3) := by decide +kernel
theorem dX9_takeSetup_4 : decode cX9_takeSetup 4 = .ok (.invokevirtual 123, 3) := by decide +kernel
theorem dX9_takeSetup_7 : decode cX9_takeSetup 7 = .ok (.istore_n 1, 1) := by decide +kernel
theorem dX9_takeSetup_8 : decode cX9_takeSetup 8 = .ok (.aload_n 0, 1) := by decide +kernel
theorem dX9_takeSetup_9 : decode cX9_takeSetup 9 = .ok (.getfield 14, 3) := by decide +kernel
theorem dX9_takeSetup_12 : decode cX9_takeSetup 12 = .ok (.iconst 0, 1) := by decide +kernel
theorem dX9_takeSetup_13 : decode cX9_takeSetup 13 = .ok (.putfield 102, 3) := by decide +kernel
theorem dX9_takeSetup_16 : decode cX9_takeSetup 16 = .ok (.iload_n 1, 1) := by decide +kernel
theorem dX9_takeSetup_17 : decode cX9_takeSetup 17 = .ok (.ifCond .ne 4, 3) := by decide +kernel
theorem dX9_takeSetup_20 : decode cX9_takeSetup 20 = .ok (.return_, 1) := by decide +kernel
theorem dX9_takeSetup_21 : decode cX9_takeSetup 21 = .ok (.aload_n 0, 1) := by decide +kernel
theorem dX9_takeSetup_22 : decode cX9_takeSetup 22 = .ok (.getfield 40, 3) := by decide +kernel
theorem dX9_takeSetup_25 : decode cX9_takeSetup 25 = .ok (.aload_n 0, 1) := by decide +kernel
theorem dX9_takeSetup_26 : decode cX9_takeSetup 26 = .ok (.getfield 44, 3) := by decide +kernel
theorem dX9_takeSetup_29 : decode cX9_takeSetup 29 = .ok (.invokevirtual 127, 3) := by decide +kernel
theorem dX9_takeSetup_32 : decode cX9_takeSetup 32 = .ok (.aload_n 0, 1) := by decide +kernel
theorem dX9_takeSetup_33 : decode cX9_takeSetup 33 = .ok (.getfield 68, 3) := by decide +kernel
theorem dX9_takeSetup_36 : decode cX9_takeSetup 36 = .ok (.invokevirtual 131, 3) := by decide +kernel
theorem dX9_takeSetup_39 : decode cX9_takeSetup 39 = .ok (.iconst 0, 1) := by decide +kernel
theorem dX9_takeSetup_40 : decode cX9_takeSetup 40 = .ok (.istore_n 2, 1) := by decide +kernel
theorem dX9_takeSetup_41 : decode cX9_takeSetup 41 = .ok (.iload_n 2, 1) := by decide +kernel
theorem dX9_takeSetup_42 : decode cX9_takeSetup 42 = .ok (.iconst 2, 1) := by decide +kernel
theorem dX9_takeSetup_43 : decode cX9_takeSetup 43 = .ok (.if_icmp .ge 16, 3) := by decide +kernel
theorem dX9_takeSetup_46 : decode cX9_takeSetup 46 = .ok (.aload_n 0, 1) := by decide +kernel
theorem dX9_takeSetup_47 : decode cX9_takeSetup 47 = .ok (.getfield 76, 3) := by decide +kernel
theorem dX9_takeSetup_50 : decode cX9_takeSetup 50 = .ok (.iload_n 2, 1) := by decide +kernel
theorem dX9_takeSetup_51 : decode cX9_takeSetup 51 = .ok (.iconst 0, 1) := by decide +kernel
theorem dX9_takeSetup_52 : decode cX9_takeSetup 52 = .ok (.bastore, 1) := by decide +kernel
theorem dX9_takeSetup_53 : decode cX9_takeSetup 53 = .ok (.iinc 2 1, 3) := by decide +kernel
theorem dX9_takeSetup_56 : decode cX9_takeSetup 56 = .ok (.goto (-15), 3) := by decide +kernel
theorem dX9_takeSetup_59 : decode cX9_takeSetup 59 = .ok (.return_, 1) := by decide +kernel
def fX9_takeSetup_L41 (K : Int32 → Mm → Option Mm) : Nat → Int32 → Mm → Option Mm
  | 0, _, _ => none
  | n + 1, v2, M => if (2 : Int32) ≤ v2 then K v2 M else if v2 < 0 ∨ 2 ≤ v2.toNatClampNeg then none else fX9_takeSetup_L41 K n (v2 + (1 : Int32)) (putI M (17, 0, 0) v2.toNatClampNeg (0 : Int32))
def fX9_takeSetup (M : Mm) : Option Mm := (fX6_readSetup M).bind fun q1 => if q1.1 = 0 then some (putI q1.2 (1, 0, 0) 1 (0 : Int32)) else (fX0_copyFrom (putI q1.2 (1, 0, 0) 1 (0 : Int32)) 0 1).bind fun q4 => fX9_takeSetup_L41 (fun w8 M9 => some M9) NF (0 : Int32) (fX2_forgetAll q4)
set_option maxRecDepth 20000 in
set_option maxHeartbeats 2000000 in
theorem sX9_takeSetup_L41 {wv : Nat} {res : Mm} {K : Int32 → Mm → Option Mm} : ∀ (n : Nat) (v2 : Int32) (M : Mm), fX9_takeSetup_L41 K n v2 M = some res →
    (∀ (v2 : Int32) (M : Mm), K v2 M = some res → Z RX9 cX9_takeSetup 3 none [] "takeSetup" (rmD 11 0 0) (QM SH (allR wv) 0 0 (fun v M9 => v = none ∧ M9 = res) (fun _ _ => False)) (allR wv) SH 0 0 59 [some (.inr (0, 0, 0)), none, some (.inl (.int v2))] [] M) → Z RX9 cX9_takeSetup 3 none [] "takeSetup" (rmD 11 0 0) (QM SH (allR wv) 0 0 (fun v M9 => v = none ∧ M9 = res) (fun _ _ => False)) (allR wv) SH 0 0 41 [some (.inr (0, 0, 0)), none, some (.inl (.int v2))] [] M := by
  intro n
  induction n with
  | zero => intro v2 M h; cases h
  | succ n ih =>
    intro v2 M h hK
    rw [fX9_takeSetup_L41] at h
    refine z_iload_n (i := 2) dX9_takeSetup_41 rfl rfl ?_
    refine z_iconst (v := (2 : Int32)) dX9_takeSetup_42 kc_2 ?_
    refine z_icmp_ge (tgt := 59) dX9_takeSetup_43 rfl (fun hc6 => ?_) (fun hc6 => ?_)
    · have h := it_t h hc6
      exact hK _ _ h
    · have h := it_f h hc6
      refine z_aload_n (i := 0) dX9_takeSetup_46 rfl rfl ?_
      refine z_getR (r' := (17, 0, 0)) dX9_takeSetup_47 fl_X9_76 mk0 rfl rfl ?_
      refine z_iload_n (i := 2) dX9_takeSetup_50 rfl rfl ?_
      refine z_iconst (v := (0 : Int32)) dX9_takeSetup_51 kc_0 ?_
      obtain ⟨hc7, h⟩ := chk h
      refine z_zast (j := v2.toNatClampNeg) allR_nd dX9_takeSetup_52 mk17 rfl hc7 rfl rfl ?_
      refine z_iinc (i := 2) (v := (v2 + (1 : Int32))) dX9_takeSetup_53 rfl (iinc_k kc_1) (Nat.le_of_ble_eq_true rfl) rfl ?_
      refine z_goto (tgt := 41) dX9_takeSetup_56 rfl ?_
      exact ih _ _ h hK
set_option maxRecDepth 20000 in
set_option maxHeartbeats 2000000 in
theorem sX9_takeSetup {wv : Nat} (M : Mm) {res : Mm} (h : fX9_takeSetup M  = some res) : TF wv yX9_takeSetup cX9_takeSetup 3 none 11 [.inr (0, 0, 0)] M (none) res := by
  rw [fX9_takeSetup] at h
  refine TF.go (n := 2) (ls := [some (.inr (0, 0, 0)), none, none]) rfl rfl rfl rfl rfl ?_
  refine z_aload_n (i := 0) dX9_takeSetup_0 rfl rfl ?_
  refine z_getR (r' := (5, 0, 0)) dX9_takeSetup_1 fl_X9_52 mk0 rfl rfl ?_
  obtain ⟨q1, hq2, h⟩ := bnd h
  refine z_fVi (sX6_readSetup M hq2) dX9_takeSetup_4 ml_X9_123 cd_X6_readSetup mk5 rfl rfl rfl rfl rfl rfl ?_
  refine z_istore_n (i := 1) dX9_takeSetup_7 rfl (Nat.le_of_ble_eq_true rfl) rfl ?_
  refine z_aload_n (i := 0) dX9_takeSetup_8 rfl rfl ?_
  refine z_getR (r' := (1, 0, 0)) dX9_takeSetup_9 fl_X9_14 mk0 rfl rfl ?_
  refine z_iconst (v := (0 : Int32)) dX9_takeSetup_12 kc_0 ?_
  refine z_putI allR_nd dX9_takeSetup_13 fl_X9_102 (m1 _ (Nat.le_of_ble_eq_true rfl)) rfl rfl ?_
  refine z_iload_n (i := 1) dX9_takeSetup_16 rfl rfl ?_
  refine z_if_ne (tgt := 21) dX9_takeSetup_17 rfl (fun hc3 => ?_) (fun hc3 => ?_)
  · have h := it_f h hc3
    refine z_aload_n (i := 0) dX9_takeSetup_21 rfl rfl ?_
    refine z_getR (r' := (9, 0, 0)) dX9_takeSetup_22 fl_X9_40 mk0 rfl rfl ?_
    refine z_aload_n (i := 0) dX9_takeSetup_25 rfl rfl ?_
    refine z_getR (r' := (9, 1, 0)) dX9_takeSetup_26 fl_X9_44 mk0 rfl rfl ?_
    obtain ⟨q4, hq5, h⟩ := bnd h
    refine z_fVv (sX0_copyFrom (putI q1.2 (1, 0, 0) 1 (0 : Int32)) 0 1 (Nat.le_of_ble_eq_true rfl) (Nat.le_of_ble_eq_true rfl) hq5) dX9_takeSetup_29 ml_X9_127 cd_X0_copyFrom (m9 _ (Nat.le_of_ble_eq_true rfl)) rfl rfl rfl rfl rfl rfl ?_
    refine z_aload_n (i := 0) dX9_takeSetup_32 rfl rfl ?_
    refine z_getR (r' := (14, 0, 0)) dX9_takeSetup_33 fl_X9_68 mk0 rfl rfl ?_
    refine z_fVv (sX2_forgetAll q4) dX9_takeSetup_36 ml_X9_131 cd_X2_forgetAll mk14 rfl rfl rfl rfl rfl rfl ?_
    refine z_iconst (v := (0 : Int32)) dX9_takeSetup_39 kc_0 ?_
    refine z_istore_n (i := 2) dX9_takeSetup_40 rfl (Nat.le_of_ble_eq_true rfl) rfl ?_
    refine z_fgt (i := 1) ?_
    refine sX9_takeSetup_L41  NF _ _ h (fun w8 M9 h => ?_)
    cases h
    exact z_vret dX9_takeSetup_59 rfl (Nat.le_refl _) (Nat.le_refl _) ⟨rfl, rfl⟩
  · have h := it_t h hc3
    cases h
    exact z_vret dX9_takeSetup_20 rfl (Nat.le_refl _) (Nat.le_refl _) ⟨rfl, rfl⟩
theorem dX9_load_0 : decode cX9_load 0 = .ok (.aload_n 0, 1) := by decide +kernel
theorem dX9_load_1 : decode cX9_load 1 = .ok (.invokevirtual 95, 3) := by decide +kernel
theorem dX9_load_4 : decode cX9_load 4 = .ok (.aload_n 0, 1) := by decide +kernel
theorem dX9_load_5 : decode cX9_load 5 = .ok (.getfield 26, 3) := by decide +kernel
theorem dX9_load_8 : decode cX9_load 8 = .ok (.getfield 120, 3) := by decide +kernel
theorem dX9_load_11 : decode cX9_load 11 = .ok (.ireturn, 1) := by decide +kernel
def fX9_load (M : Mm) : Option (Int32 × Mm) := (fX9_takeSetup M).bind fun q1 => some ((q1.1 (3, 0, 0) 7), q1)
set_option maxRecDepth 20000 in
set_option maxHeartbeats 2000000 in
theorem sX9_load {wv : Nat} (M : Mm) {res : (Int32 × Mm)} (h : fX9_load M  = some res) : TF wv yX9_load cX9_load 1 (some .int) 12 [.inr (0, 0, 0)] M (some (.int res.1)) res.2 := by
  rw [fX9_load] at h
  refine TF.go (n := 0) (ls := [some (.inr (0, 0, 0))]) rfl rfl rfl rfl rfl ?_
  refine z_aload_n (i := 0) dX9_load_0 rfl rfl ?_
  obtain ⟨q1, hq2, h⟩ := bnd h
  refine z_fVv (sX9_takeSetup M hq2) dX9_load_1 ml_X9_95 cd_X9_takeSetup mk0 rfl rfl rfl rfl rfl rfl ?_
  refine z_aload_n (i := 0) dX9_load_4 rfl rfl ?_
  refine z_getR (r' := (3, 0, 0)) dX9_load_5 fl_X9_26 mk0 rfl rfl ?_
  refine z_getI (x := (q1.1 (3, 0, 0) 7)) dX9_load_8 fl_X9_120 mk3 rfl rfl ?_
  cases h
  exact z_iret dX9_load_11 rfl rfl (Nat.le_refl _) (Nat.le_refl _) ⟨rfl, rfl⟩
theorem dX9_runScript_0 : decode cX9_runScript 0 = .ok (.aload_n 0, 1) := by decide +kernel
theorem dX9_runScript_1 : decode cX9_runScript 1 = .ok (.getfield 61, 3) := by decide +kernel
theorem dX9_runScript_4 : decode cX9_runScript 4 = .ok (.invokevirtual 134, 3) := by decide +kernel
theorem dX9_runScript_7 : decode cX9_runScript 7 = .ok (.istore_n 1, 1) := by decide +kernel
theorem dX9_runScript_8 : decode cX9_runScript 8 = .ok (.aload_n 0, 1) := by decide +kernel
theorem dX9_runScript_9 : decode cX9_runScript 9 = .ok (.getfield 14, 3) := by decide +kernel
theorem dX9_runScript_12 : decode cX9_runScript 12 = .ok (.iconst 0, 1) := by decide +kernel
theorem dX9_runScript_13 : decode cX9_runScript 13 = .ok (.putfield 102, 3) := by decide +kernel
theorem dX9_runScript_16 : decode cX9_runScript 16 = .ok (.iload_n 1, 1) := by decide +kernel
theorem dX9_runScript_17 : decode cX9_runScript 17 = .ok (.ifCond .ne 5, 3) := by decide +kernel
theorem dX9_runScript_20 : decode cX9_runScript 20 = .ok (.iconst (-1), 1) := by decide +kernel
theorem dX9_runScript_21 : decode cX9_runScript 21 = .ok (.ireturn, 1) := by decide +kernel
theorem dX9_runScript_22 : decode cX9_runScript 22 = .ok (.aload_n 0, 1) := by decide +kernel
theorem dX9_runScript_23 : decode cX9_runScript 23 = .ok (.getfield 68, 3) := by decide +kernel
theorem dX9_runScript_26 : decode cX9_runScript 26 = .ok (.aload_n 0, 1) := by decide +kernel
theorem dX9_runScript_27 : decode cX9_runScript 27 = .ok (.getfield 40, 3) := by decide +kernel
theorem dX9_runScript_30 : decode cX9_runScript 30 = .ok (.invokevirtual 137, 3) := by decide +kernel
theorem dX9_runScript_33 : decode cX9_runScript 33 = .ok (.aload_n 0, 1) := by decide +kernel
theorem dX9_runScript_34 : decode cX9_runScript 34 = .ok (.getfield 33, 3) := by decide +kernel
theorem dX9_runScript_37 : decode cX9_runScript 37 = .ok (.aload_n 0, 1) := by decide +kernel
theorem dX9_runScript_38 : decode cX9_runScript 38 = .ok (.getfield 40, 3) := by decide +kernel
theorem dX9_runScript_41 : decode cX9_runScript 41 = .ok (.iconst 0, 1) := by decide +kernel
theorem dX9_runScript_42 : decode cX9_runScript 42 = .ok (.aload_n 0, 1) := by decide +kernel
theorem dX9_runScript_43 : decode cX9_runScript 43 = .ok (.getfield 33, 3) := by decide +kernel
theorem dX9_runScript_46 : decode cX9_runScript 46 = .ok (.getfield 140, 3) := by decide +kernel
theorem dX9_runScript_49 : decode cX9_runScript 49 = .ok (.iconst 0, 1) := by decide +kernel
theorem dX9_runScript_50 : decode cX9_runScript 50 = .ok (.invokevirtual 143, 3) := by decide +kernel
theorem dX9_runScript_53 : decode cX9_runScript 53 = .ok (.aload_n 0, 1) := by decide +kernel
theorem dX9_runScript_54 : decode cX9_runScript 54 = .ok (.getfield 33, 3) := by decide +kernel
theorem dX9_runScript_57 : decode cX9_runScript 57 = .ok (.getfield 147, 3) := by decide +kernel
theorem dX9_runScript_60 : decode cX9_runScript 60 = .ok (.ireturn, 1) := by decide +kernel
def fX9_runScript (M : Mm) : Option (Int32 × Mm) := (fX5_readScript M).bind fun q1 => if q1.1 = 0 then some ((-1 : Int32), (putI q1.2 (1, 0, 0) 1 (0 : Int32))) else (fX2_remember (putI q1.2 (1, 0, 0) 1 (0 : Int32)) 0).bind fun q4 => (gX4_runPart 6 q4 0 (0 : Int32) (q4.1 (7, 0, 0) 4) (0 : Int32)).bind fun q6 => some ((q6.1 (7, 0, 0) 5), q6)
set_option maxRecDepth 20000 in
set_option maxHeartbeats 2000000 in
theorem sX9_runScript {wv : Nat} (M : Mm) {res : (Int32 × Mm)} (h : fX9_runScript M  = some res) : TF wv yX9_runScript cX9_runScript 2 (some .int) 62 [.inr (0, 0, 0)] M (some (.int res.1)) res.2 := by
  rw [fX9_runScript] at h
  refine TF.go (n := 1) (ls := [some (.inr (0, 0, 0)), none]) rfl rfl rfl rfl rfl ?_
  refine z_aload_n (i := 0) dX9_runScript_0 rfl rfl ?_
  refine z_getR (r' := (6, 0, 0)) dX9_runScript_1 fl_X9_61 mk0 rfl rfl ?_
  obtain ⟨q1, hq2, h⟩ := bnd h
  refine z_fVi (sX5_readScript M hq2) dX9_runScript_4 ml_X9_134 cd_X5_readScript mk6 rfl rfl rfl rfl rfl rfl ?_
  refine z_istore_n (i := 1) dX9_runScript_7 rfl (Nat.le_of_ble_eq_true rfl) rfl ?_
  refine z_aload_n (i := 0) dX9_runScript_8 rfl rfl ?_
  refine z_getR (r' := (1, 0, 0)) dX9_runScript_9 fl_X9_14 mk0 rfl rfl ?_
  refine z_iconst (v := (0 : Int32)) dX9_runScript_12 kc_0 ?_
  refine z_putI allR_nd dX9_runScript_13 fl_X9_102 (m1 _ (Nat.le_of_ble_eq_true rfl)) rfl rfl ?_
  refine z_iload_n (i := 1) dX9_runScript_16 rfl rfl ?_
  refine z_if_ne (tgt := 22) dX9_runScript_17 rfl (fun hc3 => ?_) (fun hc3 => ?_)
  · have h := it_f h hc3
    refine z_aload_n (i := 0) dX9_runScript_22 rfl rfl ?_
    refine z_getR (r' := (14, 0, 0)) dX9_runScript_23 fl_X9_68 mk0 rfl rfl ?_
    refine z_aload_n (i := 0) dX9_runScript_26 rfl rfl ?_
    refine z_getR (r' := (9, 0, 0)) dX9_runScript_27 fl_X9_40 mk0 rfl rfl ?_
    obtain ⟨q4, hq5, h⟩ := bnd h
    refine z_fVv (sX2_remember (putI q1.2 (1, 0, 0) 1 (0 : Int32)) 0 (Nat.le_of_ble_eq_true rfl) hq5) dX9_runScript_30 ml_X9_137 cd_X2_remember mk14 rfl rfl rfl rfl rfl rfl ?_
    refine z_aload_n (i := 0) dX9_runScript_33 rfl rfl ?_
    refine z_getR (r' := (7, 0, 0)) dX9_runScript_34 fl_X9_33 mk0 rfl rfl ?_
    refine z_aload_n (i := 0) dX9_runScript_37 rfl rfl ?_
    refine z_getR (r' := (9, 0, 0)) dX9_runScript_38 fl_X9_40 mk0 rfl rfl ?_
    refine z_iconst (v := (0 : Int32)) dX9_runScript_41 kc_0 ?_
    refine z_aload_n (i := 0) dX9_runScript_42 rfl rfl ?_
    refine z_getR (r' := (7, 0, 0)) dX9_runScript_43 fl_X9_33 mk0 rfl rfl ?_
    refine z_getI (x := (q4.1 (7, 0, 0) 4)) dX9_runScript_46 fl_X9_140 mk7 rfl rfl ?_
    refine z_iconst (v := (0 : Int32)) dX9_runScript_49 kc_0 ?_
    obtain ⟨q6, hq7, h⟩ := bnd h
    refine z_fVNv (uX4_runPart 6 q4 0 (0 : Int32) (q4.1 (7, 0, 0) 4) (0 : Int32) (Nat.le_of_ble_eq_true rfl) _ hq7) dX9_runScript_50 ml_X9_143 sel_X4_runPart cd_X4_runPart mk7 rfl rfl rfl rfl rfl rfl ?_
    refine z_aload_n (i := 0) dX9_runScript_53 rfl rfl ?_
    refine z_getR (r' := (7, 0, 0)) dX9_runScript_54 fl_X9_33 mk0 rfl rfl ?_
    refine z_getI (x := (q6.1 (7, 0, 0) 5)) dX9_runScript_57 fl_X9_147 mk7 rfl rfl ?_
    cases h
    exact z_iret dX9_runScript_60 rfl rfl (Nat.le_refl _) (Nat.le_refl _) ⟨rfl, rfl⟩
  · have h := it_t h hc3
    refine z_iconst (v := (-1 : Int32)) dX9_runScript_20 kc_m1 ?_
    cases h
    exact z_iret dX9_runScript_21 rfl rfl (Nat.le_refl _) (Nat.le_refl _) ⟨rfl, rfl⟩
theorem dX9_errorCode_0 : decode cX9_errorCode 0 = .ok (.aload_n 0, 1) := by decide +kernel
theorem dX9_errorCode_1 : decode cX9_errorCode 1 = .ok (.getfield 26, 3) := by decide +kernel
theorem dX9_errorCode_4 : decode cX9_errorCode 4 = .ok (.getfield 120, 3) := by decide +kernel
theorem dX9_errorCode_7 : decode cX9_errorCode 7 = .ok (.ireturn, 1) := by decide +kernel
def fX9_errorCode (M : Mm) : Int32 := (M.1 (3, 0, 0) 7)
set_option maxRecDepth 20000 in
set_option maxHeartbeats 2000000 in
theorem tX9_errorCode {wv : Nat} (M : Mm) {res : Int32} (h : fX9_errorCode M  = res) : TF wv yX9_errorCode cX9_errorCode 1 (some .int) 0 [.inr (0, 0, 0)] M (some (.int res)) M := by
  rw [fX9_errorCode] at h
  refine TF.go (n := 0) (ls := [some (.inr (0, 0, 0))]) rfl rfl rfl rfl rfl ?_
  refine z_aload_n (i := 0) dX9_errorCode_0 rfl rfl ?_
  refine z_getR (r' := (3, 0, 0)) dX9_errorCode_1 fl_X9_26 mk0 rfl rfl ?_
  refine z_getI (x := (M.1 (3, 0, 0) 7)) dX9_errorCode_4 fl_X9_120 mk3 rfl rfl ?_
  subst h
  exact z_iret dX9_errorCode_7 rfl rfl (Nat.le_refl _) (Nat.le_refl _) ⟨rfl, rfl⟩
theorem sX9_errorCode {wv : Nat} (M : Mm) : TF wv yX9_errorCode cX9_errorCode 1 (some .int) 0 [.inr (0, 0, 0)] M (some (.int (fX9_errorCode M ))) M := tX9_errorCode M   rfl
theorem dX9_errorPosition_0 : decode cX9_errorPosition 0 = .ok (.aload_n 0, 1) := by decide +kernel
theorem dX9_errorPosition_1 : decode cX9_errorPosition 1 = .ok (.getfield 26, 3) := by decide +kernel
theorem dX9_errorPosition_4 : decode cX9_errorPosition 4 = .ok (.getfield 150, 3) := by decide +kernel
theorem dX9_errorPosition_7 : decode cX9_errorPosition 7 = .ok (.ireturn, 1) := by decide +kernel
def fX9_errorPosition (M : Mm) : Int32 := (M.1 (3, 0, 0) 8)
set_option maxRecDepth 20000 in
set_option maxHeartbeats 2000000 in
theorem tX9_errorPosition {wv : Nat} (M : Mm) {res : Int32} (h : fX9_errorPosition M  = res) : TF wv yX9_errorPosition cX9_errorPosition 1 (some .int) 0 [.inr (0, 0, 0)] M (some (.int res)) M := by
  rw [fX9_errorPosition] at h
  refine TF.go (n := 0) (ls := [some (.inr (0, 0, 0))]) rfl rfl rfl rfl rfl ?_
  refine z_aload_n (i := 0) dX9_errorPosition_0 rfl rfl ?_
  refine z_getR (r' := (3, 0, 0)) dX9_errorPosition_1 fl_X9_26 mk0 rfl rfl ?_
  refine z_getI (x := (M.1 (3, 0, 0) 8)) dX9_errorPosition_4 fl_X9_150 mk3 rfl rfl ?_
  subst h
  exact z_iret dX9_errorPosition_7 rfl rfl (Nat.le_refl _) (Nat.le_refl _) ⟨rfl, rfl⟩
theorem sX9_errorPosition {wv : Nat} (M : Mm) : TF wv yX9_errorPosition cX9_errorPosition 1 (some .int) 0 [.inr (0, 0, 0)] M (some (.int (fX9_errorPosition M ))) M := tX9_errorPosition M   rfl
theorem dX9_stepCount_0 : decode cX9_stepCount 0 = .ok (.aload_n 0, 1) := by decide +kernel
theorem dX9_stepCount_1 : decode cX9_stepCount 1 = .ok (.getfield 40, 3) := by decide +kernel
theorem dX9_stepCount_4 : decode cX9_stepCount 4 = .ok (.getfield 153, 3) := by decide +kernel
theorem dX9_stepCount_7 : decode cX9_stepCount 7 = .ok (.getfield 157, 3) := by decide +kernel
theorem dX9_stepCount_10 : decode cX9_stepCount 10 = .ok (.ireturn, 1) := by decide +kernel
def fX9_stepCount (M : Mm) : Int32 := (M.1 (10, 0, 0) 1)
set_option maxRecDepth 20000 in
set_option maxHeartbeats 2000000 in
theorem tX9_stepCount {wv : Nat} (M : Mm) {res : Int32} (h : fX9_stepCount M  = res) : TF wv yX9_stepCount cX9_stepCount 1 (some .int) 0 [.inr (0, 0, 0)] M (some (.int res)) M := by
  rw [fX9_stepCount] at h
  refine TF.go (n := 0) (ls := [some (.inr (0, 0, 0))]) rfl rfl rfl rfl rfl ?_
  refine z_aload_n (i := 0) dX9_stepCount_0 rfl rfl ?_
  refine z_getR (r' := (9, 0, 0)) dX9_stepCount_1 fl_X9_40 mk0 rfl rfl ?_
  refine z_getR (r' := (10, 0, 0)) dX9_stepCount_4 fl_X9_153 (m9 _ (Nat.le_of_ble_eq_true rfl)) rfl rfl ?_
  refine z_getI (x := (M.1 (10, 0, 0) 1)) dX9_stepCount_7 fl_X9_157 (m10 _ (Nat.le_of_ble_eq_true rfl)) rfl rfl ?_
  subst h
  exact z_iret dX9_stepCount_10 rfl rfl (Nat.le_refl _) (Nat.le_refl _) ⟨rfl, rfl⟩
theorem sX9_stepCount {wv : Nat} (M : Mm) : TF wv yX9_stepCount cX9_stepCount 1 (some .int) 0 [.inr (0, 0, 0)] M (some (.int (fX9_stepCount M ))) M := tX9_stepCount M   rfl
theorem dX9_selectedTune_0 : decode cX9_selectedTune 0 = .ok (.aload_n 0, 1) := by decide +kernel
theorem dX9_selectedTune_1 : decode cX9_selectedTune 1 = .ok (.getfield 40, 3) := by decide +kernel
theorem dX9_selectedTune_4 : decode cX9_selectedTune 4 = .ok (.getfield 153, 3) := by decide +kernel
theorem dX9_selectedTune_7 : decode cX9_selectedTune 7 = .ok (.getfield 162, 3) := by decide +kernel
theorem dX9_selectedTune_10 : decode cX9_selectedTune 10 = .ok (.ireturn, 1) := by decide +kernel
def fX9_selectedTune (M : Mm) : Int32 := (M.1 (10, 0, 0) 3)
set_option maxRecDepth 20000 in
set_option maxHeartbeats 2000000 in
theorem tX9_selectedTune {wv : Nat} (M : Mm) {res : Int32} (h : fX9_selectedTune M  = res) : TF wv yX9_selectedTune cX9_selectedTune 1 (some .int) 0 [.inr (0, 0, 0)] M (some (.int res)) M := by
  rw [fX9_selectedTune] at h
  refine TF.go (n := 0) (ls := [some (.inr (0, 0, 0))]) rfl rfl rfl rfl rfl ?_
  refine z_aload_n (i := 0) dX9_selectedTune_0 rfl rfl ?_
  refine z_getR (r' := (9, 0, 0)) dX9_selectedTune_1 fl_X9_40 mk0 rfl rfl ?_
  refine z_getR (r' := (10, 0, 0)) dX9_selectedTune_4 fl_X9_153 (m9 _ (Nat.le_of_ble_eq_true rfl)) rfl rfl ?_
  refine z_getI (x := (M.1 (10, 0, 0) 3)) dX9_selectedTune_7 fl_X9_162 (m10 _ (Nat.le_of_ble_eq_true rfl)) rfl rfl ?_
  subst h
  exact z_iret dX9_selectedTune_10 rfl rfl (Nat.le_refl _) (Nat.le_refl _) ⟨rfl, rfl⟩
theorem sX9_selectedTune {wv : Nat} (M : Mm) : TF wv yX9_selectedTune cX9_selectedTune 1 (some .int) 0 [.inr (0, 0, 0)] M (some (.int (fX9_selectedTune M ))) M := tX9_selectedTune M   rfl
theorem dX9_position_0 : decode cX9_position 0 = .ok (.aload_n 0, 1) := by decide +kernel
theorem dX9_position_1 : decode cX9_position 1 = .ok (.getfield 40, 3) := by decide +kernel
theorem dX9_position_4 : decode cX9_position 4 = .ok (.getfield 153, 3) := by decide +kernel
theorem dX9_position_7 : decode cX9_position 7 = .ok (.getfield 165, 3) := by decide +kernel
theorem dX9_position_10 : decode cX9_position 10 = .ok (.ireturn, 1) := by decide +kernel
def fX9_position (M : Mm) : Int32 := (M.1 (10, 0, 0) 2)
set_option maxRecDepth 20000 in
set_option maxHeartbeats 2000000 in
theorem tX9_position {wv : Nat} (M : Mm) {res : Int32} (h : fX9_position M  = res) : TF wv yX9_position cX9_position 1 (some .int) 0 [.inr (0, 0, 0)] M (some (.int res)) M := by
  rw [fX9_position] at h
  refine TF.go (n := 0) (ls := [some (.inr (0, 0, 0))]) rfl rfl rfl rfl rfl ?_
  refine z_aload_n (i := 0) dX9_position_0 rfl rfl ?_
  refine z_getR (r' := (9, 0, 0)) dX9_position_1 fl_X9_40 mk0 rfl rfl ?_
  refine z_getR (r' := (10, 0, 0)) dX9_position_4 fl_X9_153 (m9 _ (Nat.le_of_ble_eq_true rfl)) rfl rfl ?_
  refine z_getI (x := (M.1 (10, 0, 0) 2)) dX9_position_7 fl_X9_165 (m10 _ (Nat.le_of_ble_eq_true rfl)) rfl rfl ?_
  subst h
  exact z_iret dX9_position_10 rfl rfl (Nat.le_refl _) (Nat.le_refl _) ⟨rfl, rfl⟩
theorem sX9_position {wv : Nat} (M : Mm) : TF wv yX9_position cX9_position 1 (some .int) 0 [.inr (0, 0, 0)] M (some (.int (fX9_position M ))) M := tX9_position M   rfl
theorem dX9_toothCount_0 : decode cX9_toothCount 0 = .ok (.aload_n 0, 1) := by decide +kernel
theorem dX9_toothCount_1 : decode cX9_toothCount 1 = .ok (.getfield 40, 3) := by decide +kernel
theorem dX9_toothCount_4 : decode cX9_toothCount 4 = .ok (.getfield 211, 3) := by decide +kernel
theorem dX9_toothCount_7 : decode cX9_toothCount 7 = .ok (.ireturn, 1) := by decide +kernel
def fX9_toothCount (M : Mm) : Int32 := (M.1 (9, 0, 0) 2)
set_option maxRecDepth 20000 in
set_option maxHeartbeats 2000000 in
theorem tX9_toothCount {wv : Nat} (M : Mm) {res : Int32} (h : fX9_toothCount M  = res) : TF wv yX9_toothCount cX9_toothCount 1 (some .int) 0 [.inr (0, 0, 0)] M (some (.int res)) M := by
  rw [fX9_toothCount] at h
  refine TF.go (n := 0) (ls := [some (.inr (0, 0, 0))]) rfl rfl rfl rfl rfl ?_
  refine z_aload_n (i := 0) dX9_toothCount_0 rfl rfl ?_
  refine z_getR (r' := (9, 0, 0)) dX9_toothCount_1 fl_X9_40 mk0 rfl rfl ?_
  refine z_getI (x := (M.1 (9, 0, 0) 2)) dX9_toothCount_4 fl_X9_211 (m9 _ (Nat.le_of_ble_eq_true rfl)) rfl rfl ?_
  subst h
  exact z_iret dX9_toothCount_7 rfl rfl (Nat.le_refl _) (Nat.le_refl _) ⟨rfl, rfl⟩
theorem sX9_toothCount {wv : Nat} (M : Mm) : TF wv yX9_toothCount cX9_toothCount 1 (some .int) 0 [.inr (0, 0, 0)] M (some (.int (fX9_toothCount M ))) M := tX9_toothCount M   rfl
theorem dX9_turnsLeft_0 : decode cX9_turnsLeft 0 = .ok (.aload_n 0, 1) := by decide +kernel
theorem dX9_turnsLeft_1 : decode cX9_turnsLeft 1 = .ok (.getfield 40, 3) := by decide +kernel
theorem dX9_turnsLeft_4 : decode cX9_turnsLeft 4 = .ok (.getfield 244, 3) := by decide +kernel
theorem dX9_turnsLeft_7 : decode cX9_turnsLeft 7 = .ok (.ireturn, 1) := by decide +kernel
def fX9_turnsLeft (M : Mm) : Int32 := (M.1 (9, 0, 0) 3)
set_option maxRecDepth 20000 in
set_option maxHeartbeats 2000000 in
theorem tX9_turnsLeft {wv : Nat} (M : Mm) {res : Int32} (h : fX9_turnsLeft M  = res) : TF wv yX9_turnsLeft cX9_turnsLeft 1 (some .int) 0 [.inr (0, 0, 0)] M (some (.int res)) M := by
  rw [fX9_turnsLeft] at h
  refine TF.go (n := 0) (ls := [some (.inr (0, 0, 0))]) rfl rfl rfl rfl rfl ?_
  refine z_aload_n (i := 0) dX9_turnsLeft_0 rfl rfl ?_
  refine z_getR (r' := (9, 0, 0)) dX9_turnsLeft_1 fl_X9_40 mk0 rfl rfl ?_
  refine z_getI (x := (M.1 (9, 0, 0) 3)) dX9_turnsLeft_4 fl_X9_244 (m9 _ (Nat.le_of_ble_eq_true rfl)) rfl rfl ?_
  subst h
  exact z_iret dX9_turnsLeft_7 rfl rfl (Nat.le_refl _) (Nat.le_refl _) ⟨rfl, rfl⟩
theorem sX9_turnsLeft {wv : Nat} (M : Mm) : TF wv yX9_turnsLeft cX9_turnsLeft 1 (some .int) 0 [.inr (0, 0, 0)] M (some (.int (fX9_turnsLeft M ))) M := tX9_turnsLeft M   rfl
theorem dX9_vane_0 : decode cX9_vane 0 = .ok (.aload_n 0, 1) := by decide +kernel
theorem dX9_vane_1 : decode cX9_vane 1 = .ok (.getfield 40, 3) := by decide +kernel
theorem dX9_vane_4 : decode cX9_vane 4 = .ok (.getfield 247, 3) := by decide +kernel
theorem dX9_vane_7 : decode cX9_vane 7 = .ok (.ireturn, 1) := by decide +kernel
def fX9_vane (M : Mm) : Int32 := (M.1 (9, 0, 0) 4)
set_option maxRecDepth 20000 in
set_option maxHeartbeats 2000000 in
theorem tX9_vane {wv : Nat} (M : Mm) {res : Int32} (h : fX9_vane M  = res) : TF wv yX9_vane cX9_vane 1 (some .int) 0 [.inr (0, 0, 0)] M (some (.int res)) M := by
  rw [fX9_vane] at h
  refine TF.go (n := 0) (ls := [some (.inr (0, 0, 0))]) rfl rfl rfl rfl rfl ?_
  refine z_aload_n (i := 0) dX9_vane_0 rfl rfl ?_
  refine z_getR (r' := (9, 0, 0)) dX9_vane_1 fl_X9_40 mk0 rfl rfl ?_
  refine z_getI (x := (M.1 (9, 0, 0) 4)) dX9_vane_4 fl_X9_247 (m9 _ (Nat.le_of_ble_eq_true rfl)) rfl rfl ?_
  subst h
  exact z_iret dX9_vane_7 rfl rfl (Nat.le_refl _) (Nat.le_refl _) ⟨rfl, rfl⟩
theorem sX9_vane {wv : Nat} (M : Mm) : TF wv yX9_vane cX9_vane 1 (some .int) 0 [.inr (0, 0, 0)] M (some (.int (fX9_vane M ))) M := tX9_vane M   rfl
theorem dX9_tempo_0 : decode cX9_tempo 0 = .ok (.aload_n 0, 1) := by decide +kernel
theorem dX9_tempo_1 : decode cX9_tempo 1 = .ok (.getfield 40, 3) := by decide +kernel
theorem dX9_tempo_4 : decode cX9_tempo 4 = .ok (.invokevirtual 250, 3) := by decide +kernel
theorem dX9_tempo_7 : decode cX9_tempo 7 = .ok (.ireturn, 1) := by decide +kernel
def fX9_tempo (M : Mm) : Int32 := (fX0_stepsPerMinute M 0)
set_option maxRecDepth 20000 in
set_option maxHeartbeats 2000000 in
theorem tX9_tempo {wv : Nat} (M : Mm) {res : Int32} (h : fX9_tempo M  = res) : TF wv yX9_tempo cX9_tempo 1 (some .int) 1 [.inr (0, 0, 0)] M (some (.int res)) M := by
  rw [fX9_tempo] at h
  refine TF.go (n := 0) (ls := [some (.inr (0, 0, 0))]) rfl rfl rfl rfl rfl ?_
  refine z_aload_n (i := 0) dX9_tempo_0 rfl rfl ?_
  refine z_getR (r' := (9, 0, 0)) dX9_tempo_1 fl_X9_40 mk0 rfl rfl ?_
  refine z_fVi (sX0_stepsPerMinute M 0 (Nat.le_of_ble_eq_true rfl)) dX9_tempo_4 ml_X9_250 cd_X0_stepsPerMinute (m9 _ (Nat.le_of_ble_eq_true rfl)) rfl rfl rfl rfl rfl rfl ?_
  subst h
  exact z_iret dX9_tempo_7 rfl rfl (Nat.le_refl _) (Nat.le_refl _) ⟨rfl, rfl⟩
theorem sX9_tempo {wv : Nat} (M : Mm) : TF wv yX9_tempo cX9_tempo 1 (some .int) 1 [.inr (0, 0, 0)] M (some (.int (fX9_tempo M ))) M := tX9_tempo M   rfl
theorem dX9_secondsPerStep_0 : decode cX9_secondsPerStep 0 = .ok (.ldc2_w 253, 3) := by decide +kernel
theorem dX9_secondsPerStep_3 : decode cX9_secondsPerStep 3 = .ok (.aload_n 0, 1) := by decide +kernel
theorem dX9_secondsPerStep_4 : decode cX9_secondsPerStep 4 = .ok (.getfield 40, 3) := by decide +kernel
theorem dX9_secondsPerStep_7 : decode cX9_secondsPerStep 7 = .ok (.invokevirtual 250, 3) := by decide +kernel
theorem dX9_secondsPerStep_10 : decode cX9_secondsPerStep 10 = .ok (.i2d, 1) := by decide +kernel
theorem dX9_secondsPerStep_11 : decode cX9_secondsPerStep 11 = .ok (.ddiv, 1) := by decide +kernel
theorem dX9_secondsPerStep_12 : decode cX9_secondsPerStep 12 = .ok (.dreturn, 1) := by decide +kernel
def fX9_secondsPerStep (M : Mm) : Option UInt64 := if (FP.ddiv (4633641066610819072 : UInt64) (FP.i2d (fX0_stepsPerMinute M 0))) &&& 0x7fffffffffffffff ≤ 0x7ff0000000000000 then some (FP.ddiv (4633641066610819072 : UInt64) (FP.i2d (fX0_stepsPerMinute M 0))) else none
set_option maxRecDepth 20000 in
set_option maxHeartbeats 2000000 in
theorem sX9_secondsPerStep {wv : Nat} (M : Mm) {res : UInt64} (h : fX9_secondsPerStep M  = some res) : TF wv yX9_secondsPerStep cX9_secondsPerStep 1 (some .double) 1 [.inr (0, 0, 0)] M (some (.double res)) M := by
  rw [fX9_secondsPerStep] at h
  refine TF.go (n := 0) (ls := [some (.inr (0, 0, 0))]) rfl rfl rfl rfl rfl ?_
  refine z_ldc2d (v := (4633641066610819072 : UInt64)) dX9_secondsPerStep_0 (al_mem 829 (by decide +kernel) rfl) ?_
  refine z_aload_n (i := 0) dX9_secondsPerStep_3 rfl rfl ?_
  refine z_getR (r' := (9, 0, 0)) dX9_secondsPerStep_4 fl_X9_40 mk0 rfl rfl ?_
  refine z_fVi (sX0_stepsPerMinute M 0 (Nat.le_of_ble_eq_true rfl)) dX9_secondsPerStep_7 ml_X9_250 cd_X0_stepsPerMinute (m9 _ (Nat.le_of_ble_eq_true rfl)) rfl rfl rfl rfl rfl rfl ?_
  refine z_i2d dX9_secondsPerStep_10 ?_
  obtain ⟨hc1, h⟩ := chk2 h
  refine z_ddiv dX9_secondsPerStep_11 hc1 ?_
  cases h
  exact z_dret dX9_secondsPerStep_12 rfl (Nat.le_refl _) (Nat.le_refl _) ⟨rfl, rfl⟩
