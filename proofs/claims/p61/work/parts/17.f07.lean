theorem dX6_readTooth_0 : decode cX6_readTooth 0 = .ok (.aload_n 0, 1) := by decide +kernel
theorem dX6_readTooth_1 : decode cX6_readTooth 1 = .ok (.getfield 9, 3) := by decide +kernel
theorem dX6_readTooth_4 : decode cX6_readTooth 4 = .ok (.ldc 31, 2) := by decide +kernel
theorem dX6_readTooth_6 : decode cX6_readTooth 6 = .ok (.invokevirtual 33, 3) := by decide +kernel
theorem dX6_readTooth_9 : decode cX6_readTooth 9 = .ok (.ifCond .eq 24, 3) := by decide +kernel
theorem dX6_readTooth_12 : decode cX6_readTooth 12 = .ok (.aload_n 0, 1) := by decide +kernel
theorem dX6_readTooth_13 : decode cX6_readTooth 13 = .ok (.getfield 15, 3) := by decide +kernel
theorem dX6_readTooth_16 : decode cX6_readTooth 16 = .ok (.getfield 67, 3) := by decide +kernel
theorem dX6_readTooth_19 : decode cX6_readTooth 19 = .ok (.bipush 12, 2) := by decide +kernel
theorem dX6_readTooth_21 : decode cX6_readTooth 21 = .ok (.if_icmp .lt 12, 3) := by decide +kernel
theorem dX6_readTooth_24 : decode cX6_readTooth 24 = .ok (.aload_n 0, 1) := by decide +kernel
theorem dX6_readTooth_25 : decode cX6_readTooth 25 = .ok (.getfield 9, 3) := by decide +kernel
theorem dX6_readTooth_28 : decode cX6_readTooth 28 = .ok (.iconst 4, 1) := by decide +kernel
theorem dX6_readTooth_29 : decode cX6_readTooth 29 = .ok (.invokevirtual 71, 3) := by decide +kernel
theorem dX6_readTooth_32 : decode cX6_readTooth 32 = .ok (.ireturn, 1) := by decide +kernel
theorem dX6_readTooth_33 : decode cX6_readTooth 33 = .ok (.aload_n 0, 1) := by decide +kernel
theorem dX6_readTooth_34 : decode cX6_readTooth 34 = .ok (.getfield 9, 3) := by decide +kernel
theorem dX6_readTooth_37 : decode cX6_readTooth 37 = .ok (.ldc 31, 2) := by decide +kernel
theorem dX6_readTooth_39 : decode cX6_readTooth 39 = .ok (.invokevirtual 50, 3) := by decide +kernel
theorem dX6_readTooth_42 : decode cX6_readTooth 42 = .ok (.ifCond .ne 5, 3) := by decide +kernel
theorem dX6_readTooth_45 : decode cX6_readTooth 45 = .ok (.iconst 0, 1) := by decide +kernel
theorem dX6_readTooth_46 : decode cX6_readTooth 46 = .ok (.ireturn, 1) := by decide +kernel
theorem dX6_readTooth_47 : decode cX6_readTooth 47 = .ok (.aload_n 0, 1) := by decide +kernel
theorem dX6_readTooth_48 : decode cX6_readTooth 48 = .ok (.getfield 9, 3) := by decide +kernel
theorem dX6_readTooth_51 : decode cX6_readTooth 51 = .ok (.iconst 0, 1) := by decide +kernel
theorem dX6_readTooth_52 : decode cX6_readTooth 52 = .ok (.bipush 60, 2) := by decide +kernel
theorem dX6_readTooth_54 : decode cX6_readTooth 54 = .ok (.invokevirtual 53, 3) := by decide +kernel
theorem dX6_readTooth_57 : decode cX6_readTooth 57 = .ok (.istore_n 1, 1) := by decide +kernel
theorem dX6_readTooth_58 : decode cX6_readTooth 58 = .ok (.iload_n 1, 1) := by decide +kernel
theorem dX6_readTooth_59 : decode cX6_readTooth 59 = .ok (.iconst (-1), 1) := by decide +kernel
theorem dX6_readTooth_60 : decode cX6_readTooth 60 = .ok (.if_icmp .ne 5, 3) := by decide +kernel
theorem dX6_readTooth_63 : decode cX6_readTooth 63 = .ok (.iconst 0, 1) := by decide +kernel
theorem dX6_readTooth_64 : decode cX6_readTooth 64 = .ok (.ireturn, 1) := by decide +kernel
theorem dX6_readTooth_65 : decode cX6_readTooth 65 = .ok (.aload_n 0, 1) := by decide +kernel
theorem dX6_readTooth_66 : decode cX6_readTooth 66 = .ok (.getfield 9, 3) := by decide +kernel
theorem dX6_readTooth_69 : decode cX6_readTooth 69 = .ok (.iconst 1, 1) := by decide +kernel
theorem dX6_readTooth_70 : decode cX6_readTooth 70 = .ok (.bipush 9, 2) := by decide +kernel
theorem dX6_readTooth_72 : decode cX6_readTooth 72 = .ok (.invokevirtual 53, 3) := by decide +kernel
theorem dX6_readTooth_75 : decode cX6_readTooth 75 = .ok (.istore_n 2, 1) := by decide +kernel
theorem dX6_readTooth_76 : decode cX6_readTooth 76 = .ok (.iload_n 2, 1) := by decide +kernel
theorem dX6_readTooth_77 : decode cX6_readTooth 77 = .ok (.iconst (-1), 1) := by decide +kernel
theorem dX6_readTooth_78 : decode cX6_readTooth 78 = .ok (.if_icmp .ne 5, 3) := by decide +kernel
theorem dX6_readTooth_81 : decode cX6_readTooth 81 = .ok (.iconst 0, 1) := by decide +kernel
theorem dX6_readTooth_82 : decode cX6_readTooth 82 = .ok (.ireturn, 1) := by decide +kernel
theorem dX6_readTooth_83 : decode cX6_readTooth 83 = .ok (.aload_n 0, 1) := by decide +kernel
theorem dX6_readTooth_84 : decode cX6_readTooth 84 = .ok (.getfield 9, 3) := by decide +kernel
theorem dX6_readTooth_87 : decode cX6_readTooth 87 = .ok (.bipush 10, 2) := by decide +kernel
theorem dX6_readTooth_89 : decode cX6_readTooth 89 = .ok (.sipush 999, 3) := by decide +kernel
theorem dX6_readTooth_92 : decode cX6_readTooth 92 = .ok (.invokevirtual 53, 3) := by decide +kernel
theorem dX6_readTooth_95 : decode cX6_readTooth 95 = .ok (.istore_n 3, 1) := by decide +kernel
theorem dX6_readTooth_96 : decode cX6_readTooth 96 = .ok (.iload_n 3, 1) := by decide +kernel
theorem dX6_readTooth_97 : decode cX6_readTooth 97 = .ok (.iconst (-1), 1) := by decide +kernel
theorem dX6_readTooth_98 : decode cX6_readTooth 98 = .ok (.if_icmp .ne 5, 3) := by decide +kernel
theorem dX6_readTooth_101 : decode cX6_readTooth 101 = .ok (.iconst 0, 1) := by decide +kernel
theorem dX6_readTooth_102 : decode cX6_readTooth 102 = .ok (.ireturn, 1) := by decide +kernel
theorem dX6_readTooth_103 : decode cX6_readTooth 103 = .ok (.aload_n 0, 1) := by decide +kernel
theorem dX6_readTooth_104 : decode cX6_readTooth 104 = .ok (.getfield 15, 3) := by decide +kernel
theorem dX6_readTooth_107 : decode cX6_readTooth 107 = .ok (.iload_n 1, 1) := by decide +kernel
theorem dX6_readTooth_108 : decode cX6_readTooth 108 = .ok (.iload_n 2, 1) := by decide +kernel
theorem dX6_readTooth_109 : decode cX6_readTooth 109 = .ok (.iload_n 3, 1) := by decide +kernel
theorem dX6_readTooth_110 : decode cX6_readTooth 110 = .ok (.invokevirtual 75, 3) := by decide +kernel
theorem dX6_readTooth_113 : decode cX6_readTooth 113 = .ok (.aload_n 0, 1) := by decide +kernel
theorem dX6_readTooth_114 : decode cX6_readTooth 114 = .ok (.getfield 9, 3) := by decide +kernel
theorem dX6_readTooth_117 : decode cX6_readTooth 117 = .ok (.bipush 59, 2) := by decide +kernel
theorem dX6_readTooth_119 : decode cX6_readTooth 119 = .ok (.invokevirtual 63, 3) := by decide +kernel
theorem dX6_readTooth_122 : decode cX6_readTooth 122 = .ok (.ireturn, 1) := by decide +kernel
def fX6_readTooth (M : Mm) : Option (Int32 × Mm) := (fX7_atWord M 2).bind fun q1 => if q1 = 0 then ((fX7_takeWord M 2).bind fun q4 => if q4.1 = 0 then some ((0 : Int32), q4.2) else (fX7_takeNumber q4.2 (0 : Int32) (60 : Int32)).bind fun q7 => if q7.1 = (-1 : Int32) then some ((0 : Int32), q7.2) else (fX7_takeNumber q7.2 (1 : Int32) (9 : Int32)).bind fun q10 => if q10.1 = (-1 : Int32) then some ((0 : Int32), q10.2) else (fX7_takeNumber q10.2 (10 : Int32) (999 : Int32)).bind fun q13 => if q13.1 = (-1 : Int32) then some ((0 : Int32), q13.2) else (fX0_putTooth q13.2 1 q7.1 q10.1 q13.1).bind fun q16 => (fX7_takeSign q16 (59 : Int32)).bind fun q18 => some ((bz q18.1), q18.2)) else if (M.1 (9, 1, 0) 2) < (12 : Int32) then ((fX7_takeWord M 2).bind fun q21 => if q21.1 = 0 then some ((0 : Int32), q21.2) else (fX7_takeNumber q21.2 (0 : Int32) (60 : Int32)).bind fun q24 => if q24.1 = (-1 : Int32) then some ((0 : Int32), q24.2) else (fX7_takeNumber q24.2 (1 : Int32) (9 : Int32)).bind fun q27 => if q27.1 = (-1 : Int32) then some ((0 : Int32), q27.2) else (fX7_takeNumber q27.2 (10 : Int32) (999 : Int32)).bind fun q30 => if q30.1 = (-1 : Int32) then some ((0 : Int32), q30.2) else (fX0_putTooth q30.2 1 q24.1 q27.1 q30.1).bind fun q33 => (fX7_takeSign q33 (59 : Int32)).bind fun q35 => some ((bz q35.1), q35.2)) else (fX7_fail M (4 : Int32)).bind fun q37 => some ((bz q37.1), q37.2)
set_option maxRecDepth 20000 in
set_option maxHeartbeats 2000000 in
theorem sX6_readTooth {wv : Wv} (M : Mm) {res : (Int32 × Mm)} (h : fX6_readTooth M  = some res) : TF wv yX6_readTooth cX6_readTooth 4 (some .boolean) 9 [.inr (5, 0, 0)] M (some (.int res.1)) res.2 := by
  rw [fX6_readTooth] at h
  refine TF.go (n := 3) (ls := [some (.inr (5, 0, 0)), none, none, none]) rfl rfl rfl rfl rfl ?_
  refine z_aload_n (i := 0) dX6_readTooth_0 rfl rfl ?_
  refine z_getR (r' := (3, 0, 0)) dX6_readTooth_1 fl_X6_9 mk5 rfl rfl ?_
  refine z_ldcS (j := 2) dX6_readTooth_4 sw_RX6_31 ?_
  obtain ⟨q1, hq2, h⟩ := bnd h
  refine z_fVi (sX7_atWord M 2 (Nat.le_of_ble_eq_true rfl) hq2) dX6_readTooth_6 ml_X6_33 cd_X7_atWord mk3 rfl rfl rfl rfl rfl rfl ?_
  refine z_if_eq (tgt := 33) dX6_readTooth_9 rfl (fun hc3 => ?_) (fun hc3 => ?_)
  · have h := it_t h hc3
    refine z_aload_n (i := 0) dX6_readTooth_33 rfl rfl ?_
    refine z_getR (r' := (3, 0, 0)) dX6_readTooth_34 fl_X6_9 mk5 rfl rfl ?_
    refine z_ldcS (j := 2) dX6_readTooth_37 sw_RX6_31 ?_
    obtain ⟨q4, hq5, h⟩ := bnd h
    refine z_fVi (sX7_takeWord M 2 (Nat.le_of_ble_eq_true rfl) hq5) dX6_readTooth_39 ml_X6_50 cd_X7_takeWord mk3 rfl rfl rfl rfl rfl rfl ?_
    refine z_if_ne (tgt := 47) dX6_readTooth_42 rfl (fun hc6 => ?_) (fun hc6 => ?_)
    · have h := it_f h hc6
      refine z_aload_n (i := 0) dX6_readTooth_47 rfl rfl ?_
      refine z_getR (r' := (3, 0, 0)) dX6_readTooth_48 fl_X6_9 mk5 rfl rfl ?_
      refine z_iconst (v := (0 : Int32)) dX6_readTooth_51 kc_0 ?_
      refine z_bipush (v := (60 : Int32)) dX6_readTooth_52 kb_60 ?_
      obtain ⟨q7, hq8, h⟩ := bnd h
      refine z_fVi (sX7_takeNumber q4.2 (0 : Int32) (60 : Int32) hq8) dX6_readTooth_54 ml_X6_53 cd_X7_takeNumber mk3 rfl rfl rfl rfl rfl rfl ?_
      refine z_istore_n (i := 1) dX6_readTooth_57 rfl (Nat.le_of_ble_eq_true rfl) rfl ?_
      refine z_iload_n (i := 1) dX6_readTooth_58 rfl rfl ?_
      refine z_iconst (v := (-1 : Int32)) dX6_readTooth_59 kc_m1 ?_
      refine z_icmp_ne (tgt := 65) dX6_readTooth_60 rfl (fun hc9 => ?_) (fun hc9 => ?_)
      · have h := it_f h hc9
        refine z_aload_n (i := 0) dX6_readTooth_65 rfl rfl ?_
        refine z_getR (r' := (3, 0, 0)) dX6_readTooth_66 fl_X6_9 mk5 rfl rfl ?_
        refine z_iconst (v := (1 : Int32)) dX6_readTooth_69 kc_1 ?_
        refine z_bipush (v := (9 : Int32)) dX6_readTooth_70 kb_9 ?_
        obtain ⟨q10, hq11, h⟩ := bnd h
        refine z_fVi (sX7_takeNumber q7.2 (1 : Int32) (9 : Int32) hq11) dX6_readTooth_72 ml_X6_53 cd_X7_takeNumber mk3 rfl rfl rfl rfl rfl rfl ?_
        refine z_istore_n (i := 2) dX6_readTooth_75 rfl (Nat.le_of_ble_eq_true rfl) rfl ?_
        refine z_iload_n (i := 2) dX6_readTooth_76 rfl rfl ?_
        refine z_iconst (v := (-1 : Int32)) dX6_readTooth_77 kc_m1 ?_
        refine z_icmp_ne (tgt := 83) dX6_readTooth_78 rfl (fun hc12 => ?_) (fun hc12 => ?_)
        · have h := it_f h hc12
          refine z_aload_n (i := 0) dX6_readTooth_83 rfl rfl ?_
          refine z_getR (r' := (3, 0, 0)) dX6_readTooth_84 fl_X6_9 mk5 rfl rfl ?_
          refine z_bipush (v := (10 : Int32)) dX6_readTooth_87 kb_10 ?_
          refine z_sipush (v := (999 : Int32)) dX6_readTooth_89 ks_999 ?_
          obtain ⟨q13, hq14, h⟩ := bnd h
          refine z_fVi (sX7_takeNumber q10.2 (10 : Int32) (999 : Int32) hq14) dX6_readTooth_92 ml_X6_53 cd_X7_takeNumber mk3 rfl rfl rfl rfl rfl rfl ?_
          refine z_istore_n (i := 3) dX6_readTooth_95 rfl (Nat.le_of_ble_eq_true rfl) rfl ?_
          refine z_iload_n (i := 3) dX6_readTooth_96 rfl rfl ?_
          refine z_iconst (v := (-1 : Int32)) dX6_readTooth_97 kc_m1 ?_
          refine z_icmp_ne (tgt := 103) dX6_readTooth_98 rfl (fun hc15 => ?_) (fun hc15 => ?_)
          · have h := it_f h hc15
            refine z_aload_n (i := 0) dX6_readTooth_103 rfl rfl ?_
            refine z_getR (r' := (9, 1, 0)) dX6_readTooth_104 fl_X6_15 mk5 rfl rfl ?_
            refine z_iload_n (i := 1) dX6_readTooth_107 rfl rfl ?_
            refine z_iload_n (i := 2) dX6_readTooth_108 rfl rfl ?_
            refine z_iload_n (i := 3) dX6_readTooth_109 rfl rfl ?_
            obtain ⟨q16, hq17, h⟩ := bnd h
            refine z_fVv (sX0_putTooth q13.2 1 q7.1 q10.1 q13.1 (Nat.le_of_ble_eq_true rfl) hq17) dX6_readTooth_110 ml_X6_75 cd_X0_putTooth (m9 _ (Nat.le_of_ble_eq_true rfl)) rfl rfl rfl rfl rfl rfl ?_
            refine z_aload_n (i := 0) dX6_readTooth_113 rfl rfl ?_
            refine z_getR (r' := (3, 0, 0)) dX6_readTooth_114 fl_X6_9 mk5 rfl rfl ?_
            refine z_bipush (v := (59 : Int32)) dX6_readTooth_117 kb_59 ?_
            obtain ⟨q18, hq19, h⟩ := bnd h
            refine z_fVi (sX7_takeSign q16 (59 : Int32) hq19) dX6_readTooth_119 ml_X6_63 cd_X7_takeSign mk3 rfl rfl rfl rfl rfl rfl ?_
            cases h
            exact z_iret dX6_readTooth_122 rfl (bz_ok _) (Nat.le_refl _) (Nat.le_refl _) ⟨rfl, rfl⟩
          · have h := it_t h hc15
            refine z_iconst (v := (0 : Int32)) dX6_readTooth_101 kc_0 ?_
            cases h
            exact z_iret dX6_readTooth_102 rfl rfl (Nat.le_refl _) (Nat.le_refl _) ⟨rfl, rfl⟩
        · have h := it_t h hc12
          refine z_iconst (v := (0 : Int32)) dX6_readTooth_81 kc_0 ?_
          cases h
          exact z_iret dX6_readTooth_82 rfl rfl (Nat.le_refl _) (Nat.le_refl _) ⟨rfl, rfl⟩
      · have h := it_t h hc9
        refine z_iconst (v := (0 : Int32)) dX6_readTooth_63 kc_0 ?_
        cases h
        exact z_iret dX6_readTooth_64 rfl rfl (Nat.le_refl _) (Nat.le_refl _) ⟨rfl, rfl⟩
    · have h := it_t h hc6
      refine z_iconst (v := (0 : Int32)) dX6_readTooth_45 kc_0 ?_
      cases h
      exact z_iret dX6_readTooth_46 rfl rfl (Nat.le_refl _) (Nat.le_refl _) ⟨rfl, rfl⟩
  · have h := it_f h hc3
    refine z_aload_n (i := 0) dX6_readTooth_12 rfl rfl ?_
    refine z_getR (r' := (9, 1, 0)) dX6_readTooth_13 fl_X6_15 mk5 rfl rfl ?_
    refine z_getI (x := (M.1 (9, 1, 0) 2)) dX6_readTooth_16 fl_X6_67 (m9 _ (Nat.le_of_ble_eq_true rfl)) rfl rfl ?_
    refine z_bipush (v := (12 : Int32)) dX6_readTooth_19 kb_12 ?_
    refine z_icmp_lt (tgt := 33) dX6_readTooth_21 rfl (fun hc20 => ?_) (fun hc20 => ?_)
    · have h := it_t h hc20
      refine z_aload_n (i := 0) dX6_readTooth_33 rfl rfl ?_
      refine z_getR (r' := (3, 0, 0)) dX6_readTooth_34 fl_X6_9 mk5 rfl rfl ?_
      refine z_ldcS (j := 2) dX6_readTooth_37 sw_RX6_31 ?_
      obtain ⟨q21, hq22, h⟩ := bnd h
      refine z_fVi (sX7_takeWord M 2 (Nat.le_of_ble_eq_true rfl) hq22) dX6_readTooth_39 ml_X6_50 cd_X7_takeWord mk3 rfl rfl rfl rfl rfl rfl ?_
      refine z_if_ne (tgt := 47) dX6_readTooth_42 rfl (fun hc23 => ?_) (fun hc23 => ?_)
      · have h := it_f h hc23
        refine z_aload_n (i := 0) dX6_readTooth_47 rfl rfl ?_
        refine z_getR (r' := (3, 0, 0)) dX6_readTooth_48 fl_X6_9 mk5 rfl rfl ?_
        refine z_iconst (v := (0 : Int32)) dX6_readTooth_51 kc_0 ?_
        refine z_bipush (v := (60 : Int32)) dX6_readTooth_52 kb_60 ?_
        obtain ⟨q24, hq25, h⟩ := bnd h
        refine z_fVi (sX7_takeNumber q21.2 (0 : Int32) (60 : Int32) hq25) dX6_readTooth_54 ml_X6_53 cd_X7_takeNumber mk3 rfl rfl rfl rfl rfl rfl ?_
        refine z_istore_n (i := 1) dX6_readTooth_57 rfl (Nat.le_of_ble_eq_true rfl) rfl ?_
        refine z_iload_n (i := 1) dX6_readTooth_58 rfl rfl ?_
        refine z_iconst (v := (-1 : Int32)) dX6_readTooth_59 kc_m1 ?_
        refine z_icmp_ne (tgt := 65) dX6_readTooth_60 rfl (fun hc26 => ?_) (fun hc26 => ?_)
        · have h := it_f h hc26
          refine z_aload_n (i := 0) dX6_readTooth_65 rfl rfl ?_
          refine z_getR (r' := (3, 0, 0)) dX6_readTooth_66 fl_X6_9 mk5 rfl rfl ?_
          refine z_iconst (v := (1 : Int32)) dX6_readTooth_69 kc_1 ?_
          refine z_bipush (v := (9 : Int32)) dX6_readTooth_70 kb_9 ?_
          obtain ⟨q27, hq28, h⟩ := bnd h
          refine z_fVi (sX7_takeNumber q24.2 (1 : Int32) (9 : Int32) hq28) dX6_readTooth_72 ml_X6_53 cd_X7_takeNumber mk3 rfl rfl rfl rfl rfl rfl ?_
          refine z_istore_n (i := 2) dX6_readTooth_75 rfl (Nat.le_of_ble_eq_true rfl) rfl ?_
          refine z_iload_n (i := 2) dX6_readTooth_76 rfl rfl ?_
          refine z_iconst (v := (-1 : Int32)) dX6_readTooth_77 kc_m1 ?_
          refine z_icmp_ne (tgt := 83) dX6_readTooth_78 rfl (fun hc29 => ?_) (fun hc29 => ?_)
          · have h := it_f h hc29
            refine z_aload_n (i := 0) dX6_readTooth_83 rfl rfl ?_
            refine z_getR (r' := (3, 0, 0)) dX6_readTooth_84 fl_X6_9 mk5 rfl rfl ?_
            refine z_bipush (v := (10 : Int32)) dX6_readTooth_87 kb_10 ?_
            refine z_sipush (v := (999 : Int32)) dX6_readTooth_89 ks_999 ?_
            obtain ⟨q30, hq31, h⟩ := bnd h
            refine z_fVi (sX7_takeNumber q27.2 (10 : Int32) (999 : Int32) hq31) dX6_readTooth_92 ml_X6_53 cd_X7_takeNumber mk3 rfl rfl rfl rfl rfl rfl ?_
            refine z_istore_n (i := 3) dX6_readTooth_95 rfl (Nat.le_of_ble_eq_true rfl) rfl ?_
            refine z_iload_n (i := 3) dX6_readTooth_96 rfl rfl ?_
            refine z_iconst (v := (-1 : Int32)) dX6_readTooth_97 kc_m1 ?_
            refine z_icmp_ne (tgt := 103) dX6_readTooth_98 rfl (fun hc32 => ?_) (fun hc32 => ?_)
            · have h := it_f h hc32
              refine z_aload_n (i := 0) dX6_readTooth_103 rfl rfl ?_
              refine z_getR (r' := (9, 1, 0)) dX6_readTooth_104 fl_X6_15 mk5 rfl rfl ?_
              refine z_iload_n (i := 1) dX6_readTooth_107 rfl rfl ?_
              refine z_iload_n (i := 2) dX6_readTooth_108 rfl rfl ?_
              refine z_iload_n (i := 3) dX6_readTooth_109 rfl rfl ?_
              obtain ⟨q33, hq34, h⟩ := bnd h
              refine z_fVv (sX0_putTooth q30.2 1 q24.1 q27.1 q30.1 (Nat.le_of_ble_eq_true rfl) hq34) dX6_readTooth_110 ml_X6_75 cd_X0_putTooth (m9 _ (Nat.le_of_ble_eq_true rfl)) rfl rfl rfl rfl rfl rfl ?_
              refine z_aload_n (i := 0) dX6_readTooth_113 rfl rfl ?_
              refine z_getR (r' := (3, 0, 0)) dX6_readTooth_114 fl_X6_9 mk5 rfl rfl ?_
              refine z_bipush (v := (59 : Int32)) dX6_readTooth_117 kb_59 ?_
              obtain ⟨q35, hq36, h⟩ := bnd h
              refine z_fVi (sX7_takeSign q33 (59 : Int32) hq36) dX6_readTooth_119 ml_X6_63 cd_X7_takeSign mk3 rfl rfl rfl rfl rfl rfl ?_
              cases h
              exact z_iret dX6_readTooth_122 rfl (bz_ok _) (Nat.le_refl _) (Nat.le_refl _) ⟨rfl, rfl⟩
            · have h := it_t h hc32
              refine z_iconst (v := (0 : Int32)) dX6_readTooth_101 kc_0 ?_
              cases h
              exact z_iret dX6_readTooth_102 rfl rfl (Nat.le_refl _) (Nat.le_refl _) ⟨rfl, rfl⟩
          · have h := it_t h hc29
            refine z_iconst (v := (0 : Int32)) dX6_readTooth_81 kc_0 ?_
            cases h
            exact z_iret dX6_readTooth_82 rfl rfl (Nat.le_refl _) (Nat.le_refl _) ⟨rfl, rfl⟩
        · have h := it_t h hc26
          refine z_iconst (v := (0 : Int32)) dX6_readTooth_63 kc_0 ?_
          cases h
          exact z_iret dX6_readTooth_64 rfl rfl (Nat.le_refl _) (Nat.le_refl _) ⟨rfl, rfl⟩
      · have h := it_t h hc23
        refine z_iconst (v := (0 : Int32)) dX6_readTooth_45 kc_0 ?_
        cases h
        exact z_iret dX6_readTooth_46 rfl rfl (Nat.le_refl _) (Nat.le_refl _) ⟨rfl, rfl⟩
    · have h := it_f h hc20
      refine z_aload_n (i := 0) dX6_readTooth_24 rfl rfl ?_
      refine z_getR (r' := (3, 0, 0)) dX6_readTooth_25 fl_X6_9 mk5 rfl rfl ?_
      refine z_iconst (v := (4 : Int32)) dX6_readTooth_28 kc_4 ?_
      obtain ⟨q37, hq38, h⟩ := bnd h
      refine z_fVi (sX7_fail M (4 : Int32) hq38) dX6_readTooth_29 ml_X6_71 cd_X7_fail mk3 rfl rfl rfl rfl rfl rfl ?_
      cases h
      exact z_iret dX6_readTooth_32 rfl (bz_ok _) (Nat.le_refl _) (Nat.le_refl _) ⟨rfl, rfl⟩
theorem dX7_failTaken_0 : decode cX7_failTaken 0 = .ok (.aload_n 0, 1) := by decide +kernel
theorem dX7_failTaken_1 : decode cX7_failTaken 1 = .ok (.iload_n 1, 1) := by decide +kernel
theorem dX7_failTaken_2 : decode cX7_failTaken 2 = .ok (.putfield 32, 3) := by decide +kernel
theorem dX7_failTaken_5 : decode cX7_failTaken 5 = .ok (.aload_n 0, 1) := by decide +kernel
theorem dX7_failTaken_6 : decode cX7_failTaken 6 = .ok (.aload_n 0, 1) := by decide +kernel
theorem dX7_failTaken_7 : decode cX7_failTaken 7 = .ok (.getfield 38, 3) := by decide +kernel
theorem dX7_failTaken_10 : decode cX7_failTaken 10 = .ok (.iconst 1, 1) := by decide +kernel
theorem dX7_failTaken_11 : decode cX7_failTaken 11 = .ok (.if_icmp .lt 29, 3) := by decide +kernel
theorem dX7_failTaken_14 : decode cX7_failTaken 14 = .ok (.aload_n 0, 1) := by decide +kernel
theorem dX7_failTaken_15 : decode cX7_failTaken 15 = .ok (.getfield 38, 3) := by decide +kernel
theorem dX7_failTaken_18 : decode cX7_failTaken 18 = .ok (.aload_n 0, 1) := by decide +kernel
theorem dX7_failTaken_19 : decode cX7_failTaken 19 = .ok (.getfield 15, 3) := by decide +kernel
theorem dX7_failTaken_22 : decode cX7_failTaken 22 = .ok (.arraylength, 1) := by decide +kernel
theorem dX7_failTaken_23 : decode cX7_failTaken 23 = .ok (.if_icmp .gt 17, 3) := by decide +kernel
theorem dX7_failTaken_26 : decode cX7_failTaken 26 = .ok (.aload_n 0, 1) := by decide +kernel
theorem dX7_failTaken_27 : decode cX7_failTaken 27 = .ok (.getfield 15, 3) := by decide +kernel
theorem dX7_failTaken_30 : decode cX7_failTaken 30 = .ok (.aload_n 0, 1) := by decide +kernel
theorem dX7_failTaken_31 : decode cX7_failTaken 31 = .ok (.getfield 38, 3) := by decide +kernel
theorem dX7_failTaken_34 : decode cX7_failTaken 34 = .ok (.iconst 1, 1) := by decide +kernel
theorem dX7_failTaken_35 : decode cX7_failTaken 35 = .ok (.isub, 1) := by decide +kernel
theorem dX7_failTaken_36 : decode cX7_failTaken 36 = .ok (.iaload, 1) := by decide +kernel
theorem dX7_failTaken_37 : decode cX7_failTaken 37 = .ok (.goto 4, 3) := by decide +kernel
theorem dX7_failTaken_40 : decode cX7_failTaken 40 = .ok (.iconst (-1), 1) := by decide +kernel
theorem dX7_failTaken_41 : decode cX7_failTaken 41 = .ok (.putfield 28, 3) := by decide +kernel
theorem dX7_failTaken_44 : decode cX7_failTaken 44 = .ok (.iconst 0, 1) := by decide +kernel
theorem dX7_failTaken_45 : decode cX7_failTaken 45 = .ok (.ireturn, 1) := by decide +kernel
def fX7_failTaken (M : Mm) (x1 : Int32) : Option (Int32 × Mm) := if (M.1 (3, 0, 0) 6) < (1 : Int32) then some ((0 : Int32), (putI (putI M (3, 0, 0) 7 x1) (3, 0, 0) 8 (-1 : Int32))) else if (801 : Int32) < (M.1 (3, 0, 0) 6) then some ((0 : Int32), (putI (putI M (3, 0, 0) 7 x1) (3, 0, 0) 8 (-1 : Int32))) else if ((M.1 (3, 0, 0) 6) - (1 : Int32)) < 0 ∨ 801 ≤ ((M.1 (3, 0, 0) 6) - (1 : Int32)).toNatClampNeg then none else some ((0 : Int32), (putI (putI M (3, 0, 0) 7 x1) (3, 0, 0) 8 (M.1 (4, 1, 0) ((M.1 (3, 0, 0) 6) - (1 : Int32)).toNatClampNeg)))
set_option maxRecDepth 20000 in
set_option maxHeartbeats 2000000 in
theorem sX7_failTaken {wv : Wv} (M : Mm) (x1 : Int32) {res : (Int32 × Mm)} (h : fX7_failTaken M x1 = some res) : TF wv yX7_failTaken cX7_failTaken 2 (some .boolean) 0 [.inr (3, 0, 0), .inl (.int x1)] M (some (.int res.1)) res.2 := by
  rw [fX7_failTaken] at h
  refine TF.go (n := 0) (ls := [some (.inr (3, 0, 0)), some (.inl (.int x1))]) rfl rfl rfl rfl rfl ?_
  refine z_aload_n (i := 0) dX7_failTaken_0 rfl rfl ?_
  refine z_iload_n (i := 1) dX7_failTaken_1 rfl rfl ?_
  refine z_putI allR_nd dX7_failTaken_2 fl_X7_32 mk3 rfl rfl ?_
  refine z_aload_n (i := 0) dX7_failTaken_5 rfl rfl ?_
  refine z_aload_n (i := 0) dX7_failTaken_6 rfl rfl ?_
  refine z_getI (x := (M.1 (3, 0, 0) 6)) dX7_failTaken_7 fl_X7_38 mk3 rfl rfl ?_
  refine z_iconst (v := (1 : Int32)) dX7_failTaken_10 kc_1 ?_
  refine z_icmp_lt (tgt := 40) dX7_failTaken_11 rfl (fun hc1 => ?_) (fun hc1 => ?_)
  · have h := it_t h hc1
    refine z_iconst (v := (-1 : Int32)) dX7_failTaken_40 kc_m1 ?_
    refine z_putI allR_nd dX7_failTaken_41 fl_X7_28 mk3 rfl rfl ?_
    refine z_iconst (v := (0 : Int32)) dX7_failTaken_44 kc_0 ?_
    cases h
    exact z_iret dX7_failTaken_45 rfl rfl (Nat.le_refl _) (Nat.le_refl _) ⟨rfl, rfl⟩
  · have h := it_f h hc1
    refine z_aload_n (i := 0) dX7_failTaken_14 rfl rfl ?_
    refine z_getI (x := (M.1 (3, 0, 0) 6)) dX7_failTaken_15 fl_X7_38 mk3 rfl rfl ?_
    refine z_aload_n (i := 0) dX7_failTaken_18 rfl rfl ?_
    refine z_getR (r' := (4, 1, 0)) dX7_failTaken_19 fl_X7_15 mk3 rfl rfl ?_
    refine z_alen (v := (801 : Int32)) dX7_failTaken_22 (m4 _ (Nat.le_of_ble_eq_true rfl)) rfl (Nat.le_of_ble_eq_true rfl) (by decide) ?_
    refine z_icmp_gt (tgt := 40) dX7_failTaken_23 rfl (fun hc2 => ?_) (fun hc2 => ?_)
    · have h := it_t h hc2
      refine z_iconst (v := (-1 : Int32)) dX7_failTaken_40 kc_m1 ?_
      refine z_putI allR_nd dX7_failTaken_41 fl_X7_28 mk3 rfl rfl ?_
      refine z_iconst (v := (0 : Int32)) dX7_failTaken_44 kc_0 ?_
      cases h
      exact z_iret dX7_failTaken_45 rfl rfl (Nat.le_refl _) (Nat.le_refl _) ⟨rfl, rfl⟩
    · have h := it_f h hc2
      refine z_aload_n (i := 0) dX7_failTaken_26 rfl rfl ?_
      refine z_getR (r' := (4, 1, 0)) dX7_failTaken_27 fl_X7_15 mk3 rfl rfl ?_
      refine z_aload_n (i := 0) dX7_failTaken_30 rfl rfl ?_
      refine z_getI (x := (M.1 (3, 0, 0) 6)) dX7_failTaken_31 fl_X7_38 mk3 rfl rfl ?_
      refine z_iconst (v := (1 : Int32)) dX7_failTaken_34 kc_1 ?_
      refine z_isub dX7_failTaken_35 ?_
      obtain ⟨hc3, h⟩ := chk h
      refine z_iald (x := (M.1 (4, 1, 0) ((M.1 (3, 0, 0) 6) - (1 : Int32)).toNatClampNeg)) dX7_failTaken_36 (m4 _ (Nat.le_of_ble_eq_true rfl)) rfl hc3 rfl ?_
      refine z_goto (tgt := 41) dX7_failTaken_37 rfl ?_
      refine z_putI allR_nd dX7_failTaken_41 fl_X7_28 mk3 rfl rfl ?_
      refine z_iconst (v := (0 : Int32)) dX7_failTaken_44 kc_0 ?_
      cases h
      exact z_iret dX7_failTaken_45 rfl rfl (Nat.le_refl _) (Nat.le_refl _) ⟨rfl, rfl⟩
theorem dX6_readPlace_0 : decode cX6_readPlace 0 = .ok (.aload_n 0, 1) := by decide +kernel
theorem dX6_readPlace_1 : decode cX6_readPlace 1 = .ok (.getfield 9, 3) := by decide +kernel
theorem dX6_readPlace_4 : decode cX6_readPlace 4 = .ok (.iconst 0, 1) := by decide +kernel
theorem dX6_readPlace_5 : decode cX6_readPlace 5 = .ok (.iconst 2, 1) := by decide +kernel
theorem dX6_readPlace_6 : decode cX6_readPlace 6 = .ok (.invokevirtual 53, 3) := by decide +kernel
theorem dX6_readPlace_9 : decode cX6_readPlace 9 = .ok (.istore_n 1, 1) := by decide +kernel
theorem dX6_readPlace_10 : decode cX6_readPlace 10 = .ok (.iload_n 1, 1) := by decide +kernel
theorem dX6_readPlace_11 : decode cX6_readPlace 11 = .ok (.iconst (-1), 1) := by decide +kernel
theorem dX6_readPlace_12 : decode cX6_readPlace 12 = .ok (.if_icmp .ne 5, 3) := by decide +kernel
theorem dX6_readPlace_15 : decode cX6_readPlace 15 = .ok (.iconst 0, 1) := by decide +kernel
theorem dX6_readPlace_16 : decode cX6_readPlace 16 = .ok (.ireturn, 1) := by decide +kernel
theorem dX6_readPlace_17 : decode cX6_readPlace 17 = .ok (.aload_n 0, 1) := by decide +kernel
theorem dX6_readPlace_18 : decode cX6_readPlace 18 = .ok (.getfield 9, 3) := by decide +kernel
theorem dX6_readPlace_21 : decode cX6_readPlace 21 = .ok (.iconst 0, 1) := by decide +kernel
theorem dX6_readPlace_22 : decode cX6_readPlace 22 = .ok (.aload_n 0, 1) := by decide +kernel
theorem dX6_readPlace_23 : decode cX6_readPlace 23 = .ok (.getfield 15, 3) := by decide +kernel
theorem dX6_readPlace_26 : decode cX6_readPlace 26 = .ok (.getfield 67, 3) := by decide +kernel
theorem dX6_readPlace_29 : decode cX6_readPlace 29 = .ok (.iconst 1, 1) := by decide +kernel
theorem dX6_readPlace_30 : decode cX6_readPlace 30 = .ok (.isub, 1) := by decide +kernel
theorem dX6_readPlace_31 : decode cX6_readPlace 31 = .ok (.invokevirtual 53, 3) := by decide +kernel
theorem dX6_readPlace_34 : decode cX6_readPlace 34 = .ok (.istore_n 2, 1) := by decide +kernel
theorem dX6_readPlace_35 : decode cX6_readPlace 35 = .ok (.iload_n 2, 1) := by decide +kernel
theorem dX6_readPlace_36 : decode cX6_readPlace 36 = .ok (.iconst (-1), 1) := by decide +kernel
theorem dX6_readPlace_37 : decode cX6_readPlace 37 = .ok (.if_icmp .ne 5, 3) := by decide +kernel
theorem dX6_readPlace_40 : decode cX6_readPlace 40 = .ok (.iconst 0, 1) := by decide +kernel
theorem dX6_readPlace_41 : decode cX6_readPlace 41 = .ok (.ireturn, 1) := by decide +kernel
theorem dX6_readPlace_42 : decode cX6_readPlace 42 = .ok (.aload_n 0, 1) := by decide +kernel
theorem dX6_readPlace_43 : decode cX6_readPlace 43 = .ok (.getfield 9, 3) := by decide +kernel
theorem dX6_readPlace_46 : decode cX6_readPlace 46 = .ok (.iconst 0, 1) := by decide +kernel
theorem dX6_readPlace_47 : decode cX6_readPlace 47 = .ok (.aload_n 0, 1) := by decide +kernel
theorem dX6_readPlace_48 : decode cX6_readPlace 48 = .ok (.getfield 15, 3) := by decide +kernel
theorem dX6_readPlace_51 : decode cX6_readPlace 51 = .ok (.getfield 78, 3) := by decide +kernel
theorem dX6_readPlace_54 : decode cX6_readPlace 54 = .ok (.getfield 82, 3) := by decide +kernel
theorem dX6_readPlace_57 : decode cX6_readPlace 57 = .ok (.iconst 1, 1) := by decide +kernel
theorem dX6_readPlace_58 : decode cX6_readPlace 58 = .ok (.isub, 1) := by decide +kernel
theorem dX6_readPlace_59 : decode cX6_readPlace 59 = .ok (.invokevirtual 53, 3) := by decide +kernel
theorem dX6_readPlace_62 : decode cX6_readPlace 62 = .ok (.istore_n 3, 1) := by decide +kernel
theorem dX6_readPlace_63 : decode cX6_readPlace 63 = .ok (.iload_n 3, 1) := by decide +kernel
theorem dX6_readPlace_64 : decode cX6_readPlace 64 = .ok (.iconst (-1), 1) := by decide +kernel
theorem dX6_readPlace_65 : decode cX6_readPlace 65 = .ok (.if_icmp .ne 5, 3) := by decide +kernel
theorem dX6_readPlace_68 : decode cX6_readPlace 68 = .ok (.iconst 0, 1) := by decide +kernel
theorem dX6_readPlace_69 : decode cX6_readPlace 69 = .ok (.ireturn, 1) := by decide +kernel
theorem dX6_readPlace_70 : decode cX6_readPlace 70 = .ok (.aload_n 0, 1) := by decide +kernel
theorem dX6_readPlace_71 : decode cX6_readPlace 71 = .ok (.getfield 15, 3) := by decide +kernel
theorem dX6_readPlace_74 : decode cX6_readPlace 74 = .ok (.getfield 78, 3) := by decide +kernel
theorem dX6_readPlace_77 : decode cX6_readPlace 77 = .ok (.iload_n 1, 1) := by decide +kernel
theorem dX6_readPlace_78 : decode cX6_readPlace 78 = .ok (.iload_n 2, 1) := by decide +kernel
theorem dX6_readPlace_79 : decode cX6_readPlace 79 = .ok (.iload_n 3, 1) := by decide +kernel
theorem dX6_readPlace_80 : decode cX6_readPlace 80 = .ok (.invokevirtual 87, 3) := by decide +kernel
theorem dX6_readPlace_83 : decode cX6_readPlace 83 = .ok (.ifCond .eq 12, 3) := by decide +kernel
theorem dX6_readPlace_86 : decode cX6_readPlace 86 = .ok (.aload_n 0, 1) := by decide +kernel
theorem dX6_readPlace_87 : decode cX6_readPlace 87 = .ok (.getfield 9, 3) := by decide +kernel
theorem dX6_readPlace_90 : decode cX6_readPlace 90 = .ok (.iconst 3, 1) := by decide +kernel
theorem dX6_readPlace_91 : decode cX6_readPlace 91 = .ok (.invokevirtual 91, 3) := by decide +kernel
theorem dX6_readPlace_94 : decode cX6_readPlace 94 = .ok (.ireturn, 1) := by decide +kernel
theorem dX6_readPlace_95 : decode cX6_readPlace 95 = .ok (.aload_n 0, 1) := by decide +kernel
theorem dX6_readPlace_96 : decode cX6_readPlace 96 = .ok (.getfield 15, 3) := by decide +kernel
theorem dX6_readPlace_99 : decode cX6_readPlace 99 = .ok (.getfield 78, 3) := by decide +kernel
theorem dX6_readPlace_102 : decode cX6_readPlace 102 = .ok (.iload_n 1, 1) := by decide +kernel
theorem dX6_readPlace_103 : decode cX6_readPlace 103 = .ok (.iload_n 2, 1) := by decide +kernel
theorem dX6_readPlace_104 : decode cX6_readPlace 104 = .ok (.iload_n 3, 1) := by decide +kernel
theorem dX6_readPlace_105 : decode cX6_readPlace 105 = .ok (.invokevirtual 94, 3) := by decide +kernel
theorem dX6_readPlace_108 : decode cX6_readPlace 108 = .ok (.aload_n 0, 1) := by decide +kernel
theorem dX6_readPlace_109 : decode cX6_readPlace 109 = .ok (.getfield 9, 3) := by decide +kernel
theorem dX6_readPlace_112 : decode cX6_readPlace 112 = .ok (.bipush 59, 2) := by decide +kernel
theorem dX6_readPlace_114 : decode cX6_readPlace 114 = .ok (.invokevirtual 63, 3) := by decide +kernel
theorem dX6_readPlace_117 : decode cX6_readPlace 117 = .ok (.ireturn, 1) := by decide +kernel
def fX6_readPlace (M : Mm) : Option (Int32 × Mm) := (fX7_takeNumber M (0 : Int32) (2 : Int32)).bind fun q1 => if q1.1 = (-1 : Int32) then some ((0 : Int32), q1.2) else (fX7_takeNumber q1.2 (0 : Int32) ((q1.2.1 (9, 1, 0) 2) - (1 : Int32))).bind fun q4 => if q4.1 = (-1 : Int32) then some ((0 : Int32), q4.2) else (fX7_takeNumber q4.2 (0 : Int32) ((q4.2.1 (10, 1, 0) 1) - (1 : Int32))).bind fun q7 => if q7.1 = (-1 : Int32) then some ((0 : Int32), q7.2) else (fX3_hasPin q7.2 1 q1.1 q4.1 q7.1).bind fun q10 => if q10 = 0 then ((fX3_putPin q7.2 1 q1.1 q4.1 q7.1).bind fun q13 => (fX7_takeSign q13 (59 : Int32)).bind fun q15 => some ((bz q15.1), q15.2)) else (fX7_failTaken q7.2 (3 : Int32)).bind fun q17 => some ((bz q17.1), q17.2)
set_option maxRecDepth 20000 in
set_option maxHeartbeats 2000000 in
theorem sX6_readPlace {wv : Wv} (M : Mm) {res : (Int32 × Mm)} (h : fX6_readPlace M  = some res) : TF wv yX6_readPlace cX6_readPlace 4 (some .boolean) 3 [.inr (5, 0, 0)] M (some (.int res.1)) res.2 := by
  rw [fX6_readPlace] at h
  refine TF.go (n := 3) (ls := [some (.inr (5, 0, 0)), none, none, none]) rfl rfl rfl rfl rfl ?_
  refine z_aload_n (i := 0) dX6_readPlace_0 rfl rfl ?_
  refine z_getR (r' := (3, 0, 0)) dX6_readPlace_1 fl_X6_9 mk5 rfl rfl ?_
  refine z_iconst (v := (0 : Int32)) dX6_readPlace_4 kc_0 ?_
  refine z_iconst (v := (2 : Int32)) dX6_readPlace_5 kc_2 ?_
  obtain ⟨q1, hq2, h⟩ := bnd h
  refine z_fVi (sX7_takeNumber M (0 : Int32) (2 : Int32) hq2) dX6_readPlace_6 ml_X6_53 cd_X7_takeNumber mk3 rfl rfl rfl rfl rfl rfl ?_
  refine z_istore_n (i := 1) dX6_readPlace_9 rfl (Nat.le_of_ble_eq_true rfl) rfl ?_
  refine z_iload_n (i := 1) dX6_readPlace_10 rfl rfl ?_
  refine z_iconst (v := (-1 : Int32)) dX6_readPlace_11 kc_m1 ?_
  refine z_icmp_ne (tgt := 17) dX6_readPlace_12 rfl (fun hc3 => ?_) (fun hc3 => ?_)
  · have h := it_f h hc3
    refine z_aload_n (i := 0) dX6_readPlace_17 rfl rfl ?_
    refine z_getR (r' := (3, 0, 0)) dX6_readPlace_18 fl_X6_9 mk5 rfl rfl ?_
    refine z_iconst (v := (0 : Int32)) dX6_readPlace_21 kc_0 ?_
    refine z_aload_n (i := 0) dX6_readPlace_22 rfl rfl ?_
    refine z_getR (r' := (9, 1, 0)) dX6_readPlace_23 fl_X6_15 mk5 rfl rfl ?_
    refine z_getI (x := (q1.2.1 (9, 1, 0) 2)) dX6_readPlace_26 fl_X6_67 (m9 _ (Nat.le_of_ble_eq_true rfl)) rfl rfl ?_
    refine z_iconst (v := (1 : Int32)) dX6_readPlace_29 kc_1 ?_
    refine z_isub dX6_readPlace_30 ?_
    obtain ⟨q4, hq5, h⟩ := bnd h
    refine z_fVi (sX7_takeNumber q1.2 (0 : Int32) ((q1.2.1 (9, 1, 0) 2) - (1 : Int32)) hq5) dX6_readPlace_31 ml_X6_53 cd_X7_takeNumber mk3 rfl rfl rfl rfl rfl rfl ?_
    refine z_istore_n (i := 2) dX6_readPlace_34 rfl (Nat.le_of_ble_eq_true rfl) rfl ?_
    refine z_iload_n (i := 2) dX6_readPlace_35 rfl rfl ?_
    refine z_iconst (v := (-1 : Int32)) dX6_readPlace_36 kc_m1 ?_
    refine z_icmp_ne (tgt := 42) dX6_readPlace_37 rfl (fun hc6 => ?_) (fun hc6 => ?_)
    · have h := it_f h hc6
      refine z_aload_n (i := 0) dX6_readPlace_42 rfl rfl ?_
      refine z_getR (r' := (3, 0, 0)) dX6_readPlace_43 fl_X6_9 mk5 rfl rfl ?_
      refine z_iconst (v := (0 : Int32)) dX6_readPlace_46 kc_0 ?_
      refine z_aload_n (i := 0) dX6_readPlace_47 rfl rfl ?_
      refine z_getR (r' := (9, 1, 0)) dX6_readPlace_48 fl_X6_15 mk5 rfl rfl ?_
      refine z_getR (r' := (10, 1, 0)) dX6_readPlace_51 fl_X6_78 (m9 _ (Nat.le_of_ble_eq_true rfl)) rfl rfl ?_
      refine z_getI (x := (q4.2.1 (10, 1, 0) 1)) dX6_readPlace_54 fl_X6_82 (m10 _ (Nat.le_of_ble_eq_true rfl)) rfl rfl ?_
      refine z_iconst (v := (1 : Int32)) dX6_readPlace_57 kc_1 ?_
      refine z_isub dX6_readPlace_58 ?_
      obtain ⟨q7, hq8, h⟩ := bnd h
      refine z_fVi (sX7_takeNumber q4.2 (0 : Int32) ((q4.2.1 (10, 1, 0) 1) - (1 : Int32)) hq8) dX6_readPlace_59 ml_X6_53 cd_X7_takeNumber mk3 rfl rfl rfl rfl rfl rfl ?_
      refine z_istore_n (i := 3) dX6_readPlace_62 rfl (Nat.le_of_ble_eq_true rfl) rfl ?_
      refine z_iload_n (i := 3) dX6_readPlace_63 rfl rfl ?_
      refine z_iconst (v := (-1 : Int32)) dX6_readPlace_64 kc_m1 ?_
      refine z_icmp_ne (tgt := 70) dX6_readPlace_65 rfl (fun hc9 => ?_) (fun hc9 => ?_)
      · have h := it_f h hc9
        refine z_aload_n (i := 0) dX6_readPlace_70 rfl rfl ?_
        refine z_getR (r' := (9, 1, 0)) dX6_readPlace_71 fl_X6_15 mk5 rfl rfl ?_
        refine z_getR (r' := (10, 1, 0)) dX6_readPlace_74 fl_X6_78 (m9 _ (Nat.le_of_ble_eq_true rfl)) rfl rfl ?_
        refine z_iload_n (i := 1) dX6_readPlace_77 rfl rfl ?_
        refine z_iload_n (i := 2) dX6_readPlace_78 rfl rfl ?_
        refine z_iload_n (i := 3) dX6_readPlace_79 rfl rfl ?_
        obtain ⟨q10, hq11, h⟩ := bnd h
        refine z_fVi (sX3_hasPin q7.2 1 q1.1 q4.1 q7.1 (Nat.le_of_ble_eq_true rfl) hq11) dX6_readPlace_80 ml_X6_87 cd_X3_hasPin (m10 _ (Nat.le_of_ble_eq_true rfl)) rfl rfl rfl rfl rfl rfl ?_
        refine z_if_eq (tgt := 95) dX6_readPlace_83 rfl (fun hc12 => ?_) (fun hc12 => ?_)
        · have h := it_t h hc12
          refine z_aload_n (i := 0) dX6_readPlace_95 rfl rfl ?_
          refine z_getR (r' := (9, 1, 0)) dX6_readPlace_96 fl_X6_15 mk5 rfl rfl ?_
          refine z_getR (r' := (10, 1, 0)) dX6_readPlace_99 fl_X6_78 (m9 _ (Nat.le_of_ble_eq_true rfl)) rfl rfl ?_
          refine z_iload_n (i := 1) dX6_readPlace_102 rfl rfl ?_
          refine z_iload_n (i := 2) dX6_readPlace_103 rfl rfl ?_
          refine z_iload_n (i := 3) dX6_readPlace_104 rfl rfl ?_
          obtain ⟨q13, hq14, h⟩ := bnd h
          refine z_fVv (sX3_putPin q7.2 1 q1.1 q4.1 q7.1 (Nat.le_of_ble_eq_true rfl) hq14) dX6_readPlace_105 ml_X6_94 cd_X3_putPin (m10 _ (Nat.le_of_ble_eq_true rfl)) rfl rfl rfl rfl rfl rfl ?_
          refine z_aload_n (i := 0) dX6_readPlace_108 rfl rfl ?_
          refine z_getR (r' := (3, 0, 0)) dX6_readPlace_109 fl_X6_9 mk5 rfl rfl ?_
          refine z_bipush (v := (59 : Int32)) dX6_readPlace_112 kb_59 ?_
          obtain ⟨q15, hq16, h⟩ := bnd h
          refine z_fVi (sX7_takeSign q13 (59 : Int32) hq16) dX6_readPlace_114 ml_X6_63 cd_X7_takeSign mk3 rfl rfl rfl rfl rfl rfl ?_
          cases h
          exact z_iret dX6_readPlace_117 rfl (bz_ok _) (Nat.le_refl _) (Nat.le_refl _) ⟨rfl, rfl⟩
        · have h := it_f h hc12
          refine z_aload_n (i := 0) dX6_readPlace_86 rfl rfl ?_
          refine z_getR (r' := (3, 0, 0)) dX6_readPlace_87 fl_X6_9 mk5 rfl rfl ?_
          refine z_iconst (v := (3 : Int32)) dX6_readPlace_90 kc_3 ?_
          obtain ⟨q17, hq18, h⟩ := bnd h
          refine z_fVi (sX7_failTaken q7.2 (3 : Int32) hq18) dX6_readPlace_91 ml_X6_91 cd_X7_failTaken mk3 rfl rfl rfl rfl rfl rfl ?_
          cases h
          exact z_iret dX6_readPlace_94 rfl (bz_ok _) (Nat.le_refl _) (Nat.le_refl _) ⟨rfl, rfl⟩
      · have h := it_t h hc9
        refine z_iconst (v := (0 : Int32)) dX6_readPlace_68 kc_0 ?_
        cases h
        exact z_iret dX6_readPlace_69 rfl rfl (Nat.le_refl _) (Nat.le_refl _) ⟨rfl, rfl⟩
    · have h := it_t h hc6
      refine z_iconst (v := (0 : Int32)) dX6_readPlace_40 kc_0 ?_
      cases h
      exact z_iret dX6_readPlace_41 rfl rfl (Nat.le_refl _) (Nat.le_refl _) ⟨rfl, rfl⟩
  · have h := it_t h hc3
    refine z_iconst (v := (0 : Int32)) dX6_readPlace_15 kc_0 ?_
    cases h
    exact z_iret dX6_readPlace_16 rfl rfl (Nat.le_refl _) (Nat.le_refl _) ⟨rfl, rfl⟩
theorem dX7_takeEnd_0 : decode cX7_takeEnd 0 = .ok (.aload_n 0, 1) := by decide +kernel
theorem dX7_takeEnd_1 : decode cX7_takeEnd 1 = .ok (.iconst 0, 1) := by decide +kernel
theorem dX7_takeEnd_2 : decode cX7_takeEnd 2 = .ok (.invokevirtual 68, 3) := by decide +kernel
theorem dX7_takeEnd_5 : decode cX7_takeEnd 5 = .ok (.ifCond .ne 11, 3) := by decide +kernel
theorem dX7_takeEnd_8 : decode cX7_takeEnd 8 = .ok (.aload_n 0, 1) := by decide +kernel
theorem dX7_takeEnd_9 : decode cX7_takeEnd 9 = .ok (.iconst 1, 1) := by decide +kernel
theorem dX7_takeEnd_10 : decode cX7_takeEnd 10 = .ok (.invokevirtual 85, 3) := by decide +kernel
theorem dX7_takeEnd_13 : decode cX7_takeEnd 13 = .ok (.ifCond .eq 7, 3) := by decide +kernel
theorem dX7_takeEnd_16 : decode cX7_takeEnd 16 = .ok (.iconst 1, 1) := by decide +kernel
theorem dX7_takeEnd_17 : decode cX7_takeEnd 17 = .ok (.goto 4, 3) := by decide +kernel
theorem dX7_takeEnd_20 : decode cX7_takeEnd 20 = .ok (.iconst 0, 1) := by decide +kernel
theorem dX7_takeEnd_21 : decode cX7_takeEnd 21 = .ok (.ireturn, 1) := by decide +kernel
def fX7_takeEnd (M : Mm) : Option (Int32 × Mm) := (fX7_atKind M (0 : Int32)).bind fun q1 => if q1 = 0 then ((fX7_fail M (1 : Int32)).bind fun q4 => if q4.1 = 0 then some ((0 : Int32), q4.2) else some ((1 : Int32), q4.2)) else some ((1 : Int32), M)
set_option maxRecDepth 20000 in
set_option maxHeartbeats 2000000 in
theorem sX7_takeEnd {wv : Wv} (M : Mm) {res : (Int32 × Mm)} (h : fX7_takeEnd M  = some res) : TF wv yX7_takeEnd cX7_takeEnd 1 (some .boolean) 1 [.inr (3, 0, 0)] M (some (.int res.1)) res.2 := by
  rw [fX7_takeEnd] at h
  refine TF.go (n := 0) (ls := [some (.inr (3, 0, 0))]) rfl rfl rfl rfl rfl ?_
  refine z_aload_n (i := 0) dX7_takeEnd_0 rfl rfl ?_
  refine z_iconst (v := (0 : Int32)) dX7_takeEnd_1 kc_0 ?_
  obtain ⟨q1, hq2, h⟩ := bnd h
  refine z_fVi (sX7_atKind M (0 : Int32) hq2) dX7_takeEnd_2 ml_X7_68 cd_X7_atKind mk3 rfl rfl rfl rfl rfl rfl ?_
  refine z_if_ne (tgt := 16) dX7_takeEnd_5 rfl (fun hc3 => ?_) (fun hc3 => ?_)
  · have h := it_f h hc3
    refine z_iconst (v := (1 : Int32)) dX7_takeEnd_16 kc_1 ?_
    refine z_goto (tgt := 21) dX7_takeEnd_17 rfl ?_
    cases h
    exact z_iret dX7_takeEnd_21 rfl rfl (Nat.le_refl _) (Nat.le_refl _) ⟨rfl, rfl⟩
  · have h := it_t h hc3
    refine z_aload_n (i := 0) dX7_takeEnd_8 rfl rfl ?_
    refine z_iconst (v := (1 : Int32)) dX7_takeEnd_9 kc_1 ?_
    obtain ⟨q4, hq5, h⟩ := bnd h
    refine z_fVi (sX7_fail M (1 : Int32) hq5) dX7_takeEnd_10 ml_X7_85 cd_X7_fail mk3 rfl rfl rfl rfl rfl rfl ?_
    refine z_if_eq (tgt := 20) dX7_takeEnd_13 rfl (fun hc6 => ?_) (fun hc6 => ?_)
    · have h := it_t h hc6
      refine z_iconst (v := (0 : Int32)) dX7_takeEnd_20 kc_0 ?_
      cases h
      exact z_iret dX7_takeEnd_21 rfl rfl (Nat.le_refl _) (Nat.le_refl _) ⟨rfl, rfl⟩
    · have h := it_f h hc6
      refine z_iconst (v := (1 : Int32)) dX7_takeEnd_16 kc_1 ?_
      refine z_goto (tgt := 21) dX7_takeEnd_17 rfl ?_
      cases h
      exact z_iret dX7_takeEnd_21 rfl rfl (Nat.le_refl _) (Nat.le_refl _) ⟨rfl, rfl⟩
theorem dX6_readSetup_0 : decode cX6_readSetup 0 = .ok (.aload_n 0, 1) := by decide +kernel
theorem dX6_readSetup_1 : decode cX6_readSetup 1 = .ok (.getfield 9, 3) := by decide +kernel
theorem dX6_readSetup_4 : decode cX6_readSetup 4 = .ok (.invokevirtual 19, 3) := by decide +kernel
theorem dX6_readSetup_7 : decode cX6_readSetup 7 = .ok (.aload_n 0, 1) := by decide +kernel
theorem dX6_readSetup_8 : decode cX6_readSetup 8 = .ok (.invokevirtual 24, 3) := by decide +kernel
theorem dX6_readSetup_11 : decode cX6_readSetup 11 = .ok (.ifCond .eq 10, 3) := by decide +kernel
theorem dX6_readSetup_14 : decode cX6_readSetup 14 = .ok (.aload_n 0, 1) := by decide +kernel
theorem dX6_readSetup_15 : decode cX6_readSetup 15 = .ok (.invokevirtual 28, 3) := by decide +kernel
theorem dX6_readSetup_18 : decode cX6_readSetup 18 = .ok (.ifCond .ne 5, 3) := by decide +kernel
theorem dX6_readSetup_21 : decode cX6_readSetup 21 = .ok (.iconst 0, 1) := by decide +kernel
theorem dX6_readSetup_22 : decode cX6_readSetup 22 = .ok (.ireturn, 1) := by decide +kernel
theorem dX6_readSetup_23 : decode cX6_readSetup 23 = .ok (.iconst 0, 1) := by decide +kernel
theorem dX6_readSetup_24 : decode cX6_readSetup 24 = .ok (.istore_n 1, 1) := by decide +kernel
theorem dX6_readSetup_25 : decode cX6_readSetup 25 = .ok (.iload_n 1, 1) := by decide +kernel
theorem dX6_readSetup_26 : decode cX6_readSetup 26 = .ok (.bipush 12, 2) := by decide +kernel
theorem dX6_readSetup_28 : decode cX6_readSetup 28 = .ok (.if_icmp .ge 30, 3) := by decide +kernel
theorem dX6_readSetup_31 : decode cX6_readSetup 31 = .ok (.aload_n 0, 1) := by decide +kernel
theorem dX6_readSetup_32 : decode cX6_readSetup 32 = .ok (.getfield 9, 3) := by decide +kernel
theorem dX6_readSetup_35 : decode cX6_readSetup 35 = .ok (.ldc 31, 2) := by decide +kernel
theorem dX6_readSetup_37 : decode cX6_readSetup 37 = .ok (.invokevirtual 33, 3) := by decide +kernel
theorem dX6_readSetup_40 : decode cX6_readSetup 40 = .ok (.ifCond .eq 18, 3) := by decide +kernel
theorem dX6_readSetup_43 : decode cX6_readSetup 43 = .ok (.aload_n 0, 1) := by decide +kernel
theorem dX6_readSetup_44 : decode cX6_readSetup 44 = .ok (.invokevirtual 28, 3) := by decide +kernel
theorem dX6_readSetup_47 : decode cX6_readSetup 47 = .ok (.ifCond .ne 5, 3) := by decide +kernel
theorem dX6_readSetup_50 : decode cX6_readSetup 50 = .ok (.iconst 0, 1) := by decide +kernel
theorem dX6_readSetup_51 : decode cX6_readSetup 51 = .ok (.ireturn, 1) := by decide +kernel
theorem dX6_readSetup_52 : decode cX6_readSetup 52 = .ok (.iinc 1 1, 3) := by decide +kernel
theorem dX6_readSetup_55 : decode cX6_readSetup 55 = .ok (.goto (-30), 3) := by decide +kernel
theorem dX6_readSetup_58 : decode cX6_readSetup 58 = .ok (.iconst 0, 1) := by decide +kernel
theorem dX6_readSetup_59 : decode cX6_readSetup 59 = .ok (.istore_n 1, 1) := by decide +kernel
theorem dX6_readSetup_60 : decode cX6_readSetup 60 = .ok (.iload_n 1, 1) := by decide +kernel
theorem dX6_readSetup_61 : decode cX6_readSetup 61 = .ok (.sipush 800, 3) := by decide +kernel
theorem dX6_readSetup_64 : decode cX6_readSetup 64 = .ok (.if_icmp .ge 37, 3) := by decide +kernel
theorem dX6_readSetup_67 : decode cX6_readSetup 67 = .ok (.aload_n 0, 1) := by decide +kernel
theorem dX6_readSetup_68 : decode cX6_readSetup 68 = .ok (.getfield 9, 3) := by decide +kernel
theorem dX6_readSetup_71 : decode cX6_readSetup 71 = .ok (.ldc 37, 2) := by decide +kernel
theorem dX6_readSetup_73 : decode cX6_readSetup 73 = .ok (.invokevirtual 33, 3) := by decide +kernel
theorem dX6_readSetup_76 : decode cX6_readSetup 76 = .ok (.ifCond .eq 25, 3) := by decide +kernel
theorem dX6_readSetup_79 : decode cX6_readSetup 79 = .ok (.aload_n 0, 1) := by decide +kernel
theorem dX6_readSetup_80 : decode cX6_readSetup 80 = .ok (.getfield 9, 3) := by decide +kernel
theorem dX6_readSetup_83 : decode cX6_readSetup 83 = .ok (.invokevirtual 39, 3) := by decide +kernel
theorem dX6_readSetup_86 : decode cX6_readSetup 86 = .ok (.aload_n 0, 1) := by decide +kernel
theorem dX6_readSetup_87 : decode cX6_readSetup 87 = .ok (.invokevirtual 42, 3) := by decide +kernel
theorem dX6_readSetup_90 : decode cX6_readSetup 90 = .ok (.ifCond .ne 5, 3) := by decide +kernel
theorem dX6_readSetup_93 : decode cX6_readSetup 93 = .ok (.iconst 0, 1) := by decide +kernel
theorem dX6_readSetup_94 : decode cX6_readSetup 94 = .ok (.ireturn, 1) := by decide +kernel
theorem dX6_readSetup_95 : decode cX6_readSetup 95 = .ok (.iinc 1 1, 3) := by decide +kernel
theorem dX6_readSetup_98 : decode cX6_readSetup 98 = .ok (.goto (-38), 3) := by decide +kernel
theorem dX6_readSetup_101 : decode cX6_readSetup 101 = .ok (.aload_n 0, 1) := by decide +kernel
theorem dX6_readSetup_102 : decode cX6_readSetup 102 = .ok (.getfield 9, 3) := by decide +kernel
theorem dX6_readSetup_105 : decode cX6_readSetup 105 = .ok (.invokevirtual 45, 3) := by decide +kernel
theorem dX6_readSetup_108 : decode cX6_readSetup 108 = .ok (.ireturn, 1) := by decide +kernel
def fX6_readSetup_L25 (K : Int32 → Mm → Option (Int32 × Mm)) : Nat → Int32 → Mm → Option (Int32 × Mm)
  | 0, _, _ => none
  | n + 1, v1, M => if (12 : Int32) ≤ v1 then K v1 M else (fX7_atWord M 2).bind fun q10 => if q10 = 0 then K v1 M else (fX6_readTooth M).bind fun q13 => if q13.1 = 0 then some ((0 : Int32), q13.2) else fX6_readSetup_L25 K n (v1 + (1 : Int32)) q13.2
def fX6_readSetup_L60 (K : Int32 → Mm → Option (Int32 × Mm)) : Nat → Int32 → Mm → Option (Int32 × Mm)
  | 0, _, _ => none
  | n + 1, v1, M => if (800 : Int32) ≤ v1 then K v1 M else (fX7_atWord M 3).bind fun q19 => if q19 = 0 then K v1 M else (fX6_readPlace (fX7_advance M)).bind fun q22 => if q22.1 = 0 then some ((0 : Int32), q22.2) else fX6_readSetup_L60 K n (v1 + (1 : Int32)) q22.2
def fX6_readSetup (M : Mm) : Option (Int32 × Mm) := (fX7_scan M).bind fun q1 => (fX6_readHead q1).bind fun q3 => if q3.1 = 0 then some ((0 : Int32), q3.2) else (fX6_readTooth q3.2).bind fun q6 => if q6.1 = 0 then some ((0 : Int32), q6.2) else fX6_readSetup_L25 (fun w16 M17 => fX6_readSetup_L60 (fun w25 M26 => (fX7_takeEnd M26).bind fun q27 => some ((bz q27.1), q27.2)) NF (0 : Int32) M17) NF (0 : Int32) q6.2
set_option maxRecDepth 20000 in
set_option maxHeartbeats 2000000 in
theorem sX6_readSetup_L25 {wv : Wv} {res : (Int32 × Mm)} {K : Int32 → Mm → Option (Int32 × Mm)} : ∀ (n : Nat) (v1 : Int32) (M : Mm), fX6_readSetup_L25 K n v1 M = some res →
    (∀ (v1 : Int32) (M : Mm), K v1 M = some res → Z RX6 cX6_readSetup 2 (some .boolean) [] "readSetup" (rmD 10 0 0) (QM SH (allR wv) 0 0 (fun v M9 => v = some (.int res.1) ∧ M9 = res.2) (fun _ _ => False)) (allR wv) SH 0 0 58 [some (.inr (5, 0, 0)), some (.inl (.int v1))] [] M) → Z RX6 cX6_readSetup 2 (some .boolean) [] "readSetup" (rmD 10 0 0) (QM SH (allR wv) 0 0 (fun v M9 => v = some (.int res.1) ∧ M9 = res.2) (fun _ _ => False)) (allR wv) SH 0 0 25 [some (.inr (5, 0, 0)), some (.inl (.int v1))] [] M := by
  intro n
  induction n with
  | zero => intro v1 M h; cases h
  | succ n ih =>
    intro v1 M h hK
    rw [fX6_readSetup_L25] at h
    refine z_iload_n (i := 1) dX6_readSetup_25 rfl rfl ?_
    refine z_bipush (v := (12 : Int32)) dX6_readSetup_26 kb_12 ?_
    refine z_icmp_ge (tgt := 58) dX6_readSetup_28 rfl (fun hc9 => ?_) (fun hc9 => ?_)
    · have h := it_t h hc9
      exact hK _ _ h
    · have h := it_f h hc9
      refine z_aload_n (i := 0) dX6_readSetup_31 rfl rfl ?_
      refine z_getR (r' := (3, 0, 0)) dX6_readSetup_32 fl_X6_9 mk5 rfl rfl ?_
      refine z_ldcS (j := 2) dX6_readSetup_35 sw_RX6_31 ?_
      obtain ⟨q10, hq11, h⟩ := bnd h
      refine z_fVi (sX7_atWord M 2 (Nat.le_of_ble_eq_true rfl) hq11) dX6_readSetup_37 ml_X6_33 cd_X7_atWord mk3 rfl rfl rfl rfl rfl rfl ?_
      refine z_if_eq (tgt := 58) dX6_readSetup_40 rfl (fun hc12 => ?_) (fun hc12 => ?_)
      · have h := it_t h hc12
        exact hK _ _ h
      · have h := it_f h hc12
        refine z_aload_n (i := 0) dX6_readSetup_43 rfl rfl ?_
        obtain ⟨q13, hq14, h⟩ := bnd h
        refine z_fVi (sX6_readTooth M hq14) dX6_readSetup_44 ml_X6_28 cd_X6_readTooth mk5 rfl rfl rfl rfl rfl rfl ?_
        refine z_if_ne (tgt := 52) dX6_readSetup_47 rfl (fun hc15 => ?_) (fun hc15 => ?_)
        · have h := it_f h hc15
          refine z_iinc (i := 1) (v := (v1 + (1 : Int32))) dX6_readSetup_52 rfl (iinc_k kc_1) (Nat.le_of_ble_eq_true rfl) rfl ?_
          refine z_goto (tgt := 25) dX6_readSetup_55 rfl ?_
          exact ih _ _ h hK
        · have h := it_t h hc15
          refine z_iconst (v := (0 : Int32)) dX6_readSetup_50 kc_0 ?_
          cases h
          exact z_iret dX6_readSetup_51 rfl rfl (Nat.le_refl _) (Nat.le_refl _) ⟨rfl, rfl⟩
set_option maxRecDepth 20000 in
set_option maxHeartbeats 2000000 in
theorem sX6_readSetup_L60 {wv : Wv} {res : (Int32 × Mm)} {K : Int32 → Mm → Option (Int32 × Mm)} : ∀ (n : Nat) (v1 : Int32) (M : Mm), fX6_readSetup_L60 K n v1 M = some res →
    (∀ (v1 : Int32) (M : Mm), K v1 M = some res → Z RX6 cX6_readSetup 2 (some .boolean) [] "readSetup" (rmD 10 0 0) (QM SH (allR wv) 0 0 (fun v M9 => v = some (.int res.1) ∧ M9 = res.2) (fun _ _ => False)) (allR wv) SH 0 0 101 [some (.inr (5, 0, 0)), some (.inl (.int v1))] [] M) → Z RX6 cX6_readSetup 2 (some .boolean) [] "readSetup" (rmD 10 0 0) (QM SH (allR wv) 0 0 (fun v M9 => v = some (.int res.1) ∧ M9 = res.2) (fun _ _ => False)) (allR wv) SH 0 0 60 [some (.inr (5, 0, 0)), some (.inl (.int v1))] [] M := by
  intro n
  induction n with
  | zero => intro v1 M h; cases h
  | succ n ih =>
    intro v1 M h hK
    rw [fX6_readSetup_L60] at h
    refine z_iload_n (i := 1) dX6_readSetup_60 rfl rfl ?_
    refine z_sipush (v := (800 : Int32)) dX6_readSetup_61 ks_800 ?_
    refine z_icmp_ge (tgt := 101) dX6_readSetup_64 rfl (fun hc18 => ?_) (fun hc18 => ?_)
    · have h := it_t h hc18
      exact hK _ _ h
    · have h := it_f h hc18
      refine z_aload_n (i := 0) dX6_readSetup_67 rfl rfl ?_
      refine z_getR (r' := (3, 0, 0)) dX6_readSetup_68 fl_X6_9 mk5 rfl rfl ?_
      refine z_ldcS (j := 3) dX6_readSetup_71 sw_RX6_37 ?_
      obtain ⟨q19, hq20, h⟩ := bnd h
      refine z_fVi (sX7_atWord M 3 (Nat.le_of_ble_eq_true rfl) hq20) dX6_readSetup_73 ml_X6_33 cd_X7_atWord mk3 rfl rfl rfl rfl rfl rfl ?_
      refine z_if_eq (tgt := 101) dX6_readSetup_76 rfl (fun hc21 => ?_) (fun hc21 => ?_)
      · have h := it_t h hc21
        exact hK _ _ h
      · have h := it_f h hc21
        refine z_aload_n (i := 0) dX6_readSetup_79 rfl rfl ?_
        refine z_getR (r' := (3, 0, 0)) dX6_readSetup_80 fl_X6_9 mk5 rfl rfl ?_
        refine z_fVv (sX7_advance M) dX6_readSetup_83 ml_X6_39 cd_X7_advance mk3 rfl rfl rfl rfl rfl rfl ?_
        refine z_aload_n (i := 0) dX6_readSetup_86 rfl rfl ?_
        obtain ⟨q22, hq23, h⟩ := bnd h
        refine z_fVi (sX6_readPlace (fX7_advance M) hq23) dX6_readSetup_87 ml_X6_42 cd_X6_readPlace mk5 rfl rfl rfl rfl rfl rfl ?_
        refine z_if_ne (tgt := 95) dX6_readSetup_90 rfl (fun hc24 => ?_) (fun hc24 => ?_)
        · have h := it_f h hc24
          refine z_iinc (i := 1) (v := (v1 + (1 : Int32))) dX6_readSetup_95 rfl (iinc_k kc_1) (Nat.le_of_ble_eq_true rfl) rfl ?_
          refine z_goto (tgt := 60) dX6_readSetup_98 rfl ?_
          exact ih _ _ h hK
        · have h := it_t h hc24
          refine z_iconst (v := (0 : Int32)) dX6_readSetup_93 kc_0 ?_
          cases h
          exact z_iret dX6_readSetup_94 rfl rfl (Nat.le_refl _) (Nat.le_refl _) ⟨rfl, rfl⟩
set_option maxRecDepth 20000 in
set_option maxHeartbeats 2000000 in
theorem sX6_readSetup {wv : Wv} (M : Mm) {res : (Int32 × Mm)} (h : fX6_readSetup M  = some res) : TF wv yX6_readSetup cX6_readSetup 2 (some .boolean) 10 [.inr (5, 0, 0)] M (some (.int res.1)) res.2 := by
  rw [fX6_readSetup] at h
  refine TF.go (n := 1) (ls := [some (.inr (5, 0, 0)), none]) rfl rfl rfl rfl rfl ?_
  refine z_aload_n (i := 0) dX6_readSetup_0 rfl rfl ?_
  refine z_getR (r' := (3, 0, 0)) dX6_readSetup_1 fl_X6_9 mk5 rfl rfl ?_
  obtain ⟨q1, hq2, h⟩ := bnd h
  refine z_fVv (sX7_scan M hq2) dX6_readSetup_4 ml_X6_19 cd_X7_scan mk3 rfl rfl rfl rfl rfl rfl ?_
  refine z_aload_n (i := 0) dX6_readSetup_7 rfl rfl ?_
  obtain ⟨q3, hq4, h⟩ := bnd h
  refine z_fVi (sX6_readHead q1 hq4) dX6_readSetup_8 ml_X6_24 cd_X6_readHead mk5 rfl rfl rfl rfl rfl rfl ?_
  refine z_if_eq (tgt := 21) dX6_readSetup_11 rfl (fun hc5 => ?_) (fun hc5 => ?_)
  · have h := it_t h hc5
    refine z_iconst (v := (0 : Int32)) dX6_readSetup_21 kc_0 ?_
    cases h
    exact z_iret dX6_readSetup_22 rfl rfl (Nat.le_refl _) (Nat.le_refl _) ⟨rfl, rfl⟩
  · have h := it_f h hc5
    refine z_aload_n (i := 0) dX6_readSetup_14 rfl rfl ?_
    obtain ⟨q6, hq7, h⟩ := bnd h
    refine z_fVi (sX6_readTooth q3.2 hq7) dX6_readSetup_15 ml_X6_28 cd_X6_readTooth mk5 rfl rfl rfl rfl rfl rfl ?_
    refine z_if_ne (tgt := 23) dX6_readSetup_18 rfl (fun hc8 => ?_) (fun hc8 => ?_)
    · have h := it_f h hc8
      refine z_iconst (v := (0 : Int32)) dX6_readSetup_23 kc_0 ?_
      refine z_istore_n (i := 1) dX6_readSetup_24 rfl (Nat.le_of_ble_eq_true rfl) rfl ?_
      refine sX6_readSetup_L25  NF _ _ h (fun w16 M17 h => ?_)
      refine z_iconst (v := (0 : Int32)) dX6_readSetup_58 kc_0 ?_
      refine z_istore_n (i := 1) dX6_readSetup_59 rfl (Nat.le_of_ble_eq_true rfl) rfl ?_
      refine sX6_readSetup_L60  NF _ _ h (fun w25 M26 h => ?_)
      refine z_aload_n (i := 0) dX6_readSetup_101 rfl rfl ?_
      refine z_getR (r' := (3, 0, 0)) dX6_readSetup_102 fl_X6_9 mk5 rfl rfl ?_
      obtain ⟨q27, hq28, h⟩ := bnd h
      refine z_fVi (sX7_takeEnd M26 hq28) dX6_readSetup_105 ml_X6_45 cd_X7_takeEnd mk3 rfl rfl rfl rfl rfl rfl ?_
      cases h
      exact z_iret dX6_readSetup_108 rfl (bz_ok _) (Nat.le_refl _) (Nat.le_refl _) ⟨rfl, rfl⟩
    · have h := it_t h hc8
      refine z_iconst (v := (0 : Int32)) dX6_readSetup_21 kc_0 ?_
      cases h
      exact z_iret dX6_readSetup_22 rfl rfl (Nat.le_refl _) (Nat.le_refl _) ⟨rfl, rfl⟩
theorem dX9_bytesIn_0 : decode cX9_bytesIn 0 = .ok (.iconst 0, 1) := by decide +kernel
theorem dX9_bytesIn_1 : decode cX9_bytesIn 1 = .ok (.istore_n 1, 1) := by decide +kernel
theorem dX9_bytesIn_2 : decode cX9_bytesIn 2 = .ok (.bipush 24, 2) := by decide +kernel
theorem dX9_bytesIn_4 : decode cX9_bytesIn 4 = .ok (.istore_n 2, 1) := by decide +kernel
theorem dX9_bytesIn_5 : decode cX9_bytesIn 5 = .ok (.iload_n 2, 1) := by decide +kernel
theorem dX9_bytesIn_6 : decode cX9_bytesIn 6 = .ok (.ifCond .lt 22, 3) := by decide +kernel
theorem dX9_bytesIn_9 : decode cX9_bytesIn 9 = .ok (.iload_n 0, 1) := by decide +kernel
theorem dX9_bytesIn_10 : decode cX9_bytesIn 10 = .ok (.iload_n 2, 1) := by decide +kernel
theorem dX9_bytesIn_11 : decode cX9_bytesIn 11 = .ok (.iushr, 1) := by decide +kernel
theorem dX9_bytesIn_12 : decode cX9_bytesIn 12 = .ok (.sipush 255, 3) := by decide +kernel
theorem dX9_bytesIn_15 : decode cX9_bytesIn 15 = .ok (.iand, 1) := by decide +kernel
theorem dX9_bytesIn_16 : decode cX9_bytesIn 16 = .ok (.ifCond .eq 6, 3) := by decide +kernel
theorem dX9_bytesIn_19 : decode cX9_bytesIn 19 = .ok (.iinc 1 1, 3) := by decide +kernel
theorem dX9_bytesIn_22 : decode cX9_bytesIn 22 = .ok (.iinc 2 (-8), 3) := by decide +kernel
theorem dX9_bytesIn_25 : decode cX9_bytesIn 25 = .ok (.goto (-20), 3) := by decide +kernel
theorem dX9_bytesIn_28 : decode cX9_bytesIn 28 = .ok (.iload_n 1, 1) := by decide +kernel
theorem dX9_bytesIn_29 : decode cX9_bytesIn 29 = .ok (.ireturn, 1) := by decide +kernel
def fX9_bytesIn_L5 (M : Mm) (c0 : Int32) (K : Int32 → Int32 → Option Int32) : Nat → Int32 → Int32 → Option Int32
  | 0, _, _ => none
  | n + 1, v1, v2 => if v2 < 0 then K v1 v2 else if (((c0.toUInt32 >>> (v2.toUInt32 &&& Int32.toUInt32 31)).toInt32) &&& (255 : Int32)) = 0 then fX9_bytesIn_L5 M c0 K n v1 (v2 + (-8 : Int32)) else fX9_bytesIn_L5 M c0 K n (v1 + (1 : Int32)) (v2 + (-8 : Int32))
def fX9_bytesIn (M : Mm) (x1 : Int32) : Option Int32 := fX9_bytesIn_L5 M x1 (fun w3 w4 => some w3) NF (0 : Int32) (24 : Int32)
set_option maxRecDepth 20000 in
set_option maxHeartbeats 2000000 in
theorem sX9_bytesIn_L5 {wv : Wv} (M : Mm) (c0 : Int32) {res : Int32} {K : Int32 → Int32 → Option Int32} : ∀ (n : Nat) (v1 : Int32) (v2 : Int32), fX9_bytesIn_L5 M c0 K n v1 v2 = some res →
    (∀ (v1 : Int32) (v2 : Int32), K v1 v2 = some res → Z RX9 cX9_bytesIn 3 (some .int) [] "bytesIn" (rmD 0 0 0) (QM SH (allR wv) 0 0 (fun v M9 => v = some (.int res) ∧ M9 = M) (fun _ _ => False)) (allR wv) SH 0 0 28 [some (.inl (.int c0)), some (.inl (.int v1)), some (.inl (.int v2))] [] M) → Z RX9 cX9_bytesIn 3 (some .int) [] "bytesIn" (rmD 0 0 0) (QM SH (allR wv) 0 0 (fun v M9 => v = some (.int res) ∧ M9 = M) (fun _ _ => False)) (allR wv) SH 0 0 5 [some (.inl (.int c0)), some (.inl (.int v1)), some (.inl (.int v2))] [] M := by
  intro n
  induction n with
  | zero => intro v1 v2 h; cases h
  | succ n ih =>
    intro v1 v2 h hK
    rw [fX9_bytesIn_L5] at h
    refine z_iload_n (i := 2) dX9_bytesIn_5 rfl rfl ?_
    refine z_if_lt (tgt := 28) dX9_bytesIn_6 rfl (fun hc1 => ?_) (fun hc1 => ?_)
    · have h := it_t h hc1
      exact hK _ _ h
    · have h := it_f h hc1
      refine z_iload_n (i := 0) dX9_bytesIn_9 rfl rfl ?_
      refine z_iload_n (i := 2) dX9_bytesIn_10 rfl rfl ?_
      refine z_iushr dX9_bytesIn_11 ?_
      refine z_sipush (v := (255 : Int32)) dX9_bytesIn_12 ks_255 ?_
      refine z_iand dX9_bytesIn_15 ?_
      refine z_if_eq (tgt := 22) dX9_bytesIn_16 rfl (fun hc2 => ?_) (fun hc2 => ?_)
      · have h := it_t h hc2
        refine z_iinc (i := 2) (v := (v2 + (-8 : Int32))) dX9_bytesIn_22 rfl (iinc_k kc_m8) (Nat.le_of_ble_eq_true rfl) rfl ?_
        refine z_goto (tgt := 5) dX9_bytesIn_25 rfl ?_
        exact ih _ _ h hK
      · have h := it_f h hc2
        refine z_iinc (i := 1) (v := (v1 + (1 : Int32))) dX9_bytesIn_19 rfl (iinc_k kc_1) (Nat.le_of_ble_eq_true rfl) rfl ?_
        refine z_iinc (i := 2) (v := (v2 + (-8 : Int32))) dX9_bytesIn_22 rfl (iinc_k kc_m8) (Nat.le_of_ble_eq_true rfl) rfl ?_
        refine z_goto (tgt := 5) dX9_bytesIn_25 rfl ?_
        exact ih _ _ h hK
set_option maxRecDepth 20000 in
set_option maxHeartbeats 2000000 in
theorem sX9_bytesIn {wv : Wv} (M : Mm) (x1 : Int32) {res : Int32} (h : fX9_bytesIn M x1 = some res) : TF wv yX9_bytesIn cX9_bytesIn 3 (some .int) 0 [.inl (.int x1)] M (some (.int res)) M := by
  rw [fX9_bytesIn] at h
  refine TF.go (n := 2) (ls := [some (.inl (.int x1)), none, none]) rfl rfl rfl rfl rfl ?_
  refine z_iconst (v := (0 : Int32)) dX9_bytesIn_0 kc_0 ?_
  refine z_istore_n (i := 1) dX9_bytesIn_1 rfl (Nat.le_of_ble_eq_true rfl) rfl ?_
  refine z_bipush (v := (24 : Int32)) dX9_bytesIn_2 kb_24 ?_
  refine z_istore_n (i := 2) dX9_bytesIn_4 rfl (Nat.le_of_ble_eq_true rfl) rfl ?_
  refine sX9_bytesIn_L5 M x1 NF _ _ h (fun w3 w4 h => ?_)
  refine z_iload_n (i := 1) dX9_bytesIn_28 rfl rfl ?_
  cases h
  exact z_iret dX9_bytesIn_29 rfl rfl (Nat.le_refl _) (Nat.le_refl _) ⟨rfl, rfl⟩
theorem dX9_putBytes_0 : decode cX9_putBytes 0 = .ok (.bipush 24, 2) := by decide +kernel
theorem dX9_putBytes_2 : decode cX9_putBytes 2 = .ok (.istore_n 2, 1) := by decide +kernel
theorem dX9_putBytes_3 : decode cX9_putBytes 3 = .ok (.iload_n 2, 1) := by decide +kernel
theorem dX9_putBytes_4 : decode cX9_putBytes 4 = .ok (.ifCond .lt 29, 3) := by decide +kernel
theorem dX9_putBytes_7 : decode cX9_putBytes 7 = .ok (.iload_n 1, 1) := by decide +kernel
theorem dX9_putBytes_8 : decode cX9_putBytes 8 = .ok (.iload_n 2, 1) := by decide +kernel
theorem dX9_putBytes_9 : decode cX9_putBytes 9 = .ok (.iushr, 1) := by decide +kernel
theorem dX9_putBytes_10 : decode cX9_putBytes 10 = .ok (.sipush 255, 3) := by decide +kernel
theorem dX9_putBytes_13 : decode cX9_putBytes 13 = .ok (.iand, 1) := by decide +kernel
theorem dX9_putBytes_14 : decode cX9_putBytes 14 = .ok (.istore_n 3, 1) := by decide +kernel
theorem dX9_putBytes_15 : decode cX9_putBytes 15 = .ok (.iload_n 3, 1) := by decide +kernel
theorem dX9_putBytes_16 : decode cX9_putBytes 16 = .ok (.ifCond .eq 11, 3) := by decide +kernel
theorem dX9_putBytes_19 : decode cX9_putBytes 19 = .ok (.aload_n 0, 1) := by decide +kernel
theorem dX9_putBytes_20 : decode cX9_putBytes 20 = .ok (.getfield 14, 3) := by decide +kernel
theorem dX9_putBytes_23 : decode cX9_putBytes 23 = .ok (.iload_n 3, 1) := by decide +kernel
theorem dX9_putBytes_24 : decode cX9_putBytes 24 = .ok (.invokevirtual 92, 3) := by decide +kernel
theorem dX9_putBytes_27 : decode cX9_putBytes 27 = .ok (.iinc 2 (-8), 3) := by decide +kernel
theorem dX9_putBytes_30 : decode cX9_putBytes 30 = .ok (.goto (-27), 3) := by decide +kernel
theorem dX9_putBytes_33 : decode cX9_putBytes 33 = .ok (.return_, 1) := by decide +kernel
def fX9_putBytes_L3 (c1 : Int32) (K : Int32 → Mm → Option Mm) : Nat → Int32 → Mm → Option Mm
  | 0, _, _ => none
  | n + 1, v2, M => if v2 < 0 then K v2 M else if (((c1.toUInt32 >>> (v2.toUInt32 &&& Int32.toUInt32 31)).toInt32) &&& (255 : Int32)) = 0 then fX9_putBytes_L3 c1 K n (v2 + (-8 : Int32)) M else (fX1_put M 0 (((c1.toUInt32 >>> (v2.toUInt32 &&& Int32.toUInt32 31)).toInt32) &&& (255 : Int32))).bind fun q3 => fX9_putBytes_L3 c1 K n (v2 + (-8 : Int32)) q3
def fX9_putBytes (M : Mm) (x1 : Int32) : Option Mm := fX9_putBytes_L3 x1 (fun w5 M6 => some M6) NF (24 : Int32) M
set_option maxRecDepth 20000 in
set_option maxHeartbeats 2000000 in
theorem sX9_putBytes_L3 {wv : Wv} (c1 : Int32) {res : Mm} {K : Int32 → Mm → Option Mm} : ∀ (n : Nat) (v2 : Int32) (M : Mm), fX9_putBytes_L3 c1 K n v2 M = some res →
    (∀ (v2 : Int32) (M : Mm), K v2 M = some res → Z RX9 cX9_putBytes 4 none [] "putBytes" (rmD 1 0 0) (QM SH (allR wv) 0 0 (fun v M9 => v = none ∧ M9 = res) (fun _ _ => False)) (allR wv) SH 0 0 33 [some (.inr (0, 0, 0)), some (.inl (.int c1)), some (.inl (.int v2)), none] [] M) → Z RX9 cX9_putBytes 4 none [] "putBytes" (rmD 1 0 0) (QM SH (allR wv) 0 0 (fun v M9 => v = none ∧ M9 = res) (fun _ _ => False)) (allR wv) SH 0 0 3 [some (.inr (0, 0, 0)), some (.inl (.int c1)), some (.inl (.int v2)), none] [] M := by
  intro n
  induction n with
  | zero => intro v2 M h; cases h
  | succ n ih =>
    intro v2 M h hK
    rw [fX9_putBytes_L3] at h
    refine z_iload_n (i := 2) dX9_putBytes_3 rfl rfl ?_
    refine z_if_lt (tgt := 33) dX9_putBytes_4 rfl (fun hc1 => ?_) (fun hc1 => ?_)
    · have h := it_t h hc1
      exact hK _ _ h
    · have h := it_f h hc1
      refine z_iload_n (i := 1) dX9_putBytes_7 rfl rfl ?_
      refine z_iload_n (i := 2) dX9_putBytes_8 rfl rfl ?_
      refine z_iushr dX9_putBytes_9 ?_
      refine z_sipush (v := (255 : Int32)) dX9_putBytes_10 ks_255 ?_
      refine z_iand dX9_putBytes_13 ?_
      refine z_istore_n (i := 3) dX9_putBytes_14 rfl (Nat.le_of_ble_eq_true rfl) rfl ?_
      refine z_iload_n (i := 3) dX9_putBytes_15 rfl rfl ?_
      refine z_if_eq (tgt := 27) dX9_putBytes_16 rfl (fun hc2 => ?_) (fun hc2 => ?_)
      · have h := it_t h hc2
        refine z_iinc (i := 2) (v := (v2 + (-8 : Int32))) dX9_putBytes_27 rfl (iinc_k kc_m8) (Nat.le_of_ble_eq_true rfl) rfl ?_
        refine z_goto (tgt := 3) dX9_putBytes_30 rfl ?_
        refine z_fgt (i := 3) ?_
        exact ih _ _ h hK
      · have h := it_f h hc2
        refine z_aload_n (i := 0) dX9_putBytes_19 rfl rfl ?_
        refine z_getR (r' := (1, 0, 0)) dX9_putBytes_20 fl_X9_14 mk0 rfl rfl ?_
        refine z_iload_n (i := 3) dX9_putBytes_23 rfl rfl ?_
        obtain ⟨q3, hq4, h⟩ := bnd h
        refine z_fVv (sX1_put M 0 (((c1.toUInt32 >>> (v2.toUInt32 &&& Int32.toUInt32 31)).toInt32) &&& (255 : Int32)) (Nat.le_of_ble_eq_true rfl) hq4) dX9_putBytes_24 ml_X9_92 cd_X1_put (m1 _ (Nat.le_of_ble_eq_true rfl)) rfl rfl rfl rfl rfl rfl ?_
        refine z_iinc (i := 2) (v := (v2 + (-8 : Int32))) dX9_putBytes_27 rfl (iinc_k kc_m8) (Nat.le_of_ble_eq_true rfl) rfl ?_
        refine z_goto (tgt := 3) dX9_putBytes_30 rfl ?_
        refine z_fgt (i := 3) ?_
        exact ih _ _ h hK
set_option maxRecDepth 20000 in
set_option maxHeartbeats 2000000 in
theorem sX9_putBytes {wv : Wv} (M : Mm) (x1 : Int32) {res : Mm} (h : fX9_putBytes M x1 = some res) : TF wv yX9_putBytes cX9_putBytes 4 none 1 [.inr (0, 0, 0), .inl (.int x1)] M (none) res := by
  rw [fX9_putBytes] at h
  refine TF.go (n := 2) (ls := [some (.inr (0, 0, 0)), some (.inl (.int x1)), none, none]) rfl rfl rfl rfl rfl ?_
  refine z_bipush (v := (24 : Int32)) dX9_putBytes_0 kb_24 ?_
  refine z_istore_n (i := 2) dX9_putBytes_2 rfl (Nat.le_of_ble_eq_true rfl) rfl ?_
  refine sX9_putBytes_L3 x1 NF _ _ h (fun w5 M6 h => ?_)
  cases h
  exact z_vret dX9_putBytes_33 rfl (Nat.le_refl _) (Nat.le_refl _) ⟨rfl, rfl⟩
