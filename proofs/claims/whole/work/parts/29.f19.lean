theorem dX10_pinning_0 : decode cX10_pinning 0 = .ok (.aload_n 0, 1) := by decide +kernel
theorem dX10_pinning_1 : decode cX10_pinning 1 = .ok (.aload_n 0, 1) := by decide +kernel
theorem dX10_pinning_2 : decode cX10_pinning 2 = .ok (.iload_n 1, 1) := by decide +kernel
theorem dX10_pinning_3 : decode cX10_pinning 3 = .ok (.invokevirtual 288, 3) := by decide +kernel
theorem dX10_pinning_6 : decode cX10_pinning 6 = .ok (.ifCond .eq 23, 3) := by decide +kernel
theorem dX10_pinning_9 : decode cX10_pinning 9 = .ok (.aload_n 0, 1) := by decide +kernel
theorem dX10_pinning_10 : decode cX10_pinning 10 = .ok (.iload_n 2, 1) := by decide +kernel
theorem dX10_pinning_11 : decode cX10_pinning 11 = .ok (.invokevirtual 291, 3) := by decide +kernel
theorem dX10_pinning_14 : decode cX10_pinning 14 = .ok (.ifCond .eq 15, 3) := by decide +kernel
theorem dX10_pinning_17 : decode cX10_pinning 17 = .ok (.aload_n 0, 1) := by decide +kernel
theorem dX10_pinning_18 : decode cX10_pinning 18 = .ok (.iload_n 3, 1) := by decide +kernel
theorem dX10_pinning_19 : decode cX10_pinning 19 = .ok (.invokevirtual 294, 3) := by decide +kernel
theorem dX10_pinning_22 : decode cX10_pinning 22 = .ok (.ifCond .eq 7, 3) := by decide +kernel
theorem dX10_pinning_25 : decode cX10_pinning 25 = .ok (.iconst 1, 1) := by decide +kernel
theorem dX10_pinning_26 : decode cX10_pinning 26 = .ok (.goto 4, 3) := by decide +kernel
theorem dX10_pinning_29 : decode cX10_pinning 29 = .ok (.iconst 0, 1) := by decide +kernel
theorem dX10_pinning_30 : decode cX10_pinning 30 = .ok (.iconst 1, 1) := by decide +kernel
theorem dX10_pinning_31 : decode cX10_pinning 31 = .ok (.invokevirtual 127, 3) := by decide +kernel
theorem dX10_pinning_34 : decode cX10_pinning 34 = .ok (.ifCond .eq 28, 3) := by decide +kernel
theorem dX10_pinning_37 : decode cX10_pinning 37 = .ok (.aload_n 0, 1) := by decide +kernel
theorem dX10_pinning_38 : decode cX10_pinning 38 = .ok (.aload_n 0, 1) := by decide +kernel
theorem dX10_pinning_39 : decode cX10_pinning 39 = .ok (.iload_n 1, 1) := by decide +kernel
theorem dX10_pinning_40 : decode cX10_pinning 40 = .ok (.iload_n 2, 1) := by decide +kernel
theorem dX10_pinning_41 : decode cX10_pinning 41 = .ok (.iload_n 3, 1) := by decide +kernel
theorem dX10_pinning_42 : decode cX10_pinning 42 = .ok (.invokevirtual 93, 3) := by decide +kernel
theorem dX10_pinning_45 : decode cX10_pinning 45 = .ok (.iload 4, 2) := by decide +kernel
theorem dX10_pinning_47 : decode cX10_pinning 47 = .ok (.if_icmp .eq 7, 3) := by decide +kernel
theorem dX10_pinning_50 : decode cX10_pinning 50 = .ok (.iconst 1, 1) := by decide +kernel
theorem dX10_pinning_51 : decode cX10_pinning 51 = .ok (.goto 4, 3) := by decide +kernel
theorem dX10_pinning_54 : decode cX10_pinning 54 = .ok (.iconst 0, 1) := by decide +kernel
theorem dX10_pinning_55 : decode cX10_pinning 55 = .ok (.iconst 2, 1) := by decide +kernel
theorem dX10_pinning_56 : decode cX10_pinning 56 = .ok (.invokevirtual 127, 3) := by decide +kernel
theorem dX10_pinning_59 : decode cX10_pinning 59 = .ok (.ifCond .ne 5, 3) := by decide +kernel
theorem dX10_pinning_62 : decode cX10_pinning 62 = .ok (.iconst 0, 1) := by decide +kernel
theorem dX10_pinning_63 : decode cX10_pinning 63 = .ok (.ireturn, 1) := by decide +kernel
theorem dX10_pinning_64 : decode cX10_pinning 64 = .ok (.aload_n 0, 1) := by decide +kernel
theorem dX10_pinning_65 : decode cX10_pinning 65 = .ok (.invokevirtual 344, 3) := by decide +kernel
theorem dX10_pinning_68 : decode cX10_pinning 68 = .ok (.aload_n 0, 1) := by decide +kernel
theorem dX10_pinning_69 : decode cX10_pinning 69 = .ok (.iload_n 1, 1) := by decide +kernel
theorem dX10_pinning_70 : decode cX10_pinning 70 = .ok (.iload_n 3, 1) := by decide +kernel
theorem dX10_pinning_71 : decode cX10_pinning 71 = .ok (.aload_n 0, 1) := by decide +kernel
theorem dX10_pinning_72 : decode cX10_pinning 72 = .ok (.iload_n 1, 1) := by decide +kernel
theorem dX10_pinning_73 : decode cX10_pinning 73 = .ok (.iload_n 3, 1) := by decide +kernel
theorem dX10_pinning_74 : decode cX10_pinning 74 = .ok (.invokevirtual 86, 3) := by decide +kernel
theorem dX10_pinning_77 : decode cX10_pinning 77 = .ok (.iconst 1, 1) := by decide +kernel
theorem dX10_pinning_78 : decode cX10_pinning 78 = .ok (.iload_n 2, 1) := by decide +kernel
theorem dX10_pinning_79 : decode cX10_pinning 79 = .ok (.ishl, 1) := by decide +kernel
theorem dX10_pinning_80 : decode cX10_pinning 80 = .ok (.ixor, 1) := by decide +kernel
theorem dX10_pinning_81 : decode cX10_pinning 81 = .ok (.invokevirtual 185, 3) := by decide +kernel
theorem dX10_pinning_84 : decode cX10_pinning 84 = .ok (.aload_n 0, 1) := by decide +kernel
theorem dX10_pinning_85 : decode cX10_pinning 85 = .ok (.iload_n 1, 1) := by decide +kernel
theorem dX10_pinning_86 : decode cX10_pinning 86 = .ok (.invokevirtual 306, 3) := by decide +kernel
theorem dX10_pinning_89 : decode cX10_pinning 89 = .ok (.ireturn, 1) := by decide +kernel
def fX10_pinning (M : Mm) (x1 : Int32) (x2 : Int32) (x3 : Int32) (x4 : Int32) : Option (Int32 × Mm) := if (fX10_isTune M x1) = 0 then ((fX10_right M (0 : Int32) (1 : Int32)).bind fun q2 => if q2.1 = 0 then some ((0 : Int32), q2.2) else (fX10_has q2.2 x1 x2 x3).bind fun q5 => if q5 = x4 then ((fX10_right q2.2 (0 : Int32) (2 : Int32)).bind fun q8 => if q8.1 = 0 then some ((0 : Int32), q8.2) else (fX10_changes q8.2).bind fun q11 => (fX10_set q11 x1 x3).bind fun q13 => (fX10_putSet q11 x1 x3 (q13 ^^^ ((1 : Int32) <<< (x2 &&& 31)))).bind fun q15 => (fX10_pins q15 x1).bind fun q17 => some (q17, q15)) else (fX10_right q2.2 (1 : Int32) (2 : Int32)).bind fun q19 => if q19.1 = 0 then some ((0 : Int32), q19.2) else (fX10_changes q19.2).bind fun q22 => (fX10_set q22 x1 x3).bind fun q24 => (fX10_putSet q22 x1 x3 (q24 ^^^ ((1 : Int32) <<< (x2 &&& 31)))).bind fun q26 => (fX10_pins q26 x1).bind fun q28 => some (q28, q26)) else if (fX10_isTooth M x2) = 0 then ((fX10_right M (0 : Int32) (1 : Int32)).bind fun q31 => if q31.1 = 0 then some ((0 : Int32), q31.2) else (fX10_has q31.2 x1 x2 x3).bind fun q34 => if q34 = x4 then ((fX10_right q31.2 (0 : Int32) (2 : Int32)).bind fun q37 => if q37.1 = 0 then some ((0 : Int32), q37.2) else (fX10_changes q37.2).bind fun q40 => (fX10_set q40 x1 x3).bind fun q42 => (fX10_putSet q40 x1 x3 (q42 ^^^ ((1 : Int32) <<< (x2 &&& 31)))).bind fun q44 => (fX10_pins q44 x1).bind fun q46 => some (q46, q44)) else (fX10_right q31.2 (1 : Int32) (2 : Int32)).bind fun q48 => if q48.1 = 0 then some ((0 : Int32), q48.2) else (fX10_changes q48.2).bind fun q51 => (fX10_set q51 x1 x3).bind fun q53 => (fX10_putSet q51 x1 x3 (q53 ^^^ ((1 : Int32) <<< (x2 &&& 31)))).bind fun q55 => (fX10_pins q55 x1).bind fun q57 => some (q57, q55)) else if (fX10_isStep M x3) = 0 then ((fX10_right M (0 : Int32) (1 : Int32)).bind fun q60 => if q60.1 = 0 then some ((0 : Int32), q60.2) else (fX10_has q60.2 x1 x2 x3).bind fun q63 => if q63 = x4 then ((fX10_right q60.2 (0 : Int32) (2 : Int32)).bind fun q66 => if q66.1 = 0 then some ((0 : Int32), q66.2) else (fX10_changes q66.2).bind fun q69 => (fX10_set q69 x1 x3).bind fun q71 => (fX10_putSet q69 x1 x3 (q71 ^^^ ((1 : Int32) <<< (x2 &&& 31)))).bind fun q73 => (fX10_pins q73 x1).bind fun q75 => some (q75, q73)) else (fX10_right q60.2 (1 : Int32) (2 : Int32)).bind fun q77 => if q77.1 = 0 then some ((0 : Int32), q77.2) else (fX10_changes q77.2).bind fun q80 => (fX10_set q80 x1 x3).bind fun q82 => (fX10_putSet q80 x1 x3 (q82 ^^^ ((1 : Int32) <<< (x2 &&& 31)))).bind fun q84 => (fX10_pins q84 x1).bind fun q86 => some (q86, q84)) else (fX10_right M (1 : Int32) (1 : Int32)).bind fun q88 => if q88.1 = 0 then some ((0 : Int32), q88.2) else (fX10_has q88.2 x1 x2 x3).bind fun q91 => if q91 = x4 then ((fX10_right q88.2 (0 : Int32) (2 : Int32)).bind fun q94 => if q94.1 = 0 then some ((0 : Int32), q94.2) else (fX10_changes q94.2).bind fun q97 => (fX10_set q97 x1 x3).bind fun q99 => (fX10_putSet q97 x1 x3 (q99 ^^^ ((1 : Int32) <<< (x2 &&& 31)))).bind fun q101 => (fX10_pins q101 x1).bind fun q103 => some (q103, q101)) else (fX10_right q88.2 (1 : Int32) (2 : Int32)).bind fun q105 => if q105.1 = 0 then some ((0 : Int32), q105.2) else (fX10_changes q105.2).bind fun q108 => (fX10_set q108 x1 x3).bind fun q110 => (fX10_putSet q108 x1 x3 (q110 ^^^ ((1 : Int32) <<< (x2 &&& 31)))).bind fun q112 => (fX10_pins q112 x1).bind fun q114 => some (q114, q112)
set_option maxRecDepth 20000 in
set_option maxHeartbeats 2000000 in
theorem sX10_pinning {wv : Nat} (M : Mm) (x1 : Int32) (x2 : Int32) (x3 : Int32) (x4 : Int32) {res : (Int32 × Mm)} (h : fX10_pinning M x1 x2 x3 x4 = some res) : TF (wv + 1) yX10_pinning cX10_pinning 5 (some .int) 3 [.inr (18, 0, 0), .inl (.int x1), .inl (.int x2), .inl (.int x3), .inl (.int x4)] M (some (.int res.1)) res.2 := by
  rw [fX10_pinning] at h
  refine TF.go (n := 0) (ls := [some (.inr (18, 0, 0)), some (.inl (.int x1)), some (.inl (.int x2)), some (.inl (.int x3)), some (.inl (.int x4))]) rfl rfl rfl rfl rfl ?_
  refine z_aload_n (i := 0) dX10_pinning_0 rfl rfl ?_
  refine z_aload_n (i := 0) dX10_pinning_1 rfl rfl ?_
  refine z_iload_n (i := 1) dX10_pinning_2 rfl rfl ?_
  refine z_fVi (sX10_isTune M x1) dX10_pinning_3 ml_X10_288 cd_X10_isTune mk18 rfl rfl rfl rfl rfl rfl ?_
  refine z_if_eq (tgt := 29) dX10_pinning_6 rfl (fun hc1 => ?_) (fun hc1 => ?_)
  · have h := it_t h hc1
    refine z_iconst (v := (0 : Int32)) dX10_pinning_29 kc_0 ?_
    refine z_iconst (v := (1 : Int32)) dX10_pinning_30 kc_1 ?_
    obtain ⟨q2, hq3, h⟩ := bnd h
    refine z_fVi (sX10_right M (0 : Int32) (1 : Int32) hq3) dX10_pinning_31 ml_X10_127 cd_X10_right mk18 rfl rfl rfl rfl rfl rfl ?_
    refine z_if_eq (tgt := 62) dX10_pinning_34 rfl (fun hc4 => ?_) (fun hc4 => ?_)
    · have h := it_t h hc4
      refine z_iconst (v := (0 : Int32)) dX10_pinning_62 kc_0 ?_
      cases h
      exact z_iret dX10_pinning_63 rfl rfl (Nat.le_refl _) (Nat.le_refl _) ⟨rfl, rfl⟩
    · have h := it_f h hc4
      refine z_aload_n (i := 0) dX10_pinning_37 rfl rfl ?_
      refine z_aload_n (i := 0) dX10_pinning_38 rfl rfl ?_
      refine z_iload_n (i := 1) dX10_pinning_39 rfl rfl ?_
      refine z_iload_n (i := 2) dX10_pinning_40 rfl rfl ?_
      refine z_iload_n (i := 3) dX10_pinning_41 rfl rfl ?_
      obtain ⟨q5, hq6, h⟩ := bnd h
      refine z_fVi (sX10_has q2.2 x1 x2 x3 hq6) dX10_pinning_42 ml_X10_93 cd_X10_has mk18 rfl rfl rfl rfl rfl rfl ?_
      refine z_iload (i := 4) dX10_pinning_45 rfl ?_
      refine z_icmp_eq (tgt := 54) dX10_pinning_47 rfl (fun hc7 => ?_) (fun hc7 => ?_)
      · have h := it_t h hc7
        refine z_iconst (v := (0 : Int32)) dX10_pinning_54 kc_0 ?_
        refine z_iconst (v := (2 : Int32)) dX10_pinning_55 kc_2 ?_
        obtain ⟨q8, hq9, h⟩ := bnd h
        refine z_fVi (sX10_right q2.2 (0 : Int32) (2 : Int32) hq9) dX10_pinning_56 ml_X10_127 cd_X10_right mk18 rfl rfl rfl rfl rfl rfl ?_
        refine z_if_ne (tgt := 64) dX10_pinning_59 rfl (fun hc10 => ?_) (fun hc10 => ?_)
        · have h := it_f h hc10
          refine z_aload_n (i := 0) dX10_pinning_64 rfl rfl ?_
          obtain ⟨q11, hq12, h⟩ := bnd h
          refine z_fVv (sX10_changes q8.2 hq12) dX10_pinning_65 ml_X10_344 cd_X10_changes mk18 rfl rfl rfl rfl rfl rfl ?_
          refine z_aload_n (i := 0) dX10_pinning_68 rfl rfl ?_
          refine z_iload_n (i := 1) dX10_pinning_69 rfl rfl ?_
          refine z_iload_n (i := 3) dX10_pinning_70 rfl rfl ?_
          refine z_aload_n (i := 0) dX10_pinning_71 rfl rfl ?_
          refine z_iload_n (i := 1) dX10_pinning_72 rfl rfl ?_
          refine z_iload_n (i := 3) dX10_pinning_73 rfl rfl ?_
          obtain ⟨q13, hq14, h⟩ := bnd h
          refine z_fVi (sX10_set q11 x1 x3 hq14) dX10_pinning_74 ml_X10_86 cd_X10_set mk18 rfl rfl rfl rfl rfl rfl ?_
          refine z_iconst (v := (1 : Int32)) dX10_pinning_77 kc_1 ?_
          refine z_iload_n (i := 2) dX10_pinning_78 rfl rfl ?_
          refine z_ishl dX10_pinning_79 ?_
          refine z_ixor dX10_pinning_80 ?_
          obtain ⟨q15, hq16, h⟩ := bnd h
          refine z_fVv (sX10_putSet q11 x1 x3 (q13 ^^^ ((1 : Int32) <<< (x2 &&& 31))) hq16) dX10_pinning_81 ml_X10_185 cd_X10_putSet mk18 rfl rfl rfl rfl rfl rfl ?_
          refine z_aload_n (i := 0) dX10_pinning_84 rfl rfl ?_
          refine z_iload_n (i := 1) dX10_pinning_85 rfl rfl ?_
          obtain ⟨q17, hq18, h⟩ := bnd h
          refine z_fVi (sX10_pins q15 x1 hq18) dX10_pinning_86 ml_X10_306 cd_X10_pins mk18 rfl rfl rfl rfl rfl rfl ?_
          cases h
          exact z_iret dX10_pinning_89 rfl rfl (Nat.le_refl _) (Nat.le_refl _) ⟨rfl, rfl⟩
        · have h := it_t h hc10
          refine z_iconst (v := (0 : Int32)) dX10_pinning_62 kc_0 ?_
          cases h
          exact z_iret dX10_pinning_63 rfl rfl (Nat.le_refl _) (Nat.le_refl _) ⟨rfl, rfl⟩
      · have h := it_f h hc7
        refine z_iconst (v := (1 : Int32)) dX10_pinning_50 kc_1 ?_
        refine z_goto (tgt := 55) dX10_pinning_51 rfl ?_
        refine z_iconst (v := (2 : Int32)) dX10_pinning_55 kc_2 ?_
        obtain ⟨q19, hq20, h⟩ := bnd h
        refine z_fVi (sX10_right q2.2 (1 : Int32) (2 : Int32) hq20) dX10_pinning_56 ml_X10_127 cd_X10_right mk18 rfl rfl rfl rfl rfl rfl ?_
        refine z_if_ne (tgt := 64) dX10_pinning_59 rfl (fun hc21 => ?_) (fun hc21 => ?_)
        · have h := it_f h hc21
          refine z_aload_n (i := 0) dX10_pinning_64 rfl rfl ?_
          obtain ⟨q22, hq23, h⟩ := bnd h
          refine z_fVv (sX10_changes q19.2 hq23) dX10_pinning_65 ml_X10_344 cd_X10_changes mk18 rfl rfl rfl rfl rfl rfl ?_
          refine z_aload_n (i := 0) dX10_pinning_68 rfl rfl ?_
          refine z_iload_n (i := 1) dX10_pinning_69 rfl rfl ?_
          refine z_iload_n (i := 3) dX10_pinning_70 rfl rfl ?_
          refine z_aload_n (i := 0) dX10_pinning_71 rfl rfl ?_
          refine z_iload_n (i := 1) dX10_pinning_72 rfl rfl ?_
          refine z_iload_n (i := 3) dX10_pinning_73 rfl rfl ?_
          obtain ⟨q24, hq25, h⟩ := bnd h
          refine z_fVi (sX10_set q22 x1 x3 hq25) dX10_pinning_74 ml_X10_86 cd_X10_set mk18 rfl rfl rfl rfl rfl rfl ?_
          refine z_iconst (v := (1 : Int32)) dX10_pinning_77 kc_1 ?_
          refine z_iload_n (i := 2) dX10_pinning_78 rfl rfl ?_
          refine z_ishl dX10_pinning_79 ?_
          refine z_ixor dX10_pinning_80 ?_
          obtain ⟨q26, hq27, h⟩ := bnd h
          refine z_fVv (sX10_putSet q22 x1 x3 (q24 ^^^ ((1 : Int32) <<< (x2 &&& 31))) hq27) dX10_pinning_81 ml_X10_185 cd_X10_putSet mk18 rfl rfl rfl rfl rfl rfl ?_
          refine z_aload_n (i := 0) dX10_pinning_84 rfl rfl ?_
          refine z_iload_n (i := 1) dX10_pinning_85 rfl rfl ?_
          obtain ⟨q28, hq29, h⟩ := bnd h
          refine z_fVi (sX10_pins q26 x1 hq29) dX10_pinning_86 ml_X10_306 cd_X10_pins mk18 rfl rfl rfl rfl rfl rfl ?_
          cases h
          exact z_iret dX10_pinning_89 rfl rfl (Nat.le_refl _) (Nat.le_refl _) ⟨rfl, rfl⟩
        · have h := it_t h hc21
          refine z_iconst (v := (0 : Int32)) dX10_pinning_62 kc_0 ?_
          cases h
          exact z_iret dX10_pinning_63 rfl rfl (Nat.le_refl _) (Nat.le_refl _) ⟨rfl, rfl⟩
  · have h := it_f h hc1
    refine z_aload_n (i := 0) dX10_pinning_9 rfl rfl ?_
    refine z_iload_n (i := 2) dX10_pinning_10 rfl rfl ?_
    refine z_fVi (sX10_isTooth M x2) dX10_pinning_11 ml_X10_291 cd_X10_isTooth mk18 rfl rfl rfl rfl rfl rfl ?_
    refine z_if_eq (tgt := 29) dX10_pinning_14 rfl (fun hc30 => ?_) (fun hc30 => ?_)
    · have h := it_t h hc30
      refine z_iconst (v := (0 : Int32)) dX10_pinning_29 kc_0 ?_
      refine z_iconst (v := (1 : Int32)) dX10_pinning_30 kc_1 ?_
      obtain ⟨q31, hq32, h⟩ := bnd h
      refine z_fVi (sX10_right M (0 : Int32) (1 : Int32) hq32) dX10_pinning_31 ml_X10_127 cd_X10_right mk18 rfl rfl rfl rfl rfl rfl ?_
      refine z_if_eq (tgt := 62) dX10_pinning_34 rfl (fun hc33 => ?_) (fun hc33 => ?_)
      · have h := it_t h hc33
        refine z_iconst (v := (0 : Int32)) dX10_pinning_62 kc_0 ?_
        cases h
        exact z_iret dX10_pinning_63 rfl rfl (Nat.le_refl _) (Nat.le_refl _) ⟨rfl, rfl⟩
      · have h := it_f h hc33
        refine z_aload_n (i := 0) dX10_pinning_37 rfl rfl ?_
        refine z_aload_n (i := 0) dX10_pinning_38 rfl rfl ?_
        refine z_iload_n (i := 1) dX10_pinning_39 rfl rfl ?_
        refine z_iload_n (i := 2) dX10_pinning_40 rfl rfl ?_
        refine z_iload_n (i := 3) dX10_pinning_41 rfl rfl ?_
        obtain ⟨q34, hq35, h⟩ := bnd h
        refine z_fVi (sX10_has q31.2 x1 x2 x3 hq35) dX10_pinning_42 ml_X10_93 cd_X10_has mk18 rfl rfl rfl rfl rfl rfl ?_
        refine z_iload (i := 4) dX10_pinning_45 rfl ?_
        refine z_icmp_eq (tgt := 54) dX10_pinning_47 rfl (fun hc36 => ?_) (fun hc36 => ?_)
        · have h := it_t h hc36
          refine z_iconst (v := (0 : Int32)) dX10_pinning_54 kc_0 ?_
          refine z_iconst (v := (2 : Int32)) dX10_pinning_55 kc_2 ?_
          obtain ⟨q37, hq38, h⟩ := bnd h
          refine z_fVi (sX10_right q31.2 (0 : Int32) (2 : Int32) hq38) dX10_pinning_56 ml_X10_127 cd_X10_right mk18 rfl rfl rfl rfl rfl rfl ?_
          refine z_if_ne (tgt := 64) dX10_pinning_59 rfl (fun hc39 => ?_) (fun hc39 => ?_)
          · have h := it_f h hc39
            refine z_aload_n (i := 0) dX10_pinning_64 rfl rfl ?_
            obtain ⟨q40, hq41, h⟩ := bnd h
            refine z_fVv (sX10_changes q37.2 hq41) dX10_pinning_65 ml_X10_344 cd_X10_changes mk18 rfl rfl rfl rfl rfl rfl ?_
            refine z_aload_n (i := 0) dX10_pinning_68 rfl rfl ?_
            refine z_iload_n (i := 1) dX10_pinning_69 rfl rfl ?_
            refine z_iload_n (i := 3) dX10_pinning_70 rfl rfl ?_
            refine z_aload_n (i := 0) dX10_pinning_71 rfl rfl ?_
            refine z_iload_n (i := 1) dX10_pinning_72 rfl rfl ?_
            refine z_iload_n (i := 3) dX10_pinning_73 rfl rfl ?_
            obtain ⟨q42, hq43, h⟩ := bnd h
            refine z_fVi (sX10_set q40 x1 x3 hq43) dX10_pinning_74 ml_X10_86 cd_X10_set mk18 rfl rfl rfl rfl rfl rfl ?_
            refine z_iconst (v := (1 : Int32)) dX10_pinning_77 kc_1 ?_
            refine z_iload_n (i := 2) dX10_pinning_78 rfl rfl ?_
            refine z_ishl dX10_pinning_79 ?_
            refine z_ixor dX10_pinning_80 ?_
            obtain ⟨q44, hq45, h⟩ := bnd h
            refine z_fVv (sX10_putSet q40 x1 x3 (q42 ^^^ ((1 : Int32) <<< (x2 &&& 31))) hq45) dX10_pinning_81 ml_X10_185 cd_X10_putSet mk18 rfl rfl rfl rfl rfl rfl ?_
            refine z_aload_n (i := 0) dX10_pinning_84 rfl rfl ?_
            refine z_iload_n (i := 1) dX10_pinning_85 rfl rfl ?_
            obtain ⟨q46, hq47, h⟩ := bnd h
            refine z_fVi (sX10_pins q44 x1 hq47) dX10_pinning_86 ml_X10_306 cd_X10_pins mk18 rfl rfl rfl rfl rfl rfl ?_
            cases h
            exact z_iret dX10_pinning_89 rfl rfl (Nat.le_refl _) (Nat.le_refl _) ⟨rfl, rfl⟩
          · have h := it_t h hc39
            refine z_iconst (v := (0 : Int32)) dX10_pinning_62 kc_0 ?_
            cases h
            exact z_iret dX10_pinning_63 rfl rfl (Nat.le_refl _) (Nat.le_refl _) ⟨rfl, rfl⟩
        · have h := it_f h hc36
          refine z_iconst (v := (1 : Int32)) dX10_pinning_50 kc_1 ?_
          refine z_goto (tgt := 55) dX10_pinning_51 rfl ?_
          refine z_iconst (v := (2 : Int32)) dX10_pinning_55 kc_2 ?_
          obtain ⟨q48, hq49, h⟩ := bnd h
          refine z_fVi (sX10_right q31.2 (1 : Int32) (2 : Int32) hq49) dX10_pinning_56 ml_X10_127 cd_X10_right mk18 rfl rfl rfl rfl rfl rfl ?_
          refine z_if_ne (tgt := 64) dX10_pinning_59 rfl (fun hc50 => ?_) (fun hc50 => ?_)
          · have h := it_f h hc50
            refine z_aload_n (i := 0) dX10_pinning_64 rfl rfl ?_
            obtain ⟨q51, hq52, h⟩ := bnd h
            refine z_fVv (sX10_changes q48.2 hq52) dX10_pinning_65 ml_X10_344 cd_X10_changes mk18 rfl rfl rfl rfl rfl rfl ?_
            refine z_aload_n (i := 0) dX10_pinning_68 rfl rfl ?_
            refine z_iload_n (i := 1) dX10_pinning_69 rfl rfl ?_
            refine z_iload_n (i := 3) dX10_pinning_70 rfl rfl ?_
            refine z_aload_n (i := 0) dX10_pinning_71 rfl rfl ?_
            refine z_iload_n (i := 1) dX10_pinning_72 rfl rfl ?_
            refine z_iload_n (i := 3) dX10_pinning_73 rfl rfl ?_
            obtain ⟨q53, hq54, h⟩ := bnd h
            refine z_fVi (sX10_set q51 x1 x3 hq54) dX10_pinning_74 ml_X10_86 cd_X10_set mk18 rfl rfl rfl rfl rfl rfl ?_
            refine z_iconst (v := (1 : Int32)) dX10_pinning_77 kc_1 ?_
            refine z_iload_n (i := 2) dX10_pinning_78 rfl rfl ?_
            refine z_ishl dX10_pinning_79 ?_
            refine z_ixor dX10_pinning_80 ?_
            obtain ⟨q55, hq56, h⟩ := bnd h
            refine z_fVv (sX10_putSet q51 x1 x3 (q53 ^^^ ((1 : Int32) <<< (x2 &&& 31))) hq56) dX10_pinning_81 ml_X10_185 cd_X10_putSet mk18 rfl rfl rfl rfl rfl rfl ?_
            refine z_aload_n (i := 0) dX10_pinning_84 rfl rfl ?_
            refine z_iload_n (i := 1) dX10_pinning_85 rfl rfl ?_
            obtain ⟨q57, hq58, h⟩ := bnd h
            refine z_fVi (sX10_pins q55 x1 hq58) dX10_pinning_86 ml_X10_306 cd_X10_pins mk18 rfl rfl rfl rfl rfl rfl ?_
            cases h
            exact z_iret dX10_pinning_89 rfl rfl (Nat.le_refl _) (Nat.le_refl _) ⟨rfl, rfl⟩
          · have h := it_t h hc50
            refine z_iconst (v := (0 : Int32)) dX10_pinning_62 kc_0 ?_
            cases h
            exact z_iret dX10_pinning_63 rfl rfl (Nat.le_refl _) (Nat.le_refl _) ⟨rfl, rfl⟩
    · have h := it_f h hc30
      refine z_aload_n (i := 0) dX10_pinning_17 rfl rfl ?_
      refine z_iload_n (i := 3) dX10_pinning_18 rfl rfl ?_
      refine z_fVi (sX10_isStep M x3) dX10_pinning_19 ml_X10_294 cd_X10_isStep mk18 rfl rfl rfl rfl rfl rfl ?_
      refine z_if_eq (tgt := 29) dX10_pinning_22 rfl (fun hc59 => ?_) (fun hc59 => ?_)
      · have h := it_t h hc59
        refine z_iconst (v := (0 : Int32)) dX10_pinning_29 kc_0 ?_
        refine z_iconst (v := (1 : Int32)) dX10_pinning_30 kc_1 ?_
        obtain ⟨q60, hq61, h⟩ := bnd h
        refine z_fVi (sX10_right M (0 : Int32) (1 : Int32) hq61) dX10_pinning_31 ml_X10_127 cd_X10_right mk18 rfl rfl rfl rfl rfl rfl ?_
        refine z_if_eq (tgt := 62) dX10_pinning_34 rfl (fun hc62 => ?_) (fun hc62 => ?_)
        · have h := it_t h hc62
          refine z_iconst (v := (0 : Int32)) dX10_pinning_62 kc_0 ?_
          cases h
          exact z_iret dX10_pinning_63 rfl rfl (Nat.le_refl _) (Nat.le_refl _) ⟨rfl, rfl⟩
        · have h := it_f h hc62
          refine z_aload_n (i := 0) dX10_pinning_37 rfl rfl ?_
          refine z_aload_n (i := 0) dX10_pinning_38 rfl rfl ?_
          refine z_iload_n (i := 1) dX10_pinning_39 rfl rfl ?_
          refine z_iload_n (i := 2) dX10_pinning_40 rfl rfl ?_
          refine z_iload_n (i := 3) dX10_pinning_41 rfl rfl ?_
          obtain ⟨q63, hq64, h⟩ := bnd h
          refine z_fVi (sX10_has q60.2 x1 x2 x3 hq64) dX10_pinning_42 ml_X10_93 cd_X10_has mk18 rfl rfl rfl rfl rfl rfl ?_
          refine z_iload (i := 4) dX10_pinning_45 rfl ?_
          refine z_icmp_eq (tgt := 54) dX10_pinning_47 rfl (fun hc65 => ?_) (fun hc65 => ?_)
          · have h := it_t h hc65
            refine z_iconst (v := (0 : Int32)) dX10_pinning_54 kc_0 ?_
            refine z_iconst (v := (2 : Int32)) dX10_pinning_55 kc_2 ?_
            obtain ⟨q66, hq67, h⟩ := bnd h
            refine z_fVi (sX10_right q60.2 (0 : Int32) (2 : Int32) hq67) dX10_pinning_56 ml_X10_127 cd_X10_right mk18 rfl rfl rfl rfl rfl rfl ?_
            refine z_if_ne (tgt := 64) dX10_pinning_59 rfl (fun hc68 => ?_) (fun hc68 => ?_)
            · have h := it_f h hc68
              refine z_aload_n (i := 0) dX10_pinning_64 rfl rfl ?_
              obtain ⟨q69, hq70, h⟩ := bnd h
              refine z_fVv (sX10_changes q66.2 hq70) dX10_pinning_65 ml_X10_344 cd_X10_changes mk18 rfl rfl rfl rfl rfl rfl ?_
              refine z_aload_n (i := 0) dX10_pinning_68 rfl rfl ?_
              refine z_iload_n (i := 1) dX10_pinning_69 rfl rfl ?_
              refine z_iload_n (i := 3) dX10_pinning_70 rfl rfl ?_
              refine z_aload_n (i := 0) dX10_pinning_71 rfl rfl ?_
              refine z_iload_n (i := 1) dX10_pinning_72 rfl rfl ?_
              refine z_iload_n (i := 3) dX10_pinning_73 rfl rfl ?_
              obtain ⟨q71, hq72, h⟩ := bnd h
              refine z_fVi (sX10_set q69 x1 x3 hq72) dX10_pinning_74 ml_X10_86 cd_X10_set mk18 rfl rfl rfl rfl rfl rfl ?_
              refine z_iconst (v := (1 : Int32)) dX10_pinning_77 kc_1 ?_
              refine z_iload_n (i := 2) dX10_pinning_78 rfl rfl ?_
              refine z_ishl dX10_pinning_79 ?_
              refine z_ixor dX10_pinning_80 ?_
              obtain ⟨q73, hq74, h⟩ := bnd h
              refine z_fVv (sX10_putSet q69 x1 x3 (q71 ^^^ ((1 : Int32) <<< (x2 &&& 31))) hq74) dX10_pinning_81 ml_X10_185 cd_X10_putSet mk18 rfl rfl rfl rfl rfl rfl ?_
              refine z_aload_n (i := 0) dX10_pinning_84 rfl rfl ?_
              refine z_iload_n (i := 1) dX10_pinning_85 rfl rfl ?_
              obtain ⟨q75, hq76, h⟩ := bnd h
              refine z_fVi (sX10_pins q73 x1 hq76) dX10_pinning_86 ml_X10_306 cd_X10_pins mk18 rfl rfl rfl rfl rfl rfl ?_
              cases h
              exact z_iret dX10_pinning_89 rfl rfl (Nat.le_refl _) (Nat.le_refl _) ⟨rfl, rfl⟩
            · have h := it_t h hc68
              refine z_iconst (v := (0 : Int32)) dX10_pinning_62 kc_0 ?_
              cases h
              exact z_iret dX10_pinning_63 rfl rfl (Nat.le_refl _) (Nat.le_refl _) ⟨rfl, rfl⟩
          · have h := it_f h hc65
            refine z_iconst (v := (1 : Int32)) dX10_pinning_50 kc_1 ?_
            refine z_goto (tgt := 55) dX10_pinning_51 rfl ?_
            refine z_iconst (v := (2 : Int32)) dX10_pinning_55 kc_2 ?_
            obtain ⟨q77, hq78, h⟩ := bnd h
            refine z_fVi (sX10_right q60.2 (1 : Int32) (2 : Int32) hq78) dX10_pinning_56 ml_X10_127 cd_X10_right mk18 rfl rfl rfl rfl rfl rfl ?_
            refine z_if_ne (tgt := 64) dX10_pinning_59 rfl (fun hc79 => ?_) (fun hc79 => ?_)
            · have h := it_f h hc79
              refine z_aload_n (i := 0) dX10_pinning_64 rfl rfl ?_
              obtain ⟨q80, hq81, h⟩ := bnd h
              refine z_fVv (sX10_changes q77.2 hq81) dX10_pinning_65 ml_X10_344 cd_X10_changes mk18 rfl rfl rfl rfl rfl rfl ?_
              refine z_aload_n (i := 0) dX10_pinning_68 rfl rfl ?_
              refine z_iload_n (i := 1) dX10_pinning_69 rfl rfl ?_
              refine z_iload_n (i := 3) dX10_pinning_70 rfl rfl ?_
              refine z_aload_n (i := 0) dX10_pinning_71 rfl rfl ?_
              refine z_iload_n (i := 1) dX10_pinning_72 rfl rfl ?_
              refine z_iload_n (i := 3) dX10_pinning_73 rfl rfl ?_
              obtain ⟨q82, hq83, h⟩ := bnd h
              refine z_fVi (sX10_set q80 x1 x3 hq83) dX10_pinning_74 ml_X10_86 cd_X10_set mk18 rfl rfl rfl rfl rfl rfl ?_
              refine z_iconst (v := (1 : Int32)) dX10_pinning_77 kc_1 ?_
              refine z_iload_n (i := 2) dX10_pinning_78 rfl rfl ?_
              refine z_ishl dX10_pinning_79 ?_
              refine z_ixor dX10_pinning_80 ?_
              obtain ⟨q84, hq85, h⟩ := bnd h
              refine z_fVv (sX10_putSet q80 x1 x3 (q82 ^^^ ((1 : Int32) <<< (x2 &&& 31))) hq85) dX10_pinning_81 ml_X10_185 cd_X10_putSet mk18 rfl rfl rfl rfl rfl rfl ?_
              refine z_aload_n (i := 0) dX10_pinning_84 rfl rfl ?_
              refine z_iload_n (i := 1) dX10_pinning_85 rfl rfl ?_
              obtain ⟨q86, hq87, h⟩ := bnd h
              refine z_fVi (sX10_pins q84 x1 hq87) dX10_pinning_86 ml_X10_306 cd_X10_pins mk18 rfl rfl rfl rfl rfl rfl ?_
              cases h
              exact z_iret dX10_pinning_89 rfl rfl (Nat.le_refl _) (Nat.le_refl _) ⟨rfl, rfl⟩
            · have h := it_t h hc79
              refine z_iconst (v := (0 : Int32)) dX10_pinning_62 kc_0 ?_
              cases h
              exact z_iret dX10_pinning_63 rfl rfl (Nat.le_refl _) (Nat.le_refl _) ⟨rfl, rfl⟩
      · have h := it_f h hc59
        refine z_iconst (v := (1 : Int32)) dX10_pinning_25 kc_1 ?_
        refine z_goto (tgt := 30) dX10_pinning_26 rfl ?_
        refine z_iconst (v := (1 : Int32)) dX10_pinning_30 kc_1 ?_
        obtain ⟨q88, hq89, h⟩ := bnd h
        refine z_fVi (sX10_right M (1 : Int32) (1 : Int32) hq89) dX10_pinning_31 ml_X10_127 cd_X10_right mk18 rfl rfl rfl rfl rfl rfl ?_
        refine z_if_eq (tgt := 62) dX10_pinning_34 rfl (fun hc90 => ?_) (fun hc90 => ?_)
        · have h := it_t h hc90
          refine z_iconst (v := (0 : Int32)) dX10_pinning_62 kc_0 ?_
          cases h
          exact z_iret dX10_pinning_63 rfl rfl (Nat.le_refl _) (Nat.le_refl _) ⟨rfl, rfl⟩
        · have h := it_f h hc90
          refine z_aload_n (i := 0) dX10_pinning_37 rfl rfl ?_
          refine z_aload_n (i := 0) dX10_pinning_38 rfl rfl ?_
          refine z_iload_n (i := 1) dX10_pinning_39 rfl rfl ?_
          refine z_iload_n (i := 2) dX10_pinning_40 rfl rfl ?_
          refine z_iload_n (i := 3) dX10_pinning_41 rfl rfl ?_
          obtain ⟨q91, hq92, h⟩ := bnd h
          refine z_fVi (sX10_has q88.2 x1 x2 x3 hq92) dX10_pinning_42 ml_X10_93 cd_X10_has mk18 rfl rfl rfl rfl rfl rfl ?_
          refine z_iload (i := 4) dX10_pinning_45 rfl ?_
          refine z_icmp_eq (tgt := 54) dX10_pinning_47 rfl (fun hc93 => ?_) (fun hc93 => ?_)
          · have h := it_t h hc93
            refine z_iconst (v := (0 : Int32)) dX10_pinning_54 kc_0 ?_
            refine z_iconst (v := (2 : Int32)) dX10_pinning_55 kc_2 ?_
            obtain ⟨q94, hq95, h⟩ := bnd h
            refine z_fVi (sX10_right q88.2 (0 : Int32) (2 : Int32) hq95) dX10_pinning_56 ml_X10_127 cd_X10_right mk18 rfl rfl rfl rfl rfl rfl ?_
            refine z_if_ne (tgt := 64) dX10_pinning_59 rfl (fun hc96 => ?_) (fun hc96 => ?_)
            · have h := it_f h hc96
              refine z_aload_n (i := 0) dX10_pinning_64 rfl rfl ?_
              obtain ⟨q97, hq98, h⟩ := bnd h
              refine z_fVv (sX10_changes q94.2 hq98) dX10_pinning_65 ml_X10_344 cd_X10_changes mk18 rfl rfl rfl rfl rfl rfl ?_
              refine z_aload_n (i := 0) dX10_pinning_68 rfl rfl ?_
              refine z_iload_n (i := 1) dX10_pinning_69 rfl rfl ?_
              refine z_iload_n (i := 3) dX10_pinning_70 rfl rfl ?_
              refine z_aload_n (i := 0) dX10_pinning_71 rfl rfl ?_
              refine z_iload_n (i := 1) dX10_pinning_72 rfl rfl ?_
              refine z_iload_n (i := 3) dX10_pinning_73 rfl rfl ?_
              obtain ⟨q99, hq100, h⟩ := bnd h
              refine z_fVi (sX10_set q97 x1 x3 hq100) dX10_pinning_74 ml_X10_86 cd_X10_set mk18 rfl rfl rfl rfl rfl rfl ?_
              refine z_iconst (v := (1 : Int32)) dX10_pinning_77 kc_1 ?_
              refine z_iload_n (i := 2) dX10_pinning_78 rfl rfl ?_
              refine z_ishl dX10_pinning_79 ?_
              refine z_ixor dX10_pinning_80 ?_
              obtain ⟨q101, hq102, h⟩ := bnd h
              refine z_fVv (sX10_putSet q97 x1 x3 (q99 ^^^ ((1 : Int32) <<< (x2 &&& 31))) hq102) dX10_pinning_81 ml_X10_185 cd_X10_putSet mk18 rfl rfl rfl rfl rfl rfl ?_
              refine z_aload_n (i := 0) dX10_pinning_84 rfl rfl ?_
              refine z_iload_n (i := 1) dX10_pinning_85 rfl rfl ?_
              obtain ⟨q103, hq104, h⟩ := bnd h
              refine z_fVi (sX10_pins q101 x1 hq104) dX10_pinning_86 ml_X10_306 cd_X10_pins mk18 rfl rfl rfl rfl rfl rfl ?_
              cases h
              exact z_iret dX10_pinning_89 rfl rfl (Nat.le_refl _) (Nat.le_refl _) ⟨rfl, rfl⟩
            · have h := it_t h hc96
              refine z_iconst (v := (0 : Int32)) dX10_pinning_62 kc_0 ?_
              cases h
              exact z_iret dX10_pinning_63 rfl rfl (Nat.le_refl _) (Nat.le_refl _) ⟨rfl, rfl⟩
          · have h := it_f h hc93
            refine z_iconst (v := (1 : Int32)) dX10_pinning_50 kc_1 ?_
            refine z_goto (tgt := 55) dX10_pinning_51 rfl ?_
            refine z_iconst (v := (2 : Int32)) dX10_pinning_55 kc_2 ?_
            obtain ⟨q105, hq106, h⟩ := bnd h
            refine z_fVi (sX10_right q88.2 (1 : Int32) (2 : Int32) hq106) dX10_pinning_56 ml_X10_127 cd_X10_right mk18 rfl rfl rfl rfl rfl rfl ?_
            refine z_if_ne (tgt := 64) dX10_pinning_59 rfl (fun hc107 => ?_) (fun hc107 => ?_)
            · have h := it_f h hc107
              refine z_aload_n (i := 0) dX10_pinning_64 rfl rfl ?_
              obtain ⟨q108, hq109, h⟩ := bnd h
              refine z_fVv (sX10_changes q105.2 hq109) dX10_pinning_65 ml_X10_344 cd_X10_changes mk18 rfl rfl rfl rfl rfl rfl ?_
              refine z_aload_n (i := 0) dX10_pinning_68 rfl rfl ?_
              refine z_iload_n (i := 1) dX10_pinning_69 rfl rfl ?_
              refine z_iload_n (i := 3) dX10_pinning_70 rfl rfl ?_
              refine z_aload_n (i := 0) dX10_pinning_71 rfl rfl ?_
              refine z_iload_n (i := 1) dX10_pinning_72 rfl rfl ?_
              refine z_iload_n (i := 3) dX10_pinning_73 rfl rfl ?_
              obtain ⟨q110, hq111, h⟩ := bnd h
              refine z_fVi (sX10_set q108 x1 x3 hq111) dX10_pinning_74 ml_X10_86 cd_X10_set mk18 rfl rfl rfl rfl rfl rfl ?_
              refine z_iconst (v := (1 : Int32)) dX10_pinning_77 kc_1 ?_
              refine z_iload_n (i := 2) dX10_pinning_78 rfl rfl ?_
              refine z_ishl dX10_pinning_79 ?_
              refine z_ixor dX10_pinning_80 ?_
              obtain ⟨q112, hq113, h⟩ := bnd h
              refine z_fVv (sX10_putSet q108 x1 x3 (q110 ^^^ ((1 : Int32) <<< (x2 &&& 31))) hq113) dX10_pinning_81 ml_X10_185 cd_X10_putSet mk18 rfl rfl rfl rfl rfl rfl ?_
              refine z_aload_n (i := 0) dX10_pinning_84 rfl rfl ?_
              refine z_iload_n (i := 1) dX10_pinning_85 rfl rfl ?_
              obtain ⟨q114, hq115, h⟩ := bnd h
              refine z_fVi (sX10_pins q112 x1 hq115) dX10_pinning_86 ml_X10_306 cd_X10_pins mk18 rfl rfl rfl rfl rfl rfl ?_
              cases h
              exact z_iret dX10_pinning_89 rfl rfl (Nat.le_refl _) (Nat.le_refl _) ⟨rfl, rfl⟩
            · have h := it_t h hc107
              refine z_iconst (v := (0 : Int32)) dX10_pinning_62 kc_0 ?_
              cases h
              exact z_iret dX10_pinning_63 rfl rfl (Nat.le_refl _) (Nat.le_refl _) ⟨rfl, rfl⟩
theorem dX10_gapping_0 : decode cX10_gapping 0 = .ok (.aload_n 0, 1) := by decide +kernel
theorem dX10_gapping_1 : decode cX10_gapping 1 = .ok (.aload_n 0, 1) := by decide +kernel
theorem dX10_gapping_2 : decode cX10_gapping 2 = .ok (.iload_n 1, 1) := by decide +kernel
theorem dX10_gapping_3 : decode cX10_gapping 3 = .ok (.invokevirtual 291, 3) := by decide +kernel
theorem dX10_gapping_6 : decode cX10_gapping 6 = .ok (.iconst 1, 1) := by decide +kernel
theorem dX10_gapping_7 : decode cX10_gapping 7 = .ok (.invokevirtual 127, 3) := by decide +kernel
theorem dX10_gapping_10 : decode cX10_gapping 10 = .ok (.ifCond .eq 18, 3) := by decide +kernel
theorem dX10_gapping_13 : decode cX10_gapping 13 = .ok (.aload_n 0, 1) := by decide +kernel
theorem dX10_gapping_14 : decode cX10_gapping 14 = .ok (.iload_n 2, 1) := by decide +kernel
theorem dX10_gapping_15 : decode cX10_gapping 15 = .ok (.iconst 1, 1) := by decide +kernel
theorem dX10_gapping_16 : decode cX10_gapping 16 = .ok (.bipush 9, 2) := by decide +kernel
theorem dX10_gapping_18 : decode cX10_gapping 18 = .ok (.invokestatic 82, 3) := by decide +kernel
theorem dX10_gapping_21 : decode cX10_gapping 21 = .ok (.iconst 2, 1) := by decide +kernel
theorem dX10_gapping_22 : decode cX10_gapping 22 = .ok (.invokevirtual 127, 3) := by decide +kernel
theorem dX10_gapping_25 : decode cX10_gapping 25 = .ok (.ifCond .ne 5, 3) := by decide +kernel
theorem dX10_gapping_28 : decode cX10_gapping 28 = .ok (.iconst 0, 1) := by decide +kernel
theorem dX10_gapping_29 : decode cX10_gapping 29 = .ok (.ireturn, 1) := by decide +kernel
theorem dX10_gapping_30 : decode cX10_gapping 30 = .ok (.aload_n 0, 1) := by decide +kernel
theorem dX10_gapping_31 : decode cX10_gapping 31 = .ok (.invokevirtual 344, 3) := by decide +kernel
theorem dX10_gapping_34 : decode cX10_gapping 34 = .ok (.aload_n 0, 1) := by decide +kernel
theorem dX10_gapping_35 : decode cX10_gapping 35 = .ok (.iload_n 1, 1) := by decide +kernel
theorem dX10_gapping_36 : decode cX10_gapping 36 = .ok (.iconst 2, 1) := by decide +kernel
theorem dX10_gapping_37 : decode cX10_gapping 37 = .ok (.invokevirtual 90, 3) := by decide +kernel
theorem dX10_gapping_40 : decode cX10_gapping 40 = .ok (.istore_n 3, 1) := by decide +kernel
theorem dX10_gapping_41 : decode cX10_gapping 41 = .ok (.aload_n 0, 1) := by decide +kernel
theorem dX10_gapping_42 : decode cX10_gapping 42 = .ok (.iload_n 1, 1) := by decide +kernel
theorem dX10_gapping_43 : decode cX10_gapping 43 = .ok (.iconst 2, 1) := by decide +kernel
theorem dX10_gapping_44 : decode cX10_gapping 44 = .ok (.iload_n 2, 1) := by decide +kernel
theorem dX10_gapping_45 : decode cX10_gapping 45 = .ok (.invokevirtual 108, 3) := by decide +kernel
theorem dX10_gapping_48 : decode cX10_gapping 48 = .ok (.iload_n 3, 1) := by decide +kernel
theorem dX10_gapping_49 : decode cX10_gapping 49 = .ok (.ireturn, 1) := by decide +kernel
def fX10_gapping (M : Mm) (x1 : Int32) (x2 : Int32) : Option (Int32 × Mm) := (fX10_right M (fX10_isTooth M x1) (1 : Int32)).bind fun q1 => if q1.1 = 0 then some ((0 : Int32), q1.2) else (fX10_right q1.2 (fX10_in q1.2 x2 (1 : Int32) (9 : Int32)) (2 : Int32)).bind fun q4 => if q4.1 = 0 then some ((0 : Int32), q4.2) else (fX10_changes q4.2).bind fun q7 => (fX10_of q7 x1 (2 : Int32)).bind fun q9 => (fX10_puts q7 x1 (2 : Int32) x2).bind fun q11 => some (q9, q11)
set_option maxRecDepth 20000 in
set_option maxHeartbeats 2000000 in
theorem sX10_gapping {wv : Nat} (M : Mm) (x1 : Int32) (x2 : Int32) {res : (Int32 × Mm)} (h : fX10_gapping M x1 x2 = some res) : TF (wv + 1) yX10_gapping cX10_gapping 4 (some .int) 2 [.inr (18, 0, 0), .inl (.int x1), .inl (.int x2)] M (some (.int res.1)) res.2 := by
  rw [fX10_gapping] at h
  refine TF.go (n := 1) (ls := [some (.inr (18, 0, 0)), some (.inl (.int x1)), some (.inl (.int x2)), none]) rfl rfl rfl rfl rfl ?_
  refine z_aload_n (i := 0) dX10_gapping_0 rfl rfl ?_
  refine z_aload_n (i := 0) dX10_gapping_1 rfl rfl ?_
  refine z_iload_n (i := 1) dX10_gapping_2 rfl rfl ?_
  refine z_fVi (sX10_isTooth M x1) dX10_gapping_3 ml_X10_291 cd_X10_isTooth mk18 rfl rfl rfl rfl rfl rfl ?_
  refine z_iconst (v := (1 : Int32)) dX10_gapping_6 kc_1 ?_
  obtain ⟨q1, hq2, h⟩ := bnd h
  refine z_fVi (sX10_right M (fX10_isTooth M x1) (1 : Int32) hq2) dX10_gapping_7 ml_X10_127 cd_X10_right mk18 rfl rfl rfl rfl rfl rfl ?_
  refine z_if_eq (tgt := 28) dX10_gapping_10 rfl (fun hc3 => ?_) (fun hc3 => ?_)
  · have h := it_t h hc3
    refine z_iconst (v := (0 : Int32)) dX10_gapping_28 kc_0 ?_
    cases h
    exact z_iret dX10_gapping_29 rfl rfl (Nat.le_refl _) (Nat.le_refl _) ⟨rfl, rfl⟩
  · have h := it_f h hc3
    refine z_aload_n (i := 0) dX10_gapping_13 rfl rfl ?_
    refine z_iload_n (i := 2) dX10_gapping_14 rfl rfl ?_
    refine z_iconst (v := (1 : Int32)) dX10_gapping_15 kc_1 ?_
    refine z_bipush (v := (9 : Int32)) dX10_gapping_16 kb_9 ?_
    refine z_fSi (sX10_in q1.2 x2 (1 : Int32) (9 : Int32)) dX10_gapping_18 ml_X10_82 cd_X10_in rfl rfl rfl rfl rfl ?_
    refine z_iconst (v := (2 : Int32)) dX10_gapping_21 kc_2 ?_
    obtain ⟨q4, hq5, h⟩ := bnd h
    refine z_fVi (sX10_right q1.2 (fX10_in q1.2 x2 (1 : Int32) (9 : Int32)) (2 : Int32) hq5) dX10_gapping_22 ml_X10_127 cd_X10_right mk18 rfl rfl rfl rfl rfl rfl ?_
    refine z_if_ne (tgt := 30) dX10_gapping_25 rfl (fun hc6 => ?_) (fun hc6 => ?_)
    · have h := it_f h hc6
      refine z_aload_n (i := 0) dX10_gapping_30 rfl rfl ?_
      obtain ⟨q7, hq8, h⟩ := bnd h
      refine z_fVv (sX10_changes q4.2 hq8) dX10_gapping_31 ml_X10_344 cd_X10_changes mk18 rfl rfl rfl rfl rfl rfl ?_
      refine z_aload_n (i := 0) dX10_gapping_34 rfl rfl ?_
      refine z_iload_n (i := 1) dX10_gapping_35 rfl rfl ?_
      refine z_iconst (v := (2 : Int32)) dX10_gapping_36 kc_2 ?_
      obtain ⟨q9, hq10, h⟩ := bnd h
      refine z_fVi (sX10_of q7 x1 (2 : Int32) hq10) dX10_gapping_37 ml_X10_90 cd_X10_of mk18 rfl rfl rfl rfl rfl rfl ?_
      refine z_istore_n (i := 3) dX10_gapping_40 rfl (Nat.le_of_ble_eq_true rfl) rfl ?_
      refine z_aload_n (i := 0) dX10_gapping_41 rfl rfl ?_
      refine z_iload_n (i := 1) dX10_gapping_42 rfl rfl ?_
      refine z_iconst (v := (2 : Int32)) dX10_gapping_43 kc_2 ?_
      refine z_iload_n (i := 2) dX10_gapping_44 rfl rfl ?_
      obtain ⟨q11, hq12, h⟩ := bnd h
      refine z_fVv (sX10_puts q7 x1 (2 : Int32) x2 hq12) dX10_gapping_45 ml_X10_108 cd_X10_puts mk18 rfl rfl rfl rfl rfl rfl ?_
      refine z_iload_n (i := 3) dX10_gapping_48 rfl rfl ?_
      cases h
      exact z_iret dX10_gapping_49 rfl rfl (Nat.le_refl _) (Nat.le_refl _) ⟨rfl, rfl⟩
    · have h := it_t h hc6
      refine z_iconst (v := (0 : Int32)) dX10_gapping_28 kc_0 ?_
      cases h
      exact z_iret dX10_gapping_29 rfl rfl (Nat.le_refl _) (Nat.le_refl _) ⟨rfl, rfl⟩
