theorem dX10_bending_0 : decode cX10_bending 0 = .ok (.aload_n 0, 1) := by decide +kernel
theorem dX10_bending_1 : decode cX10_bending 1 = .ok (.aload_n 0, 1) := by decide +kernel
theorem dX10_bending_2 : decode cX10_bending 2 = .ok (.iload_n 1, 1) := by decide +kernel
theorem dX10_bending_3 : decode cX10_bending 3 = .ok (.invokevirtual 291, 3) := by decide +kernel
theorem dX10_bending_6 : decode cX10_bending 6 = .ok (.iconst 1, 1) := by decide +kernel
theorem dX10_bending_7 : decode cX10_bending 7 = .ok (.invokevirtual 127, 3) := by decide +kernel
theorem dX10_bending_10 : decode cX10_bending 10 = .ok (.ifCond .eq 68, 3) := by decide +kernel
theorem dX10_bending_13 : decode cX10_bending 13 = .ok (.aload_n 0, 1) := by decide +kernel
theorem dX10_bending_14 : decode cX10_bending 14 = .ok (.iload_n 2, 1) := by decide +kernel
theorem dX10_bending_15 : decode cX10_bending 15 = .ok (.bipush (-3), 2) := by decide +kernel
theorem dX10_bending_17 : decode cX10_bending 17 = .ok (.iconst 3, 1) := by decide +kernel
theorem dX10_bending_18 : decode cX10_bending 18 = .ok (.invokestatic 82, 3) := by decide +kernel
theorem dX10_bending_21 : decode cX10_bending 21 = .ok (.ifCond .eq 11, 3) := by decide +kernel
theorem dX10_bending_24 : decode cX10_bending 24 = .ok (.iload_n 2, 1) := by decide +kernel
theorem dX10_bending_25 : decode cX10_bending 25 = .ok (.ifCond .eq 7, 3) := by decide +kernel
theorem dX10_bending_28 : decode cX10_bending 28 = .ok (.iconst 1, 1) := by decide +kernel
theorem dX10_bending_29 : decode cX10_bending 29 = .ok (.goto 4, 3) := by decide +kernel
theorem dX10_bending_32 : decode cX10_bending 32 = .ok (.iconst 0, 1) := by decide +kernel
theorem dX10_bending_33 : decode cX10_bending 33 = .ok (.iconst 2, 1) := by decide +kernel
theorem dX10_bending_34 : decode cX10_bending 34 = .ok (.invokevirtual 127, 3) := by decide +kernel
theorem dX10_bending_37 : decode cX10_bending 37 = .ok (.ifCond .eq 41, 3) := by decide +kernel
theorem dX10_bending_40 : decode cX10_bending 40 = .ok (.aload_n 0, 1) := by decide +kernel
theorem dX10_bending_41 : decode cX10_bending 41 = .ok (.aload_n 0, 1) := by decide +kernel
theorem dX10_bending_42 : decode cX10_bending 42 = .ok (.iload_n 1, 1) := by decide +kernel
theorem dX10_bending_43 : decode cX10_bending 43 = .ok (.invokevirtual 100, 3) := by decide +kernel
theorem dX10_bending_46 : decode cX10_bending 46 = .ok (.ifCond .ne 24, 3) := by decide +kernel
theorem dX10_bending_49 : decode cX10_bending 49 = .ok (.aload_n 0, 1) := by decide +kernel
theorem dX10_bending_50 : decode cX10_bending 50 = .ok (.iload_n 1, 1) := by decide +kernel
theorem dX10_bending_51 : decode cX10_bending 51 = .ok (.iconst 1, 1) := by decide +kernel
theorem dX10_bending_52 : decode cX10_bending 52 = .ok (.invokevirtual 90, 3) := by decide +kernel
theorem dX10_bending_55 : decode cX10_bending 55 = .ok (.iload_n 2, 1) := by decide +kernel
theorem dX10_bending_56 : decode cX10_bending 56 = .ok (.iadd, 1) := by decide +kernel
theorem dX10_bending_57 : decode cX10_bending 57 = .ok (.bipush (-3), 2) := by decide +kernel
theorem dX10_bending_59 : decode cX10_bending 59 = .ok (.iconst 3, 1) := by decide +kernel
theorem dX10_bending_60 : decode cX10_bending 60 = .ok (.invokestatic 82, 3) := by decide +kernel
theorem dX10_bending_63 : decode cX10_bending 63 = .ok (.ifCond .eq 7, 3) := by decide +kernel
theorem dX10_bending_66 : decode cX10_bending 66 = .ok (.iconst 1, 1) := by decide +kernel
theorem dX10_bending_67 : decode cX10_bending 67 = .ok (.goto 4, 3) := by decide +kernel
theorem dX10_bending_70 : decode cX10_bending 70 = .ok (.iconst 0, 1) := by decide +kernel
theorem dX10_bending_71 : decode cX10_bending 71 = .ok (.iconst 3, 1) := by decide +kernel
theorem dX10_bending_72 : decode cX10_bending 72 = .ok (.invokevirtual 127, 3) := by decide +kernel
theorem dX10_bending_75 : decode cX10_bending 75 = .ok (.ifCond .ne 5, 3) := by decide +kernel
theorem dX10_bending_78 : decode cX10_bending 78 = .ok (.iconst 0, 1) := by decide +kernel
theorem dX10_bending_79 : decode cX10_bending 79 = .ok (.ireturn, 1) := by decide +kernel
theorem dX10_bending_80 : decode cX10_bending 80 = .ok (.aload_n 0, 1) := by decide +kernel
theorem dX10_bending_81 : decode cX10_bending 81 = .ok (.invokevirtual 344, 3) := by decide +kernel
theorem dX10_bending_84 : decode cX10_bending 84 = .ok (.aload_n 0, 1) := by decide +kernel
theorem dX10_bending_85 : decode cX10_bending 85 = .ok (.iload_n 1, 1) := by decide +kernel
theorem dX10_bending_86 : decode cX10_bending 86 = .ok (.iconst 1, 1) := by decide +kernel
theorem dX10_bending_87 : decode cX10_bending 87 = .ok (.aload_n 0, 1) := by decide +kernel
theorem dX10_bending_88 : decode cX10_bending 88 = .ok (.iload_n 1, 1) := by decide +kernel
theorem dX10_bending_89 : decode cX10_bending 89 = .ok (.iconst 1, 1) := by decide +kernel
theorem dX10_bending_90 : decode cX10_bending 90 = .ok (.invokevirtual 90, 3) := by decide +kernel
theorem dX10_bending_93 : decode cX10_bending 93 = .ok (.iload_n 2, 1) := by decide +kernel
theorem dX10_bending_94 : decode cX10_bending 94 = .ok (.iadd, 1) := by decide +kernel
theorem dX10_bending_95 : decode cX10_bending 95 = .ok (.invokevirtual 108, 3) := by decide +kernel
theorem dX10_bending_98 : decode cX10_bending 98 = .ok (.aload_n 0, 1) := by decide +kernel
theorem dX10_bending_99 : decode cX10_bending 99 = .ok (.iload_n 1, 1) := by decide +kernel
theorem dX10_bending_100 : decode cX10_bending 100 = .ok (.iconst 4, 1) := by decide +kernel
theorem dX10_bending_101 : decode cX10_bending 101 = .ok (.aload_n 0, 1) := by decide +kernel
theorem dX10_bending_102 : decode cX10_bending 102 = .ok (.iload_n 1, 1) := by decide +kernel
theorem dX10_bending_103 : decode cX10_bending 103 = .ok (.iconst 4, 1) := by decide +kernel
theorem dX10_bending_104 : decode cX10_bending 104 = .ok (.invokevirtual 90, 3) := by decide +kernel
theorem dX10_bending_107 : decode cX10_bending 107 = .ok (.iconst 3, 1) := by decide +kernel
theorem dX10_bending_108 : decode cX10_bending 108 = .ok (.iadd, 1) := by decide +kernel
theorem dX10_bending_109 : decode cX10_bending 109 = .ok (.invokevirtual 108, 3) := by decide +kernel
theorem dX10_bending_112 : decode cX10_bending 112 = .ok (.aload_n 0, 1) := by decide +kernel
theorem dX10_bending_113 : decode cX10_bending 113 = .ok (.getfield 7, 3) := by decide +kernel
theorem dX10_bending_116 : decode cX10_bending 116 = .ok (.bipush 9, 2) := by decide +kernel
theorem dX10_bending_118 : decode cX10_bending 118 = .ok (.dup2, 1) := by decide +kernel
theorem dX10_bending_119 : decode cX10_bending 119 = .ok (.iaload, 1) := by decide +kernel
theorem dX10_bending_120 : decode cX10_bending 120 = .ok (.iconst 1, 1) := by decide +kernel
theorem dX10_bending_121 : decode cX10_bending 121 = .ok (.iadd, 1) := by decide +kernel
theorem dX10_bending_122 : decode cX10_bending 122 = .ok (.iastore, 1) := by decide +kernel
theorem dX10_bending_123 : decode cX10_bending 123 = .ok (.aload_n 0, 1) := by decide +kernel
theorem dX10_bending_124 : decode cX10_bending 124 = .ok (.iload_n 1, 1) := by decide +kernel
theorem dX10_bending_125 : decode cX10_bending 125 = .ok (.iconst 1, 1) := by decide +kernel
theorem dX10_bending_126 : decode cX10_bending 126 = .ok (.invokevirtual 90, 3) := by decide +kernel
theorem dX10_bending_129 : decode cX10_bending 129 = .ok (.ireturn, 1) := by decide +kernel
def fX10_bending (M : Mm) (x1 : Int32) (x2 : Int32) : Option (Int32 × Mm) := (fX10_right M (fX10_isTooth M x1) (1 : Int32)).bind fun q1 => if q1.1 = 0 then some ((0 : Int32), q1.2) else if (fX10_in q1.2 x2 (-3 : Int32) (3 : Int32)) = 0 then ((fX10_right q1.2 (0 : Int32) (2 : Int32)).bind fun q5 => if q5.1 = 0 then some ((0 : Int32), q5.2) else (fX10_isBad q5.2 x1).bind fun q8 => if q8 = 0 then ((fX10_of q5.2 x1 (1 : Int32)).bind fun q26 => if (fX10_in q5.2 (q26 + x2) (-3 : Int32) (3 : Int32)) = 0 then ((fX10_right q5.2 (0 : Int32) (3 : Int32)).bind fun q29 => if q29.1 = 0 then some ((0 : Int32), q29.2) else (fX10_changes q29.2).bind fun q32 => (fX10_of q32 x1 (1 : Int32)).bind fun q34 => (fX10_puts q32 x1 (1 : Int32) (q34 + x2)).bind fun q36 => (fX10_of q36 x1 (4 : Int32)).bind fun q38 => (fX10_puts q36 x1 (4 : Int32) (q38 + (3 : Int32))).bind fun q40 => (fX10_of (putI q40 (19, 0, 0) 9 ((q40.1 (19, 0, 0) 9) + (1 : Int32))) x1 (1 : Int32)).bind fun q42 => some (q42, (putI q40 (19, 0, 0) 9 ((q40.1 (19, 0, 0) 9) + (1 : Int32))))) else (fX10_right q5.2 (1 : Int32) (3 : Int32)).bind fun q44 => if q44.1 = 0 then some ((0 : Int32), q44.2) else (fX10_changes q44.2).bind fun q47 => (fX10_of q47 x1 (1 : Int32)).bind fun q49 => (fX10_puts q47 x1 (1 : Int32) (q49 + x2)).bind fun q51 => (fX10_of q51 x1 (4 : Int32)).bind fun q53 => (fX10_puts q51 x1 (4 : Int32) (q53 + (3 : Int32))).bind fun q55 => (fX10_of (putI q55 (19, 0, 0) 9 ((q55.1 (19, 0, 0) 9) + (1 : Int32))) x1 (1 : Int32)).bind fun q57 => some (q57, (putI q55 (19, 0, 0) 9 ((q55.1 (19, 0, 0) 9) + (1 : Int32))))) else (fX10_right q5.2 (0 : Int32) (3 : Int32)).bind fun q11 => if q11.1 = 0 then some ((0 : Int32), q11.2) else (fX10_changes q11.2).bind fun q14 => (fX10_of q14 x1 (1 : Int32)).bind fun q16 => (fX10_puts q14 x1 (1 : Int32) (q16 + x2)).bind fun q18 => (fX10_of q18 x1 (4 : Int32)).bind fun q20 => (fX10_puts q18 x1 (4 : Int32) (q20 + (3 : Int32))).bind fun q22 => (fX10_of (putI q22 (19, 0, 0) 9 ((q22.1 (19, 0, 0) 9) + (1 : Int32))) x1 (1 : Int32)).bind fun q24 => some (q24, (putI q22 (19, 0, 0) 9 ((q22.1 (19, 0, 0) 9) + (1 : Int32))))) else if x2 = 0 then ((fX10_right q1.2 (0 : Int32) (2 : Int32)).bind fun q60 => if q60.1 = 0 then some ((0 : Int32), q60.2) else (fX10_isBad q60.2 x1).bind fun q63 => if q63 = 0 then ((fX10_of q60.2 x1 (1 : Int32)).bind fun q81 => if (fX10_in q60.2 (q81 + x2) (-3 : Int32) (3 : Int32)) = 0 then ((fX10_right q60.2 (0 : Int32) (3 : Int32)).bind fun q84 => if q84.1 = 0 then some ((0 : Int32), q84.2) else (fX10_changes q84.2).bind fun q87 => (fX10_of q87 x1 (1 : Int32)).bind fun q89 => (fX10_puts q87 x1 (1 : Int32) (q89 + x2)).bind fun q91 => (fX10_of q91 x1 (4 : Int32)).bind fun q93 => (fX10_puts q91 x1 (4 : Int32) (q93 + (3 : Int32))).bind fun q95 => (fX10_of (putI q95 (19, 0, 0) 9 ((q95.1 (19, 0, 0) 9) + (1 : Int32))) x1 (1 : Int32)).bind fun q97 => some (q97, (putI q95 (19, 0, 0) 9 ((q95.1 (19, 0, 0) 9) + (1 : Int32))))) else (fX10_right q60.2 (1 : Int32) (3 : Int32)).bind fun q99 => if q99.1 = 0 then some ((0 : Int32), q99.2) else (fX10_changes q99.2).bind fun q102 => (fX10_of q102 x1 (1 : Int32)).bind fun q104 => (fX10_puts q102 x1 (1 : Int32) (q104 + x2)).bind fun q106 => (fX10_of q106 x1 (4 : Int32)).bind fun q108 => (fX10_puts q106 x1 (4 : Int32) (q108 + (3 : Int32))).bind fun q110 => (fX10_of (putI q110 (19, 0, 0) 9 ((q110.1 (19, 0, 0) 9) + (1 : Int32))) x1 (1 : Int32)).bind fun q112 => some (q112, (putI q110 (19, 0, 0) 9 ((q110.1 (19, 0, 0) 9) + (1 : Int32))))) else (fX10_right q60.2 (0 : Int32) (3 : Int32)).bind fun q66 => if q66.1 = 0 then some ((0 : Int32), q66.2) else (fX10_changes q66.2).bind fun q69 => (fX10_of q69 x1 (1 : Int32)).bind fun q71 => (fX10_puts q69 x1 (1 : Int32) (q71 + x2)).bind fun q73 => (fX10_of q73 x1 (4 : Int32)).bind fun q75 => (fX10_puts q73 x1 (4 : Int32) (q75 + (3 : Int32))).bind fun q77 => (fX10_of (putI q77 (19, 0, 0) 9 ((q77.1 (19, 0, 0) 9) + (1 : Int32))) x1 (1 : Int32)).bind fun q79 => some (q79, (putI q77 (19, 0, 0) 9 ((q77.1 (19, 0, 0) 9) + (1 : Int32))))) else (fX10_right q1.2 (1 : Int32) (2 : Int32)).bind fun q114 => if q114.1 = 0 then some ((0 : Int32), q114.2) else (fX10_isBad q114.2 x1).bind fun q117 => if q117 = 0 then ((fX10_of q114.2 x1 (1 : Int32)).bind fun q135 => if (fX10_in q114.2 (q135 + x2) (-3 : Int32) (3 : Int32)) = 0 then ((fX10_right q114.2 (0 : Int32) (3 : Int32)).bind fun q138 => if q138.1 = 0 then some ((0 : Int32), q138.2) else (fX10_changes q138.2).bind fun q141 => (fX10_of q141 x1 (1 : Int32)).bind fun q143 => (fX10_puts q141 x1 (1 : Int32) (q143 + x2)).bind fun q145 => (fX10_of q145 x1 (4 : Int32)).bind fun q147 => (fX10_puts q145 x1 (4 : Int32) (q147 + (3 : Int32))).bind fun q149 => (fX10_of (putI q149 (19, 0, 0) 9 ((q149.1 (19, 0, 0) 9) + (1 : Int32))) x1 (1 : Int32)).bind fun q151 => some (q151, (putI q149 (19, 0, 0) 9 ((q149.1 (19, 0, 0) 9) + (1 : Int32))))) else (fX10_right q114.2 (1 : Int32) (3 : Int32)).bind fun q153 => if q153.1 = 0 then some ((0 : Int32), q153.2) else (fX10_changes q153.2).bind fun q156 => (fX10_of q156 x1 (1 : Int32)).bind fun q158 => (fX10_puts q156 x1 (1 : Int32) (q158 + x2)).bind fun q160 => (fX10_of q160 x1 (4 : Int32)).bind fun q162 => (fX10_puts q160 x1 (4 : Int32) (q162 + (3 : Int32))).bind fun q164 => (fX10_of (putI q164 (19, 0, 0) 9 ((q164.1 (19, 0, 0) 9) + (1 : Int32))) x1 (1 : Int32)).bind fun q166 => some (q166, (putI q164 (19, 0, 0) 9 ((q164.1 (19, 0, 0) 9) + (1 : Int32))))) else (fX10_right q114.2 (0 : Int32) (3 : Int32)).bind fun q120 => if q120.1 = 0 then some ((0 : Int32), q120.2) else (fX10_changes q120.2).bind fun q123 => (fX10_of q123 x1 (1 : Int32)).bind fun q125 => (fX10_puts q123 x1 (1 : Int32) (q125 + x2)).bind fun q127 => (fX10_of q127 x1 (4 : Int32)).bind fun q129 => (fX10_puts q127 x1 (4 : Int32) (q129 + (3 : Int32))).bind fun q131 => (fX10_of (putI q131 (19, 0, 0) 9 ((q131.1 (19, 0, 0) 9) + (1 : Int32))) x1 (1 : Int32)).bind fun q133 => some (q133, (putI q131 (19, 0, 0) 9 ((q131.1 (19, 0, 0) 9) + (1 : Int32))))
set_option maxRecDepth 20000 in
set_option maxHeartbeats 2000000 in
theorem sX10_bending {wv : Nat} (M : Mm) (x1 : Int32) (x2 : Int32) {res : (Int32 × Mm)} (h : fX10_bending M x1 x2 = some res) : TF (wv + 1) yX10_bending cX10_bending 3 (some .int) 2 [.inr (18, 0, 0), .inl (.int x1), .inl (.int x2)] M (some (.int res.1)) res.2 := by
  rw [fX10_bending] at h
  refine TF.go (n := 0) (ls := [some (.inr (18, 0, 0)), some (.inl (.int x1)), some (.inl (.int x2))]) rfl rfl rfl rfl rfl ?_
  refine z_aload_n (i := 0) dX10_bending_0 rfl rfl ?_
  refine z_aload_n (i := 0) dX10_bending_1 rfl rfl ?_
  refine z_iload_n (i := 1) dX10_bending_2 rfl rfl ?_
  refine z_fVi (sX10_isTooth M x1) dX10_bending_3 ml_X10_291 cd_X10_isTooth mk18 rfl rfl rfl rfl rfl rfl ?_
  refine z_iconst (v := (1 : Int32)) dX10_bending_6 kc_1 ?_
  obtain ⟨q1, hq2, h⟩ := bnd h
  refine z_fVi (sX10_right M (fX10_isTooth M x1) (1 : Int32) hq2) dX10_bending_7 ml_X10_127 cd_X10_right mk18 rfl rfl rfl rfl rfl rfl ?_
  refine z_if_eq (tgt := 78) dX10_bending_10 rfl (fun hc3 => ?_) (fun hc3 => ?_)
  · have h := it_t h hc3
    refine z_iconst (v := (0 : Int32)) dX10_bending_78 kc_0 ?_
    cases h
    exact z_iret dX10_bending_79 rfl rfl (Nat.le_refl _) (Nat.le_refl _) ⟨rfl, rfl⟩
  · have h := it_f h hc3
    refine z_aload_n (i := 0) dX10_bending_13 rfl rfl ?_
    refine z_iload_n (i := 2) dX10_bending_14 rfl rfl ?_
    refine z_bipush (v := (-3 : Int32)) dX10_bending_15 kb_m3 ?_
    refine z_iconst (v := (3 : Int32)) dX10_bending_17 kc_3 ?_
    refine z_fSi (sX10_in q1.2 x2 (-3 : Int32) (3 : Int32)) dX10_bending_18 ml_X10_82 cd_X10_in rfl rfl rfl rfl rfl ?_
    refine z_if_eq (tgt := 32) dX10_bending_21 rfl (fun hc4 => ?_) (fun hc4 => ?_)
    · have h := it_t h hc4
      refine z_iconst (v := (0 : Int32)) dX10_bending_32 kc_0 ?_
      refine z_iconst (v := (2 : Int32)) dX10_bending_33 kc_2 ?_
      obtain ⟨q5, hq6, h⟩ := bnd h
      refine z_fVi (sX10_right q1.2 (0 : Int32) (2 : Int32) hq6) dX10_bending_34 ml_X10_127 cd_X10_right mk18 rfl rfl rfl rfl rfl rfl ?_
      refine z_if_eq (tgt := 78) dX10_bending_37 rfl (fun hc7 => ?_) (fun hc7 => ?_)
      · have h := it_t h hc7
        refine z_iconst (v := (0 : Int32)) dX10_bending_78 kc_0 ?_
        cases h
        exact z_iret dX10_bending_79 rfl rfl (Nat.le_refl _) (Nat.le_refl _) ⟨rfl, rfl⟩
      · have h := it_f h hc7
        refine z_aload_n (i := 0) dX10_bending_40 rfl rfl ?_
        refine z_aload_n (i := 0) dX10_bending_41 rfl rfl ?_
        refine z_iload_n (i := 1) dX10_bending_42 rfl rfl ?_
        obtain ⟨q8, hq9, h⟩ := bnd h
        refine z_fVi (sX10_isBad q5.2 x1 hq9) dX10_bending_43 ml_X10_100 cd_X10_isBad mk18 rfl rfl rfl rfl rfl rfl ?_
        refine z_if_ne (tgt := 70) dX10_bending_46 rfl (fun hc10 => ?_) (fun hc10 => ?_)
        · have h := it_f h hc10
          refine z_iconst (v := (0 : Int32)) dX10_bending_70 kc_0 ?_
          refine z_iconst (v := (3 : Int32)) dX10_bending_71 kc_3 ?_
          obtain ⟨q11, hq12, h⟩ := bnd h
          refine z_fVi (sX10_right q5.2 (0 : Int32) (3 : Int32) hq12) dX10_bending_72 ml_X10_127 cd_X10_right mk18 rfl rfl rfl rfl rfl rfl ?_
          refine z_if_ne (tgt := 80) dX10_bending_75 rfl (fun hc13 => ?_) (fun hc13 => ?_)
          · have h := it_f h hc13
            refine z_aload_n (i := 0) dX10_bending_80 rfl rfl ?_
            obtain ⟨q14, hq15, h⟩ := bnd h
            refine z_fVv (sX10_changes q11.2 hq15) dX10_bending_81 ml_X10_344 cd_X10_changes mk18 rfl rfl rfl rfl rfl rfl ?_
            refine z_aload_n (i := 0) dX10_bending_84 rfl rfl ?_
            refine z_iload_n (i := 1) dX10_bending_85 rfl rfl ?_
            refine z_iconst (v := (1 : Int32)) dX10_bending_86 kc_1 ?_
            refine z_aload_n (i := 0) dX10_bending_87 rfl rfl ?_
            refine z_iload_n (i := 1) dX10_bending_88 rfl rfl ?_
            refine z_iconst (v := (1 : Int32)) dX10_bending_89 kc_1 ?_
            obtain ⟨q16, hq17, h⟩ := bnd h
            refine z_fVi (sX10_of q14 x1 (1 : Int32) hq17) dX10_bending_90 ml_X10_90 cd_X10_of mk18 rfl rfl rfl rfl rfl rfl ?_
            refine z_iload_n (i := 2) dX10_bending_93 rfl rfl ?_
            refine z_iadd dX10_bending_94 ?_
            obtain ⟨q18, hq19, h⟩ := bnd h
            refine z_fVv (sX10_puts q14 x1 (1 : Int32) (q16 + x2) hq19) dX10_bending_95 ml_X10_108 cd_X10_puts mk18 rfl rfl rfl rfl rfl rfl ?_
            refine z_aload_n (i := 0) dX10_bending_98 rfl rfl ?_
            refine z_iload_n (i := 1) dX10_bending_99 rfl rfl ?_
            refine z_iconst (v := (4 : Int32)) dX10_bending_100 kc_4 ?_
            refine z_aload_n (i := 0) dX10_bending_101 rfl rfl ?_
            refine z_iload_n (i := 1) dX10_bending_102 rfl rfl ?_
            refine z_iconst (v := (4 : Int32)) dX10_bending_103 kc_4 ?_
            obtain ⟨q20, hq21, h⟩ := bnd h
            refine z_fVi (sX10_of q18 x1 (4 : Int32) hq21) dX10_bending_104 ml_X10_90 cd_X10_of mk18 rfl rfl rfl rfl rfl rfl ?_
            refine z_iconst (v := (3 : Int32)) dX10_bending_107 kc_3 ?_
            refine z_iadd dX10_bending_108 ?_
            obtain ⟨q22, hq23, h⟩ := bnd h
            refine z_fVv (sX10_puts q18 x1 (4 : Int32) (q20 + (3 : Int32)) hq23) dX10_bending_109 ml_X10_108 cd_X10_puts mk18 rfl rfl rfl rfl rfl rfl ?_
            refine z_aload_n (i := 0) dX10_bending_112 rfl rfl ?_
            refine z_getR (r' := (19, 0, 0)) dX10_bending_113 fl_X10_7 mk18 rfl rfl ?_
            refine z_bipush (v := (9 : Int32)) dX10_bending_116 kb_9 ?_
            refine z_dup2 dX10_bending_118 rfl rfl ?_
            refine z_iald (x := (q22.1 (19, 0, 0) 9)) dX10_bending_119 (m19 _ (Nat.le_of_ble_eq_true rfl)) rfl (by decide) rfl ?_
            refine z_iconst (v := (1 : Int32)) dX10_bending_120 kc_1 ?_
            refine z_iadd dX10_bending_121 ?_
            refine z_iast (j := 9) allR_nd dX10_bending_122 (m19 _ (Nat.le_of_ble_eq_true rfl)) rfl (by decide) rfl ?_
            refine z_aload_n (i := 0) dX10_bending_123 rfl rfl ?_
            refine z_iload_n (i := 1) dX10_bending_124 rfl rfl ?_
            refine z_iconst (v := (1 : Int32)) dX10_bending_125 kc_1 ?_
            obtain ⟨q24, hq25, h⟩ := bnd h
            refine z_fVi (sX10_of (putI q22 (19, 0, 0) 9 ((q22.1 (19, 0, 0) 9) + (1 : Int32))) x1 (1 : Int32) hq25) dX10_bending_126 ml_X10_90 cd_X10_of mk18 rfl rfl rfl rfl rfl rfl ?_
            cases h
            exact z_iret dX10_bending_129 rfl rfl (Nat.le_refl _) (Nat.le_refl _) ⟨rfl, rfl⟩
          · have h := it_t h hc13
            refine z_iconst (v := (0 : Int32)) dX10_bending_78 kc_0 ?_
            cases h
            exact z_iret dX10_bending_79 rfl rfl (Nat.le_refl _) (Nat.le_refl _) ⟨rfl, rfl⟩
        · have h := it_t h hc10
          refine z_aload_n (i := 0) dX10_bending_49 rfl rfl ?_
          refine z_iload_n (i := 1) dX10_bending_50 rfl rfl ?_
          refine z_iconst (v := (1 : Int32)) dX10_bending_51 kc_1 ?_
          obtain ⟨q26, hq27, h⟩ := bnd h
          refine z_fVi (sX10_of q5.2 x1 (1 : Int32) hq27) dX10_bending_52 ml_X10_90 cd_X10_of mk18 rfl rfl rfl rfl rfl rfl ?_
          refine z_iload_n (i := 2) dX10_bending_55 rfl rfl ?_
          refine z_iadd dX10_bending_56 ?_
          refine z_bipush (v := (-3 : Int32)) dX10_bending_57 kb_m3 ?_
          refine z_iconst (v := (3 : Int32)) dX10_bending_59 kc_3 ?_
          refine z_fSi (sX10_in q5.2 (q26 + x2) (-3 : Int32) (3 : Int32)) dX10_bending_60 ml_X10_82 cd_X10_in rfl rfl rfl rfl rfl ?_
          refine z_if_eq (tgt := 70) dX10_bending_63 rfl (fun hc28 => ?_) (fun hc28 => ?_)
          · have h := it_t h hc28
            refine z_iconst (v := (0 : Int32)) dX10_bending_70 kc_0 ?_
            refine z_iconst (v := (3 : Int32)) dX10_bending_71 kc_3 ?_
            obtain ⟨q29, hq30, h⟩ := bnd h
            refine z_fVi (sX10_right q5.2 (0 : Int32) (3 : Int32) hq30) dX10_bending_72 ml_X10_127 cd_X10_right mk18 rfl rfl rfl rfl rfl rfl ?_
            refine z_if_ne (tgt := 80) dX10_bending_75 rfl (fun hc31 => ?_) (fun hc31 => ?_)
            · have h := it_f h hc31
              refine z_aload_n (i := 0) dX10_bending_80 rfl rfl ?_
              obtain ⟨q32, hq33, h⟩ := bnd h
              refine z_fVv (sX10_changes q29.2 hq33) dX10_bending_81 ml_X10_344 cd_X10_changes mk18 rfl rfl rfl rfl rfl rfl ?_
              refine z_aload_n (i := 0) dX10_bending_84 rfl rfl ?_
              refine z_iload_n (i := 1) dX10_bending_85 rfl rfl ?_
              refine z_iconst (v := (1 : Int32)) dX10_bending_86 kc_1 ?_
              refine z_aload_n (i := 0) dX10_bending_87 rfl rfl ?_
              refine z_iload_n (i := 1) dX10_bending_88 rfl rfl ?_
              refine z_iconst (v := (1 : Int32)) dX10_bending_89 kc_1 ?_
              obtain ⟨q34, hq35, h⟩ := bnd h
              refine z_fVi (sX10_of q32 x1 (1 : Int32) hq35) dX10_bending_90 ml_X10_90 cd_X10_of mk18 rfl rfl rfl rfl rfl rfl ?_
              refine z_iload_n (i := 2) dX10_bending_93 rfl rfl ?_
              refine z_iadd dX10_bending_94 ?_
              obtain ⟨q36, hq37, h⟩ := bnd h
              refine z_fVv (sX10_puts q32 x1 (1 : Int32) (q34 + x2) hq37) dX10_bending_95 ml_X10_108 cd_X10_puts mk18 rfl rfl rfl rfl rfl rfl ?_
              refine z_aload_n (i := 0) dX10_bending_98 rfl rfl ?_
              refine z_iload_n (i := 1) dX10_bending_99 rfl rfl ?_
              refine z_iconst (v := (4 : Int32)) dX10_bending_100 kc_4 ?_
              refine z_aload_n (i := 0) dX10_bending_101 rfl rfl ?_
              refine z_iload_n (i := 1) dX10_bending_102 rfl rfl ?_
              refine z_iconst (v := (4 : Int32)) dX10_bending_103 kc_4 ?_
              obtain ⟨q38, hq39, h⟩ := bnd h
              refine z_fVi (sX10_of q36 x1 (4 : Int32) hq39) dX10_bending_104 ml_X10_90 cd_X10_of mk18 rfl rfl rfl rfl rfl rfl ?_
              refine z_iconst (v := (3 : Int32)) dX10_bending_107 kc_3 ?_
              refine z_iadd dX10_bending_108 ?_
              obtain ⟨q40, hq41, h⟩ := bnd h
              refine z_fVv (sX10_puts q36 x1 (4 : Int32) (q38 + (3 : Int32)) hq41) dX10_bending_109 ml_X10_108 cd_X10_puts mk18 rfl rfl rfl rfl rfl rfl ?_
              refine z_aload_n (i := 0) dX10_bending_112 rfl rfl ?_
              refine z_getR (r' := (19, 0, 0)) dX10_bending_113 fl_X10_7 mk18 rfl rfl ?_
              refine z_bipush (v := (9 : Int32)) dX10_bending_116 kb_9 ?_
              refine z_dup2 dX10_bending_118 rfl rfl ?_
              refine z_iald (x := (q40.1 (19, 0, 0) 9)) dX10_bending_119 (m19 _ (Nat.le_of_ble_eq_true rfl)) rfl (by decide) rfl ?_
              refine z_iconst (v := (1 : Int32)) dX10_bending_120 kc_1 ?_
              refine z_iadd dX10_bending_121 ?_
              refine z_iast (j := 9) allR_nd dX10_bending_122 (m19 _ (Nat.le_of_ble_eq_true rfl)) rfl (by decide) rfl ?_
              refine z_aload_n (i := 0) dX10_bending_123 rfl rfl ?_
              refine z_iload_n (i := 1) dX10_bending_124 rfl rfl ?_
              refine z_iconst (v := (1 : Int32)) dX10_bending_125 kc_1 ?_
              obtain ⟨q42, hq43, h⟩ := bnd h
              refine z_fVi (sX10_of (putI q40 (19, 0, 0) 9 ((q40.1 (19, 0, 0) 9) + (1 : Int32))) x1 (1 : Int32) hq43) dX10_bending_126 ml_X10_90 cd_X10_of mk18 rfl rfl rfl rfl rfl rfl ?_
              cases h
              exact z_iret dX10_bending_129 rfl rfl (Nat.le_refl _) (Nat.le_refl _) ⟨rfl, rfl⟩
            · have h := it_t h hc31
              refine z_iconst (v := (0 : Int32)) dX10_bending_78 kc_0 ?_
              cases h
              exact z_iret dX10_bending_79 rfl rfl (Nat.le_refl _) (Nat.le_refl _) ⟨rfl, rfl⟩
          · have h := it_f h hc28
            refine z_iconst (v := (1 : Int32)) dX10_bending_66 kc_1 ?_
            refine z_goto (tgt := 71) dX10_bending_67 rfl ?_
            refine z_iconst (v := (3 : Int32)) dX10_bending_71 kc_3 ?_
            obtain ⟨q44, hq45, h⟩ := bnd h
            refine z_fVi (sX10_right q5.2 (1 : Int32) (3 : Int32) hq45) dX10_bending_72 ml_X10_127 cd_X10_right mk18 rfl rfl rfl rfl rfl rfl ?_
            refine z_if_ne (tgt := 80) dX10_bending_75 rfl (fun hc46 => ?_) (fun hc46 => ?_)
            · have h := it_f h hc46
              refine z_aload_n (i := 0) dX10_bending_80 rfl rfl ?_
              obtain ⟨q47, hq48, h⟩ := bnd h
              refine z_fVv (sX10_changes q44.2 hq48) dX10_bending_81 ml_X10_344 cd_X10_changes mk18 rfl rfl rfl rfl rfl rfl ?_
              refine z_aload_n (i := 0) dX10_bending_84 rfl rfl ?_
              refine z_iload_n (i := 1) dX10_bending_85 rfl rfl ?_
              refine z_iconst (v := (1 : Int32)) dX10_bending_86 kc_1 ?_
              refine z_aload_n (i := 0) dX10_bending_87 rfl rfl ?_
              refine z_iload_n (i := 1) dX10_bending_88 rfl rfl ?_
              refine z_iconst (v := (1 : Int32)) dX10_bending_89 kc_1 ?_
              obtain ⟨q49, hq50, h⟩ := bnd h
              refine z_fVi (sX10_of q47 x1 (1 : Int32) hq50) dX10_bending_90 ml_X10_90 cd_X10_of mk18 rfl rfl rfl rfl rfl rfl ?_
              refine z_iload_n (i := 2) dX10_bending_93 rfl rfl ?_
              refine z_iadd dX10_bending_94 ?_
              obtain ⟨q51, hq52, h⟩ := bnd h
              refine z_fVv (sX10_puts q47 x1 (1 : Int32) (q49 + x2) hq52) dX10_bending_95 ml_X10_108 cd_X10_puts mk18 rfl rfl rfl rfl rfl rfl ?_
              refine z_aload_n (i := 0) dX10_bending_98 rfl rfl ?_
              refine z_iload_n (i := 1) dX10_bending_99 rfl rfl ?_
              refine z_iconst (v := (4 : Int32)) dX10_bending_100 kc_4 ?_
              refine z_aload_n (i := 0) dX10_bending_101 rfl rfl ?_
              refine z_iload_n (i := 1) dX10_bending_102 rfl rfl ?_
              refine z_iconst (v := (4 : Int32)) dX10_bending_103 kc_4 ?_
              obtain ⟨q53, hq54, h⟩ := bnd h
              refine z_fVi (sX10_of q51 x1 (4 : Int32) hq54) dX10_bending_104 ml_X10_90 cd_X10_of mk18 rfl rfl rfl rfl rfl rfl ?_
              refine z_iconst (v := (3 : Int32)) dX10_bending_107 kc_3 ?_
              refine z_iadd dX10_bending_108 ?_
              obtain ⟨q55, hq56, h⟩ := bnd h
              refine z_fVv (sX10_puts q51 x1 (4 : Int32) (q53 + (3 : Int32)) hq56) dX10_bending_109 ml_X10_108 cd_X10_puts mk18 rfl rfl rfl rfl rfl rfl ?_
              refine z_aload_n (i := 0) dX10_bending_112 rfl rfl ?_
              refine z_getR (r' := (19, 0, 0)) dX10_bending_113 fl_X10_7 mk18 rfl rfl ?_
              refine z_bipush (v := (9 : Int32)) dX10_bending_116 kb_9 ?_
              refine z_dup2 dX10_bending_118 rfl rfl ?_
              refine z_iald (x := (q55.1 (19, 0, 0) 9)) dX10_bending_119 (m19 _ (Nat.le_of_ble_eq_true rfl)) rfl (by decide) rfl ?_
              refine z_iconst (v := (1 : Int32)) dX10_bending_120 kc_1 ?_
              refine z_iadd dX10_bending_121 ?_
              refine z_iast (j := 9) allR_nd dX10_bending_122 (m19 _ (Nat.le_of_ble_eq_true rfl)) rfl (by decide) rfl ?_
              refine z_aload_n (i := 0) dX10_bending_123 rfl rfl ?_
              refine z_iload_n (i := 1) dX10_bending_124 rfl rfl ?_
              refine z_iconst (v := (1 : Int32)) dX10_bending_125 kc_1 ?_
              obtain ⟨q57, hq58, h⟩ := bnd h
              refine z_fVi (sX10_of (putI q55 (19, 0, 0) 9 ((q55.1 (19, 0, 0) 9) + (1 : Int32))) x1 (1 : Int32) hq58) dX10_bending_126 ml_X10_90 cd_X10_of mk18 rfl rfl rfl rfl rfl rfl ?_
              cases h
              exact z_iret dX10_bending_129 rfl rfl (Nat.le_refl _) (Nat.le_refl _) ⟨rfl, rfl⟩
            · have h := it_t h hc46
              refine z_iconst (v := (0 : Int32)) dX10_bending_78 kc_0 ?_
              cases h
              exact z_iret dX10_bending_79 rfl rfl (Nat.le_refl _) (Nat.le_refl _) ⟨rfl, rfl⟩
    · have h := it_f h hc4
      refine z_iload_n (i := 2) dX10_bending_24 rfl rfl ?_
      refine z_if_eq (tgt := 32) dX10_bending_25 rfl (fun hc59 => ?_) (fun hc59 => ?_)
      · have h := it_t h hc59
        refine z_iconst (v := (0 : Int32)) dX10_bending_32 kc_0 ?_
        refine z_iconst (v := (2 : Int32)) dX10_bending_33 kc_2 ?_
        obtain ⟨q60, hq61, h⟩ := bnd h
        refine z_fVi (sX10_right q1.2 (0 : Int32) (2 : Int32) hq61) dX10_bending_34 ml_X10_127 cd_X10_right mk18 rfl rfl rfl rfl rfl rfl ?_
        refine z_if_eq (tgt := 78) dX10_bending_37 rfl (fun hc62 => ?_) (fun hc62 => ?_)
        · have h := it_t h hc62
          refine z_iconst (v := (0 : Int32)) dX10_bending_78 kc_0 ?_
          cases h
          exact z_iret dX10_bending_79 rfl rfl (Nat.le_refl _) (Nat.le_refl _) ⟨rfl, rfl⟩
        · have h := it_f h hc62
          refine z_aload_n (i := 0) dX10_bending_40 rfl rfl ?_
          refine z_aload_n (i := 0) dX10_bending_41 rfl rfl ?_
          refine z_iload_n (i := 1) dX10_bending_42 rfl rfl ?_
          obtain ⟨q63, hq64, h⟩ := bnd h
          refine z_fVi (sX10_isBad q60.2 x1 hq64) dX10_bending_43 ml_X10_100 cd_X10_isBad mk18 rfl rfl rfl rfl rfl rfl ?_
          refine z_if_ne (tgt := 70) dX10_bending_46 rfl (fun hc65 => ?_) (fun hc65 => ?_)
          · have h := it_f h hc65
            refine z_iconst (v := (0 : Int32)) dX10_bending_70 kc_0 ?_
            refine z_iconst (v := (3 : Int32)) dX10_bending_71 kc_3 ?_
            obtain ⟨q66, hq67, h⟩ := bnd h
            refine z_fVi (sX10_right q60.2 (0 : Int32) (3 : Int32) hq67) dX10_bending_72 ml_X10_127 cd_X10_right mk18 rfl rfl rfl rfl rfl rfl ?_
            refine z_if_ne (tgt := 80) dX10_bending_75 rfl (fun hc68 => ?_) (fun hc68 => ?_)
            · have h := it_f h hc68
              refine z_aload_n (i := 0) dX10_bending_80 rfl rfl ?_
              obtain ⟨q69, hq70, h⟩ := bnd h
              refine z_fVv (sX10_changes q66.2 hq70) dX10_bending_81 ml_X10_344 cd_X10_changes mk18 rfl rfl rfl rfl rfl rfl ?_
              refine z_aload_n (i := 0) dX10_bending_84 rfl rfl ?_
              refine z_iload_n (i := 1) dX10_bending_85 rfl rfl ?_
              refine z_iconst (v := (1 : Int32)) dX10_bending_86 kc_1 ?_
              refine z_aload_n (i := 0) dX10_bending_87 rfl rfl ?_
              refine z_iload_n (i := 1) dX10_bending_88 rfl rfl ?_
              refine z_iconst (v := (1 : Int32)) dX10_bending_89 kc_1 ?_
              obtain ⟨q71, hq72, h⟩ := bnd h
              refine z_fVi (sX10_of q69 x1 (1 : Int32) hq72) dX10_bending_90 ml_X10_90 cd_X10_of mk18 rfl rfl rfl rfl rfl rfl ?_
              refine z_iload_n (i := 2) dX10_bending_93 rfl rfl ?_
              refine z_iadd dX10_bending_94 ?_
              obtain ⟨q73, hq74, h⟩ := bnd h
              refine z_fVv (sX10_puts q69 x1 (1 : Int32) (q71 + x2) hq74) dX10_bending_95 ml_X10_108 cd_X10_puts mk18 rfl rfl rfl rfl rfl rfl ?_
              refine z_aload_n (i := 0) dX10_bending_98 rfl rfl ?_
              refine z_iload_n (i := 1) dX10_bending_99 rfl rfl ?_
              refine z_iconst (v := (4 : Int32)) dX10_bending_100 kc_4 ?_
              refine z_aload_n (i := 0) dX10_bending_101 rfl rfl ?_
              refine z_iload_n (i := 1) dX10_bending_102 rfl rfl ?_
              refine z_iconst (v := (4 : Int32)) dX10_bending_103 kc_4 ?_
              obtain ⟨q75, hq76, h⟩ := bnd h
              refine z_fVi (sX10_of q73 x1 (4 : Int32) hq76) dX10_bending_104 ml_X10_90 cd_X10_of mk18 rfl rfl rfl rfl rfl rfl ?_
              refine z_iconst (v := (3 : Int32)) dX10_bending_107 kc_3 ?_
              refine z_iadd dX10_bending_108 ?_
              obtain ⟨q77, hq78, h⟩ := bnd h
              refine z_fVv (sX10_puts q73 x1 (4 : Int32) (q75 + (3 : Int32)) hq78) dX10_bending_109 ml_X10_108 cd_X10_puts mk18 rfl rfl rfl rfl rfl rfl ?_
              refine z_aload_n (i := 0) dX10_bending_112 rfl rfl ?_
              refine z_getR (r' := (19, 0, 0)) dX10_bending_113 fl_X10_7 mk18 rfl rfl ?_
              refine z_bipush (v := (9 : Int32)) dX10_bending_116 kb_9 ?_
              refine z_dup2 dX10_bending_118 rfl rfl ?_
              refine z_iald (x := (q77.1 (19, 0, 0) 9)) dX10_bending_119 (m19 _ (Nat.le_of_ble_eq_true rfl)) rfl (by decide) rfl ?_
              refine z_iconst (v := (1 : Int32)) dX10_bending_120 kc_1 ?_
              refine z_iadd dX10_bending_121 ?_
              refine z_iast (j := 9) allR_nd dX10_bending_122 (m19 _ (Nat.le_of_ble_eq_true rfl)) rfl (by decide) rfl ?_
              refine z_aload_n (i := 0) dX10_bending_123 rfl rfl ?_
              refine z_iload_n (i := 1) dX10_bending_124 rfl rfl ?_
              refine z_iconst (v := (1 : Int32)) dX10_bending_125 kc_1 ?_
              obtain ⟨q79, hq80, h⟩ := bnd h
              refine z_fVi (sX10_of (putI q77 (19, 0, 0) 9 ((q77.1 (19, 0, 0) 9) + (1 : Int32))) x1 (1 : Int32) hq80) dX10_bending_126 ml_X10_90 cd_X10_of mk18 rfl rfl rfl rfl rfl rfl ?_
              cases h
              exact z_iret dX10_bending_129 rfl rfl (Nat.le_refl _) (Nat.le_refl _) ⟨rfl, rfl⟩
            · have h := it_t h hc68
              refine z_iconst (v := (0 : Int32)) dX10_bending_78 kc_0 ?_
              cases h
              exact z_iret dX10_bending_79 rfl rfl (Nat.le_refl _) (Nat.le_refl _) ⟨rfl, rfl⟩
          · have h := it_t h hc65
            refine z_aload_n (i := 0) dX10_bending_49 rfl rfl ?_
            refine z_iload_n (i := 1) dX10_bending_50 rfl rfl ?_
            refine z_iconst (v := (1 : Int32)) dX10_bending_51 kc_1 ?_
            obtain ⟨q81, hq82, h⟩ := bnd h
            refine z_fVi (sX10_of q60.2 x1 (1 : Int32) hq82) dX10_bending_52 ml_X10_90 cd_X10_of mk18 rfl rfl rfl rfl rfl rfl ?_
            refine z_iload_n (i := 2) dX10_bending_55 rfl rfl ?_
            refine z_iadd dX10_bending_56 ?_
            refine z_bipush (v := (-3 : Int32)) dX10_bending_57 kb_m3 ?_
            refine z_iconst (v := (3 : Int32)) dX10_bending_59 kc_3 ?_
            refine z_fSi (sX10_in q60.2 (q81 + x2) (-3 : Int32) (3 : Int32)) dX10_bending_60 ml_X10_82 cd_X10_in rfl rfl rfl rfl rfl ?_
            refine z_if_eq (tgt := 70) dX10_bending_63 rfl (fun hc83 => ?_) (fun hc83 => ?_)
            · have h := it_t h hc83
              refine z_iconst (v := (0 : Int32)) dX10_bending_70 kc_0 ?_
              refine z_iconst (v := (3 : Int32)) dX10_bending_71 kc_3 ?_
              obtain ⟨q84, hq85, h⟩ := bnd h
              refine z_fVi (sX10_right q60.2 (0 : Int32) (3 : Int32) hq85) dX10_bending_72 ml_X10_127 cd_X10_right mk18 rfl rfl rfl rfl rfl rfl ?_
              refine z_if_ne (tgt := 80) dX10_bending_75 rfl (fun hc86 => ?_) (fun hc86 => ?_)
              · have h := it_f h hc86
                refine z_aload_n (i := 0) dX10_bending_80 rfl rfl ?_
                obtain ⟨q87, hq88, h⟩ := bnd h
                refine z_fVv (sX10_changes q84.2 hq88) dX10_bending_81 ml_X10_344 cd_X10_changes mk18 rfl rfl rfl rfl rfl rfl ?_
                refine z_aload_n (i := 0) dX10_bending_84 rfl rfl ?_
                refine z_iload_n (i := 1) dX10_bending_85 rfl rfl ?_
                refine z_iconst (v := (1 : Int32)) dX10_bending_86 kc_1 ?_
                refine z_aload_n (i := 0) dX10_bending_87 rfl rfl ?_
                refine z_iload_n (i := 1) dX10_bending_88 rfl rfl ?_
                refine z_iconst (v := (1 : Int32)) dX10_bending_89 kc_1 ?_
                obtain ⟨q89, hq90, h⟩ := bnd h
                refine z_fVi (sX10_of q87 x1 (1 : Int32) hq90) dX10_bending_90 ml_X10_90 cd_X10_of mk18 rfl rfl rfl rfl rfl rfl ?_
                refine z_iload_n (i := 2) dX10_bending_93 rfl rfl ?_
                refine z_iadd dX10_bending_94 ?_
                obtain ⟨q91, hq92, h⟩ := bnd h
                refine z_fVv (sX10_puts q87 x1 (1 : Int32) (q89 + x2) hq92) dX10_bending_95 ml_X10_108 cd_X10_puts mk18 rfl rfl rfl rfl rfl rfl ?_
                refine z_aload_n (i := 0) dX10_bending_98 rfl rfl ?_
                refine z_iload_n (i := 1) dX10_bending_99 rfl rfl ?_
                refine z_iconst (v := (4 : Int32)) dX10_bending_100 kc_4 ?_
                refine z_aload_n (i := 0) dX10_bending_101 rfl rfl ?_
                refine z_iload_n (i := 1) dX10_bending_102 rfl rfl ?_
                refine z_iconst (v := (4 : Int32)) dX10_bending_103 kc_4 ?_
                obtain ⟨q93, hq94, h⟩ := bnd h
                refine z_fVi (sX10_of q91 x1 (4 : Int32) hq94) dX10_bending_104 ml_X10_90 cd_X10_of mk18 rfl rfl rfl rfl rfl rfl ?_
                refine z_iconst (v := (3 : Int32)) dX10_bending_107 kc_3 ?_
                refine z_iadd dX10_bending_108 ?_
                obtain ⟨q95, hq96, h⟩ := bnd h
                refine z_fVv (sX10_puts q91 x1 (4 : Int32) (q93 + (3 : Int32)) hq96) dX10_bending_109 ml_X10_108 cd_X10_puts mk18 rfl rfl rfl rfl rfl rfl ?_
                refine z_aload_n (i := 0) dX10_bending_112 rfl rfl ?_
                refine z_getR (r' := (19, 0, 0)) dX10_bending_113 fl_X10_7 mk18 rfl rfl ?_
                refine z_bipush (v := (9 : Int32)) dX10_bending_116 kb_9 ?_
                refine z_dup2 dX10_bending_118 rfl rfl ?_
                refine z_iald (x := (q95.1 (19, 0, 0) 9)) dX10_bending_119 (m19 _ (Nat.le_of_ble_eq_true rfl)) rfl (by decide) rfl ?_
                refine z_iconst (v := (1 : Int32)) dX10_bending_120 kc_1 ?_
                refine z_iadd dX10_bending_121 ?_
                refine z_iast (j := 9) allR_nd dX10_bending_122 (m19 _ (Nat.le_of_ble_eq_true rfl)) rfl (by decide) rfl ?_
                refine z_aload_n (i := 0) dX10_bending_123 rfl rfl ?_
                refine z_iload_n (i := 1) dX10_bending_124 rfl rfl ?_
                refine z_iconst (v := (1 : Int32)) dX10_bending_125 kc_1 ?_
                obtain ⟨q97, hq98, h⟩ := bnd h
                refine z_fVi (sX10_of (putI q95 (19, 0, 0) 9 ((q95.1 (19, 0, 0) 9) + (1 : Int32))) x1 (1 : Int32) hq98) dX10_bending_126 ml_X10_90 cd_X10_of mk18 rfl rfl rfl rfl rfl rfl ?_
                cases h
                exact z_iret dX10_bending_129 rfl rfl (Nat.le_refl _) (Nat.le_refl _) ⟨rfl, rfl⟩
              · have h := it_t h hc86
                refine z_iconst (v := (0 : Int32)) dX10_bending_78 kc_0 ?_
                cases h
                exact z_iret dX10_bending_79 rfl rfl (Nat.le_refl _) (Nat.le_refl _) ⟨rfl, rfl⟩
            · have h := it_f h hc83
              refine z_iconst (v := (1 : Int32)) dX10_bending_66 kc_1 ?_
              refine z_goto (tgt := 71) dX10_bending_67 rfl ?_
              refine z_iconst (v := (3 : Int32)) dX10_bending_71 kc_3 ?_
              obtain ⟨q99, hq100, h⟩ := bnd h
              refine z_fVi (sX10_right q60.2 (1 : Int32) (3 : Int32) hq100) dX10_bending_72 ml_X10_127 cd_X10_right mk18 rfl rfl rfl rfl rfl rfl ?_
              refine z_if_ne (tgt := 80) dX10_bending_75 rfl (fun hc101 => ?_) (fun hc101 => ?_)
              · have h := it_f h hc101
                refine z_aload_n (i := 0) dX10_bending_80 rfl rfl ?_
                obtain ⟨q102, hq103, h⟩ := bnd h
                refine z_fVv (sX10_changes q99.2 hq103) dX10_bending_81 ml_X10_344 cd_X10_changes mk18 rfl rfl rfl rfl rfl rfl ?_
                refine z_aload_n (i := 0) dX10_bending_84 rfl rfl ?_
                refine z_iload_n (i := 1) dX10_bending_85 rfl rfl ?_
                refine z_iconst (v := (1 : Int32)) dX10_bending_86 kc_1 ?_
                refine z_aload_n (i := 0) dX10_bending_87 rfl rfl ?_
                refine z_iload_n (i := 1) dX10_bending_88 rfl rfl ?_
                refine z_iconst (v := (1 : Int32)) dX10_bending_89 kc_1 ?_
                obtain ⟨q104, hq105, h⟩ := bnd h
                refine z_fVi (sX10_of q102 x1 (1 : Int32) hq105) dX10_bending_90 ml_X10_90 cd_X10_of mk18 rfl rfl rfl rfl rfl rfl ?_
                refine z_iload_n (i := 2) dX10_bending_93 rfl rfl ?_
                refine z_iadd dX10_bending_94 ?_
                obtain ⟨q106, hq107, h⟩ := bnd h
                refine z_fVv (sX10_puts q102 x1 (1 : Int32) (q104 + x2) hq107) dX10_bending_95 ml_X10_108 cd_X10_puts mk18 rfl rfl rfl rfl rfl rfl ?_
                refine z_aload_n (i := 0) dX10_bending_98 rfl rfl ?_
                refine z_iload_n (i := 1) dX10_bending_99 rfl rfl ?_
                refine z_iconst (v := (4 : Int32)) dX10_bending_100 kc_4 ?_
                refine z_aload_n (i := 0) dX10_bending_101 rfl rfl ?_
                refine z_iload_n (i := 1) dX10_bending_102 rfl rfl ?_
                refine z_iconst (v := (4 : Int32)) dX10_bending_103 kc_4 ?_
                obtain ⟨q108, hq109, h⟩ := bnd h
                refine z_fVi (sX10_of q106 x1 (4 : Int32) hq109) dX10_bending_104 ml_X10_90 cd_X10_of mk18 rfl rfl rfl rfl rfl rfl ?_
                refine z_iconst (v := (3 : Int32)) dX10_bending_107 kc_3 ?_
                refine z_iadd dX10_bending_108 ?_
                obtain ⟨q110, hq111, h⟩ := bnd h
                refine z_fVv (sX10_puts q106 x1 (4 : Int32) (q108 + (3 : Int32)) hq111) dX10_bending_109 ml_X10_108 cd_X10_puts mk18 rfl rfl rfl rfl rfl rfl ?_
                refine z_aload_n (i := 0) dX10_bending_112 rfl rfl ?_
                refine z_getR (r' := (19, 0, 0)) dX10_bending_113 fl_X10_7 mk18 rfl rfl ?_
                refine z_bipush (v := (9 : Int32)) dX10_bending_116 kb_9 ?_
                refine z_dup2 dX10_bending_118 rfl rfl ?_
                refine z_iald (x := (q110.1 (19, 0, 0) 9)) dX10_bending_119 (m19 _ (Nat.le_of_ble_eq_true rfl)) rfl (by decide) rfl ?_
                refine z_iconst (v := (1 : Int32)) dX10_bending_120 kc_1 ?_
                refine z_iadd dX10_bending_121 ?_
                refine z_iast (j := 9) allR_nd dX10_bending_122 (m19 _ (Nat.le_of_ble_eq_true rfl)) rfl (by decide) rfl ?_
                refine z_aload_n (i := 0) dX10_bending_123 rfl rfl ?_
                refine z_iload_n (i := 1) dX10_bending_124 rfl rfl ?_
                refine z_iconst (v := (1 : Int32)) dX10_bending_125 kc_1 ?_
                obtain ⟨q112, hq113, h⟩ := bnd h
                refine z_fVi (sX10_of (putI q110 (19, 0, 0) 9 ((q110.1 (19, 0, 0) 9) + (1 : Int32))) x1 (1 : Int32) hq113) dX10_bending_126 ml_X10_90 cd_X10_of mk18 rfl rfl rfl rfl rfl rfl ?_
                cases h
                exact z_iret dX10_bending_129 rfl rfl (Nat.le_refl _) (Nat.le_refl _) ⟨rfl, rfl⟩
              · have h := it_t h hc101
                refine z_iconst (v := (0 : Int32)) dX10_bending_78 kc_0 ?_
                cases h
                exact z_iret dX10_bending_79 rfl rfl (Nat.le_refl _) (Nat.le_refl _) ⟨rfl, rfl⟩
      · have h := it_f h hc59
        refine z_iconst (v := (1 : Int32)) dX10_bending_28 kc_1 ?_
        refine z_goto (tgt := 33) dX10_bending_29 rfl ?_
        refine z_iconst (v := (2 : Int32)) dX10_bending_33 kc_2 ?_
        obtain ⟨q114, hq115, h⟩ := bnd h
        refine z_fVi (sX10_right q1.2 (1 : Int32) (2 : Int32) hq115) dX10_bending_34 ml_X10_127 cd_X10_right mk18 rfl rfl rfl rfl rfl rfl ?_
        refine z_if_eq (tgt := 78) dX10_bending_37 rfl (fun hc116 => ?_) (fun hc116 => ?_)
        · have h := it_t h hc116
          refine z_iconst (v := (0 : Int32)) dX10_bending_78 kc_0 ?_
          cases h
          exact z_iret dX10_bending_79 rfl rfl (Nat.le_refl _) (Nat.le_refl _) ⟨rfl, rfl⟩
        · have h := it_f h hc116
          refine z_aload_n (i := 0) dX10_bending_40 rfl rfl ?_
          refine z_aload_n (i := 0) dX10_bending_41 rfl rfl ?_
          refine z_iload_n (i := 1) dX10_bending_42 rfl rfl ?_
          obtain ⟨q117, hq118, h⟩ := bnd h
          refine z_fVi (sX10_isBad q114.2 x1 hq118) dX10_bending_43 ml_X10_100 cd_X10_isBad mk18 rfl rfl rfl rfl rfl rfl ?_
          refine z_if_ne (tgt := 70) dX10_bending_46 rfl (fun hc119 => ?_) (fun hc119 => ?_)
          · have h := it_f h hc119
            refine z_iconst (v := (0 : Int32)) dX10_bending_70 kc_0 ?_
            refine z_iconst (v := (3 : Int32)) dX10_bending_71 kc_3 ?_
            obtain ⟨q120, hq121, h⟩ := bnd h
            refine z_fVi (sX10_right q114.2 (0 : Int32) (3 : Int32) hq121) dX10_bending_72 ml_X10_127 cd_X10_right mk18 rfl rfl rfl rfl rfl rfl ?_
            refine z_if_ne (tgt := 80) dX10_bending_75 rfl (fun hc122 => ?_) (fun hc122 => ?_)
            · have h := it_f h hc122
              refine z_aload_n (i := 0) dX10_bending_80 rfl rfl ?_
              obtain ⟨q123, hq124, h⟩ := bnd h
              refine z_fVv (sX10_changes q120.2 hq124) dX10_bending_81 ml_X10_344 cd_X10_changes mk18 rfl rfl rfl rfl rfl rfl ?_
              refine z_aload_n (i := 0) dX10_bending_84 rfl rfl ?_
              refine z_iload_n (i := 1) dX10_bending_85 rfl rfl ?_
              refine z_iconst (v := (1 : Int32)) dX10_bending_86 kc_1 ?_
              refine z_aload_n (i := 0) dX10_bending_87 rfl rfl ?_
              refine z_iload_n (i := 1) dX10_bending_88 rfl rfl ?_
              refine z_iconst (v := (1 : Int32)) dX10_bending_89 kc_1 ?_
              obtain ⟨q125, hq126, h⟩ := bnd h
              refine z_fVi (sX10_of q123 x1 (1 : Int32) hq126) dX10_bending_90 ml_X10_90 cd_X10_of mk18 rfl rfl rfl rfl rfl rfl ?_
              refine z_iload_n (i := 2) dX10_bending_93 rfl rfl ?_
              refine z_iadd dX10_bending_94 ?_
              obtain ⟨q127, hq128, h⟩ := bnd h
              refine z_fVv (sX10_puts q123 x1 (1 : Int32) (q125 + x2) hq128) dX10_bending_95 ml_X10_108 cd_X10_puts mk18 rfl rfl rfl rfl rfl rfl ?_
              refine z_aload_n (i := 0) dX10_bending_98 rfl rfl ?_
              refine z_iload_n (i := 1) dX10_bending_99 rfl rfl ?_
              refine z_iconst (v := (4 : Int32)) dX10_bending_100 kc_4 ?_
              refine z_aload_n (i := 0) dX10_bending_101 rfl rfl ?_
              refine z_iload_n (i := 1) dX10_bending_102 rfl rfl ?_
              refine z_iconst (v := (4 : Int32)) dX10_bending_103 kc_4 ?_
              obtain ⟨q129, hq130, h⟩ := bnd h
              refine z_fVi (sX10_of q127 x1 (4 : Int32) hq130) dX10_bending_104 ml_X10_90 cd_X10_of mk18 rfl rfl rfl rfl rfl rfl ?_
              refine z_iconst (v := (3 : Int32)) dX10_bending_107 kc_3 ?_
              refine z_iadd dX10_bending_108 ?_
              obtain ⟨q131, hq132, h⟩ := bnd h
              refine z_fVv (sX10_puts q127 x1 (4 : Int32) (q129 + (3 : Int32)) hq132) dX10_bending_109 ml_X10_108 cd_X10_puts mk18 rfl rfl rfl rfl rfl rfl ?_
              refine z_aload_n (i := 0) dX10_bending_112 rfl rfl ?_
              refine z_getR (r' := (19, 0, 0)) dX10_bending_113 fl_X10_7 mk18 rfl rfl ?_
              refine z_bipush (v := (9 : Int32)) dX10_bending_116 kb_9 ?_
              refine z_dup2 dX10_bending_118 rfl rfl ?_
              refine z_iald (x := (q131.1 (19, 0, 0) 9)) dX10_bending_119 (m19 _ (Nat.le_of_ble_eq_true rfl)) rfl (by decide) rfl ?_
              refine z_iconst (v := (1 : Int32)) dX10_bending_120 kc_1 ?_
              refine z_iadd dX10_bending_121 ?_
              refine z_iast (j := 9) allR_nd dX10_bending_122 (m19 _ (Nat.le_of_ble_eq_true rfl)) rfl (by decide) rfl ?_
              refine z_aload_n (i := 0) dX10_bending_123 rfl rfl ?_
              refine z_iload_n (i := 1) dX10_bending_124 rfl rfl ?_
              refine z_iconst (v := (1 : Int32)) dX10_bending_125 kc_1 ?_
              obtain ⟨q133, hq134, h⟩ := bnd h
              refine z_fVi (sX10_of (putI q131 (19, 0, 0) 9 ((q131.1 (19, 0, 0) 9) + (1 : Int32))) x1 (1 : Int32) hq134) dX10_bending_126 ml_X10_90 cd_X10_of mk18 rfl rfl rfl rfl rfl rfl ?_
              cases h
              exact z_iret dX10_bending_129 rfl rfl (Nat.le_refl _) (Nat.le_refl _) ⟨rfl, rfl⟩
            · have h := it_t h hc122
              refine z_iconst (v := (0 : Int32)) dX10_bending_78 kc_0 ?_
              cases h
              exact z_iret dX10_bending_79 rfl rfl (Nat.le_refl _) (Nat.le_refl _) ⟨rfl, rfl⟩
          · have h := it_t h hc119
            refine z_aload_n (i := 0) dX10_bending_49 rfl rfl ?_
            refine z_iload_n (i := 1) dX10_bending_50 rfl rfl ?_
            refine z_iconst (v := (1 : Int32)) dX10_bending_51 kc_1 ?_
            obtain ⟨q135, hq136, h⟩ := bnd h
            refine z_fVi (sX10_of q114.2 x1 (1 : Int32) hq136) dX10_bending_52 ml_X10_90 cd_X10_of mk18 rfl rfl rfl rfl rfl rfl ?_
            refine z_iload_n (i := 2) dX10_bending_55 rfl rfl ?_
            refine z_iadd dX10_bending_56 ?_
            refine z_bipush (v := (-3 : Int32)) dX10_bending_57 kb_m3 ?_
            refine z_iconst (v := (3 : Int32)) dX10_bending_59 kc_3 ?_
            refine z_fSi (sX10_in q114.2 (q135 + x2) (-3 : Int32) (3 : Int32)) dX10_bending_60 ml_X10_82 cd_X10_in rfl rfl rfl rfl rfl ?_
            refine z_if_eq (tgt := 70) dX10_bending_63 rfl (fun hc137 => ?_) (fun hc137 => ?_)
            · have h := it_t h hc137
              refine z_iconst (v := (0 : Int32)) dX10_bending_70 kc_0 ?_
              refine z_iconst (v := (3 : Int32)) dX10_bending_71 kc_3 ?_
              obtain ⟨q138, hq139, h⟩ := bnd h
              refine z_fVi (sX10_right q114.2 (0 : Int32) (3 : Int32) hq139) dX10_bending_72 ml_X10_127 cd_X10_right mk18 rfl rfl rfl rfl rfl rfl ?_
              refine z_if_ne (tgt := 80) dX10_bending_75 rfl (fun hc140 => ?_) (fun hc140 => ?_)
              · have h := it_f h hc140
                refine z_aload_n (i := 0) dX10_bending_80 rfl rfl ?_
                obtain ⟨q141, hq142, h⟩ := bnd h
                refine z_fVv (sX10_changes q138.2 hq142) dX10_bending_81 ml_X10_344 cd_X10_changes mk18 rfl rfl rfl rfl rfl rfl ?_
                refine z_aload_n (i := 0) dX10_bending_84 rfl rfl ?_
                refine z_iload_n (i := 1) dX10_bending_85 rfl rfl ?_
                refine z_iconst (v := (1 : Int32)) dX10_bending_86 kc_1 ?_
                refine z_aload_n (i := 0) dX10_bending_87 rfl rfl ?_
                refine z_iload_n (i := 1) dX10_bending_88 rfl rfl ?_
                refine z_iconst (v := (1 : Int32)) dX10_bending_89 kc_1 ?_
                obtain ⟨q143, hq144, h⟩ := bnd h
                refine z_fVi (sX10_of q141 x1 (1 : Int32) hq144) dX10_bending_90 ml_X10_90 cd_X10_of mk18 rfl rfl rfl rfl rfl rfl ?_
                refine z_iload_n (i := 2) dX10_bending_93 rfl rfl ?_
                refine z_iadd dX10_bending_94 ?_
                obtain ⟨q145, hq146, h⟩ := bnd h
                refine z_fVv (sX10_puts q141 x1 (1 : Int32) (q143 + x2) hq146) dX10_bending_95 ml_X10_108 cd_X10_puts mk18 rfl rfl rfl rfl rfl rfl ?_
                refine z_aload_n (i := 0) dX10_bending_98 rfl rfl ?_
                refine z_iload_n (i := 1) dX10_bending_99 rfl rfl ?_
                refine z_iconst (v := (4 : Int32)) dX10_bending_100 kc_4 ?_
                refine z_aload_n (i := 0) dX10_bending_101 rfl rfl ?_
                refine z_iload_n (i := 1) dX10_bending_102 rfl rfl ?_
                refine z_iconst (v := (4 : Int32)) dX10_bending_103 kc_4 ?_
                obtain ⟨q147, hq148, h⟩ := bnd h
                refine z_fVi (sX10_of q145 x1 (4 : Int32) hq148) dX10_bending_104 ml_X10_90 cd_X10_of mk18 rfl rfl rfl rfl rfl rfl ?_
                refine z_iconst (v := (3 : Int32)) dX10_bending_107 kc_3 ?_
                refine z_iadd dX10_bending_108 ?_
                obtain ⟨q149, hq150, h⟩ := bnd h
                refine z_fVv (sX10_puts q145 x1 (4 : Int32) (q147 + (3 : Int32)) hq150) dX10_bending_109 ml_X10_108 cd_X10_puts mk18 rfl rfl rfl rfl rfl rfl ?_
                refine z_aload_n (i := 0) dX10_bending_112 rfl rfl ?_
                refine z_getR (r' := (19, 0, 0)) dX10_bending_113 fl_X10_7 mk18 rfl rfl ?_
                refine z_bipush (v := (9 : Int32)) dX10_bending_116 kb_9 ?_
                refine z_dup2 dX10_bending_118 rfl rfl ?_
                refine z_iald (x := (q149.1 (19, 0, 0) 9)) dX10_bending_119 (m19 _ (Nat.le_of_ble_eq_true rfl)) rfl (by decide) rfl ?_
                refine z_iconst (v := (1 : Int32)) dX10_bending_120 kc_1 ?_
                refine z_iadd dX10_bending_121 ?_
                refine z_iast (j := 9) allR_nd dX10_bending_122 (m19 _ (Nat.le_of_ble_eq_true rfl)) rfl (by decide) rfl ?_
                refine z_aload_n (i := 0) dX10_bending_123 rfl rfl ?_
                refine z_iload_n (i := 1) dX10_bending_124 rfl rfl ?_
                refine z_iconst (v := (1 : Int32)) dX10_bending_125 kc_1 ?_
                obtain ⟨q151, hq152, h⟩ := bnd h
                refine z_fVi (sX10_of (putI q149 (19, 0, 0) 9 ((q149.1 (19, 0, 0) 9) + (1 : Int32))) x1 (1 : Int32) hq152) dX10_bending_126 ml_X10_90 cd_X10_of mk18 rfl rfl rfl rfl rfl rfl ?_
                cases h
                exact z_iret dX10_bending_129 rfl rfl (Nat.le_refl _) (Nat.le_refl _) ⟨rfl, rfl⟩
              · have h := it_t h hc140
                refine z_iconst (v := (0 : Int32)) dX10_bending_78 kc_0 ?_
                cases h
                exact z_iret dX10_bending_79 rfl rfl (Nat.le_refl _) (Nat.le_refl _) ⟨rfl, rfl⟩
            · have h := it_f h hc137
              refine z_iconst (v := (1 : Int32)) dX10_bending_66 kc_1 ?_
              refine z_goto (tgt := 71) dX10_bending_67 rfl ?_
              refine z_iconst (v := (3 : Int32)) dX10_bending_71 kc_3 ?_
              obtain ⟨q153, hq154, h⟩ := bnd h
              refine z_fVi (sX10_right q114.2 (1 : Int32) (3 : Int32) hq154) dX10_bending_72 ml_X10_127 cd_X10_right mk18 rfl rfl rfl rfl rfl rfl ?_
              refine z_if_ne (tgt := 80) dX10_bending_75 rfl (fun hc155 => ?_) (fun hc155 => ?_)
              · have h := it_f h hc155
                refine z_aload_n (i := 0) dX10_bending_80 rfl rfl ?_
                obtain ⟨q156, hq157, h⟩ := bnd h
                refine z_fVv (sX10_changes q153.2 hq157) dX10_bending_81 ml_X10_344 cd_X10_changes mk18 rfl rfl rfl rfl rfl rfl ?_
                refine z_aload_n (i := 0) dX10_bending_84 rfl rfl ?_
                refine z_iload_n (i := 1) dX10_bending_85 rfl rfl ?_
                refine z_iconst (v := (1 : Int32)) dX10_bending_86 kc_1 ?_
                refine z_aload_n (i := 0) dX10_bending_87 rfl rfl ?_
                refine z_iload_n (i := 1) dX10_bending_88 rfl rfl ?_
                refine z_iconst (v := (1 : Int32)) dX10_bending_89 kc_1 ?_
                obtain ⟨q158, hq159, h⟩ := bnd h
                refine z_fVi (sX10_of q156 x1 (1 : Int32) hq159) dX10_bending_90 ml_X10_90 cd_X10_of mk18 rfl rfl rfl rfl rfl rfl ?_
                refine z_iload_n (i := 2) dX10_bending_93 rfl rfl ?_
                refine z_iadd dX10_bending_94 ?_
                obtain ⟨q160, hq161, h⟩ := bnd h
                refine z_fVv (sX10_puts q156 x1 (1 : Int32) (q158 + x2) hq161) dX10_bending_95 ml_X10_108 cd_X10_puts mk18 rfl rfl rfl rfl rfl rfl ?_
                refine z_aload_n (i := 0) dX10_bending_98 rfl rfl ?_
                refine z_iload_n (i := 1) dX10_bending_99 rfl rfl ?_
                refine z_iconst (v := (4 : Int32)) dX10_bending_100 kc_4 ?_
                refine z_aload_n (i := 0) dX10_bending_101 rfl rfl ?_
                refine z_iload_n (i := 1) dX10_bending_102 rfl rfl ?_
                refine z_iconst (v := (4 : Int32)) dX10_bending_103 kc_4 ?_
                obtain ⟨q162, hq163, h⟩ := bnd h
                refine z_fVi (sX10_of q160 x1 (4 : Int32) hq163) dX10_bending_104 ml_X10_90 cd_X10_of mk18 rfl rfl rfl rfl rfl rfl ?_
                refine z_iconst (v := (3 : Int32)) dX10_bending_107 kc_3 ?_
                refine z_iadd dX10_bending_108 ?_
                obtain ⟨q164, hq165, h⟩ := bnd h
                refine z_fVv (sX10_puts q160 x1 (4 : Int32) (q162 + (3 : Int32)) hq165) dX10_bending_109 ml_X10_108 cd_X10_puts mk18 rfl rfl rfl rfl rfl rfl ?_
                refine z_aload_n (i := 0) dX10_bending_112 rfl rfl ?_
                refine z_getR (r' := (19, 0, 0)) dX10_bending_113 fl_X10_7 mk18 rfl rfl ?_
                refine z_bipush (v := (9 : Int32)) dX10_bending_116 kb_9 ?_
                refine z_dup2 dX10_bending_118 rfl rfl ?_
                refine z_iald (x := (q164.1 (19, 0, 0) 9)) dX10_bending_119 (m19 _ (Nat.le_of_ble_eq_true rfl)) rfl (by decide) rfl ?_
                refine z_iconst (v := (1 : Int32)) dX10_bending_120 kc_1 ?_
                refine z_iadd dX10_bending_121 ?_
                refine z_iast (j := 9) allR_nd dX10_bending_122 (m19 _ (Nat.le_of_ble_eq_true rfl)) rfl (by decide) rfl ?_
                refine z_aload_n (i := 0) dX10_bending_123 rfl rfl ?_
                refine z_iload_n (i := 1) dX10_bending_124 rfl rfl ?_
                refine z_iconst (v := (1 : Int32)) dX10_bending_125 kc_1 ?_
                obtain ⟨q166, hq167, h⟩ := bnd h
                refine z_fVi (sX10_of (putI q164 (19, 0, 0) 9 ((q164.1 (19, 0, 0) 9) + (1 : Int32))) x1 (1 : Int32) hq167) dX10_bending_126 ml_X10_90 cd_X10_of mk18 rfl rfl rfl rfl rfl rfl ?_
                cases h
                exact z_iret dX10_bending_129 rfl rfl (Nat.le_refl _) (Nat.le_refl _) ⟨rfl, rfl⟩
              · have h := it_t h hc155
                refine z_iconst (v := (0 : Int32)) dX10_bending_78 kc_0 ?_
                cases h
                exact z_iret dX10_bending_79 rfl rfl (Nat.le_refl _) (Nat.le_refl _) ⟨rfl, rfl⟩
theorem dX10_replacing_0 : decode cX10_replacing 0 = .ok (.aload_n 0, 1) := by decide +kernel
theorem dX10_replacing_1 : decode cX10_replacing 1 = .ok (.aload_n 0, 1) := by decide +kernel
theorem dX10_replacing_2 : decode cX10_replacing 2 = .ok (.iload_n 1, 1) := by decide +kernel
theorem dX10_replacing_3 : decode cX10_replacing 3 = .ok (.invokevirtual 291, 3) := by decide +kernel
theorem dX10_replacing_6 : decode cX10_replacing 6 = .ok (.iconst 1, 1) := by decide +kernel
theorem dX10_replacing_7 : decode cX10_replacing 7 = .ok (.invokevirtual 127, 3) := by decide +kernel
theorem dX10_replacing_10 : decode cX10_replacing 10 = .ok (.ifCond .ne 5, 3) := by decide +kernel
theorem dX10_replacing_13 : decode cX10_replacing 13 = .ok (.iconst 0, 1) := by decide +kernel
theorem dX10_replacing_14 : decode cX10_replacing 14 = .ok (.ireturn, 1) := by decide +kernel
theorem dX10_replacing_15 : decode cX10_replacing 15 = .ok (.aload_n 0, 1) := by decide +kernel
theorem dX10_replacing_16 : decode cX10_replacing 16 = .ok (.invokevirtual 344, 3) := by decide +kernel
theorem dX10_replacing_19 : decode cX10_replacing 19 = .ok (.aload_n 0, 1) := by decide +kernel
theorem dX10_replacing_20 : decode cX10_replacing 20 = .ok (.iload_n 1, 1) := by decide +kernel
theorem dX10_replacing_21 : decode cX10_replacing 21 = .ok (.iconst 4, 1) := by decide +kernel
theorem dX10_replacing_22 : decode cX10_replacing 22 = .ok (.invokevirtual 90, 3) := by decide +kernel
theorem dX10_replacing_25 : decode cX10_replacing 25 = .ok (.istore_n 2, 1) := by decide +kernel
theorem dX10_replacing_26 : decode cX10_replacing 26 = .ok (.aload_n 0, 1) := by decide +kernel
theorem dX10_replacing_27 : decode cX10_replacing 27 = .ok (.getfield 7, 3) := by decide +kernel
theorem dX10_replacing_30 : decode cX10_replacing 30 = .ok (.bipush 10, 2) := by decide +kernel
theorem dX10_replacing_32 : decode cX10_replacing 32 = .ok (.dup2, 1) := by decide +kernel
theorem dX10_replacing_33 : decode cX10_replacing 33 = .ok (.iaload, 1) := by decide +kernel
theorem dX10_replacing_34 : decode cX10_replacing 34 = .ok (.iload_n 2, 1) := by decide +kernel
theorem dX10_replacing_35 : decode cX10_replacing 35 = .ok (.iadd, 1) := by decide +kernel
theorem dX10_replacing_36 : decode cX10_replacing 36 = .ok (.iastore, 1) := by decide +kernel
theorem dX10_replacing_37 : decode cX10_replacing 37 = .ok (.aload_n 0, 1) := by decide +kernel
theorem dX10_replacing_38 : decode cX10_replacing 38 = .ok (.iload_n 1, 1) := by decide +kernel
theorem dX10_replacing_39 : decode cX10_replacing 39 = .ok (.iconst 1, 1) := by decide +kernel
theorem dX10_replacing_40 : decode cX10_replacing 40 = .ok (.iconst 0, 1) := by decide +kernel
theorem dX10_replacing_41 : decode cX10_replacing 41 = .ok (.invokevirtual 108, 3) := by decide +kernel
theorem dX10_replacing_44 : decode cX10_replacing 44 = .ok (.aload_n 0, 1) := by decide +kernel
theorem dX10_replacing_45 : decode cX10_replacing 45 = .ok (.iload_n 1, 1) := by decide +kernel
theorem dX10_replacing_46 : decode cX10_replacing 46 = .ok (.iconst 4, 1) := by decide +kernel
theorem dX10_replacing_47 : decode cX10_replacing 47 = .ok (.iconst 0, 1) := by decide +kernel
theorem dX10_replacing_48 : decode cX10_replacing 48 = .ok (.invokevirtual 108, 3) := by decide +kernel
theorem dX10_replacing_51 : decode cX10_replacing 51 = .ok (.aload_n 0, 1) := by decide +kernel
theorem dX10_replacing_52 : decode cX10_replacing 52 = .ok (.iload_n 1, 1) := by decide +kernel
theorem dX10_replacing_53 : decode cX10_replacing 53 = .ok (.iconst 5, 1) := by decide +kernel
theorem dX10_replacing_54 : decode cX10_replacing 54 = .ok (.bipush 99, 2) := by decide +kernel
theorem dX10_replacing_56 : decode cX10_replacing 56 = .ok (.invokevirtual 108, 3) := by decide +kernel
theorem dX10_replacing_59 : decode cX10_replacing 59 = .ok (.iload_n 2, 1) := by decide +kernel
theorem dX10_replacing_60 : decode cX10_replacing 60 = .ok (.ireturn, 1) := by decide +kernel
def fX10_replacing (M : Mm) (x1 : Int32) : Option (Int32 × Mm) := (fX10_right M (fX10_isTooth M x1) (1 : Int32)).bind fun q1 => if q1.1 = 0 then some ((0 : Int32), q1.2) else (fX10_changes q1.2).bind fun q4 => (fX10_of q4 x1 (4 : Int32)).bind fun q6 => (fX10_puts (putI q4 (19, 0, 0) 10 ((q4.1 (19, 0, 0) 10) + q6)) x1 (1 : Int32) (0 : Int32)).bind fun q8 => (fX10_puts q8 x1 (4 : Int32) (0 : Int32)).bind fun q10 => (fX10_puts q10 x1 (5 : Int32) (99 : Int32)).bind fun q12 => some (q6, q12)
set_option maxRecDepth 20000 in
set_option maxHeartbeats 2000000 in
theorem sX10_replacing {wv : Nat} (M : Mm) (x1 : Int32) {res : (Int32 × Mm)} (h : fX10_replacing M x1 = some res) : TF (wv + 1) yX10_replacing cX10_replacing 3 (some .int) 2 [.inr (18, 0, 0), .inl (.int x1)] M (some (.int res.1)) res.2 := by
  rw [fX10_replacing] at h
  refine TF.go (n := 1) (ls := [some (.inr (18, 0, 0)), some (.inl (.int x1)), none]) rfl rfl rfl rfl rfl ?_
  refine z_aload_n (i := 0) dX10_replacing_0 rfl rfl ?_
  refine z_aload_n (i := 0) dX10_replacing_1 rfl rfl ?_
  refine z_iload_n (i := 1) dX10_replacing_2 rfl rfl ?_
  refine z_fVi (sX10_isTooth M x1) dX10_replacing_3 ml_X10_291 cd_X10_isTooth mk18 rfl rfl rfl rfl rfl rfl ?_
  refine z_iconst (v := (1 : Int32)) dX10_replacing_6 kc_1 ?_
  obtain ⟨q1, hq2, h⟩ := bnd h
  refine z_fVi (sX10_right M (fX10_isTooth M x1) (1 : Int32) hq2) dX10_replacing_7 ml_X10_127 cd_X10_right mk18 rfl rfl rfl rfl rfl rfl ?_
  refine z_if_ne (tgt := 15) dX10_replacing_10 rfl (fun hc3 => ?_) (fun hc3 => ?_)
  · have h := it_f h hc3
    refine z_aload_n (i := 0) dX10_replacing_15 rfl rfl ?_
    obtain ⟨q4, hq5, h⟩ := bnd h
    refine z_fVv (sX10_changes q1.2 hq5) dX10_replacing_16 ml_X10_344 cd_X10_changes mk18 rfl rfl rfl rfl rfl rfl ?_
    refine z_aload_n (i := 0) dX10_replacing_19 rfl rfl ?_
    refine z_iload_n (i := 1) dX10_replacing_20 rfl rfl ?_
    refine z_iconst (v := (4 : Int32)) dX10_replacing_21 kc_4 ?_
    obtain ⟨q6, hq7, h⟩ := bnd h
    refine z_fVi (sX10_of q4 x1 (4 : Int32) hq7) dX10_replacing_22 ml_X10_90 cd_X10_of mk18 rfl rfl rfl rfl rfl rfl ?_
    refine z_istore_n (i := 2) dX10_replacing_25 rfl (Nat.le_of_ble_eq_true rfl) rfl ?_
    refine z_aload_n (i := 0) dX10_replacing_26 rfl rfl ?_
    refine z_getR (r' := (19, 0, 0)) dX10_replacing_27 fl_X10_7 mk18 rfl rfl ?_
    refine z_bipush (v := (10 : Int32)) dX10_replacing_30 kb_10 ?_
    refine z_dup2 dX10_replacing_32 rfl rfl ?_
    refine z_iald (x := (q4.1 (19, 0, 0) 10)) dX10_replacing_33 (m19 _ (Nat.le_of_ble_eq_true rfl)) rfl (by decide) rfl ?_
    refine z_iload_n (i := 2) dX10_replacing_34 rfl rfl ?_
    refine z_iadd dX10_replacing_35 ?_
    refine z_iast (j := 10) allR_nd dX10_replacing_36 (m19 _ (Nat.le_of_ble_eq_true rfl)) rfl (by decide) rfl ?_
    refine z_aload_n (i := 0) dX10_replacing_37 rfl rfl ?_
    refine z_iload_n (i := 1) dX10_replacing_38 rfl rfl ?_
    refine z_iconst (v := (1 : Int32)) dX10_replacing_39 kc_1 ?_
    refine z_iconst (v := (0 : Int32)) dX10_replacing_40 kc_0 ?_
    obtain ⟨q8, hq9, h⟩ := bnd h
    refine z_fVv (sX10_puts (putI q4 (19, 0, 0) 10 ((q4.1 (19, 0, 0) 10) + q6)) x1 (1 : Int32) (0 : Int32) hq9) dX10_replacing_41 ml_X10_108 cd_X10_puts mk18 rfl rfl rfl rfl rfl rfl ?_
    refine z_aload_n (i := 0) dX10_replacing_44 rfl rfl ?_
    refine z_iload_n (i := 1) dX10_replacing_45 rfl rfl ?_
    refine z_iconst (v := (4 : Int32)) dX10_replacing_46 kc_4 ?_
    refine z_iconst (v := (0 : Int32)) dX10_replacing_47 kc_0 ?_
    obtain ⟨q10, hq11, h⟩ := bnd h
    refine z_fVv (sX10_puts q8 x1 (4 : Int32) (0 : Int32) hq11) dX10_replacing_48 ml_X10_108 cd_X10_puts mk18 rfl rfl rfl rfl rfl rfl ?_
    refine z_aload_n (i := 0) dX10_replacing_51 rfl rfl ?_
    refine z_iload_n (i := 1) dX10_replacing_52 rfl rfl ?_
    refine z_iconst (v := (5 : Int32)) dX10_replacing_53 kc_5 ?_
    refine z_bipush (v := (99 : Int32)) dX10_replacing_54 kb_99 ?_
    obtain ⟨q12, hq13, h⟩ := bnd h
    refine z_fVv (sX10_puts q10 x1 (5 : Int32) (99 : Int32) hq13) dX10_replacing_56 ml_X10_108 cd_X10_puts mk18 rfl rfl rfl rfl rfl rfl ?_
    refine z_iload_n (i := 2) dX10_replacing_59 rfl rfl ?_
    cases h
    exact z_iret dX10_replacing_60 rfl rfl (Nat.le_refl _) (Nat.le_refl _) ⟨rfl, rfl⟩
  · have h := it_t h hc3
    refine z_iconst (v := (0 : Int32)) dX10_replacing_13 kc_0 ?_
    cases h
    exact z_iret dX10_replacing_14 rfl rfl (Nat.le_refl _) (Nat.le_refl _) ⟨rfl, rfl⟩
