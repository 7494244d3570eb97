theorem dX10_readsPin_0 : decode cX10_readsPin 0 = .ok (.aload_n 0, 1) := by decide +kernel
theorem dX10_readsPin_1 : decode cX10_readsPin 1 = .ok (.aload_n 0, 1) := by decide +kernel
theorem dX10_readsPin_2 : decode cX10_readsPin 2 = .ok (.ldc 183, 2) := by decide +kernel
theorem dX10_readsPin_4 : decode cX10_readsPin 4 = .ok (.invokevirtual 173, 3) := by decide +kernel
theorem dX10_readsPin_7 : decode cX10_readsPin 7 = .ok (.iconst 1, 1) := by decide +kernel
theorem dX10_readsPin_8 : decode cX10_readsPin 8 = .ok (.invokevirtual 161, 3) := by decide +kernel
theorem dX10_readsPin_11 : decode cX10_readsPin 11 = .ok (.pop, 1) := by decide +kernel
theorem dX10_readsPin_12 : decode cX10_readsPin 12 = .ok (.aload_n 0, 1) := by decide +kernel
theorem dX10_readsPin_13 : decode cX10_readsPin 13 = .ok (.invokevirtual 164, 3) := by decide +kernel
theorem dX10_readsPin_16 : decode cX10_readsPin 16 = .ok (.aload_n 0, 1) := by decide +kernel
theorem dX10_readsPin_17 : decode cX10_readsPin 17 = .ok (.iconst 0, 1) := by decide +kernel
theorem dX10_readsPin_18 : decode cX10_readsPin 18 = .ok (.iconst 2, 1) := by decide +kernel
theorem dX10_readsPin_19 : decode cX10_readsPin 19 = .ok (.invokevirtual 177, 3) := by decide +kernel
theorem dX10_readsPin_22 : decode cX10_readsPin 22 = .ok (.istore_n 1, 1) := by decide +kernel
theorem dX10_readsPin_23 : decode cX10_readsPin 23 = .ok (.aload_n 0, 1) := by decide +kernel
theorem dX10_readsPin_24 : decode cX10_readsPin 24 = .ok (.iconst 0, 1) := by decide +kernel
theorem dX10_readsPin_25 : decode cX10_readsPin 25 = .ok (.aload_n 0, 1) := by decide +kernel
theorem dX10_readsPin_26 : decode cX10_readsPin 26 = .ok (.getfield 7, 3) := by decide +kernel
theorem dX10_readsPin_29 : decode cX10_readsPin 29 = .ok (.iconst 3, 1) := by decide +kernel
theorem dX10_readsPin_30 : decode cX10_readsPin 30 = .ok (.iaload, 1) := by decide +kernel
theorem dX10_readsPin_31 : decode cX10_readsPin 31 = .ok (.iconst 1, 1) := by decide +kernel
theorem dX10_readsPin_32 : decode cX10_readsPin 32 = .ok (.isub, 1) := by decide +kernel
theorem dX10_readsPin_33 : decode cX10_readsPin 33 = .ok (.invokevirtual 177, 3) := by decide +kernel
theorem dX10_readsPin_36 : decode cX10_readsPin 36 = .ok (.istore_n 2, 1) := by decide +kernel
theorem dX10_readsPin_37 : decode cX10_readsPin 37 = .ok (.aload_n 0, 1) := by decide +kernel
theorem dX10_readsPin_38 : decode cX10_readsPin 38 = .ok (.iconst 0, 1) := by decide +kernel
theorem dX10_readsPin_39 : decode cX10_readsPin 39 = .ok (.aload_n 0, 1) := by decide +kernel
theorem dX10_readsPin_40 : decode cX10_readsPin 40 = .ok (.getfield 7, 3) := by decide +kernel
theorem dX10_readsPin_43 : decode cX10_readsPin 43 = .ok (.iconst 0, 1) := by decide +kernel
theorem dX10_readsPin_44 : decode cX10_readsPin 44 = .ok (.iaload, 1) := by decide +kernel
theorem dX10_readsPin_45 : decode cX10_readsPin 45 = .ok (.iconst 1, 1) := by decide +kernel
theorem dX10_readsPin_46 : decode cX10_readsPin 46 = .ok (.isub, 1) := by decide +kernel
theorem dX10_readsPin_47 : decode cX10_readsPin 47 = .ok (.invokevirtual 167, 3) := by decide +kernel
theorem dX10_readsPin_50 : decode cX10_readsPin 50 = .ok (.ifCond .eq 10, 3) := by decide +kernel
theorem dX10_readsPin_53 : decode cX10_readsPin 53 = .ok (.aload_n 0, 1) := by decide +kernel
theorem dX10_readsPin_54 : decode cX10_readsPin 54 = .ok (.getfield 146, 3) := by decide +kernel
theorem dX10_readsPin_57 : decode cX10_readsPin 57 = .ok (.goto 4, 3) := by decide +kernel
theorem dX10_readsPin_60 : decode cX10_readsPin 60 = .ok (.iconst 0, 1) := by decide +kernel
theorem dX10_readsPin_61 : decode cX10_readsPin 61 = .ok (.istore_n 3, 1) := by decide +kernel
theorem dX10_readsPin_62 : decode cX10_readsPin 62 = .ok (.aload_n 0, 1) := by decide +kernel
theorem dX10_readsPin_63 : decode cX10_readsPin 63 = .ok (.aload_n 0, 1) := by decide +kernel
theorem dX10_readsPin_64 : decode cX10_readsPin 64 = .ok (.getfield 149, 3) := by decide +kernel
theorem dX10_readsPin_67 : decode cX10_readsPin 67 = .ok (.ifCond .ne 13, 3) := by decide +kernel
theorem dX10_readsPin_70 : decode cX10_readsPin 70 = .ok (.aload_n 0, 1) := by decide +kernel
theorem dX10_readsPin_71 : decode cX10_readsPin 71 = .ok (.iload_n 1, 1) := by decide +kernel
theorem dX10_readsPin_72 : decode cX10_readsPin 72 = .ok (.iload_n 2, 1) := by decide +kernel
theorem dX10_readsPin_73 : decode cX10_readsPin 73 = .ok (.iload_n 3, 1) := by decide +kernel
theorem dX10_readsPin_74 : decode cX10_readsPin 74 = .ok (.invokevirtual 93, 3) := by decide +kernel
theorem dX10_readsPin_77 : decode cX10_readsPin 77 = .ok (.ifCond .ne 7, 3) := by decide +kernel
theorem dX10_readsPin_80 : decode cX10_readsPin 80 = .ok (.iconst 1, 1) := by decide +kernel
theorem dX10_readsPin_81 : decode cX10_readsPin 81 = .ok (.goto 4, 3) := by decide +kernel
theorem dX10_readsPin_84 : decode cX10_readsPin 84 = .ok (.iconst 0, 1) := by decide +kernel
theorem dX10_readsPin_85 : decode cX10_readsPin 85 = .ok (.iconst 3, 1) := by decide +kernel
theorem dX10_readsPin_86 : decode cX10_readsPin 86 = .ok (.invokevirtual 161, 3) := by decide +kernel
theorem dX10_readsPin_89 : decode cX10_readsPin 89 = .ok (.pop, 1) := by decide +kernel
theorem dX10_readsPin_90 : decode cX10_readsPin 90 = .ok (.aload_n 0, 1) := by decide +kernel
theorem dX10_readsPin_91 : decode cX10_readsPin 91 = .ok (.invokevirtual 164, 3) := by decide +kernel
theorem dX10_readsPin_94 : decode cX10_readsPin 94 = .ok (.aload_n 0, 1) := by decide +kernel
theorem dX10_readsPin_95 : decode cX10_readsPin 95 = .ok (.bipush 59, 2) := by decide +kernel
theorem dX10_readsPin_97 : decode cX10_readsPin 97 = .ok (.invokevirtual 180, 3) := by decide +kernel
theorem dX10_readsPin_100 : decode cX10_readsPin 100 = .ok (.aload_n 0, 1) := by decide +kernel
theorem dX10_readsPin_101 : decode cX10_readsPin 101 = .ok (.getfield 149, 3) := by decide +kernel
theorem dX10_readsPin_104 : decode cX10_readsPin 104 = .ok (.ifCond .ne 19, 3) := by decide +kernel
theorem dX10_readsPin_107 : decode cX10_readsPin 107 = .ok (.aload_n 0, 1) := by decide +kernel
theorem dX10_readsPin_108 : decode cX10_readsPin 108 = .ok (.iload_n 1, 1) := by decide +kernel
theorem dX10_readsPin_109 : decode cX10_readsPin 109 = .ok (.iload_n 3, 1) := by decide +kernel
theorem dX10_readsPin_110 : decode cX10_readsPin 110 = .ok (.aload_n 0, 1) := by decide +kernel
theorem dX10_readsPin_111 : decode cX10_readsPin 111 = .ok (.iload_n 1, 1) := by decide +kernel
theorem dX10_readsPin_112 : decode cX10_readsPin 112 = .ok (.iload_n 3, 1) := by decide +kernel
theorem dX10_readsPin_113 : decode cX10_readsPin 113 = .ok (.invokevirtual 86, 3) := by decide +kernel
theorem dX10_readsPin_116 : decode cX10_readsPin 116 = .ok (.iconst 1, 1) := by decide +kernel
theorem dX10_readsPin_117 : decode cX10_readsPin 117 = .ok (.iload_n 2, 1) := by decide +kernel
theorem dX10_readsPin_118 : decode cX10_readsPin 118 = .ok (.ishl, 1) := by decide +kernel
theorem dX10_readsPin_119 : decode cX10_readsPin 119 = .ok (.ior, 1) := by decide +kernel
theorem dX10_readsPin_120 : decode cX10_readsPin 120 = .ok (.invokevirtual 185, 3) := by decide +kernel
theorem dX10_readsPin_123 : decode cX10_readsPin 123 = .ok (.return_, 1) := by decide +kernel
def fX10_readsPin (M : Mm) : Option Mm := (fX10_isWord M 3).bind fun q1 => (fX10_must M q1 (1 : Int32)).bind fun q3 => (fX10_goesOn q3.2).bind fun q5 => (fX10_number q5 (0 : Int32) (2 : Int32)).bind fun q7 => (fX10_number q7.2 (0 : Int32) ((q7.2.1 (19, 0, 0) 3) - (1 : Int32))).bind fun q9 => (fX10_looksAt q9.2 (0 : Int32) ((q9.2.1 (19, 0, 0) 0) - (1 : Int32))).bind fun q11 => if q11.1 = 0 then (if (q11.2.1 (18, 0, 0) 17) = 0 then ((fX10_has q11.2 q7.1 q9.1 (0 : Int32)).bind fun q26 => if q26 = 0 then ((fX10_must q11.2 (1 : Int32) (3 : Int32)).bind fun q40 => (fX10_goesOn q40.2).bind fun q42 => (fX10_takesSign q42 (59 : Int32)).bind fun q44 => if (q44.1 (18, 0, 0) 17) = 0 then ((fX10_set q44 q7.1 (0 : Int32)).bind fun q47 => (fX10_putSet q44 q7.1 (0 : Int32) (q47 ||| ((1 : Int32) <<< (q9.1 &&& 31)))).bind fun q49 => some q49) else some q44) else (fX10_must q11.2 (0 : Int32) (3 : Int32)).bind fun q29 => (fX10_goesOn q29.2).bind fun q31 => (fX10_takesSign q31 (59 : Int32)).bind fun q33 => if (q33.1 (18, 0, 0) 17) = 0 then ((fX10_set q33 q7.1 (0 : Int32)).bind fun q36 => (fX10_putSet q33 q7.1 (0 : Int32) (q36 ||| ((1 : Int32) <<< (q9.1 &&& 31)))).bind fun q38 => some q38) else some q33) else (fX10_must q11.2 (1 : Int32) (3 : Int32)).bind fun q15 => (fX10_goesOn q15.2).bind fun q17 => (fX10_takesSign q17 (59 : Int32)).bind fun q19 => if (q19.1 (18, 0, 0) 17) = 0 then ((fX10_set q19 q7.1 (0 : Int32)).bind fun q22 => (fX10_putSet q19 q7.1 (0 : Int32) (q22 ||| ((1 : Int32) <<< (q9.1 &&& 31)))).bind fun q24 => some q24) else some q19) else if (q11.2.1 (18, 0, 0) 17) = 0 then ((fX10_has q11.2 q7.1 q9.1 (q11.2.1 (18, 0, 0) 16)).bind fun q63 => if q63 = 0 then ((fX10_must q11.2 (1 : Int32) (3 : Int32)).bind fun q77 => (fX10_goesOn q77.2).bind fun q79 => (fX10_takesSign q79 (59 : Int32)).bind fun q81 => if (q81.1 (18, 0, 0) 17) = 0 then ((fX10_set q81 q7.1 (q11.2.1 (18, 0, 0) 16)).bind fun q84 => (fX10_putSet q81 q7.1 (q11.2.1 (18, 0, 0) 16) (q84 ||| ((1 : Int32) <<< (q9.1 &&& 31)))).bind fun q86 => some q86) else some q81) else (fX10_must q11.2 (0 : Int32) (3 : Int32)).bind fun q66 => (fX10_goesOn q66.2).bind fun q68 => (fX10_takesSign q68 (59 : Int32)).bind fun q70 => if (q70.1 (18, 0, 0) 17) = 0 then ((fX10_set q70 q7.1 (q11.2.1 (18, 0, 0) 16)).bind fun q73 => (fX10_putSet q70 q7.1 (q11.2.1 (18, 0, 0) 16) (q73 ||| ((1 : Int32) <<< (q9.1 &&& 31)))).bind fun q75 => some q75) else some q70) else (fX10_must q11.2 (1 : Int32) (3 : Int32)).bind fun q52 => (fX10_goesOn q52.2).bind fun q54 => (fX10_takesSign q54 (59 : Int32)).bind fun q56 => if (q56.1 (18, 0, 0) 17) = 0 then ((fX10_set q56 q7.1 (q11.2.1 (18, 0, 0) 16)).bind fun q59 => (fX10_putSet q56 q7.1 (q11.2.1 (18, 0, 0) 16) (q59 ||| ((1 : Int32) <<< (q9.1 &&& 31)))).bind fun q61 => some q61) else some q56
set_option maxRecDepth 20000 in
set_option maxHeartbeats 2000000 in
theorem sX10_readsPin {wv : Nat} (M : Mm) {res : Mm} (h : fX10_readsPin M  = some res) : TF (wv + 1) yX10_readsPin cX10_readsPin 4 none 8 [.inr (18, 0, 0)] M (none) res := by
  rw [fX10_readsPin] at h
  refine TF.go (n := 3) (ls := [some (.inr (18, 0, 0)), none, none, none]) rfl rfl rfl rfl rfl ?_
  refine z_aload_n (i := 0) dX10_readsPin_0 rfl rfl ?_
  refine z_aload_n (i := 0) dX10_readsPin_1 rfl rfl ?_
  refine z_ldcS (j := 3) dX10_readsPin_2 sw_RX10_183 ?_
  obtain ⟨q1, hq2, h⟩ := bnd h
  refine z_fVi (sX10_isWord M 3 (Nat.le_of_ble_eq_true rfl) hq2) dX10_readsPin_4 ml_X10_173 cd_X10_isWord mk18 rfl rfl rfl rfl rfl rfl ?_
  refine z_iconst (v := (1 : Int32)) dX10_readsPin_7 kc_1 ?_
  obtain ⟨q3, hq4, h⟩ := bnd h
  refine z_fVi (sX10_must M q1 (1 : Int32) hq4) dX10_readsPin_8 ml_X10_161 cd_X10_must mk18 rfl rfl rfl rfl rfl rfl ?_
  refine z_pop dX10_readsPin_11 rfl ?_
  refine z_aload_n (i := 0) dX10_readsPin_12 rfl rfl ?_
  obtain ⟨q5, hq6, h⟩ := bnd h
  refine z_fVv (sX10_goesOn q3.2 hq6) dX10_readsPin_13 ml_X10_164 cd_X10_goesOn mk18 rfl rfl rfl rfl rfl rfl ?_
  refine z_aload_n (i := 0) dX10_readsPin_16 rfl rfl ?_
  refine z_iconst (v := (0 : Int32)) dX10_readsPin_17 kc_0 ?_
  refine z_iconst (v := (2 : Int32)) dX10_readsPin_18 kc_2 ?_
  obtain ⟨q7, hq8, h⟩ := bnd h
  refine z_fVi (sX10_number q5 (0 : Int32) (2 : Int32) hq8) dX10_readsPin_19 ml_X10_177 cd_X10_number mk18 rfl rfl rfl rfl rfl rfl ?_
  refine z_istore_n (i := 1) dX10_readsPin_22 rfl (Nat.le_of_ble_eq_true rfl) rfl ?_
  refine z_aload_n (i := 0) dX10_readsPin_23 rfl rfl ?_
  refine z_iconst (v := (0 : Int32)) dX10_readsPin_24 kc_0 ?_
  refine z_aload_n (i := 0) dX10_readsPin_25 rfl rfl ?_
  refine z_getR (r' := (19, 0, 0)) dX10_readsPin_26 fl_X10_7 mk18 rfl rfl ?_
  refine z_iconst (v := (3 : Int32)) dX10_readsPin_29 kc_3 ?_
  refine z_iald (x := (q7.2.1 (19, 0, 0) 3)) dX10_readsPin_30 (m19 _ (Nat.le_of_ble_eq_true rfl)) rfl (by decide) rfl ?_
  refine z_iconst (v := (1 : Int32)) dX10_readsPin_31 kc_1 ?_
  refine z_isub dX10_readsPin_32 ?_
  obtain ⟨q9, hq10, h⟩ := bnd h
  refine z_fVi (sX10_number q7.2 (0 : Int32) ((q7.2.1 (19, 0, 0) 3) - (1 : Int32)) hq10) dX10_readsPin_33 ml_X10_177 cd_X10_number mk18 rfl rfl rfl rfl rfl rfl ?_
  refine z_istore_n (i := 2) dX10_readsPin_36 rfl (Nat.le_of_ble_eq_true rfl) rfl ?_
  refine z_aload_n (i := 0) dX10_readsPin_37 rfl rfl ?_
  refine z_iconst (v := (0 : Int32)) dX10_readsPin_38 kc_0 ?_
  refine z_aload_n (i := 0) dX10_readsPin_39 rfl rfl ?_
  refine z_getR (r' := (19, 0, 0)) dX10_readsPin_40 fl_X10_7 mk18 rfl rfl ?_
  refine z_iconst (v := (0 : Int32)) dX10_readsPin_43 kc_0 ?_
  refine z_iald (x := (q9.2.1 (19, 0, 0) 0)) dX10_readsPin_44 (m19 _ (Nat.le_of_ble_eq_true rfl)) rfl (by decide) rfl ?_
  refine z_iconst (v := (1 : Int32)) dX10_readsPin_45 kc_1 ?_
  refine z_isub dX10_readsPin_46 ?_
  obtain ⟨q11, hq12, h⟩ := bnd h
  refine z_fVi (sX10_looksAt q9.2 (0 : Int32) ((q9.2.1 (19, 0, 0) 0) - (1 : Int32)) hq12) dX10_readsPin_47 ml_X10_167 cd_X10_looksAt mk18 rfl rfl rfl rfl rfl rfl ?_
  refine z_if_eq (tgt := 60) dX10_readsPin_50 rfl (fun hc13 => ?_) (fun hc13 => ?_)
  · have h := it_t h hc13
    refine z_iconst (v := (0 : Int32)) dX10_readsPin_60 kc_0 ?_
    refine z_istore_n (i := 3) dX10_readsPin_61 rfl (Nat.le_of_ble_eq_true rfl) rfl ?_
    refine z_aload_n (i := 0) dX10_readsPin_62 rfl rfl ?_
    refine z_aload_n (i := 0) dX10_readsPin_63 rfl rfl ?_
    refine z_getI (x := (q11.2.1 (18, 0, 0) 17)) dX10_readsPin_64 fl_X10_149 mk18 rfl rfl ?_
    refine z_if_ne (tgt := 80) dX10_readsPin_67 rfl (fun hc14 => ?_) (fun hc14 => ?_)
    · have h := it_f h hc14
      refine z_iconst (v := (1 : Int32)) dX10_readsPin_80 kc_1 ?_
      refine z_goto (tgt := 85) dX10_readsPin_81 rfl ?_
      refine z_iconst (v := (3 : Int32)) dX10_readsPin_85 kc_3 ?_
      obtain ⟨q15, hq16, h⟩ := bnd h
      refine z_fVi (sX10_must q11.2 (1 : Int32) (3 : Int32) hq16) dX10_readsPin_86 ml_X10_161 cd_X10_must mk18 rfl rfl rfl rfl rfl rfl ?_
      refine z_pop dX10_readsPin_89 rfl ?_
      refine z_aload_n (i := 0) dX10_readsPin_90 rfl rfl ?_
      obtain ⟨q17, hq18, h⟩ := bnd h
      refine z_fVv (sX10_goesOn q15.2 hq18) dX10_readsPin_91 ml_X10_164 cd_X10_goesOn mk18 rfl rfl rfl rfl rfl rfl ?_
      refine z_aload_n (i := 0) dX10_readsPin_94 rfl rfl ?_
      refine z_bipush (v := (59 : Int32)) dX10_readsPin_95 kb_59 ?_
      obtain ⟨q19, hq20, h⟩ := bnd h
      refine z_fVv (sX10_takesSign q17 (59 : Int32) hq20) dX10_readsPin_97 ml_X10_180 cd_X10_takesSign mk18 rfl rfl rfl rfl rfl rfl ?_
      refine z_aload_n (i := 0) dX10_readsPin_100 rfl rfl ?_
      refine z_getI (x := (q19.1 (18, 0, 0) 17)) dX10_readsPin_101 fl_X10_149 mk18 rfl rfl ?_
      refine z_if_ne (tgt := 123) dX10_readsPin_104 rfl (fun hc21 => ?_) (fun hc21 => ?_)
      · have h := it_f h hc21
        cases h
        exact z_vret dX10_readsPin_123 rfl (Nat.le_refl _) (Nat.le_refl _) ⟨rfl, rfl⟩
      · have h := it_t h hc21
        refine z_aload_n (i := 0) dX10_readsPin_107 rfl rfl ?_
        refine z_iload_n (i := 1) dX10_readsPin_108 rfl rfl ?_
        refine z_iload_n (i := 3) dX10_readsPin_109 rfl rfl ?_
        refine z_aload_n (i := 0) dX10_readsPin_110 rfl rfl ?_
        refine z_iload_n (i := 1) dX10_readsPin_111 rfl rfl ?_
        refine z_iload_n (i := 3) dX10_readsPin_112 rfl rfl ?_
        obtain ⟨q22, hq23, h⟩ := bnd h
        refine z_fVi (sX10_set q19 q7.1 (0 : Int32) hq23) dX10_readsPin_113 ml_X10_86 cd_X10_set mk18 rfl rfl rfl rfl rfl rfl ?_
        refine z_iconst (v := (1 : Int32)) dX10_readsPin_116 kc_1 ?_
        refine z_iload_n (i := 2) dX10_readsPin_117 rfl rfl ?_
        refine z_ishl dX10_readsPin_118 ?_
        refine z_ior dX10_readsPin_119 ?_
        obtain ⟨q24, hq25, h⟩ := bnd h
        refine z_fVv (sX10_putSet q19 q7.1 (0 : Int32) (q22 ||| ((1 : Int32) <<< (q9.1 &&& 31))) hq25) dX10_readsPin_120 ml_X10_185 cd_X10_putSet mk18 rfl rfl rfl rfl rfl rfl ?_
        cases h
        exact z_vret dX10_readsPin_123 rfl (Nat.le_refl _) (Nat.le_refl _) ⟨rfl, rfl⟩
    · have h := it_t h hc14
      refine z_aload_n (i := 0) dX10_readsPin_70 rfl rfl ?_
      refine z_iload_n (i := 1) dX10_readsPin_71 rfl rfl ?_
      refine z_iload_n (i := 2) dX10_readsPin_72 rfl rfl ?_
      refine z_iload_n (i := 3) dX10_readsPin_73 rfl rfl ?_
      obtain ⟨q26, hq27, h⟩ := bnd h
      refine z_fVi (sX10_has q11.2 q7.1 q9.1 (0 : Int32) hq27) dX10_readsPin_74 ml_X10_93 cd_X10_has mk18 rfl rfl rfl rfl rfl rfl ?_
      refine z_if_ne (tgt := 84) dX10_readsPin_77 rfl (fun hc28 => ?_) (fun hc28 => ?_)
      · have h := it_f h hc28
        refine z_iconst (v := (0 : Int32)) dX10_readsPin_84 kc_0 ?_
        refine z_iconst (v := (3 : Int32)) dX10_readsPin_85 kc_3 ?_
        obtain ⟨q29, hq30, h⟩ := bnd h
        refine z_fVi (sX10_must q11.2 (0 : Int32) (3 : Int32) hq30) dX10_readsPin_86 ml_X10_161 cd_X10_must mk18 rfl rfl rfl rfl rfl rfl ?_
        refine z_pop dX10_readsPin_89 rfl ?_
        refine z_aload_n (i := 0) dX10_readsPin_90 rfl rfl ?_
        obtain ⟨q31, hq32, h⟩ := bnd h
        refine z_fVv (sX10_goesOn q29.2 hq32) dX10_readsPin_91 ml_X10_164 cd_X10_goesOn mk18 rfl rfl rfl rfl rfl rfl ?_
        refine z_aload_n (i := 0) dX10_readsPin_94 rfl rfl ?_
        refine z_bipush (v := (59 : Int32)) dX10_readsPin_95 kb_59 ?_
        obtain ⟨q33, hq34, h⟩ := bnd h
        refine z_fVv (sX10_takesSign q31 (59 : Int32) hq34) dX10_readsPin_97 ml_X10_180 cd_X10_takesSign mk18 rfl rfl rfl rfl rfl rfl ?_
        refine z_aload_n (i := 0) dX10_readsPin_100 rfl rfl ?_
        refine z_getI (x := (q33.1 (18, 0, 0) 17)) dX10_readsPin_101 fl_X10_149 mk18 rfl rfl ?_
        refine z_if_ne (tgt := 123) dX10_readsPin_104 rfl (fun hc35 => ?_) (fun hc35 => ?_)
        · have h := it_f h hc35
          cases h
          exact z_vret dX10_readsPin_123 rfl (Nat.le_refl _) (Nat.le_refl _) ⟨rfl, rfl⟩
        · have h := it_t h hc35
          refine z_aload_n (i := 0) dX10_readsPin_107 rfl rfl ?_
          refine z_iload_n (i := 1) dX10_readsPin_108 rfl rfl ?_
          refine z_iload_n (i := 3) dX10_readsPin_109 rfl rfl ?_
          refine z_aload_n (i := 0) dX10_readsPin_110 rfl rfl ?_
          refine z_iload_n (i := 1) dX10_readsPin_111 rfl rfl ?_
          refine z_iload_n (i := 3) dX10_readsPin_112 rfl rfl ?_
          obtain ⟨q36, hq37, h⟩ := bnd h
          refine z_fVi (sX10_set q33 q7.1 (0 : Int32) hq37) dX10_readsPin_113 ml_X10_86 cd_X10_set mk18 rfl rfl rfl rfl rfl rfl ?_
          refine z_iconst (v := (1 : Int32)) dX10_readsPin_116 kc_1 ?_
          refine z_iload_n (i := 2) dX10_readsPin_117 rfl rfl ?_
          refine z_ishl dX10_readsPin_118 ?_
          refine z_ior dX10_readsPin_119 ?_
          obtain ⟨q38, hq39, h⟩ := bnd h
          refine z_fVv (sX10_putSet q33 q7.1 (0 : Int32) (q36 ||| ((1 : Int32) <<< (q9.1 &&& 31))) hq39) dX10_readsPin_120 ml_X10_185 cd_X10_putSet mk18 rfl rfl rfl rfl rfl rfl ?_
          cases h
          exact z_vret dX10_readsPin_123 rfl (Nat.le_refl _) (Nat.le_refl _) ⟨rfl, rfl⟩
      · have h := it_t h hc28
        refine z_iconst (v := (1 : Int32)) dX10_readsPin_80 kc_1 ?_
        refine z_goto (tgt := 85) dX10_readsPin_81 rfl ?_
        refine z_iconst (v := (3 : Int32)) dX10_readsPin_85 kc_3 ?_
        obtain ⟨q40, hq41, h⟩ := bnd h
        refine z_fVi (sX10_must q11.2 (1 : Int32) (3 : Int32) hq41) dX10_readsPin_86 ml_X10_161 cd_X10_must mk18 rfl rfl rfl rfl rfl rfl ?_
        refine z_pop dX10_readsPin_89 rfl ?_
        refine z_aload_n (i := 0) dX10_readsPin_90 rfl rfl ?_
        obtain ⟨q42, hq43, h⟩ := bnd h
        refine z_fVv (sX10_goesOn q40.2 hq43) dX10_readsPin_91 ml_X10_164 cd_X10_goesOn mk18 rfl rfl rfl rfl rfl rfl ?_
        refine z_aload_n (i := 0) dX10_readsPin_94 rfl rfl ?_
        refine z_bipush (v := (59 : Int32)) dX10_readsPin_95 kb_59 ?_
        obtain ⟨q44, hq45, h⟩ := bnd h
        refine z_fVv (sX10_takesSign q42 (59 : Int32) hq45) dX10_readsPin_97 ml_X10_180 cd_X10_takesSign mk18 rfl rfl rfl rfl rfl rfl ?_
        refine z_aload_n (i := 0) dX10_readsPin_100 rfl rfl ?_
        refine z_getI (x := (q44.1 (18, 0, 0) 17)) dX10_readsPin_101 fl_X10_149 mk18 rfl rfl ?_
        refine z_if_ne (tgt := 123) dX10_readsPin_104 rfl (fun hc46 => ?_) (fun hc46 => ?_)
        · have h := it_f h hc46
          cases h
          exact z_vret dX10_readsPin_123 rfl (Nat.le_refl _) (Nat.le_refl _) ⟨rfl, rfl⟩
        · have h := it_t h hc46
          refine z_aload_n (i := 0) dX10_readsPin_107 rfl rfl ?_
          refine z_iload_n (i := 1) dX10_readsPin_108 rfl rfl ?_
          refine z_iload_n (i := 3) dX10_readsPin_109 rfl rfl ?_
          refine z_aload_n (i := 0) dX10_readsPin_110 rfl rfl ?_
          refine z_iload_n (i := 1) dX10_readsPin_111 rfl rfl ?_
          refine z_iload_n (i := 3) dX10_readsPin_112 rfl rfl ?_
          obtain ⟨q47, hq48, h⟩ := bnd h
          refine z_fVi (sX10_set q44 q7.1 (0 : Int32) hq48) dX10_readsPin_113 ml_X10_86 cd_X10_set mk18 rfl rfl rfl rfl rfl rfl ?_
          refine z_iconst (v := (1 : Int32)) dX10_readsPin_116 kc_1 ?_
          refine z_iload_n (i := 2) dX10_readsPin_117 rfl rfl ?_
          refine z_ishl dX10_readsPin_118 ?_
          refine z_ior dX10_readsPin_119 ?_
          obtain ⟨q49, hq50, h⟩ := bnd h
          refine z_fVv (sX10_putSet q44 q7.1 (0 : Int32) (q47 ||| ((1 : Int32) <<< (q9.1 &&& 31))) hq50) dX10_readsPin_120 ml_X10_185 cd_X10_putSet mk18 rfl rfl rfl rfl rfl rfl ?_
          cases h
          exact z_vret dX10_readsPin_123 rfl (Nat.le_refl _) (Nat.le_refl _) ⟨rfl, rfl⟩
  · have h := it_f h hc13
    refine z_aload_n (i := 0) dX10_readsPin_53 rfl rfl ?_
    refine z_getI (x := (q11.2.1 (18, 0, 0) 16)) dX10_readsPin_54 fl_X10_146 mk18 rfl rfl ?_
    refine z_goto (tgt := 61) dX10_readsPin_57 rfl ?_
    refine z_istore_n (i := 3) dX10_readsPin_61 rfl (Nat.le_of_ble_eq_true rfl) rfl ?_
    refine z_aload_n (i := 0) dX10_readsPin_62 rfl rfl ?_
    refine z_aload_n (i := 0) dX10_readsPin_63 rfl rfl ?_
    refine z_getI (x := (q11.2.1 (18, 0, 0) 17)) dX10_readsPin_64 fl_X10_149 mk18 rfl rfl ?_
    refine z_if_ne (tgt := 80) dX10_readsPin_67 rfl (fun hc51 => ?_) (fun hc51 => ?_)
    · have h := it_f h hc51
      refine z_iconst (v := (1 : Int32)) dX10_readsPin_80 kc_1 ?_
      refine z_goto (tgt := 85) dX10_readsPin_81 rfl ?_
      refine z_iconst (v := (3 : Int32)) dX10_readsPin_85 kc_3 ?_
      obtain ⟨q52, hq53, h⟩ := bnd h
      refine z_fVi (sX10_must q11.2 (1 : Int32) (3 : Int32) hq53) dX10_readsPin_86 ml_X10_161 cd_X10_must mk18 rfl rfl rfl rfl rfl rfl ?_
      refine z_pop dX10_readsPin_89 rfl ?_
      refine z_aload_n (i := 0) dX10_readsPin_90 rfl rfl ?_
      obtain ⟨q54, hq55, h⟩ := bnd h
      refine z_fVv (sX10_goesOn q52.2 hq55) dX10_readsPin_91 ml_X10_164 cd_X10_goesOn mk18 rfl rfl rfl rfl rfl rfl ?_
      refine z_aload_n (i := 0) dX10_readsPin_94 rfl rfl ?_
      refine z_bipush (v := (59 : Int32)) dX10_readsPin_95 kb_59 ?_
      obtain ⟨q56, hq57, h⟩ := bnd h
      refine z_fVv (sX10_takesSign q54 (59 : Int32) hq57) dX10_readsPin_97 ml_X10_180 cd_X10_takesSign mk18 rfl rfl rfl rfl rfl rfl ?_
      refine z_aload_n (i := 0) dX10_readsPin_100 rfl rfl ?_
      refine z_getI (x := (q56.1 (18, 0, 0) 17)) dX10_readsPin_101 fl_X10_149 mk18 rfl rfl ?_
      refine z_if_ne (tgt := 123) dX10_readsPin_104 rfl (fun hc58 => ?_) (fun hc58 => ?_)
      · have h := it_f h hc58
        cases h
        exact z_vret dX10_readsPin_123 rfl (Nat.le_refl _) (Nat.le_refl _) ⟨rfl, rfl⟩
      · have h := it_t h hc58
        refine z_aload_n (i := 0) dX10_readsPin_107 rfl rfl ?_
        refine z_iload_n (i := 1) dX10_readsPin_108 rfl rfl ?_
        refine z_iload_n (i := 3) dX10_readsPin_109 rfl rfl ?_
        refine z_aload_n (i := 0) dX10_readsPin_110 rfl rfl ?_
        refine z_iload_n (i := 1) dX10_readsPin_111 rfl rfl ?_
        refine z_iload_n (i := 3) dX10_readsPin_112 rfl rfl ?_
        obtain ⟨q59, hq60, h⟩ := bnd h
        refine z_fVi (sX10_set q56 q7.1 (q11.2.1 (18, 0, 0) 16) hq60) dX10_readsPin_113 ml_X10_86 cd_X10_set mk18 rfl rfl rfl rfl rfl rfl ?_
        refine z_iconst (v := (1 : Int32)) dX10_readsPin_116 kc_1 ?_
        refine z_iload_n (i := 2) dX10_readsPin_117 rfl rfl ?_
        refine z_ishl dX10_readsPin_118 ?_
        refine z_ior dX10_readsPin_119 ?_
        obtain ⟨q61, hq62, h⟩ := bnd h
        refine z_fVv (sX10_putSet q56 q7.1 (q11.2.1 (18, 0, 0) 16) (q59 ||| ((1 : Int32) <<< (q9.1 &&& 31))) hq62) dX10_readsPin_120 ml_X10_185 cd_X10_putSet mk18 rfl rfl rfl rfl rfl rfl ?_
        cases h
        exact z_vret dX10_readsPin_123 rfl (Nat.le_refl _) (Nat.le_refl _) ⟨rfl, rfl⟩
    · have h := it_t h hc51
      refine z_aload_n (i := 0) dX10_readsPin_70 rfl rfl ?_
      refine z_iload_n (i := 1) dX10_readsPin_71 rfl rfl ?_
      refine z_iload_n (i := 2) dX10_readsPin_72 rfl rfl ?_
      refine z_iload_n (i := 3) dX10_readsPin_73 rfl rfl ?_
      obtain ⟨q63, hq64, h⟩ := bnd h
      refine z_fVi (sX10_has q11.2 q7.1 q9.1 (q11.2.1 (18, 0, 0) 16) hq64) dX10_readsPin_74 ml_X10_93 cd_X10_has mk18 rfl rfl rfl rfl rfl rfl ?_
      refine z_if_ne (tgt := 84) dX10_readsPin_77 rfl (fun hc65 => ?_) (fun hc65 => ?_)
      · have h := it_f h hc65
        refine z_iconst (v := (0 : Int32)) dX10_readsPin_84 kc_0 ?_
        refine z_iconst (v := (3 : Int32)) dX10_readsPin_85 kc_3 ?_
        obtain ⟨q66, hq67, h⟩ := bnd h
        refine z_fVi (sX10_must q11.2 (0 : Int32) (3 : Int32) hq67) dX10_readsPin_86 ml_X10_161 cd_X10_must mk18 rfl rfl rfl rfl rfl rfl ?_
        refine z_pop dX10_readsPin_89 rfl ?_
        refine z_aload_n (i := 0) dX10_readsPin_90 rfl rfl ?_
        obtain ⟨q68, hq69, h⟩ := bnd h
        refine z_fVv (sX10_goesOn q66.2 hq69) dX10_readsPin_91 ml_X10_164 cd_X10_goesOn mk18 rfl rfl rfl rfl rfl rfl ?_
        refine z_aload_n (i := 0) dX10_readsPin_94 rfl rfl ?_
        refine z_bipush (v := (59 : Int32)) dX10_readsPin_95 kb_59 ?_
        obtain ⟨q70, hq71, h⟩ := bnd h
        refine z_fVv (sX10_takesSign q68 (59 : Int32) hq71) dX10_readsPin_97 ml_X10_180 cd_X10_takesSign mk18 rfl rfl rfl rfl rfl rfl ?_
        refine z_aload_n (i := 0) dX10_readsPin_100 rfl rfl ?_
        refine z_getI (x := (q70.1 (18, 0, 0) 17)) dX10_readsPin_101 fl_X10_149 mk18 rfl rfl ?_
        refine z_if_ne (tgt := 123) dX10_readsPin_104 rfl (fun hc72 => ?_) (fun hc72 => ?_)
        · have h := it_f h hc72
          cases h
          exact z_vret dX10_readsPin_123 rfl (Nat.le_refl _) (Nat.le_refl _) ⟨rfl, rfl⟩
        · have h := it_t h hc72
          refine z_aload_n (i := 0) dX10_readsPin_107 rfl rfl ?_
          refine z_iload_n (i := 1) dX10_readsPin_108 rfl rfl ?_
          refine z_iload_n (i := 3) dX10_readsPin_109 rfl rfl ?_
          refine z_aload_n (i := 0) dX10_readsPin_110 rfl rfl ?_
          refine z_iload_n (i := 1) dX10_readsPin_111 rfl rfl ?_
          refine z_iload_n (i := 3) dX10_readsPin_112 rfl rfl ?_
          obtain ⟨q73, hq74, h⟩ := bnd h
          refine z_fVi (sX10_set q70 q7.1 (q11.2.1 (18, 0, 0) 16) hq74) dX10_readsPin_113 ml_X10_86 cd_X10_set mk18 rfl rfl rfl rfl rfl rfl ?_
          refine z_iconst (v := (1 : Int32)) dX10_readsPin_116 kc_1 ?_
          refine z_iload_n (i := 2) dX10_readsPin_117 rfl rfl ?_
          refine z_ishl dX10_readsPin_118 ?_
          refine z_ior dX10_readsPin_119 ?_
          obtain ⟨q75, hq76, h⟩ := bnd h
          refine z_fVv (sX10_putSet q70 q7.1 (q11.2.1 (18, 0, 0) 16) (q73 ||| ((1 : Int32) <<< (q9.1 &&& 31))) hq76) dX10_readsPin_120 ml_X10_185 cd_X10_putSet mk18 rfl rfl rfl rfl rfl rfl ?_
          cases h
          exact z_vret dX10_readsPin_123 rfl (Nat.le_refl _) (Nat.le_refl _) ⟨rfl, rfl⟩
      · have h := it_t h hc65
        refine z_iconst (v := (1 : Int32)) dX10_readsPin_80 kc_1 ?_
        refine z_goto (tgt := 85) dX10_readsPin_81 rfl ?_
        refine z_iconst (v := (3 : Int32)) dX10_readsPin_85 kc_3 ?_
        obtain ⟨q77, hq78, h⟩ := bnd h
        refine z_fVi (sX10_must q11.2 (1 : Int32) (3 : Int32) hq78) dX10_readsPin_86 ml_X10_161 cd_X10_must mk18 rfl rfl rfl rfl rfl rfl ?_
        refine z_pop dX10_readsPin_89 rfl ?_
        refine z_aload_n (i := 0) dX10_readsPin_90 rfl rfl ?_
        obtain ⟨q79, hq80, h⟩ := bnd h
        refine z_fVv (sX10_goesOn q77.2 hq80) dX10_readsPin_91 ml_X10_164 cd_X10_goesOn mk18 rfl rfl rfl rfl rfl rfl ?_
        refine z_aload_n (i := 0) dX10_readsPin_94 rfl rfl ?_
        refine z_bipush (v := (59 : Int32)) dX10_readsPin_95 kb_59 ?_
        obtain ⟨q81, hq82, h⟩ := bnd h
        refine z_fVv (sX10_takesSign q79 (59 : Int32) hq82) dX10_readsPin_97 ml_X10_180 cd_X10_takesSign mk18 rfl rfl rfl rfl rfl rfl ?_
        refine z_aload_n (i := 0) dX10_readsPin_100 rfl rfl ?_
        refine z_getI (x := (q81.1 (18, 0, 0) 17)) dX10_readsPin_101 fl_X10_149 mk18 rfl rfl ?_
        refine z_if_ne (tgt := 123) dX10_readsPin_104 rfl (fun hc83 => ?_) (fun hc83 => ?_)
        · have h := it_f h hc83
          cases h
          exact z_vret dX10_readsPin_123 rfl (Nat.le_refl _) (Nat.le_refl _) ⟨rfl, rfl⟩
        · have h := it_t h hc83
          refine z_aload_n (i := 0) dX10_readsPin_107 rfl rfl ?_
          refine z_iload_n (i := 1) dX10_readsPin_108 rfl rfl ?_
          refine z_iload_n (i := 3) dX10_readsPin_109 rfl rfl ?_
          refine z_aload_n (i := 0) dX10_readsPin_110 rfl rfl ?_
          refine z_iload_n (i := 1) dX10_readsPin_111 rfl rfl ?_
          refine z_iload_n (i := 3) dX10_readsPin_112 rfl rfl ?_
          obtain ⟨q84, hq85, h⟩ := bnd h
          refine z_fVi (sX10_set q81 q7.1 (q11.2.1 (18, 0, 0) 16) hq85) dX10_readsPin_113 ml_X10_86 cd_X10_set mk18 rfl rfl rfl rfl rfl rfl ?_
          refine z_iconst (v := (1 : Int32)) dX10_readsPin_116 kc_1 ?_
          refine z_iload_n (i := 2) dX10_readsPin_117 rfl rfl ?_
          refine z_ishl dX10_readsPin_118 ?_
          refine z_ior dX10_readsPin_119 ?_
          obtain ⟨q86, hq87, h⟩ := bnd h
          refine z_fVv (sX10_putSet q81 q7.1 (q11.2.1 (18, 0, 0) 16) (q84 ||| ((1 : Int32) <<< (q9.1 &&& 31))) hq87) dX10_readsPin_120 ml_X10_185 cd_X10_putSet mk18 rfl rfl rfl rfl rfl rfl ?_
          cases h
          exact z_vret dX10_readsPin_123 rfl (Nat.le_refl _) (Nat.le_refl _) ⟨rfl, rfl⟩
theorem dX10_readsSetup_0 : decode cX10_readsSetup 0 = .ok (.aload_n 0, 1) := by decide +kernel
theorem dX10_readsSetup_1 : decode cX10_readsSetup 1 = .ok (.aload_n 0, 1) := by decide +kernel
theorem dX10_readsSetup_2 : decode cX10_readsSetup 2 = .ok (.ldc 188, 2) := by decide +kernel
theorem dX10_readsSetup_4 : decode cX10_readsSetup 4 = .ok (.invokevirtual 173, 3) := by decide +kernel
theorem dX10_readsSetup_7 : decode cX10_readsSetup 7 = .ok (.iconst 1, 1) := by decide +kernel
theorem dX10_readsSetup_8 : decode cX10_readsSetup 8 = .ok (.invokevirtual 161, 3) := by decide +kernel
theorem dX10_readsSetup_11 : decode cX10_readsSetup 11 = .ok (.pop, 1) := by decide +kernel
theorem dX10_readsSetup_12 : decode cX10_readsSetup 12 = .ok (.aload_n 0, 1) := by decide +kernel
theorem dX10_readsSetup_13 : decode cX10_readsSetup 13 = .ok (.invokevirtual 164, 3) := by decide +kernel
theorem dX10_readsSetup_16 : decode cX10_readsSetup 16 = .ok (.aload_n 0, 1) := by decide +kernel
theorem dX10_readsSetup_17 : decode cX10_readsSetup 17 = .ok (.getfield 7, 3) := by decide +kernel
theorem dX10_readsSetup_20 : decode cX10_readsSetup 20 = .ok (.iconst 0, 1) := by decide +kernel
theorem dX10_readsSetup_21 : decode cX10_readsSetup 21 = .ok (.aload_n 0, 1) := by decide +kernel
theorem dX10_readsSetup_22 : decode cX10_readsSetup 22 = .ok (.iconst 4, 1) := by decide +kernel
theorem dX10_readsSetup_23 : decode cX10_readsSetup 23 = .ok (.bipush 64, 2) := by decide +kernel
theorem dX10_readsSetup_25 : decode cX10_readsSetup 25 = .ok (.invokevirtual 177, 3) := by decide +kernel
theorem dX10_readsSetup_28 : decode cX10_readsSetup 28 = .ok (.iastore, 1) := by decide +kernel
theorem dX10_readsSetup_29 : decode cX10_readsSetup 29 = .ok (.aload_n 0, 1) := by decide +kernel
theorem dX10_readsSetup_30 : decode cX10_readsSetup 30 = .ok (.getfield 7, 3) := by decide +kernel
theorem dX10_readsSetup_33 : decode cX10_readsSetup 33 = .ok (.iconst 1, 1) := by decide +kernel
theorem dX10_readsSetup_34 : decode cX10_readsSetup 34 = .ok (.aload_n 0, 1) := by decide +kernel
theorem dX10_readsSetup_35 : decode cX10_readsSetup 35 = .ok (.iconst 0, 1) := by decide +kernel
theorem dX10_readsSetup_36 : decode cX10_readsSetup 36 = .ok (.bipush 20, 2) := by decide +kernel
theorem dX10_readsSetup_38 : decode cX10_readsSetup 38 = .ok (.invokevirtual 177, 3) := by decide +kernel
theorem dX10_readsSetup_41 : decode cX10_readsSetup 41 = .ok (.iastore, 1) := by decide +kernel
theorem dX10_readsSetup_42 : decode cX10_readsSetup 42 = .ok (.aload_n 0, 1) := by decide +kernel
theorem dX10_readsSetup_43 : decode cX10_readsSetup 43 = .ok (.getfield 7, 3) := by decide +kernel
theorem dX10_readsSetup_46 : decode cX10_readsSetup 46 = .ok (.iconst 2, 1) := by decide +kernel
theorem dX10_readsSetup_47 : decode cX10_readsSetup 47 = .ok (.aload_n 0, 1) := by decide +kernel
theorem dX10_readsSetup_48 : decode cX10_readsSetup 48 = .ok (.iconst 0, 1) := by decide +kernel
theorem dX10_readsSetup_49 : decode cX10_readsSetup 49 = .ok (.bipush 90, 2) := by decide +kernel
theorem dX10_readsSetup_51 : decode cX10_readsSetup 51 = .ok (.invokevirtual 177, 3) := by decide +kernel
theorem dX10_readsSetup_54 : decode cX10_readsSetup 54 = .ok (.iastore, 1) := by decide +kernel
theorem dX10_readsSetup_55 : decode cX10_readsSetup 55 = .ok (.aload_n 0, 1) := by decide +kernel
theorem dX10_readsSetup_56 : decode cX10_readsSetup 56 = .ok (.bipush 59, 2) := by decide +kernel
theorem dX10_readsSetup_58 : decode cX10_readsSetup 58 = .ok (.invokevirtual 180, 3) := by decide +kernel
theorem dX10_readsSetup_61 : decode cX10_readsSetup 61 = .ok (.aload_n 0, 1) := by decide +kernel
theorem dX10_readsSetup_62 : decode cX10_readsSetup 62 = .ok (.invokevirtual 190, 3) := by decide +kernel
theorem dX10_readsSetup_65 : decode cX10_readsSetup 65 = .ok (.aload_n 0, 1) := by decide +kernel
theorem dX10_readsSetup_66 : decode cX10_readsSetup 66 = .ok (.ldc 171, 2) := by decide +kernel
theorem dX10_readsSetup_68 : decode cX10_readsSetup 68 = .ok (.invokevirtual 173, 3) := by decide +kernel
theorem dX10_readsSetup_71 : decode cX10_readsSetup 71 = .ok (.ifCond .eq 10, 3) := by decide +kernel
theorem dX10_readsSetup_74 : decode cX10_readsSetup 74 = .ok (.aload_n 0, 1) := by decide +kernel
theorem dX10_readsSetup_75 : decode cX10_readsSetup 75 = .ok (.invokevirtual 190, 3) := by decide +kernel
theorem dX10_readsSetup_78 : decode cX10_readsSetup 78 = .ok (.goto (-13), 3) := by decide +kernel
theorem dX10_readsSetup_81 : decode cX10_readsSetup 81 = .ok (.aload_n 0, 1) := by decide +kernel
theorem dX10_readsSetup_82 : decode cX10_readsSetup 82 = .ok (.getfield 149, 3) := by decide +kernel
theorem dX10_readsSetup_85 : decode cX10_readsSetup 85 = .ok (.ifCond .ne 17, 3) := by decide +kernel
theorem dX10_readsSetup_88 : decode cX10_readsSetup 88 = .ok (.aload_n 0, 1) := by decide +kernel
theorem dX10_readsSetup_89 : decode cX10_readsSetup 89 = .ok (.getfield 143, 3) := by decide +kernel
theorem dX10_readsSetup_92 : decode cX10_readsSetup 92 = .ok (.ifCond .eq 10, 3) := by decide +kernel
theorem dX10_readsSetup_95 : decode cX10_readsSetup 95 = .ok (.aload_n 0, 1) := by decide +kernel
theorem dX10_readsSetup_96 : decode cX10_readsSetup 96 = .ok (.invokevirtual 193, 3) := by decide +kernel
theorem dX10_readsSetup_99 : decode cX10_readsSetup 99 = .ok (.goto (-18), 3) := by decide +kernel
theorem dX10_readsSetup_102 : decode cX10_readsSetup 102 = .ok (.return_, 1) := by decide +kernel
def fX10_readsSetup_L65 (K : Mm → Option Mm) : Nat → Mm → Option Mm
  | 0, _ => none
  | n + 1, M => (fX10_isWord M 2).bind fun q17 => if q17 = 0 then K M else (fX10_readsTooth M).bind fun q20 => fX10_readsSetup_L65 K n q20
def fX10_readsSetup_L81 (K : Mm → Option Mm) : Nat → Mm → Option Mm
  | 0, _ => none
  | n + 1, M => if (M.1 (18, 0, 0) 17) = 0 then (if (M.1 (18, 0, 0) 15) = 0 then K M else (fX10_readsPin M).bind fun q25 => fX10_readsSetup_L81 K n q25) else K M
def fX10_readsSetup (M : Mm) : Option Mm := (fX10_isWord M 1).bind fun q1 => (fX10_must M q1 (1 : Int32)).bind fun q3 => (fX10_goesOn q3.2).bind fun q5 => (fX10_number q5 (4 : Int32) (64 : Int32)).bind fun q7 => (fX10_number (putI q7.2 (19, 0, 0) 0 q7.1) (0 : Int32) (20 : Int32)).bind fun q9 => (fX10_number (putI q9.2 (19, 0, 0) 1 q9.1) (0 : Int32) (90 : Int32)).bind fun q11 => (fX10_takesSign (putI q11.2 (19, 0, 0) 2 q11.1) (59 : Int32)).bind fun q13 => (fX10_readsTooth q13).bind fun q15 => fX10_readsSetup_L65 (fun M22 => fX10_readsSetup_L81 (fun M27 => some M27) NF M22) NF q15
set_option maxRecDepth 20000 in
set_option maxHeartbeats 2000000 in
theorem sX10_readsSetup_L65 {wv : Nat} {res : Mm} {K : Mm → Option Mm} : ∀ (n : Nat) (M : Mm), fX10_readsSetup_L65 K n M = some res →
    (∀ (M : Mm), K M = some res → Z RX10 cX10_readsSetup 1 none [] "readsSetup" (rmD 9 0 0) (QM SH (allR (wv + 1)) 0 0 (fun v M9 => v = none ∧ M9 = res) (fun _ _ => False)) (allR (wv + 1)) SH 0 0 81 [some (.inr (18, 0, 0))] [] M) → Z RX10 cX10_readsSetup 1 none [] "readsSetup" (rmD 9 0 0) (QM SH (allR (wv + 1)) 0 0 (fun v M9 => v = none ∧ M9 = res) (fun _ _ => False)) (allR (wv + 1)) SH 0 0 65 [some (.inr (18, 0, 0))] [] M := by
  intro n
  induction n with
  | zero => intro M h; cases h
  | succ n ih =>
    intro M h hK
    rw [fX10_readsSetup_L65] at h
    refine z_aload_n (i := 0) dX10_readsSetup_65 rfl rfl ?_
    refine z_ldcS (j := 2) dX10_readsSetup_66 sw_RX10_171 ?_
    obtain ⟨q17, hq18, h⟩ := bnd h
    refine z_fVi (sX10_isWord M 2 (Nat.le_of_ble_eq_true rfl) hq18) dX10_readsSetup_68 ml_X10_173 cd_X10_isWord mk18 rfl rfl rfl rfl rfl rfl ?_
    refine z_if_eq (tgt := 81) dX10_readsSetup_71 rfl (fun hc19 => ?_) (fun hc19 => ?_)
    · have h := it_t h hc19
      exact hK _ h
    · have h := it_f h hc19
      refine z_aload_n (i := 0) dX10_readsSetup_74 rfl rfl ?_
      obtain ⟨q20, hq21, h⟩ := bnd h
      refine z_fVv (sX10_readsTooth M hq21) dX10_readsSetup_75 ml_X10_190 cd_X10_readsTooth mk18 rfl rfl rfl rfl rfl rfl ?_
      refine z_goto (tgt := 65) dX10_readsSetup_78 rfl ?_
      exact ih _ h hK
set_option maxRecDepth 20000 in
set_option maxHeartbeats 2000000 in
theorem sX10_readsSetup_L81 {wv : Nat} {res : Mm} {K : Mm → Option Mm} : ∀ (n : Nat) (M : Mm), fX10_readsSetup_L81 K n M = some res →
    (∀ (M : Mm), K M = some res → Z RX10 cX10_readsSetup 1 none [] "readsSetup" (rmD 9 0 0) (QM SH (allR (wv + 1)) 0 0 (fun v M9 => v = none ∧ M9 = res) (fun _ _ => False)) (allR (wv + 1)) SH 0 0 102 [some (.inr (18, 0, 0))] [] M) → Z RX10 cX10_readsSetup 1 none [] "readsSetup" (rmD 9 0 0) (QM SH (allR (wv + 1)) 0 0 (fun v M9 => v = none ∧ M9 = res) (fun _ _ => False)) (allR (wv + 1)) SH 0 0 81 [some (.inr (18, 0, 0))] [] M := by
  intro n
  induction n with
  | zero => intro M h; cases h
  | succ n ih =>
    intro M h hK
    rw [fX10_readsSetup_L81] at h
    refine z_aload_n (i := 0) dX10_readsSetup_81 rfl rfl ?_
    refine z_getI (x := (M.1 (18, 0, 0) 17)) dX10_readsSetup_82 fl_X10_149 mk18 rfl rfl ?_
    refine z_if_ne (tgt := 102) dX10_readsSetup_85 rfl (fun hc23 => ?_) (fun hc23 => ?_)
    · have h := it_f h hc23
      exact hK _ h
    · have h := it_t h hc23
      refine z_aload_n (i := 0) dX10_readsSetup_88 rfl rfl ?_
      refine z_getI (x := (M.1 (18, 0, 0) 15)) dX10_readsSetup_89 fl_X10_143 mk18 rfl rfl ?_
      refine z_if_eq (tgt := 102) dX10_readsSetup_92 rfl (fun hc24 => ?_) (fun hc24 => ?_)
      · have h := it_t h hc24
        exact hK _ h
      · have h := it_f h hc24
        refine z_aload_n (i := 0) dX10_readsSetup_95 rfl rfl ?_
        obtain ⟨q25, hq26, h⟩ := bnd h
        refine z_fVv (sX10_readsPin M hq26) dX10_readsSetup_96 ml_X10_193 cd_X10_readsPin mk18 rfl rfl rfl rfl rfl rfl ?_
        refine z_goto (tgt := 81) dX10_readsSetup_99 rfl ?_
        exact ih _ h hK
set_option maxRecDepth 20000 in
set_option maxHeartbeats 2000000 in
theorem sX10_readsSetup {wv : Nat} (M : Mm) {res : Mm} (h : fX10_readsSetup M  = some res) : TF (wv + 1) yX10_readsSetup cX10_readsSetup 1 none 9 [.inr (18, 0, 0)] M (none) res := by
  rw [fX10_readsSetup] at h
  refine TF.go (n := 0) (ls := [some (.inr (18, 0, 0))]) rfl rfl rfl rfl rfl ?_
  refine z_aload_n (i := 0) dX10_readsSetup_0 rfl rfl ?_
  refine z_aload_n (i := 0) dX10_readsSetup_1 rfl rfl ?_
  refine z_ldcS (j := 1) dX10_readsSetup_2 sw_RX10_188 ?_
  obtain ⟨q1, hq2, h⟩ := bnd h
  refine z_fVi (sX10_isWord M 1 (Nat.le_of_ble_eq_true rfl) hq2) dX10_readsSetup_4 ml_X10_173 cd_X10_isWord mk18 rfl rfl rfl rfl rfl rfl ?_
  refine z_iconst (v := (1 : Int32)) dX10_readsSetup_7 kc_1 ?_
  obtain ⟨q3, hq4, h⟩ := bnd h
  refine z_fVi (sX10_must M q1 (1 : Int32) hq4) dX10_readsSetup_8 ml_X10_161 cd_X10_must mk18 rfl rfl rfl rfl rfl rfl ?_
  refine z_pop dX10_readsSetup_11 rfl ?_
  refine z_aload_n (i := 0) dX10_readsSetup_12 rfl rfl ?_
  obtain ⟨q5, hq6, h⟩ := bnd h
  refine z_fVv (sX10_goesOn q3.2 hq6) dX10_readsSetup_13 ml_X10_164 cd_X10_goesOn mk18 rfl rfl rfl rfl rfl rfl ?_
  refine z_aload_n (i := 0) dX10_readsSetup_16 rfl rfl ?_
  refine z_getR (r' := (19, 0, 0)) dX10_readsSetup_17 fl_X10_7 mk18 rfl rfl ?_
  refine z_iconst (v := (0 : Int32)) dX10_readsSetup_20 kc_0 ?_
  refine z_aload_n (i := 0) dX10_readsSetup_21 rfl rfl ?_
  refine z_iconst (v := (4 : Int32)) dX10_readsSetup_22 kc_4 ?_
  refine z_bipush (v := (64 : Int32)) dX10_readsSetup_23 kb_64 ?_
  obtain ⟨q7, hq8, h⟩ := bnd h
  refine z_fVi (sX10_number q5 (4 : Int32) (64 : Int32) hq8) dX10_readsSetup_25 ml_X10_177 cd_X10_number mk18 rfl rfl rfl rfl rfl rfl ?_
  refine z_iast (j := 0) allR_nd dX10_readsSetup_28 (m19 _ (Nat.le_of_ble_eq_true rfl)) rfl (by decide) rfl ?_
  refine z_aload_n (i := 0) dX10_readsSetup_29 rfl rfl ?_
  refine z_getR (r' := (19, 0, 0)) dX10_readsSetup_30 fl_X10_7 mk18 rfl rfl ?_
  refine z_iconst (v := (1 : Int32)) dX10_readsSetup_33 kc_1 ?_
  refine z_aload_n (i := 0) dX10_readsSetup_34 rfl rfl ?_
  refine z_iconst (v := (0 : Int32)) dX10_readsSetup_35 kc_0 ?_
  refine z_bipush (v := (20 : Int32)) dX10_readsSetup_36 kb_20 ?_
  obtain ⟨q9, hq10, h⟩ := bnd h
  refine z_fVi (sX10_number (putI q7.2 (19, 0, 0) 0 q7.1) (0 : Int32) (20 : Int32) hq10) dX10_readsSetup_38 ml_X10_177 cd_X10_number mk18 rfl rfl rfl rfl rfl rfl ?_
  refine z_iast (j := 1) allR_nd dX10_readsSetup_41 (m19 _ (Nat.le_of_ble_eq_true rfl)) rfl (by decide) rfl ?_
  refine z_aload_n (i := 0) dX10_readsSetup_42 rfl rfl ?_
  refine z_getR (r' := (19, 0, 0)) dX10_readsSetup_43 fl_X10_7 mk18 rfl rfl ?_
  refine z_iconst (v := (2 : Int32)) dX10_readsSetup_46 kc_2 ?_
  refine z_aload_n (i := 0) dX10_readsSetup_47 rfl rfl ?_
  refine z_iconst (v := (0 : Int32)) dX10_readsSetup_48 kc_0 ?_
  refine z_bipush (v := (90 : Int32)) dX10_readsSetup_49 kb_90 ?_
  obtain ⟨q11, hq12, h⟩ := bnd h
  refine z_fVi (sX10_number (putI q9.2 (19, 0, 0) 1 q9.1) (0 : Int32) (90 : Int32) hq12) dX10_readsSetup_51 ml_X10_177 cd_X10_number mk18 rfl rfl rfl rfl rfl rfl ?_
  refine z_iast (j := 2) allR_nd dX10_readsSetup_54 (m19 _ (Nat.le_of_ble_eq_true rfl)) rfl (by decide) rfl ?_
  refine z_aload_n (i := 0) dX10_readsSetup_55 rfl rfl ?_
  refine z_bipush (v := (59 : Int32)) dX10_readsSetup_56 kb_59 ?_
  obtain ⟨q13, hq14, h⟩ := bnd h
  refine z_fVv (sX10_takesSign (putI q11.2 (19, 0, 0) 2 q11.1) (59 : Int32) hq14) dX10_readsSetup_58 ml_X10_180 cd_X10_takesSign mk18 rfl rfl rfl rfl rfl rfl ?_
  refine z_aload_n (i := 0) dX10_readsSetup_61 rfl rfl ?_
  obtain ⟨q15, hq16, h⟩ := bnd h
  refine z_fVv (sX10_readsTooth q13 hq16) dX10_readsSetup_62 ml_X10_190 cd_X10_readsTooth mk18 rfl rfl rfl rfl rfl rfl ?_
  refine sX10_readsSetup_L65  NF _ h (fun M22 h => ?_)
  refine sX10_readsSetup_L81  NF _ h (fun M27 h => ?_)
  cases h
  exact z_vret dX10_readsSetup_102 rfl (Nat.le_refl _) (Nat.le_refl _) ⟨rfl, rfl⟩
theorem dX10_takesText_0 : decode cX10_takesText 0 = .ok (.iconst 0, 1) := by decide +kernel
theorem dX10_takesText_1 : decode cX10_takesText 1 = .ok (.istore_n 2, 1) := by decide +kernel
theorem dX10_takesText_2 : decode cX10_takesText 2 = .ok (.iload_n 2, 1) := by decide +kernel
theorem dX10_takesText_3 : decode cX10_takesText 3 = .ok (.aload_n 1, 1) := by decide +kernel
theorem dX10_takesText_4 : decode cX10_takesText 4 = .ok (.invokevirtual 60, 3) := by decide +kernel
theorem dX10_takesText_7 : decode cX10_takesText 7 = .ok (.if_icmp .ge 20, 3) := by decide +kernel
theorem dX10_takesText_10 : decode cX10_takesText 10 = .ok (.aload_n 0, 1) := by decide +kernel
theorem dX10_takesText_11 : decode cX10_takesText 11 = .ok (.getfield 32, 3) := by decide +kernel
theorem dX10_takesText_14 : decode cX10_takesText 14 = .ok (.iload_n 2, 1) := by decide +kernel
theorem dX10_takesText_15 : decode cX10_takesText 15 = .ok (.aload_n 1, 1) := by decide +kernel
theorem dX10_takesText_16 : decode cX10_takesText 16 = .ok (.iload_n 2, 1) := by decide +kernel
theorem dX10_takesText_17 : decode cX10_takesText 17 = .ok (.invokevirtual 66, 3) := by decide +kernel
theorem dX10_takesText_20 : decode cX10_takesText 20 = .ok (.iastore, 1) := by decide +kernel
theorem dX10_takesText_21 : decode cX10_takesText 21 = .ok (.iinc 2 1, 3) := by decide +kernel
theorem dX10_takesText_24 : decode cX10_takesText 24 = .ok (.goto (-22), 3) := by decide +kernel
theorem dX10_takesText_27 : decode cX10_takesText 27 = .ok (.aload_n 0, 1) := by decide +kernel
theorem dX10_takesText_28 : decode cX10_takesText 28 = .ok (.aload_n 1, 1) := by decide +kernel
theorem dX10_takesText_29 : decode cX10_takesText 29 = .ok (.invokevirtual 60, 3) := by decide +kernel
theorem dX10_takesText_32 : decode cX10_takesText 32 = .ok (.putfield 70, 3) := by decide +kernel
theorem dX10_takesText_35 : decode cX10_takesText 35 = .ok (.aload_n 0, 1) := by decide +kernel
theorem dX10_takesText_36 : decode cX10_takesText 36 = .ok (.invokevirtual 73, 3) := by decide +kernel
theorem dX10_takesText_39 : decode cX10_takesText 39 = .ok (.aload_n 0, 1) := by decide +kernel
theorem dX10_takesText_40 : decode cX10_takesText 40 = .ok (.invokevirtual 76, 3) := by decide +kernel
theorem dX10_takesText_43 : decode cX10_takesText 43 = .ok (.aload_n 0, 1) := by decide +kernel
theorem dX10_takesText_44 : decode cX10_takesText 44 = .ok (.iconst 0, 1) := by decide +kernel
theorem dX10_takesText_45 : decode cX10_takesText 45 = .ok (.putfield 70, 3) := by decide +kernel
theorem dX10_takesText_48 : decode cX10_takesText 48 = .ok (.return_, 1) := by decide +kernel
def fX10_takesText_L2 (j1 : Nat) (K : Int32 → Mm → Option Mm) : Nat → Int32 → Mm → Option Mm
  | 0, _, _ => none
  | n + 1, v2, M => if (slen j1) ≤ v2 then K v2 M else (sch j1 v2).bind fun q2 => if v2 < 0 ∨ 800 ≤ v2.toNatClampNeg then none else fX10_takesText_L2 j1 K n (v2 + (1 : Int32)) (putI M (19, 6, 0) v2.toNatClampNeg q2)
def fX10_takesText (M : Mm) (j1 : Nat) : Option Mm := fX10_takesText_L2 j1 (fun w5 M6 => (fX10_starts (putI M6 (18, 0, 0) 10 (slen j1))).bind fun q7 => (fX10_readsSetup q7).bind fun q9 => some (putI q9 (18, 0, 0) 10 (0 : Int32))) NF (0 : Int32) M
set_option maxRecDepth 20000 in
set_option maxHeartbeats 2000000 in
theorem sX10_takesText_L2 {wv : Nat} (j1 : Nat) (hj1 : j1 < 22) {res : Mm} {K : Int32 → Mm → Option Mm} : ∀ (n : Nat) (v2 : Int32) (M : Mm), fX10_takesText_L2 j1 K n v2 M = some res →
    (∀ (v2 : Int32) (M : Mm), K v2 M = some res → Z RX10 cX10_takesText 3 none [] "takesText" (rmD 10 0 0) (QM SH (allR (wv + 1)) 0 0 (fun v M9 => v = none ∧ M9 = res) (fun _ _ => False)) (allR (wv + 1)) SH 0 0 27 [some (.inr (18, 0, 0)), some (.inr (30, j1, 0)), some (.inl (.int v2))] [] M) → Z RX10 cX10_takesText 3 none [] "takesText" (rmD 10 0 0) (QM SH (allR (wv + 1)) 0 0 (fun v M9 => v = none ∧ M9 = res) (fun _ _ => False)) (allR (wv + 1)) SH 0 0 2 [some (.inr (18, 0, 0)), some (.inr (30, j1, 0)), some (.inl (.int v2))] [] M := by
  intro n
  induction n with
  | zero => intro v2 M h; cases h
  | succ n ih =>
    intro v2 M h hK
    rw [fX10_takesText_L2] at h
    refine z_iload_n (i := 2) dX10_takesText_2 rfl rfl ?_
    refine z_aload_n (i := 1) dX10_takesText_3 rfl rfl ?_
    refine z_fTi (S_length M j1 hj1) dX10_takesText_4 ml_X10_60 cd_J0_length_8abf5 hj1 rfl rfl rfl rfl rfl ?_
    refine z_icmp_ge (tgt := 27) dX10_takesText_7 rfl (fun hc1 => ?_) (fun hc1 => ?_)
    · have h := it_t h hc1
      exact hK _ _ h
    · have h := it_f h hc1
      refine z_aload_n (i := 0) dX10_takesText_10 rfl rfl ?_
      refine z_getR (r' := (19, 6, 0)) dX10_takesText_11 fl_X10_32 mk18 rfl rfl ?_
      refine z_iload_n (i := 2) dX10_takesText_14 rfl rfl ?_
      refine z_aload_n (i := 1) dX10_takesText_15 rfl rfl ?_
      refine z_iload_n (i := 2) dX10_takesText_16 rfl rfl ?_
      obtain ⟨q2, hq3, h⟩ := bnd h
      refine z_fTi (S_charAt M j1 v2 hj1 hq3) dX10_takesText_17 ml_X10_66 cd_J0_charAt_5068e hj1 rfl rfl rfl rfl rfl ?_
      obtain ⟨hc4, h⟩ := chk h
      refine z_iast (j := v2.toNatClampNeg) allR_nd dX10_takesText_20 (m19 _ (Nat.le_of_ble_eq_true rfl)) rfl hc4 rfl ?_
      refine z_iinc (i := 2) (v := (v2 + (1 : Int32))) dX10_takesText_21 rfl (iinc_k kc_1) (Nat.le_of_ble_eq_true rfl) rfl ?_
      refine z_goto (tgt := 2) dX10_takesText_24 rfl ?_
      exact ih _ _ h hK
set_option maxRecDepth 20000 in
set_option maxHeartbeats 2000000 in
theorem sX10_takesText {wv : Nat} (M : Mm) (j1 : Nat) (hj1 : j1 < 22) {res : Mm} (h : fX10_takesText M j1 = some res) : TF (wv + 1) yX10_takesText cX10_takesText 3 none 10 [.inr (18, 0, 0), .inr (30, j1, 0)] M (none) res := by
  rw [fX10_takesText] at h
  refine TF.go (n := 1) (ls := [some (.inr (18, 0, 0)), some (.inr (30, j1, 0)), none]) rfl rfl rfl rfl rfl ?_
  refine z_iconst (v := (0 : Int32)) dX10_takesText_0 kc_0 ?_
  refine z_istore_n (i := 2) dX10_takesText_1 rfl (Nat.le_of_ble_eq_true rfl) rfl ?_
  refine sX10_takesText_L2 j1 hj1 NF _ _ h (fun w5 M6 h => ?_)
  refine z_aload_n (i := 0) dX10_takesText_27 rfl rfl ?_
  refine z_aload_n (i := 1) dX10_takesText_28 rfl rfl ?_
  refine z_fTi (S_length M6 j1 hj1) dX10_takesText_29 ml_X10_60 cd_J0_length_8abf5 hj1 rfl rfl rfl rfl rfl ?_
  refine z_putI allR_nd dX10_takesText_32 fl_X10_70 mk18 rfl rfl ?_
  refine z_aload_n (i := 0) dX10_takesText_35 rfl rfl ?_
  obtain ⟨q7, hq8, h⟩ := bnd h
  refine z_fVv (sX10_starts (putI M6 (18, 0, 0) 10 (slen j1)) hq8) dX10_takesText_36 ml_X10_73 cd_X10_starts mk18 rfl rfl rfl rfl rfl rfl ?_
  refine z_aload_n (i := 0) dX10_takesText_39 rfl rfl ?_
  obtain ⟨q9, hq10, h⟩ := bnd h
  refine z_fVv (sX10_readsSetup q7 hq10) dX10_takesText_40 ml_X10_76 cd_X10_readsSetup mk18 rfl rfl rfl rfl rfl rfl ?_
  refine z_aload_n (i := 0) dX10_takesText_43 rfl rfl ?_
  refine z_iconst (v := (0 : Int32)) dX10_takesText_44 kc_0 ?_
  refine z_putI allR_nd dX10_takesText_45 fl_X10_70 mk18 rfl rfl ?_
  cases h
  exact z_vret dX10_takesText_48 rfl (Nat.le_refl _) (Nat.le_refl _) ⟨rfl, rfl⟩
theorem dX10_thrown_0 : decode cX10_thrown 0 = .ok (.aload_n 0, 1) := by decide +kernel
theorem dX10_thrown_1 : decode cX10_thrown 1 = .ok (.getfield 79, 3) := by decide +kernel
theorem dX10_thrown_4 : decode cX10_thrown 4 = .ok (.ireturn, 1) := by decide +kernel
def fX10_thrown (M : Mm) : Int32 := (M.1 (18, 0, 0) 8)
set_option maxRecDepth 20000 in
set_option maxHeartbeats 2000000 in
theorem tX10_thrown {wv : Nat} (M : Mm) {res : Int32} (h : fX10_thrown M  = res) : TF (wv + 1) yX10_thrown cX10_thrown 1 (some .int) 0 [.inr (18, 0, 0)] M (some (.int res)) M := by
  rw [fX10_thrown] at h
  refine TF.go (n := 0) (ls := [some (.inr (18, 0, 0))]) rfl rfl rfl rfl rfl ?_
  refine z_aload_n (i := 0) dX10_thrown_0 rfl rfl ?_
  refine z_getI (x := (M.1 (18, 0, 0) 8)) dX10_thrown_1 fl_X10_79 mk18 rfl rfl ?_
  subst h
  exact z_iret dX10_thrown_4 rfl rfl (Nat.le_refl _) (Nat.le_refl _) ⟨rfl, rfl⟩
theorem sX10_thrown {wv : Nat} (M : Mm) : TF (wv + 1) yX10_thrown cX10_thrown 1 (some .int) 0 [.inr (18, 0, 0)] M (some (.int (fX10_thrown M ))) M := tX10_thrown M   rfl
theorem dX10_right_0 : decode cX10_right 0 = .ok (.aload_n 0, 1) := by decide +kernel
theorem dX10_right_1 : decode cX10_right 1 = .ok (.getfield 79, 3) := by decide +kernel
theorem dX10_right_4 : decode cX10_right 4 = .ok (.ifCond .ne 12, 3) := by decide +kernel
theorem dX10_right_7 : decode cX10_right 7 = .ok (.iload_n 1, 1) := by decide +kernel
theorem dX10_right_8 : decode cX10_right 8 = .ok (.ifCond .ne 8, 3) := by decide +kernel
theorem dX10_right_11 : decode cX10_right 11 = .ok (.aload_n 0, 1) := by decide +kernel
theorem dX10_right_12 : decode cX10_right 12 = .ok (.iload_n 2, 1) := by decide +kernel
theorem dX10_right_13 : decode cX10_right 13 = .ok (.putfield 79, 3) := by decide +kernel
theorem dX10_right_16 : decode cX10_right 16 = .ok (.aload_n 0, 1) := by decide +kernel
theorem dX10_right_17 : decode cX10_right 17 = .ok (.getfield 79, 3) := by decide +kernel
theorem dX10_right_20 : decode cX10_right 20 = .ok (.ifCond .ne 7, 3) := by decide +kernel
theorem dX10_right_23 : decode cX10_right 23 = .ok (.iconst 1, 1) := by decide +kernel
theorem dX10_right_24 : decode cX10_right 24 = .ok (.goto 4, 3) := by decide +kernel
theorem dX10_right_27 : decode cX10_right 27 = .ok (.iconst 0, 1) := by decide +kernel
theorem dX10_right_28 : decode cX10_right 28 = .ok (.ireturn, 1) := by decide +kernel
def fX10_right (M : Mm) (x1 : Int32) (x2 : Int32) : Option (Int32 × Mm) := if (M.1 (18, 0, 0) 8) = 0 then (if x1 = 0 then (if x2 = 0 then some ((1 : Int32), (putI M (18, 0, 0) 8 x2)) else some ((0 : Int32), (putI M (18, 0, 0) 8 x2))) else if (M.1 (18, 0, 0) 8) = 0 then some ((1 : Int32), M) else some ((0 : Int32), M)) else if (M.1 (18, 0, 0) 8) = 0 then some ((1 : Int32), M) else some ((0 : Int32), M)
set_option maxRecDepth 20000 in
set_option maxHeartbeats 2000000 in
theorem sX10_right {wv : Nat} (M : Mm) (x1 : Int32) (x2 : Int32) {res : (Int32 × Mm)} (h : fX10_right M x1 x2 = some res) : TF (wv + 1) yX10_right cX10_right 3 (some .boolean) 0 [.inr (18, 0, 0), .inl (.int x1), .inl (.int x2)] M (some (.int res.1)) res.2 := by
  rw [fX10_right] at h
  refine TF.go (n := 0) (ls := [some (.inr (18, 0, 0)), some (.inl (.int x1)), some (.inl (.int x2))]) rfl rfl rfl rfl rfl ?_
  refine z_aload_n (i := 0) dX10_right_0 rfl rfl ?_
  refine z_getI (x := (M.1 (18, 0, 0) 8)) dX10_right_1 fl_X10_79 mk18 rfl rfl ?_
  refine z_if_ne (tgt := 16) dX10_right_4 rfl (fun hc1 => ?_) (fun hc1 => ?_)
  · have h := it_f h hc1
    refine z_aload_n (i := 0) dX10_right_16 rfl rfl ?_
    refine z_getI (x := (M.1 (18, 0, 0) 8)) dX10_right_17 fl_X10_79 mk18 rfl rfl ?_
    refine z_if_ne (tgt := 27) dX10_right_20 rfl (fun hc2 => ?_) (fun hc2 => ?_)
    · have h := it_f h hc2
      refine z_iconst (v := (0 : Int32)) dX10_right_27 kc_0 ?_
      cases h
      exact z_iret dX10_right_28 rfl rfl (Nat.le_refl _) (Nat.le_refl _) ⟨rfl, rfl⟩
    · have h := it_t h hc2
      refine z_iconst (v := (1 : Int32)) dX10_right_23 kc_1 ?_
      refine z_goto (tgt := 28) dX10_right_24 rfl ?_
      cases h
      exact z_iret dX10_right_28 rfl rfl (Nat.le_refl _) (Nat.le_refl _) ⟨rfl, rfl⟩
  · have h := it_t h hc1
    refine z_iload_n (i := 1) dX10_right_7 rfl rfl ?_
    refine z_if_ne (tgt := 16) dX10_right_8 rfl (fun hc3 => ?_) (fun hc3 => ?_)
    · have h := it_f h hc3
      refine z_aload_n (i := 0) dX10_right_16 rfl rfl ?_
      refine z_getI (x := (M.1 (18, 0, 0) 8)) dX10_right_17 fl_X10_79 mk18 rfl rfl ?_
      refine z_if_ne (tgt := 27) dX10_right_20 rfl (fun hc4 => ?_) (fun hc4 => ?_)
      · have h := it_f h hc4
        refine z_iconst (v := (0 : Int32)) dX10_right_27 kc_0 ?_
        cases h
        exact z_iret dX10_right_28 rfl rfl (Nat.le_refl _) (Nat.le_refl _) ⟨rfl, rfl⟩
      · have h := it_t h hc4
        refine z_iconst (v := (1 : Int32)) dX10_right_23 kc_1 ?_
        refine z_goto (tgt := 28) dX10_right_24 rfl ?_
        cases h
        exact z_iret dX10_right_28 rfl rfl (Nat.le_refl _) (Nat.le_refl _) ⟨rfl, rfl⟩
    · have h := it_t h hc3
      refine z_aload_n (i := 0) dX10_right_11 rfl rfl ?_
      refine z_iload_n (i := 2) dX10_right_12 rfl rfl ?_
      refine z_putI allR_nd dX10_right_13 fl_X10_79 mk18 rfl rfl ?_
      refine z_aload_n (i := 0) dX10_right_16 rfl rfl ?_
      refine z_getI (x := x2) dX10_right_17 fl_X10_79 mk18 rfl (gp1 (M := M) (r := (18, 0, 0)) (j := 8) (v := x2)) ?_
      refine z_if_ne (tgt := 27) dX10_right_20 rfl (fun hc5 => ?_) (fun hc5 => ?_)
      · have h := it_f h hc5
        refine z_iconst (v := (0 : Int32)) dX10_right_27 kc_0 ?_
        cases h
        exact z_iret dX10_right_28 rfl rfl (Nat.le_refl _) (Nat.le_refl _) ⟨rfl, rfl⟩
      · have h := it_t h hc5
        refine z_iconst (v := (1 : Int32)) dX10_right_23 kc_1 ?_
        refine z_goto (tgt := 28) dX10_right_24 rfl ?_
        cases h
        exact z_iret dX10_right_28 rfl rfl (Nat.le_refl _) (Nat.le_refl _) ⟨rfl, rfl⟩
theorem dX10_of_0 : decode cX10_of 0 = .ok (.aload_n 0, 1) := by decide +kernel
theorem dX10_of_1 : decode cX10_of 1 = .ok (.getfield 7, 3) := by decide +kernel
theorem dX10_of_4 : decode cX10_of 4 = .ok (.bipush 16, 2) := by decide +kernel
theorem dX10_of_6 : decode cX10_of 6 = .ok (.bipush 6, 2) := by decide +kernel
theorem dX10_of_8 : decode cX10_of 8 = .ok (.iload_n 1, 1) := by decide +kernel
theorem dX10_of_9 : decode cX10_of 9 = .ok (.imul, 1) := by decide +kernel
theorem dX10_of_10 : decode cX10_of 10 = .ok (.iadd, 1) := by decide +kernel
theorem dX10_of_11 : decode cX10_of 11 = .ok (.iload_n 2, 1) := by decide +kernel
theorem dX10_of_12 : decode cX10_of 12 = .ok (.iadd, 1) := by decide +kernel
theorem dX10_of_13 : decode cX10_of 13 = .ok (.iaload, 1) := by decide +kernel
theorem dX10_of_14 : decode cX10_of 14 = .ok (.ireturn, 1) := by decide +kernel
def fX10_of (M : Mm) (x1 : Int32) (x2 : Int32) : Option Int32 := if (((16 : Int32) + ((6 : Int32) * x1)) + x2) < 0 ∨ 280 ≤ (((16 : Int32) + ((6 : Int32) * x1)) + x2).toNatClampNeg then none else some (M.1 (19, 0, 0) (((16 : Int32) + ((6 : Int32) * x1)) + x2).toNatClampNeg)
set_option maxRecDepth 20000 in
set_option maxHeartbeats 2000000 in
theorem sX10_of {wv : Nat} (M : Mm) (x1 : Int32) (x2 : Int32) {res : Int32} (h : fX10_of M x1 x2 = some res) : TF (wv + 1) yX10_of cX10_of 3 (some .int) 0 [.inr (18, 0, 0), .inl (.int x1), .inl (.int x2)] M (some (.int res)) M := by
  rw [fX10_of] at h
  refine TF.go (n := 0) (ls := [some (.inr (18, 0, 0)), some (.inl (.int x1)), some (.inl (.int x2))]) rfl rfl rfl rfl rfl ?_
  refine z_aload_n (i := 0) dX10_of_0 rfl rfl ?_
  refine z_getR (r' := (19, 0, 0)) dX10_of_1 fl_X10_7 mk18 rfl rfl ?_
  refine z_bipush (v := (16 : Int32)) dX10_of_4 kb_16 ?_
  refine z_bipush (v := (6 : Int32)) dX10_of_6 kb_6 ?_
  refine z_iload_n (i := 1) dX10_of_8 rfl rfl ?_
  refine z_imul dX10_of_9 ?_
  refine z_iadd dX10_of_10 ?_
  refine z_iload_n (i := 2) dX10_of_11 rfl rfl ?_
  refine z_iadd dX10_of_12 ?_
  obtain ⟨hc1, h⟩ := chk h
  refine z_iald (x := (M.1 (19, 0, 0) (((16 : Int32) + ((6 : Int32) * x1)) + x2).toNatClampNeg)) dX10_of_13 (m19 _ (Nat.le_of_ble_eq_true rfl)) rfl hc1 rfl ?_
  cases h
  exact z_iret dX10_of_14 rfl rfl (Nat.le_refl _) (Nat.le_refl _) ⟨rfl, rfl⟩
theorem dX10_isTune_0 : decode cX10_isTune 0 = .ok (.iload_n 1, 1) := by decide +kernel
theorem dX10_isTune_1 : decode cX10_isTune 1 = .ok (.iconst 0, 1) := by decide +kernel
theorem dX10_isTune_2 : decode cX10_isTune 2 = .ok (.iconst 2, 1) := by decide +kernel
theorem dX10_isTune_3 : decode cX10_isTune 3 = .ok (.invokestatic 82, 3) := by decide +kernel
theorem dX10_isTune_6 : decode cX10_isTune 6 = .ok (.ireturn, 1) := by decide +kernel
def fX10_isTune (M : Mm) (x1 : Int32) : Int32 := (bz (fX10_in M x1 (0 : Int32) (2 : Int32)))
set_option maxRecDepth 20000 in
set_option maxHeartbeats 2000000 in
theorem tX10_isTune {wv : Nat} (M : Mm) (x1 : Int32) {res : Int32} (h : fX10_isTune M x1 = res) : TF (wv + 1) yX10_isTune cX10_isTune 2 (some .boolean) 1 [.inr (18, 0, 0), .inl (.int x1)] M (some (.int res)) M := by
  rw [fX10_isTune] at h
  refine TF.go (n := 0) (ls := [some (.inr (18, 0, 0)), some (.inl (.int x1))]) rfl rfl rfl rfl rfl ?_
  refine z_iload_n (i := 1) dX10_isTune_0 rfl rfl ?_
  refine z_iconst (v := (0 : Int32)) dX10_isTune_1 kc_0 ?_
  refine z_iconst (v := (2 : Int32)) dX10_isTune_2 kc_2 ?_
  refine z_fSi (sX10_in M x1 (0 : Int32) (2 : Int32)) dX10_isTune_3 ml_X10_82 cd_X10_in rfl rfl rfl rfl rfl ?_
  subst h
  exact z_iret dX10_isTune_6 rfl (bz_ok _) (Nat.le_refl _) (Nat.le_refl _) ⟨rfl, rfl⟩
theorem sX10_isTune {wv : Nat} (M : Mm) (x1 : Int32) : TF (wv + 1) yX10_isTune cX10_isTune 2 (some .boolean) 1 [.inr (18, 0, 0), .inl (.int x1)] M (some (.int (fX10_isTune M x1))) M := tX10_isTune M x1  rfl
theorem dX10_isTooth_0 : decode cX10_isTooth 0 = .ok (.iload_n 1, 1) := by decide +kernel
theorem dX10_isTooth_1 : decode cX10_isTooth 1 = .ok (.iconst 0, 1) := by decide +kernel
theorem dX10_isTooth_2 : decode cX10_isTooth 2 = .ok (.aload_n 0, 1) := by decide +kernel
theorem dX10_isTooth_3 : decode cX10_isTooth 3 = .ok (.getfield 7, 3) := by decide +kernel
theorem dX10_isTooth_6 : decode cX10_isTooth 6 = .ok (.iconst 3, 1) := by decide +kernel
theorem dX10_isTooth_7 : decode cX10_isTooth 7 = .ok (.iaload, 1) := by decide +kernel
theorem dX10_isTooth_8 : decode cX10_isTooth 8 = .ok (.iconst 1, 1) := by decide +kernel
theorem dX10_isTooth_9 : decode cX10_isTooth 9 = .ok (.isub, 1) := by decide +kernel
theorem dX10_isTooth_10 : decode cX10_isTooth 10 = .ok (.invokestatic 82, 3) := by decide +kernel
theorem dX10_isTooth_13 : decode cX10_isTooth 13 = .ok (.ireturn, 1) := by decide +kernel
def fX10_isTooth (M : Mm) (x1 : Int32) : Int32 := (bz (fX10_in M x1 (0 : Int32) ((M.1 (19, 0, 0) 3) - (1 : Int32))))
set_option maxRecDepth 20000 in
set_option maxHeartbeats 2000000 in
theorem tX10_isTooth {wv : Nat} (M : Mm) (x1 : Int32) {res : Int32} (h : fX10_isTooth M x1 = res) : TF (wv + 1) yX10_isTooth cX10_isTooth 2 (some .boolean) 1 [.inr (18, 0, 0), .inl (.int x1)] M (some (.int res)) M := by
  rw [fX10_isTooth] at h
  refine TF.go (n := 0) (ls := [some (.inr (18, 0, 0)), some (.inl (.int x1))]) rfl rfl rfl rfl rfl ?_
  refine z_iload_n (i := 1) dX10_isTooth_0 rfl rfl ?_
  refine z_iconst (v := (0 : Int32)) dX10_isTooth_1 kc_0 ?_
  refine z_aload_n (i := 0) dX10_isTooth_2 rfl rfl ?_
  refine z_getR (r' := (19, 0, 0)) dX10_isTooth_3 fl_X10_7 mk18 rfl rfl ?_
  refine z_iconst (v := (3 : Int32)) dX10_isTooth_6 kc_3 ?_
  refine z_iald (x := (M.1 (19, 0, 0) 3)) dX10_isTooth_7 (m19 _ (Nat.le_of_ble_eq_true rfl)) rfl (by decide) rfl ?_
  refine z_iconst (v := (1 : Int32)) dX10_isTooth_8 kc_1 ?_
  refine z_isub dX10_isTooth_9 ?_
  refine z_fSi (sX10_in M x1 (0 : Int32) ((M.1 (19, 0, 0) 3) - (1 : Int32))) dX10_isTooth_10 ml_X10_82 cd_X10_in rfl rfl rfl rfl rfl ?_
  subst h
  exact z_iret dX10_isTooth_13 rfl (bz_ok _) (Nat.le_refl _) (Nat.le_refl _) ⟨rfl, rfl⟩
theorem sX10_isTooth {wv : Nat} (M : Mm) (x1 : Int32) : TF (wv + 1) yX10_isTooth cX10_isTooth 2 (some .boolean) 1 [.inr (18, 0, 0), .inl (.int x1)] M (some (.int (fX10_isTooth M x1))) M := tX10_isTooth M x1  rfl
theorem dX10_isStep_0 : decode cX10_isStep 0 = .ok (.iload_n 1, 1) := by decide +kernel
theorem dX10_isStep_1 : decode cX10_isStep 1 = .ok (.iconst 0, 1) := by decide +kernel
theorem dX10_isStep_2 : decode cX10_isStep 2 = .ok (.aload_n 0, 1) := by decide +kernel
theorem dX10_isStep_3 : decode cX10_isStep 3 = .ok (.getfield 7, 3) := by decide +kernel
theorem dX10_isStep_6 : decode cX10_isStep 6 = .ok (.iconst 0, 1) := by decide +kernel
theorem dX10_isStep_7 : decode cX10_isStep 7 = .ok (.iaload, 1) := by decide +kernel
theorem dX10_isStep_8 : decode cX10_isStep 8 = .ok (.iconst 1, 1) := by decide +kernel
theorem dX10_isStep_9 : decode cX10_isStep 9 = .ok (.isub, 1) := by decide +kernel
theorem dX10_isStep_10 : decode cX10_isStep 10 = .ok (.invokestatic 82, 3) := by decide +kernel
theorem dX10_isStep_13 : decode cX10_isStep 13 = .ok (.ireturn, 1) := by decide +kernel
def fX10_isStep (M : Mm) (x1 : Int32) : Int32 := (bz (fX10_in M x1 (0 : Int32) ((M.1 (19, 0, 0) 0) - (1 : Int32))))
set_option maxRecDepth 20000 in
set_option maxHeartbeats 2000000 in
theorem tX10_isStep {wv : Nat} (M : Mm) (x1 : Int32) {res : Int32} (h : fX10_isStep M x1 = res) : TF (wv + 1) yX10_isStep cX10_isStep 2 (some .boolean) 1 [.inr (18, 0, 0), .inl (.int x1)] M (some (.int res)) M := by
  rw [fX10_isStep] at h
  refine TF.go (n := 0) (ls := [some (.inr (18, 0, 0)), some (.inl (.int x1))]) rfl rfl rfl rfl rfl ?_
  refine z_iload_n (i := 1) dX10_isStep_0 rfl rfl ?_
  refine z_iconst (v := (0 : Int32)) dX10_isStep_1 kc_0 ?_
  refine z_aload_n (i := 0) dX10_isStep_2 rfl rfl ?_
  refine z_getR (r' := (19, 0, 0)) dX10_isStep_3 fl_X10_7 mk18 rfl rfl ?_
  refine z_iconst (v := (0 : Int32)) dX10_isStep_6 kc_0 ?_
  refine z_iald (x := (M.1 (19, 0, 0) 0)) dX10_isStep_7 (m19 _ (Nat.le_of_ble_eq_true rfl)) rfl (by decide) rfl ?_
  refine z_iconst (v := (1 : Int32)) dX10_isStep_8 kc_1 ?_
  refine z_isub dX10_isStep_9 ?_
  refine z_fSi (sX10_in M x1 (0 : Int32) ((M.1 (19, 0, 0) 0) - (1 : Int32))) dX10_isStep_10 ml_X10_82 cd_X10_in rfl rfl rfl rfl rfl ?_
  subst h
  exact z_iret dX10_isStep_13 rfl (bz_ok _) (Nat.le_refl _) (Nat.le_refl _) ⟨rfl, rfl⟩
theorem sX10_isStep {wv : Nat} (M : Mm) (x1 : Int32) : TF (wv + 1) yX10_isStep cX10_isStep 2 (some .boolean) 1 [.inr (18, 0, 0), .inl (.int x1)] M (some (.int (fX10_isStep M x1))) M := tX10_isStep M x1  rfl
theorem dX10_isBad_0 : decode cX10_isBad 0 = .ok (.aload_n 0, 1) := by decide +kernel
theorem dX10_isBad_1 : decode cX10_isBad 1 = .ok (.iload_n 1, 1) := by decide +kernel
theorem dX10_isBad_2 : decode cX10_isBad 2 = .ok (.iconst 4, 1) := by decide +kernel
theorem dX10_isBad_3 : decode cX10_isBad 3 = .ok (.invokevirtual 90, 3) := by decide +kernel
theorem dX10_isBad_6 : decode cX10_isBad 6 = .ok (.aload_n 0, 1) := by decide +kernel
theorem dX10_isBad_7 : decode cX10_isBad 7 = .ok (.iload_n 1, 1) := by decide +kernel
theorem dX10_isBad_8 : decode cX10_isBad 8 = .ok (.iconst 3, 1) := by decide +kernel
theorem dX10_isBad_9 : decode cX10_isBad 9 = .ok (.invokevirtual 90, 3) := by decide +kernel
theorem dX10_isBad_12 : decode cX10_isBad 12 = .ok (.if_icmp .lt 7, 3) := by decide +kernel
theorem dX10_isBad_15 : decode cX10_isBad 15 = .ok (.iconst 1, 1) := by decide +kernel
theorem dX10_isBad_16 : decode cX10_isBad 16 = .ok (.goto 4, 3) := by decide +kernel
theorem dX10_isBad_19 : decode cX10_isBad 19 = .ok (.iconst 0, 1) := by decide +kernel
theorem dX10_isBad_20 : decode cX10_isBad 20 = .ok (.ireturn, 1) := by decide +kernel
def fX10_isBad (M : Mm) (x1 : Int32) : Option Int32 := (fX10_of M x1 (4 : Int32)).bind fun q1 => (fX10_of M x1 (3 : Int32)).bind fun q3 => if q1 < q3 then some (0 : Int32) else some (1 : Int32)
set_option maxRecDepth 20000 in
set_option maxHeartbeats 2000000 in
theorem sX10_isBad {wv : Nat} (M : Mm) (x1 : Int32) {res : Int32} (h : fX10_isBad M x1 = some res) : TF (wv + 1) yX10_isBad cX10_isBad 2 (some .boolean) 1 [.inr (18, 0, 0), .inl (.int x1)] M (some (.int res)) M := by
  rw [fX10_isBad] at h
  refine TF.go (n := 0) (ls := [some (.inr (18, 0, 0)), some (.inl (.int x1))]) rfl rfl rfl rfl rfl ?_
  refine z_aload_n (i := 0) dX10_isBad_0 rfl rfl ?_
  refine z_iload_n (i := 1) dX10_isBad_1 rfl rfl ?_
  refine z_iconst (v := (4 : Int32)) dX10_isBad_2 kc_4 ?_
  obtain ⟨q1, hq2, h⟩ := bnd h
  refine z_fVi (sX10_of M x1 (4 : Int32) hq2) dX10_isBad_3 ml_X10_90 cd_X10_of mk18 rfl rfl rfl rfl rfl rfl ?_
  refine z_aload_n (i := 0) dX10_isBad_6 rfl rfl ?_
  refine z_iload_n (i := 1) dX10_isBad_7 rfl rfl ?_
  refine z_iconst (v := (3 : Int32)) dX10_isBad_8 kc_3 ?_
  obtain ⟨q3, hq4, h⟩ := bnd h
  refine z_fVi (sX10_of M x1 (3 : Int32) hq4) dX10_isBad_9 ml_X10_90 cd_X10_of mk18 rfl rfl rfl rfl rfl rfl ?_
  refine z_icmp_lt (tgt := 19) dX10_isBad_12 rfl (fun hc5 => ?_) (fun hc5 => ?_)
  · have h := it_t h hc5
    refine z_iconst (v := (0 : Int32)) dX10_isBad_19 kc_0 ?_
    cases h
    exact z_iret dX10_isBad_20 rfl rfl (Nat.le_refl _) (Nat.le_refl _) ⟨rfl, rfl⟩
  · have h := it_f h hc5
    refine z_iconst (v := (1 : Int32)) dX10_isBad_15 kc_1 ?_
    refine z_goto (tgt := 20) dX10_isBad_16 rfl ?_
    cases h
    exact z_iret dX10_isBad_20 rfl rfl (Nat.le_refl _) (Nat.le_refl _) ⟨rfl, rfl⟩
