theorem dX10_isSign_0 : decode cX10_isSign 0 = .ok (.aload_n 0, 1) := by decide +kernel
theorem dX10_isSign_1 : decode cX10_isSign 1 = .ok (.getfield 149, 3) := by decide +kernel
theorem dX10_isSign_4 : decode cX10_isSign 4 = .ok (.ifCond .ne 27, 3) := by decide +kernel
theorem dX10_isSign_7 : decode cX10_isSign 7 = .ok (.aload_n 0, 1) := by decide +kernel
theorem dX10_isSign_8 : decode cX10_isSign 8 = .ok (.getfield 143, 3) := by decide +kernel
theorem dX10_isSign_11 : decode cX10_isSign 11 = .ok (.iconst 3, 1) := by decide +kernel
theorem dX10_isSign_12 : decode cX10_isSign 12 = .ok (.if_icmp .ne 19, 3) := by decide +kernel
theorem dX10_isSign_15 : decode cX10_isSign 15 = .ok (.aload_n 0, 1) := by decide +kernel
theorem dX10_isSign_16 : decode cX10_isSign 16 = .ok (.aload_n 0, 1) := by decide +kernel
theorem dX10_isSign_17 : decode cX10_isSign 17 = .ok (.getfield 140, 3) := by decide +kernel
theorem dX10_isSign_20 : decode cX10_isSign 20 = .ok (.invokevirtual 137, 3) := by decide +kernel
theorem dX10_isSign_23 : decode cX10_isSign 23 = .ok (.iload_n 1, 1) := by decide +kernel
theorem dX10_isSign_24 : decode cX10_isSign 24 = .ok (.if_icmp .ne 7, 3) := by decide +kernel
theorem dX10_isSign_27 : decode cX10_isSign 27 = .ok (.iconst 1, 1) := by decide +kernel
theorem dX10_isSign_28 : decode cX10_isSign 28 = .ok (.goto 4, 3) := by decide +kernel
theorem dX10_isSign_31 : decode cX10_isSign 31 = .ok (.iconst 0, 1) := by decide +kernel
theorem dX10_isSign_32 : decode cX10_isSign 32 = .ok (.ireturn, 1) := by decide +kernel
def fX10_isSign (M : Mm) (x1 : Int32) : Option Int32 := if (M.1 (18, 0, 0) 17) = 0 then (if (M.1 (18, 0, 0) 15) = (3 : Int32) then ((fX10_seen M (M.1 (18, 0, 0) 14)).bind fun q3 => if q3 = x1 then some (1 : Int32) else some (0 : Int32)) else some (0 : Int32)) else some (0 : Int32)
set_option maxRecDepth 20000 in
set_option maxHeartbeats 2000000 in
theorem sX10_isSign {wv : Nat} (M : Mm) (x1 : Int32) {res : Int32} (h : fX10_isSign M x1 = some res) : TF (wv + 1) yX10_isSign cX10_isSign 2 (some .boolean) 1 [.inr (18, 0, 0), .inl (.int x1)] M (some (.int res)) M := by
  rw [fX10_isSign] at h
  refine TF.go (n := 0) (ls := [some (.inr (18, 0, 0)), some (.inl (.int x1))]) rfl rfl rfl rfl rfl ?_
  refine z_aload_n (i := 0) dX10_isSign_0 rfl rfl ?_
  refine z_getI (x := (M.1 (18, 0, 0) 17)) dX10_isSign_1 fl_X10_149 mk18 rfl rfl ?_
  refine z_if_ne (tgt := 31) dX10_isSign_4 rfl (fun hc1 => ?_) (fun hc1 => ?_)
  · have h := it_f h hc1
    refine z_iconst (v := (0 : Int32)) dX10_isSign_31 kc_0 ?_
    cases h
    exact z_iret dX10_isSign_32 rfl rfl (Nat.le_refl _) (Nat.le_refl _) ⟨rfl, rfl⟩
  · have h := it_t h hc1
    refine z_aload_n (i := 0) dX10_isSign_7 rfl rfl ?_
    refine z_getI (x := (M.1 (18, 0, 0) 15)) dX10_isSign_8 fl_X10_143 mk18 rfl rfl ?_
    refine z_iconst (v := (3 : Int32)) dX10_isSign_11 kc_3 ?_
    refine z_icmp_ne (tgt := 31) dX10_isSign_12 rfl (fun hc2 => ?_) (fun hc2 => ?_)
    · have h := it_f h hc2
      refine z_iconst (v := (0 : Int32)) dX10_isSign_31 kc_0 ?_
      cases h
      exact z_iret dX10_isSign_32 rfl rfl (Nat.le_refl _) (Nat.le_refl _) ⟨rfl, rfl⟩
    · have h := it_t h hc2
      refine z_aload_n (i := 0) dX10_isSign_15 rfl rfl ?_
      refine z_aload_n (i := 0) dX10_isSign_16 rfl rfl ?_
      refine z_getI (x := (M.1 (18, 0, 0) 14)) dX10_isSign_17 fl_X10_140 mk18 rfl rfl ?_
      obtain ⟨q3, hq4, h⟩ := bnd h
      refine z_fVi (sX10_seen M (M.1 (18, 0, 0) 14) hq4) dX10_isSign_20 ml_X10_137 cd_X10_seen mk18 rfl rfl rfl rfl rfl rfl ?_
      refine z_iload_n (i := 1) dX10_isSign_23 rfl rfl ?_
      refine z_icmp_ne (tgt := 31) dX10_isSign_24 rfl (fun hc5 => ?_) (fun hc5 => ?_)
      · have h := it_f h hc5
        refine z_iconst (v := (0 : Int32)) dX10_isSign_31 kc_0 ?_
        cases h
        exact z_iret dX10_isSign_32 rfl rfl (Nat.le_refl _) (Nat.le_refl _) ⟨rfl, rfl⟩
      · have h := it_t h hc5
        refine z_iconst (v := (1 : Int32)) dX10_isSign_27 kc_1 ?_
        refine z_goto (tgt := 32) dX10_isSign_28 rfl ?_
        cases h
        exact z_iret dX10_isSign_32 rfl rfl (Nat.le_refl _) (Nat.le_refl _) ⟨rfl, rfl⟩
theorem dX10_takesSign_0 : decode cX10_takesSign 0 = .ok (.aload_n 0, 1) := by decide +kernel
theorem dX10_takesSign_1 : decode cX10_takesSign 1 = .ok (.aload_n 0, 1) := by decide +kernel
theorem dX10_takesSign_2 : decode cX10_takesSign 2 = .ok (.iload_n 1, 1) := by decide +kernel
theorem dX10_takesSign_3 : decode cX10_takesSign 3 = .ok (.invokevirtual 158, 3) := by decide +kernel
theorem dX10_takesSign_6 : decode cX10_takesSign 6 = .ok (.iconst 1, 1) := by decide +kernel
theorem dX10_takesSign_7 : decode cX10_takesSign 7 = .ok (.invokevirtual 161, 3) := by decide +kernel
theorem dX10_takesSign_10 : decode cX10_takesSign 10 = .ok (.pop, 1) := by decide +kernel
theorem dX10_takesSign_11 : decode cX10_takesSign 11 = .ok (.aload_n 0, 1) := by decide +kernel
theorem dX10_takesSign_12 : decode cX10_takesSign 12 = .ok (.invokevirtual 164, 3) := by decide +kernel
theorem dX10_takesSign_15 : decode cX10_takesSign 15 = .ok (.return_, 1) := by decide +kernel
def fX10_takesSign (M : Mm) (x1 : Int32) : Option Mm := (fX10_isSign M x1).bind fun q1 => (fX10_must M q1 (1 : Int32)).bind fun q3 => (fX10_goesOn q3.2).bind fun q5 => some q5
set_option maxRecDepth 20000 in
set_option maxHeartbeats 2000000 in
theorem sX10_takesSign {wv : Nat} (M : Mm) (x1 : Int32) {res : Mm} (h : fX10_takesSign M x1 = some res) : TF (wv + 1) yX10_takesSign cX10_takesSign 2 none 3 [.inr (18, 0, 0), .inl (.int x1)] M (none) res := by
  rw [fX10_takesSign] at h
  refine TF.go (n := 0) (ls := [some (.inr (18, 0, 0)), some (.inl (.int x1))]) rfl rfl rfl rfl rfl ?_
  refine z_aload_n (i := 0) dX10_takesSign_0 rfl rfl ?_
  refine z_aload_n (i := 0) dX10_takesSign_1 rfl rfl ?_
  refine z_iload_n (i := 1) dX10_takesSign_2 rfl rfl ?_
  obtain ⟨q1, hq2, h⟩ := bnd h
  refine z_fVi (sX10_isSign M x1 hq2) dX10_takesSign_3 ml_X10_158 cd_X10_isSign mk18 rfl rfl rfl rfl rfl rfl ?_
  refine z_iconst (v := (1 : Int32)) dX10_takesSign_6 kc_1 ?_
  obtain ⟨q3, hq4, h⟩ := bnd h
  refine z_fVi (sX10_must M q1 (1 : Int32) hq4) dX10_takesSign_7 ml_X10_161 cd_X10_must mk18 rfl rfl rfl rfl rfl rfl ?_
  refine z_pop dX10_takesSign_10 rfl ?_
  refine z_aload_n (i := 0) dX10_takesSign_11 rfl rfl ?_
  obtain ⟨q5, hq6, h⟩ := bnd h
  refine z_fVv (sX10_goesOn q3.2 hq6) dX10_takesSign_12 ml_X10_164 cd_X10_goesOn mk18 rfl rfl rfl rfl rfl rfl ?_
  cases h
  exact z_vret dX10_takesSign_15 rfl (Nat.le_refl _) (Nat.le_refl _) ⟨rfl, rfl⟩
theorem dX10_puts_0 : decode cX10_puts 0 = .ok (.aload_n 0, 1) := by decide +kernel
theorem dX10_puts_1 : decode cX10_puts 1 = .ok (.getfield 7, 3) := by decide +kernel
theorem dX10_puts_4 : decode cX10_puts 4 = .ok (.bipush 16, 2) := by decide +kernel
theorem dX10_puts_6 : decode cX10_puts 6 = .ok (.bipush 6, 2) := by decide +kernel
theorem dX10_puts_8 : decode cX10_puts 8 = .ok (.iload_n 1, 1) := by decide +kernel
theorem dX10_puts_9 : decode cX10_puts 9 = .ok (.imul, 1) := by decide +kernel
theorem dX10_puts_10 : decode cX10_puts 10 = .ok (.iadd, 1) := by decide +kernel
theorem dX10_puts_11 : decode cX10_puts 11 = .ok (.iload_n 2, 1) := by decide +kernel
theorem dX10_puts_12 : decode cX10_puts 12 = .ok (.iadd, 1) := by decide +kernel
theorem dX10_puts_13 : decode cX10_puts 13 = .ok (.iload_n 3, 1) := by decide +kernel
theorem dX10_puts_14 : decode cX10_puts 14 = .ok (.iastore, 1) := by decide +kernel
theorem dX10_puts_15 : decode cX10_puts 15 = .ok (.return_, 1) := by decide +kernel
def fX10_puts (M : Mm) (x1 : Int32) (x2 : Int32) (x3 : Int32) : Option Mm := if (((16 : Int32) + ((6 : Int32) * x1)) + x2) < 0 ∨ 280 ≤ (((16 : Int32) + ((6 : Int32) * x1)) + x2).toNatClampNeg then none else some (putI M (19, 0, 0) (((16 : Int32) + ((6 : Int32) * x1)) + x2).toNatClampNeg x3)
set_option maxRecDepth 20000 in
set_option maxHeartbeats 2000000 in
theorem sX10_puts {wv : Nat} (M : Mm) (x1 : Int32) (x2 : Int32) (x3 : Int32) {res : Mm} (h : fX10_puts M x1 x2 x3 = some res) : TF (wv + 1) yX10_puts cX10_puts 4 none 0 [.inr (18, 0, 0), .inl (.int x1), .inl (.int x2), .inl (.int x3)] M (none) res := by
  rw [fX10_puts] at h
  refine TF.go (n := 0) (ls := [some (.inr (18, 0, 0)), some (.inl (.int x1)), some (.inl (.int x2)), some (.inl (.int x3))]) rfl rfl rfl rfl rfl ?_
  refine z_aload_n (i := 0) dX10_puts_0 rfl rfl ?_
  refine z_getR (r' := (19, 0, 0)) dX10_puts_1 fl_X10_7 mk18 rfl rfl ?_
  refine z_bipush (v := (16 : Int32)) dX10_puts_4 kb_16 ?_
  refine z_bipush (v := (6 : Int32)) dX10_puts_6 kb_6 ?_
  refine z_iload_n (i := 1) dX10_puts_8 rfl rfl ?_
  refine z_imul dX10_puts_9 ?_
  refine z_iadd dX10_puts_10 ?_
  refine z_iload_n (i := 2) dX10_puts_11 rfl rfl ?_
  refine z_iadd dX10_puts_12 ?_
  refine z_iload_n (i := 3) dX10_puts_13 rfl rfl ?_
  obtain ⟨hc1, h⟩ := chk h
  refine z_iast (j := (((16 : Int32) + ((6 : Int32) * x1)) + x2).toNatClampNeg) allR_nd dX10_puts_14 (m19 _ (Nat.le_of_ble_eq_true rfl)) rfl hc1 rfl ?_
  cases h
  exact z_vret dX10_puts_15 rfl (Nat.le_refl _) (Nat.le_refl _) ⟨rfl, rfl⟩
theorem dX10_readsTooth_0 : decode cX10_readsTooth 0 = .ok (.aload_n 0, 1) := by decide +kernel
theorem dX10_readsTooth_1 : decode cX10_readsTooth 1 = .ok (.aload_n 0, 1) := by decide +kernel
theorem dX10_readsTooth_2 : decode cX10_readsTooth 2 = .ok (.ldc 171, 2) := by decide +kernel
theorem dX10_readsTooth_4 : decode cX10_readsTooth 4 = .ok (.invokevirtual 173, 3) := by decide +kernel
theorem dX10_readsTooth_7 : decode cX10_readsTooth 7 = .ok (.iconst 1, 1) := by decide +kernel
theorem dX10_readsTooth_8 : decode cX10_readsTooth 8 = .ok (.invokevirtual 161, 3) := by decide +kernel
theorem dX10_readsTooth_11 : decode cX10_readsTooth 11 = .ok (.pop, 1) := by decide +kernel
theorem dX10_readsTooth_12 : decode cX10_readsTooth 12 = .ok (.aload_n 0, 1) := by decide +kernel
theorem dX10_readsTooth_13 : decode cX10_readsTooth 13 = .ok (.aload_n 0, 1) := by decide +kernel
theorem dX10_readsTooth_14 : decode cX10_readsTooth 14 = .ok (.getfield 7, 3) := by decide +kernel
theorem dX10_readsTooth_17 : decode cX10_readsTooth 17 = .ok (.iconst 3, 1) := by decide +kernel
theorem dX10_readsTooth_18 : decode cX10_readsTooth 18 = .ok (.iaload, 1) := by decide +kernel
theorem dX10_readsTooth_19 : decode cX10_readsTooth 19 = .ok (.bipush 12, 2) := by decide +kernel
theorem dX10_readsTooth_21 : decode cX10_readsTooth 21 = .ok (.if_icmp .ge 7, 3) := by decide +kernel
theorem dX10_readsTooth_24 : decode cX10_readsTooth 24 = .ok (.iconst 1, 1) := by decide +kernel
theorem dX10_readsTooth_25 : decode cX10_readsTooth 25 = .ok (.goto 4, 3) := by decide +kernel
theorem dX10_readsTooth_28 : decode cX10_readsTooth 28 = .ok (.iconst 0, 1) := by decide +kernel
theorem dX10_readsTooth_29 : decode cX10_readsTooth 29 = .ok (.iconst 4, 1) := by decide +kernel
theorem dX10_readsTooth_30 : decode cX10_readsTooth 30 = .ok (.invokevirtual 161, 3) := by decide +kernel
theorem dX10_readsTooth_33 : decode cX10_readsTooth 33 = .ok (.pop, 1) := by decide +kernel
theorem dX10_readsTooth_34 : decode cX10_readsTooth 34 = .ok (.aload_n 0, 1) := by decide +kernel
theorem dX10_readsTooth_35 : decode cX10_readsTooth 35 = .ok (.invokevirtual 164, 3) := by decide +kernel
theorem dX10_readsTooth_38 : decode cX10_readsTooth 38 = .ok (.aload_n 0, 1) := by decide +kernel
theorem dX10_readsTooth_39 : decode cX10_readsTooth 39 = .ok (.iconst 0, 1) := by decide +kernel
theorem dX10_readsTooth_40 : decode cX10_readsTooth 40 = .ok (.bipush 60, 2) := by decide +kernel
theorem dX10_readsTooth_42 : decode cX10_readsTooth 42 = .ok (.invokevirtual 177, 3) := by decide +kernel
theorem dX10_readsTooth_45 : decode cX10_readsTooth 45 = .ok (.istore_n 1, 1) := by decide +kernel
theorem dX10_readsTooth_46 : decode cX10_readsTooth 46 = .ok (.aload_n 0, 1) := by decide +kernel
theorem dX10_readsTooth_47 : decode cX10_readsTooth 47 = .ok (.iconst 1, 1) := by decide +kernel
theorem dX10_readsTooth_48 : decode cX10_readsTooth 48 = .ok (.bipush 9, 2) := by decide +kernel
theorem dX10_readsTooth_50 : decode cX10_readsTooth 50 = .ok (.invokevirtual 177, 3) := by decide +kernel
theorem dX10_readsTooth_53 : decode cX10_readsTooth 53 = .ok (.istore_n 2, 1) := by decide +kernel
theorem dX10_readsTooth_54 : decode cX10_readsTooth 54 = .ok (.aload_n 0, 1) := by decide +kernel
theorem dX10_readsTooth_55 : decode cX10_readsTooth 55 = .ok (.bipush 10, 2) := by decide +kernel
theorem dX10_readsTooth_57 : decode cX10_readsTooth 57 = .ok (.sipush 999, 3) := by decide +kernel
theorem dX10_readsTooth_60 : decode cX10_readsTooth 60 = .ok (.invokevirtual 177, 3) := by decide +kernel
theorem dX10_readsTooth_63 : decode cX10_readsTooth 63 = .ok (.istore_n 3, 1) := by decide +kernel
theorem dX10_readsTooth_64 : decode cX10_readsTooth 64 = .ok (.aload_n 0, 1) := by decide +kernel
theorem dX10_readsTooth_65 : decode cX10_readsTooth 65 = .ok (.bipush 59, 2) := by decide +kernel
theorem dX10_readsTooth_67 : decode cX10_readsTooth 67 = .ok (.invokevirtual 180, 3) := by decide +kernel
theorem dX10_readsTooth_70 : decode cX10_readsTooth 70 = .ok (.aload_n 0, 1) := by decide +kernel
theorem dX10_readsTooth_71 : decode cX10_readsTooth 71 = .ok (.getfield 149, 3) := by decide +kernel
theorem dX10_readsTooth_74 : decode cX10_readsTooth 74 = .ok (.ifCond .eq 4, 3) := by decide +kernel
theorem dX10_readsTooth_77 : decode cX10_readsTooth 77 = .ok (.return_, 1) := by decide +kernel
theorem dX10_readsTooth_78 : decode cX10_readsTooth 78 = .ok (.aload_n 0, 1) := by decide +kernel
theorem dX10_readsTooth_79 : decode cX10_readsTooth 79 = .ok (.getfield 7, 3) := by decide +kernel
theorem dX10_readsTooth_82 : decode cX10_readsTooth 82 = .ok (.iconst 3, 1) := by decide +kernel
theorem dX10_readsTooth_83 : decode cX10_readsTooth 83 = .ok (.iaload, 1) := by decide +kernel
theorem dX10_readsTooth_84 : decode cX10_readsTooth 84 = .ok (.istore 4, 2) := by decide +kernel
theorem dX10_readsTooth_86 : decode cX10_readsTooth 86 = .ok (.aload_n 0, 1) := by decide +kernel
theorem dX10_readsTooth_87 : decode cX10_readsTooth 87 = .ok (.iload 4, 2) := by decide +kernel
theorem dX10_readsTooth_89 : decode cX10_readsTooth 89 = .ok (.iconst 0, 1) := by decide +kernel
theorem dX10_readsTooth_90 : decode cX10_readsTooth 90 = .ok (.iload_n 1, 1) := by decide +kernel
theorem dX10_readsTooth_91 : decode cX10_readsTooth 91 = .ok (.invokevirtual 108, 3) := by decide +kernel
theorem dX10_readsTooth_94 : decode cX10_readsTooth 94 = .ok (.aload_n 0, 1) := by decide +kernel
theorem dX10_readsTooth_95 : decode cX10_readsTooth 95 = .ok (.iload 4, 2) := by decide +kernel
theorem dX10_readsTooth_97 : decode cX10_readsTooth 97 = .ok (.iconst 2, 1) := by decide +kernel
theorem dX10_readsTooth_98 : decode cX10_readsTooth 98 = .ok (.iload_n 2, 1) := by decide +kernel
theorem dX10_readsTooth_99 : decode cX10_readsTooth 99 = .ok (.invokevirtual 108, 3) := by decide +kernel
theorem dX10_readsTooth_102 : decode cX10_readsTooth 102 = .ok (.aload_n 0, 1) := by decide +kernel
theorem dX10_readsTooth_103 : decode cX10_readsTooth 103 = .ok (.iload 4, 2) := by decide +kernel
theorem dX10_readsTooth_105 : decode cX10_readsTooth 105 = .ok (.iconst 3, 1) := by decide +kernel
theorem dX10_readsTooth_106 : decode cX10_readsTooth 106 = .ok (.iload_n 3, 1) := by decide +kernel
theorem dX10_readsTooth_107 : decode cX10_readsTooth 107 = .ok (.invokevirtual 108, 3) := by decide +kernel
theorem dX10_readsTooth_110 : decode cX10_readsTooth 110 = .ok (.aload_n 0, 1) := by decide +kernel
theorem dX10_readsTooth_111 : decode cX10_readsTooth 111 = .ok (.iload 4, 2) := by decide +kernel
theorem dX10_readsTooth_113 : decode cX10_readsTooth 113 = .ok (.iconst 5, 1) := by decide +kernel
theorem dX10_readsTooth_114 : decode cX10_readsTooth 114 = .ok (.bipush 99, 2) := by decide +kernel
theorem dX10_readsTooth_116 : decode cX10_readsTooth 116 = .ok (.invokevirtual 108, 3) := by decide +kernel
theorem dX10_readsTooth_119 : decode cX10_readsTooth 119 = .ok (.aload_n 0, 1) := by decide +kernel
theorem dX10_readsTooth_120 : decode cX10_readsTooth 120 = .ok (.getfield 7, 3) := by decide +kernel
theorem dX10_readsTooth_123 : decode cX10_readsTooth 123 = .ok (.iconst 3, 1) := by decide +kernel
theorem dX10_readsTooth_124 : decode cX10_readsTooth 124 = .ok (.dup2, 1) := by decide +kernel
theorem dX10_readsTooth_125 : decode cX10_readsTooth 125 = .ok (.iaload, 1) := by decide +kernel
theorem dX10_readsTooth_126 : decode cX10_readsTooth 126 = .ok (.iconst 1, 1) := by decide +kernel
theorem dX10_readsTooth_127 : decode cX10_readsTooth 127 = .ok (.iadd, 1) := by decide +kernel
theorem dX10_readsTooth_128 : decode cX10_readsTooth 128 = .ok (.iastore, 1) := by decide +kernel
theorem dX10_readsTooth_129 : decode cX10_readsTooth 129 = .ok (.return_, 1) := by decide +kernel
def fX10_readsTooth (M : Mm) : Option Mm := (fX10_isWord M 2).bind fun q1 => (fX10_must M q1 (1 : Int32)).bind fun q3 => if (12 : Int32) ≤ (q3.2.1 (19, 0, 0) 3) then ((fX10_must q3.2 (0 : Int32) (4 : Int32)).bind fun q6 => (fX10_goesOn q6.2).bind fun q8 => (fX10_number q8 (0 : Int32) (60 : Int32)).bind fun q10 => (fX10_number q10.2 (1 : Int32) (9 : Int32)).bind fun q12 => (fX10_number q12.2 (10 : Int32) (999 : Int32)).bind fun q14 => (fX10_takesSign q14.2 (59 : Int32)).bind fun q16 => if (q16.1 (18, 0, 0) 17) = 0 then ((fX10_puts q16 (q16.1 (19, 0, 0) 3) (0 : Int32) q10.1).bind fun q19 => (fX10_puts q19 (q16.1 (19, 0, 0) 3) (2 : Int32) q12.1).bind fun q21 => (fX10_puts q21 (q16.1 (19, 0, 0) 3) (3 : Int32) q14.1).bind fun q23 => (fX10_puts q23 (q16.1 (19, 0, 0) 3) (5 : Int32) (99 : Int32)).bind fun q25 => some (putI q25 (19, 0, 0) 3 ((q25.1 (19, 0, 0) 3) + (1 : Int32)))) else some q16) else (fX10_must q3.2 (1 : Int32) (4 : Int32)).bind fun q27 => (fX10_goesOn q27.2).bind fun q29 => (fX10_number q29 (0 : Int32) (60 : Int32)).bind fun q31 => (fX10_number q31.2 (1 : Int32) (9 : Int32)).bind fun q33 => (fX10_number q33.2 (10 : Int32) (999 : Int32)).bind fun q35 => (fX10_takesSign q35.2 (59 : Int32)).bind fun q37 => if (q37.1 (18, 0, 0) 17) = 0 then ((fX10_puts q37 (q37.1 (19, 0, 0) 3) (0 : Int32) q31.1).bind fun q40 => (fX10_puts q40 (q37.1 (19, 0, 0) 3) (2 : Int32) q33.1).bind fun q42 => (fX10_puts q42 (q37.1 (19, 0, 0) 3) (3 : Int32) q35.1).bind fun q44 => (fX10_puts q44 (q37.1 (19, 0, 0) 3) (5 : Int32) (99 : Int32)).bind fun q46 => some (putI q46 (19, 0, 0) 3 ((q46.1 (19, 0, 0) 3) + (1 : Int32)))) else some q37
set_option maxRecDepth 20000 in
set_option maxHeartbeats 2000000 in
theorem sX10_readsTooth {wv : Nat} (M : Mm) {res : Mm} (h : fX10_readsTooth M  = some res) : TF (wv + 1) yX10_readsTooth cX10_readsTooth 5 none 8 [.inr (18, 0, 0)] M (none) res := by
  rw [fX10_readsTooth] at h
  refine TF.go (n := 4) (ls := [some (.inr (18, 0, 0)), none, none, none, none]) rfl rfl rfl rfl rfl ?_
  refine z_aload_n (i := 0) dX10_readsTooth_0 rfl rfl ?_
  refine z_aload_n (i := 0) dX10_readsTooth_1 rfl rfl ?_
  refine z_ldcS (j := 2) dX10_readsTooth_2 sw_RX10_171 ?_
  obtain ⟨q1, hq2, h⟩ := bnd h
  refine z_fVi (sX10_isWord M 2 (Nat.le_of_ble_eq_true rfl) hq2) dX10_readsTooth_4 ml_X10_173 cd_X10_isWord mk18 rfl rfl rfl rfl rfl rfl ?_
  refine z_iconst (v := (1 : Int32)) dX10_readsTooth_7 kc_1 ?_
  obtain ⟨q3, hq4, h⟩ := bnd h
  refine z_fVi (sX10_must M q1 (1 : Int32) hq4) dX10_readsTooth_8 ml_X10_161 cd_X10_must mk18 rfl rfl rfl rfl rfl rfl ?_
  refine z_pop dX10_readsTooth_11 rfl ?_
  refine z_aload_n (i := 0) dX10_readsTooth_12 rfl rfl ?_
  refine z_aload_n (i := 0) dX10_readsTooth_13 rfl rfl ?_
  refine z_getR (r' := (19, 0, 0)) dX10_readsTooth_14 fl_X10_7 mk18 rfl rfl ?_
  refine z_iconst (v := (3 : Int32)) dX10_readsTooth_17 kc_3 ?_
  refine z_iald (x := (q3.2.1 (19, 0, 0) 3)) dX10_readsTooth_18 (m19 _ (Nat.le_of_ble_eq_true rfl)) rfl (by decide) rfl ?_
  refine z_bipush (v := (12 : Int32)) dX10_readsTooth_19 kb_12 ?_
  refine z_icmp_ge (tgt := 28) dX10_readsTooth_21 rfl (fun hc5 => ?_) (fun hc5 => ?_)
  · have h := it_t h hc5
    refine z_iconst (v := (0 : Int32)) dX10_readsTooth_28 kc_0 ?_
    refine z_iconst (v := (4 : Int32)) dX10_readsTooth_29 kc_4 ?_
    obtain ⟨q6, hq7, h⟩ := bnd h
    refine z_fVi (sX10_must q3.2 (0 : Int32) (4 : Int32) hq7) dX10_readsTooth_30 ml_X10_161 cd_X10_must mk18 rfl rfl rfl rfl rfl rfl ?_
    refine z_pop dX10_readsTooth_33 rfl ?_
    refine z_aload_n (i := 0) dX10_readsTooth_34 rfl rfl ?_
    obtain ⟨q8, hq9, h⟩ := bnd h
    refine z_fVv (sX10_goesOn q6.2 hq9) dX10_readsTooth_35 ml_X10_164 cd_X10_goesOn mk18 rfl rfl rfl rfl rfl rfl ?_
    refine z_aload_n (i := 0) dX10_readsTooth_38 rfl rfl ?_
    refine z_iconst (v := (0 : Int32)) dX10_readsTooth_39 kc_0 ?_
    refine z_bipush (v := (60 : Int32)) dX10_readsTooth_40 kb_60 ?_
    obtain ⟨q10, hq11, h⟩ := bnd h
    refine z_fVi (sX10_number q8 (0 : Int32) (60 : Int32) hq11) dX10_readsTooth_42 ml_X10_177 cd_X10_number mk18 rfl rfl rfl rfl rfl rfl ?_
    refine z_istore_n (i := 1) dX10_readsTooth_45 rfl (Nat.le_of_ble_eq_true rfl) rfl ?_
    refine z_aload_n (i := 0) dX10_readsTooth_46 rfl rfl ?_
    refine z_iconst (v := (1 : Int32)) dX10_readsTooth_47 kc_1 ?_
    refine z_bipush (v := (9 : Int32)) dX10_readsTooth_48 kb_9 ?_
    obtain ⟨q12, hq13, h⟩ := bnd h
    refine z_fVi (sX10_number q10.2 (1 : Int32) (9 : Int32) hq13) dX10_readsTooth_50 ml_X10_177 cd_X10_number mk18 rfl rfl rfl rfl rfl rfl ?_
    refine z_istore_n (i := 2) dX10_readsTooth_53 rfl (Nat.le_of_ble_eq_true rfl) rfl ?_
    refine z_aload_n (i := 0) dX10_readsTooth_54 rfl rfl ?_
    refine z_bipush (v := (10 : Int32)) dX10_readsTooth_55 kb_10 ?_
    refine z_sipush (v := (999 : Int32)) dX10_readsTooth_57 ks_999 ?_
    obtain ⟨q14, hq15, h⟩ := bnd h
    refine z_fVi (sX10_number q12.2 (10 : Int32) (999 : Int32) hq15) dX10_readsTooth_60 ml_X10_177 cd_X10_number mk18 rfl rfl rfl rfl rfl rfl ?_
    refine z_istore_n (i := 3) dX10_readsTooth_63 rfl (Nat.le_of_ble_eq_true rfl) rfl ?_
    refine z_aload_n (i := 0) dX10_readsTooth_64 rfl rfl ?_
    refine z_bipush (v := (59 : Int32)) dX10_readsTooth_65 kb_59 ?_
    obtain ⟨q16, hq17, h⟩ := bnd h
    refine z_fVv (sX10_takesSign q14.2 (59 : Int32) hq17) dX10_readsTooth_67 ml_X10_180 cd_X10_takesSign mk18 rfl rfl rfl rfl rfl rfl ?_
    refine z_aload_n (i := 0) dX10_readsTooth_70 rfl rfl ?_
    refine z_getI (x := (q16.1 (18, 0, 0) 17)) dX10_readsTooth_71 fl_X10_149 mk18 rfl rfl ?_
    refine z_if_eq (tgt := 78) dX10_readsTooth_74 rfl (fun hc18 => ?_) (fun hc18 => ?_)
    · have h := it_t h hc18
      refine z_aload_n (i := 0) dX10_readsTooth_78 rfl rfl ?_
      refine z_getR (r' := (19, 0, 0)) dX10_readsTooth_79 fl_X10_7 mk18 rfl rfl ?_
      refine z_iconst (v := (3 : Int32)) dX10_readsTooth_82 kc_3 ?_
      refine z_iald (x := (q16.1 (19, 0, 0) 3)) dX10_readsTooth_83 (m19 _ (Nat.le_of_ble_eq_true rfl)) rfl (by decide) rfl ?_
      refine z_istore (i := 4) dX10_readsTooth_84 (Nat.le_of_ble_eq_true rfl) rfl ?_
      refine z_aload_n (i := 0) dX10_readsTooth_86 rfl rfl ?_
      refine z_iload (i := 4) dX10_readsTooth_87 rfl ?_
      refine z_iconst (v := (0 : Int32)) dX10_readsTooth_89 kc_0 ?_
      refine z_iload_n (i := 1) dX10_readsTooth_90 rfl rfl ?_
      obtain ⟨q19, hq20, h⟩ := bnd h
      refine z_fVv (sX10_puts q16 (q16.1 (19, 0, 0) 3) (0 : Int32) q10.1 hq20) dX10_readsTooth_91 ml_X10_108 cd_X10_puts mk18 rfl rfl rfl rfl rfl rfl ?_
      refine z_aload_n (i := 0) dX10_readsTooth_94 rfl rfl ?_
      refine z_iload (i := 4) dX10_readsTooth_95 rfl ?_
      refine z_iconst (v := (2 : Int32)) dX10_readsTooth_97 kc_2 ?_
      refine z_iload_n (i := 2) dX10_readsTooth_98 rfl rfl ?_
      obtain ⟨q21, hq22, h⟩ := bnd h
      refine z_fVv (sX10_puts q19 (q16.1 (19, 0, 0) 3) (2 : Int32) q12.1 hq22) dX10_readsTooth_99 ml_X10_108 cd_X10_puts mk18 rfl rfl rfl rfl rfl rfl ?_
      refine z_aload_n (i := 0) dX10_readsTooth_102 rfl rfl ?_
      refine z_iload (i := 4) dX10_readsTooth_103 rfl ?_
      refine z_iconst (v := (3 : Int32)) dX10_readsTooth_105 kc_3 ?_
      refine z_iload_n (i := 3) dX10_readsTooth_106 rfl rfl ?_
      obtain ⟨q23, hq24, h⟩ := bnd h
      refine z_fVv (sX10_puts q21 (q16.1 (19, 0, 0) 3) (3 : Int32) q14.1 hq24) dX10_readsTooth_107 ml_X10_108 cd_X10_puts mk18 rfl rfl rfl rfl rfl rfl ?_
      refine z_aload_n (i := 0) dX10_readsTooth_110 rfl rfl ?_
      refine z_iload (i := 4) dX10_readsTooth_111 rfl ?_
      refine z_iconst (v := (5 : Int32)) dX10_readsTooth_113 kc_5 ?_
      refine z_bipush (v := (99 : Int32)) dX10_readsTooth_114 kb_99 ?_
      obtain ⟨q25, hq26, h⟩ := bnd h
      refine z_fVv (sX10_puts q23 (q16.1 (19, 0, 0) 3) (5 : Int32) (99 : Int32) hq26) dX10_readsTooth_116 ml_X10_108 cd_X10_puts mk18 rfl rfl rfl rfl rfl rfl ?_
      refine z_aload_n (i := 0) dX10_readsTooth_119 rfl rfl ?_
      refine z_getR (r' := (19, 0, 0)) dX10_readsTooth_120 fl_X10_7 mk18 rfl rfl ?_
      refine z_iconst (v := (3 : Int32)) dX10_readsTooth_123 kc_3 ?_
      refine z_dup2 dX10_readsTooth_124 rfl rfl ?_
      refine z_iald (x := (q25.1 (19, 0, 0) 3)) dX10_readsTooth_125 (m19 _ (Nat.le_of_ble_eq_true rfl)) rfl (by decide) rfl ?_
      refine z_iconst (v := (1 : Int32)) dX10_readsTooth_126 kc_1 ?_
      refine z_iadd dX10_readsTooth_127 ?_
      refine z_iast (j := 3) allR_nd dX10_readsTooth_128 (m19 _ (Nat.le_of_ble_eq_true rfl)) rfl (by decide) rfl ?_
      cases h
      exact z_vret dX10_readsTooth_129 rfl (Nat.le_refl _) (Nat.le_refl _) ⟨rfl, rfl⟩
    · have h := it_f h hc18
      cases h
      exact z_vret dX10_readsTooth_77 rfl (Nat.le_refl _) (Nat.le_refl _) ⟨rfl, rfl⟩
  · have h := it_f h hc5
    refine z_iconst (v := (1 : Int32)) dX10_readsTooth_24 kc_1 ?_
    refine z_goto (tgt := 29) dX10_readsTooth_25 rfl ?_
    refine z_iconst (v := (4 : Int32)) dX10_readsTooth_29 kc_4 ?_
    obtain ⟨q27, hq28, h⟩ := bnd h
    refine z_fVi (sX10_must q3.2 (1 : Int32) (4 : Int32) hq28) dX10_readsTooth_30 ml_X10_161 cd_X10_must mk18 rfl rfl rfl rfl rfl rfl ?_
    refine z_pop dX10_readsTooth_33 rfl ?_
    refine z_aload_n (i := 0) dX10_readsTooth_34 rfl rfl ?_
    obtain ⟨q29, hq30, h⟩ := bnd h
    refine z_fVv (sX10_goesOn q27.2 hq30) dX10_readsTooth_35 ml_X10_164 cd_X10_goesOn mk18 rfl rfl rfl rfl rfl rfl ?_
    refine z_aload_n (i := 0) dX10_readsTooth_38 rfl rfl ?_
    refine z_iconst (v := (0 : Int32)) dX10_readsTooth_39 kc_0 ?_
    refine z_bipush (v := (60 : Int32)) dX10_readsTooth_40 kb_60 ?_
    obtain ⟨q31, hq32, h⟩ := bnd h
    refine z_fVi (sX10_number q29 (0 : Int32) (60 : Int32) hq32) dX10_readsTooth_42 ml_X10_177 cd_X10_number mk18 rfl rfl rfl rfl rfl rfl ?_
    refine z_istore_n (i := 1) dX10_readsTooth_45 rfl (Nat.le_of_ble_eq_true rfl) rfl ?_
    refine z_aload_n (i := 0) dX10_readsTooth_46 rfl rfl ?_
    refine z_iconst (v := (1 : Int32)) dX10_readsTooth_47 kc_1 ?_
    refine z_bipush (v := (9 : Int32)) dX10_readsTooth_48 kb_9 ?_
    obtain ⟨q33, hq34, h⟩ := bnd h
    refine z_fVi (sX10_number q31.2 (1 : Int32) (9 : Int32) hq34) dX10_readsTooth_50 ml_X10_177 cd_X10_number mk18 rfl rfl rfl rfl rfl rfl ?_
    refine z_istore_n (i := 2) dX10_readsTooth_53 rfl (Nat.le_of_ble_eq_true rfl) rfl ?_
    refine z_aload_n (i := 0) dX10_readsTooth_54 rfl rfl ?_
    refine z_bipush (v := (10 : Int32)) dX10_readsTooth_55 kb_10 ?_
    refine z_sipush (v := (999 : Int32)) dX10_readsTooth_57 ks_999 ?_
    obtain ⟨q35, hq36, h⟩ := bnd h
    refine z_fVi (sX10_number q33.2 (10 : Int32) (999 : Int32) hq36) dX10_readsTooth_60 ml_X10_177 cd_X10_number mk18 rfl rfl rfl rfl rfl rfl ?_
    refine z_istore_n (i := 3) dX10_readsTooth_63 rfl (Nat.le_of_ble_eq_true rfl) rfl ?_
    refine z_aload_n (i := 0) dX10_readsTooth_64 rfl rfl ?_
    refine z_bipush (v := (59 : Int32)) dX10_readsTooth_65 kb_59 ?_
    obtain ⟨q37, hq38, h⟩ := bnd h
    refine z_fVv (sX10_takesSign q35.2 (59 : Int32) hq38) dX10_readsTooth_67 ml_X10_180 cd_X10_takesSign mk18 rfl rfl rfl rfl rfl rfl ?_
    refine z_aload_n (i := 0) dX10_readsTooth_70 rfl rfl ?_
    refine z_getI (x := (q37.1 (18, 0, 0) 17)) dX10_readsTooth_71 fl_X10_149 mk18 rfl rfl ?_
    refine z_if_eq (tgt := 78) dX10_readsTooth_74 rfl (fun hc39 => ?_) (fun hc39 => ?_)
    · have h := it_t h hc39
      refine z_aload_n (i := 0) dX10_readsTooth_78 rfl rfl ?_
      refine z_getR (r' := (19, 0, 0)) dX10_readsTooth_79 fl_X10_7 mk18 rfl rfl ?_
      refine z_iconst (v := (3 : Int32)) dX10_readsTooth_82 kc_3 ?_
      refine z_iald (x := (q37.1 (19, 0, 0) 3)) dX10_readsTooth_83 (m19 _ (Nat.le_of_ble_eq_true rfl)) rfl (by decide) rfl ?_
      refine z_istore (i := 4) dX10_readsTooth_84 (Nat.le_of_ble_eq_true rfl) rfl ?_
      refine z_aload_n (i := 0) dX10_readsTooth_86 rfl rfl ?_
      refine z_iload (i := 4) dX10_readsTooth_87 rfl ?_
      refine z_iconst (v := (0 : Int32)) dX10_readsTooth_89 kc_0 ?_
      refine z_iload_n (i := 1) dX10_readsTooth_90 rfl rfl ?_
      obtain ⟨q40, hq41, h⟩ := bnd h
      refine z_fVv (sX10_puts q37 (q37.1 (19, 0, 0) 3) (0 : Int32) q31.1 hq41) dX10_readsTooth_91 ml_X10_108 cd_X10_puts mk18 rfl rfl rfl rfl rfl rfl ?_
      refine z_aload_n (i := 0) dX10_readsTooth_94 rfl rfl ?_
      refine z_iload (i := 4) dX10_readsTooth_95 rfl ?_
      refine z_iconst (v := (2 : Int32)) dX10_readsTooth_97 kc_2 ?_
      refine z_iload_n (i := 2) dX10_readsTooth_98 rfl rfl ?_
      obtain ⟨q42, hq43, h⟩ := bnd h
      refine z_fVv (sX10_puts q40 (q37.1 (19, 0, 0) 3) (2 : Int32) q33.1 hq43) dX10_readsTooth_99 ml_X10_108 cd_X10_puts mk18 rfl rfl rfl rfl rfl rfl ?_
      refine z_aload_n (i := 0) dX10_readsTooth_102 rfl rfl ?_
      refine z_iload (i := 4) dX10_readsTooth_103 rfl ?_
      refine z_iconst (v := (3 : Int32)) dX10_readsTooth_105 kc_3 ?_
      refine z_iload_n (i := 3) dX10_readsTooth_106 rfl rfl ?_
      obtain ⟨q44, hq45, h⟩ := bnd h
      refine z_fVv (sX10_puts q42 (q37.1 (19, 0, 0) 3) (3 : Int32) q35.1 hq45) dX10_readsTooth_107 ml_X10_108 cd_X10_puts mk18 rfl rfl rfl rfl rfl rfl ?_
      refine z_aload_n (i := 0) dX10_readsTooth_110 rfl rfl ?_
      refine z_iload (i := 4) dX10_readsTooth_111 rfl ?_
      refine z_iconst (v := (5 : Int32)) dX10_readsTooth_113 kc_5 ?_
      refine z_bipush (v := (99 : Int32)) dX10_readsTooth_114 kb_99 ?_
      obtain ⟨q46, hq47, h⟩ := bnd h
      refine z_fVv (sX10_puts q44 (q37.1 (19, 0, 0) 3) (5 : Int32) (99 : Int32) hq47) dX10_readsTooth_116 ml_X10_108 cd_X10_puts mk18 rfl rfl rfl rfl rfl rfl ?_
      refine z_aload_n (i := 0) dX10_readsTooth_119 rfl rfl ?_
      refine z_getR (r' := (19, 0, 0)) dX10_readsTooth_120 fl_X10_7 mk18 rfl rfl ?_
      refine z_iconst (v := (3 : Int32)) dX10_readsTooth_123 kc_3 ?_
      refine z_dup2 dX10_readsTooth_124 rfl rfl ?_
      refine z_iald (x := (q46.1 (19, 0, 0) 3)) dX10_readsTooth_125 (m19 _ (Nat.le_of_ble_eq_true rfl)) rfl (by decide) rfl ?_
      refine z_iconst (v := (1 : Int32)) dX10_readsTooth_126 kc_1 ?_
      refine z_iadd dX10_readsTooth_127 ?_
      refine z_iast (j := 3) allR_nd dX10_readsTooth_128 (m19 _ (Nat.le_of_ble_eq_true rfl)) rfl (by decide) rfl ?_
      cases h
      exact z_vret dX10_readsTooth_129 rfl (Nat.le_refl _) (Nat.le_refl _) ⟨rfl, rfl⟩
    · have h := it_f h hc39
      cases h
      exact z_vret dX10_readsTooth_77 rfl (Nat.le_refl _) (Nat.le_refl _) ⟨rfl, rfl⟩
theorem dX10_set_0 : decode cX10_set 0 = .ok (.aload_n 0, 1) := by decide +kernel
theorem dX10_set_1 : decode cX10_set 1 = .ok (.getfield 7, 3) := by decide +kernel
theorem dX10_set_4 : decode cX10_set 4 = .ok (.bipush 88, 2) := by decide +kernel
theorem dX10_set_6 : decode cX10_set 6 = .ok (.bipush 64, 2) := by decide +kernel
theorem dX10_set_8 : decode cX10_set 8 = .ok (.iload_n 1, 1) := by decide +kernel
theorem dX10_set_9 : decode cX10_set 9 = .ok (.imul, 1) := by decide +kernel
theorem dX10_set_10 : decode cX10_set 10 = .ok (.iadd, 1) := by decide +kernel
theorem dX10_set_11 : decode cX10_set 11 = .ok (.iload_n 2, 1) := by decide +kernel
theorem dX10_set_12 : decode cX10_set 12 = .ok (.iadd, 1) := by decide +kernel
theorem dX10_set_13 : decode cX10_set 13 = .ok (.iaload, 1) := by decide +kernel
theorem dX10_set_14 : decode cX10_set 14 = .ok (.ireturn, 1) := by decide +kernel
def fX10_set (M : Mm) (x1 : Int32) (x2 : Int32) : Option Int32 := if (((88 : Int32) + ((64 : Int32) * x1)) + x2) < 0 ∨ 280 ≤ (((88 : Int32) + ((64 : Int32) * x1)) + x2).toNatClampNeg then none else some (M.1 (19, 0, 0) (((88 : Int32) + ((64 : Int32) * x1)) + x2).toNatClampNeg)
set_option maxRecDepth 20000 in
set_option maxHeartbeats 2000000 in
theorem sX10_set {wv : Nat} (M : Mm) (x1 : Int32) (x2 : Int32) {res : Int32} (h : fX10_set M x1 x2 = some res) : TF (wv + 1) yX10_set cX10_set 3 (some .int) 0 [.inr (18, 0, 0), .inl (.int x1), .inl (.int x2)] M (some (.int res)) M := by
  rw [fX10_set] at h
  refine TF.go (n := 0) (ls := [some (.inr (18, 0, 0)), some (.inl (.int x1)), some (.inl (.int x2))]) rfl rfl rfl rfl rfl ?_
  refine z_aload_n (i := 0) dX10_set_0 rfl rfl ?_
  refine z_getR (r' := (19, 0, 0)) dX10_set_1 fl_X10_7 mk18 rfl rfl ?_
  refine z_bipush (v := (88 : Int32)) dX10_set_4 kb_88 ?_
  refine z_bipush (v := (64 : Int32)) dX10_set_6 kb_64 ?_
  refine z_iload_n (i := 1) dX10_set_8 rfl rfl ?_
  refine z_imul dX10_set_9 ?_
  refine z_iadd dX10_set_10 ?_
  refine z_iload_n (i := 2) dX10_set_11 rfl rfl ?_
  refine z_iadd dX10_set_12 ?_
  obtain ⟨hc1, h⟩ := chk h
  refine z_iald (x := (M.1 (19, 0, 0) (((88 : Int32) + ((64 : Int32) * x1)) + x2).toNatClampNeg)) dX10_set_13 (m19 _ (Nat.le_of_ble_eq_true rfl)) rfl hc1 rfl ?_
  cases h
  exact z_iret dX10_set_14 rfl rfl (Nat.le_refl _) (Nat.le_refl _) ⟨rfl, rfl⟩
theorem dX10_has_0 : decode cX10_has 0 = .ok (.aload_n 0, 1) := by decide +kernel
theorem dX10_has_1 : decode cX10_has 1 = .ok (.iload_n 1, 1) := by decide +kernel
theorem dX10_has_2 : decode cX10_has 2 = .ok (.iload_n 3, 1) := by decide +kernel
theorem dX10_has_3 : decode cX10_has 3 = .ok (.invokevirtual 86, 3) := by decide +kernel
theorem dX10_has_6 : decode cX10_has 6 = .ok (.iload_n 2, 1) := by decide +kernel
theorem dX10_has_7 : decode cX10_has 7 = .ok (.ishr, 1) := by decide +kernel
theorem dX10_has_8 : decode cX10_has 8 = .ok (.iconst 1, 1) := by decide +kernel
theorem dX10_has_9 : decode cX10_has 9 = .ok (.iand, 1) := by decide +kernel
theorem dX10_has_10 : decode cX10_has 10 = .ok (.iconst 1, 1) := by decide +kernel
theorem dX10_has_11 : decode cX10_has 11 = .ok (.if_icmp .ne 7, 3) := by decide +kernel
theorem dX10_has_14 : decode cX10_has 14 = .ok (.iconst 1, 1) := by decide +kernel
theorem dX10_has_15 : decode cX10_has 15 = .ok (.goto 4, 3) := by decide +kernel
theorem dX10_has_18 : decode cX10_has 18 = .ok (.iconst 0, 1) := by decide +kernel
theorem dX10_has_19 : decode cX10_has 19 = .ok (.ireturn, 1) := by decide +kernel
def fX10_has (M : Mm) (x1 : Int32) (x2 : Int32) (x3 : Int32) : Option Int32 := (fX10_set M x1 x3).bind fun q1 => if ((q1 >>> (x2 &&& 31)) &&& (1 : Int32)) = (1 : Int32) then some (1 : Int32) else some (0 : Int32)
set_option maxRecDepth 20000 in
set_option maxHeartbeats 2000000 in
theorem sX10_has {wv : Nat} (M : Mm) (x1 : Int32) (x2 : Int32) (x3 : Int32) {res : Int32} (h : fX10_has M x1 x2 x3 = some res) : TF (wv + 1) yX10_has cX10_has 4 (some .boolean) 1 [.inr (18, 0, 0), .inl (.int x1), .inl (.int x2), .inl (.int x3)] M (some (.int res)) M := by
  rw [fX10_has] at h
  refine TF.go (n := 0) (ls := [some (.inr (18, 0, 0)), some (.inl (.int x1)), some (.inl (.int x2)), some (.inl (.int x3))]) rfl rfl rfl rfl rfl ?_
  refine z_aload_n (i := 0) dX10_has_0 rfl rfl ?_
  refine z_iload_n (i := 1) dX10_has_1 rfl rfl ?_
  refine z_iload_n (i := 3) dX10_has_2 rfl rfl ?_
  obtain ⟨q1, hq2, h⟩ := bnd h
  refine z_fVi (sX10_set M x1 x3 hq2) dX10_has_3 ml_X10_86 cd_X10_set mk18 rfl rfl rfl rfl rfl rfl ?_
  refine z_iload_n (i := 2) dX10_has_6 rfl rfl ?_
  refine z_ishr dX10_has_7 ?_
  refine z_iconst (v := (1 : Int32)) dX10_has_8 kc_1 ?_
  refine z_iand dX10_has_9 ?_
  refine z_iconst (v := (1 : Int32)) dX10_has_10 kc_1 ?_
  refine z_icmp_ne (tgt := 18) dX10_has_11 rfl (fun hc3 => ?_) (fun hc3 => ?_)
  · have h := it_f h hc3
    refine z_iconst (v := (0 : Int32)) dX10_has_18 kc_0 ?_
    cases h
    exact z_iret dX10_has_19 rfl rfl (Nat.le_refl _) (Nat.le_refl _) ⟨rfl, rfl⟩
  · have h := it_t h hc3
    refine z_iconst (v := (1 : Int32)) dX10_has_14 kc_1 ?_
    refine z_goto (tgt := 19) dX10_has_15 rfl ?_
    cases h
    exact z_iret dX10_has_19 rfl rfl (Nat.le_refl _) (Nat.le_refl _) ⟨rfl, rfl⟩
theorem dX10_putSet_0 : decode cX10_putSet 0 = .ok (.aload_n 0, 1) := by decide +kernel
theorem dX10_putSet_1 : decode cX10_putSet 1 = .ok (.getfield 7, 3) := by decide +kernel
theorem dX10_putSet_4 : decode cX10_putSet 4 = .ok (.bipush 88, 2) := by decide +kernel
theorem dX10_putSet_6 : decode cX10_putSet 6 = .ok (.bipush 64, 2) := by decide +kernel
theorem dX10_putSet_8 : decode cX10_putSet 8 = .ok (.iload_n 1, 1) := by decide +kernel
theorem dX10_putSet_9 : decode cX10_putSet 9 = .ok (.imul, 1) := by decide +kernel
theorem dX10_putSet_10 : decode cX10_putSet 10 = .ok (.iadd, 1) := by decide +kernel
theorem dX10_putSet_11 : decode cX10_putSet 11 = .ok (.iload_n 2, 1) := by decide +kernel
theorem dX10_putSet_12 : decode cX10_putSet 12 = .ok (.iadd, 1) := by decide +kernel
theorem dX10_putSet_13 : decode cX10_putSet 13 = .ok (.iload_n 3, 1) := by decide +kernel
theorem dX10_putSet_14 : decode cX10_putSet 14 = .ok (.iastore, 1) := by decide +kernel
theorem dX10_putSet_15 : decode cX10_putSet 15 = .ok (.return_, 1) := by decide +kernel
def fX10_putSet (M : Mm) (x1 : Int32) (x2 : Int32) (x3 : Int32) : Option Mm := if (((88 : Int32) + ((64 : Int32) * x1)) + x2) < 0 ∨ 280 ≤ (((88 : Int32) + ((64 : Int32) * x1)) + x2).toNatClampNeg then none else some (putI M (19, 0, 0) (((88 : Int32) + ((64 : Int32) * x1)) + x2).toNatClampNeg x3)
set_option maxRecDepth 20000 in
set_option maxHeartbeats 2000000 in
theorem sX10_putSet {wv : Nat} (M : Mm) (x1 : Int32) (x2 : Int32) (x3 : Int32) {res : Mm} (h : fX10_putSet M x1 x2 x3 = some res) : TF (wv + 1) yX10_putSet cX10_putSet 4 none 0 [.inr (18, 0, 0), .inl (.int x1), .inl (.int x2), .inl (.int x3)] M (none) res := by
  rw [fX10_putSet] at h
  refine TF.go (n := 0) (ls := [some (.inr (18, 0, 0)), some (.inl (.int x1)), some (.inl (.int x2)), some (.inl (.int x3))]) rfl rfl rfl rfl rfl ?_
  refine z_aload_n (i := 0) dX10_putSet_0 rfl rfl ?_
  refine z_getR (r' := (19, 0, 0)) dX10_putSet_1 fl_X10_7 mk18 rfl rfl ?_
  refine z_bipush (v := (88 : Int32)) dX10_putSet_4 kb_88 ?_
  refine z_bipush (v := (64 : Int32)) dX10_putSet_6 kb_64 ?_
  refine z_iload_n (i := 1) dX10_putSet_8 rfl rfl ?_
  refine z_imul dX10_putSet_9 ?_
  refine z_iadd dX10_putSet_10 ?_
  refine z_iload_n (i := 2) dX10_putSet_11 rfl rfl ?_
  refine z_iadd dX10_putSet_12 ?_
  refine z_iload_n (i := 3) dX10_putSet_13 rfl rfl ?_
  obtain ⟨hc1, h⟩ := chk h
  refine z_iast (j := (((88 : Int32) + ((64 : Int32) * x1)) + x2).toNatClampNeg) allR_nd dX10_putSet_14 (m19 _ (Nat.le_of_ble_eq_true rfl)) rfl hc1 rfl ?_
  cases h
  exact z_vret dX10_putSet_15 rfl (Nat.le_refl _) (Nat.le_refl _) ⟨rfl, rfl⟩
theorem dX10_readsPin_0 : decode cX10_readsPin 0 = .ok (.aload_n 0, 1) := by decide +kernel
theorem dX10_readsPin_1 : decode cX10_readsPin 1 = .ok (.aload_n 0, 1) := by decide +kernel
theorem dX10_readsPin_2 : decode cX10_readsPin 2 = .ok (.ldc 183, 2) := by decide +kernel
theorem dX10_readsPin_4 : decode cX10_readsPin 4 = .ok (.invokevirtual 173, 3) := by decide +kernel
theorem dX10_readsPin_7 : decode cX10_readsPin 7 = .ok (.iconst 1, 1) := by decide +kernel
theorem dX10_readsPin_8 : decode cX10_readsPin 8 = .ok (.invokevirtual 161, 3) := by decide +kernel
theorem dX10_readsPin_11 : decode cX10_readsPin 11 = .ok (.pop, 1) := by decide +kernel
theorem dX10_readsPin_12 : decode cX10_readsPin 12 = .ok (.aload_n 0, 1) := by decide +kernel
theorem dX10_readsPin_13 : decode cX10_readsPin 13 = .ok (.invokevirtual 164, 3) := by decide +kernel
theorem dX10_readsPin_16 : decode cX10_readsPin 16 = .ok (.aload_n 0, 1) := by decide +kernel
theorem dX10_readsPin_17 : decode cX10_readsPin 17 = .ok (.iconst 0, 1) := by decide +kernel
theorem dX10_readsPin_18 : decode cX10_readsPin 18 = .ok (.iconst 2, 1) := by decide +kernel
theorem dX10_readsPin_19 : decode cX10_readsPin 19 = .ok (.invokevirtual 177, 3) := by decide +kernel
theorem dX10_readsPin_22 : decode cX10_readsPin 22 = .ok (.istore_n 1, 1) := by decide +kernel
theorem dX10_readsPin_23 : decode cX10_readsPin 23 = .ok (.aload_n 0, 1) := by decide +kernel
theorem dX10_readsPin_24 : decode cX10_readsPin 24 = .ok (.iconst 0, 1) := by decide +kernel
theorem dX10_readsPin_25 : decode cX10_readsPin 25 = .ok (.aload_n 0, 1) := by decide +kernel
theorem dX10_readsPin_26 : decode cX10_readsPin 26 = .ok (.getfield 7, 3) := by decide +kernel
theorem dX10_readsPin_29 : decode cX10_readsPin 29 = .ok (.iconst 3, 1) := by decide +kernel
theorem dX10_readsPin_30 : decode cX10_readsPin 30 = .ok (.iaload, 1) := by decide +kernel
theorem dX10_readsPin_31 : decode cX10_readsPin 31 = .ok (.iconst 1, 1) := by decide +kernel
theorem dX10_readsPin_32 : decode cX10_readsPin 32 = .ok (.isub, 1) := by decide +kernel
theorem dX10_readsPin_33 : decode cX10_readsPin 33 = .ok (.invokevirtual 177, 3) := by decide +kernel
theorem dX10_readsPin_36 : decode cX10_readsPin 36 = .ok (.istore_n 2, 1) := by decide +kernel
theorem dX10_readsPin_37 : decode cX10_readsPin 37 = .ok (.aload_n 0, 1) := by decide +kernel
theorem dX10_readsPin_38 : decode cX10_readsPin 38 = .ok (.iconst 0, 1) := by decide +kernel
theorem dX10_readsPin_39 : decode cX10_readsPin 39 = .ok (.aload_n 0, 1) := by decide +kernel
theorem dX10_readsPin_40 : decode cX10_readsPin 40 = .ok (.getfield 7, 3) := by decide +kernel
theorem dX10_readsPin_43 : decode cX10_readsPin 43 = .ok (.iconst 0, 1) := by decide +kernel
theorem dX10_readsPin_44 : decode cX10_readsPin 44 = .ok (.iaload, 1) := by decide +kernel
theorem dX10_readsPin_45 : decode cX10_readsPin 45 = .ok (.iconst 1, 1) := by decide +kernel
theorem dX10_readsPin_46 : decode cX10_readsPin 46 = .ok (.isub, 1) := by decide +kernel
theorem dX10_readsPin_47 : decode cX10_readsPin 47 = .ok (.invokevirtual 167, 3) := by decide +kernel
theorem dX10_readsPin_50 : decode cX10_readsPin 50 = .ok (.ifCond .eq 10, 3) := by decide +kernel
theorem dX10_readsPin_53 : decode cX10_readsPin 53 = .ok (.aload_n 0, 1) := by decide +kernel
theorem dX10_readsPin_54 : decode cX10_readsPin 54 = .ok (.getfield 146, 3) := by decide +kernel
theorem dX10_readsPin_57 : decode cX10_readsPin 57 = .ok (.goto 4, 3) := by decide +kernel
theorem dX10_readsPin_60 : decode cX10_readsPin 60 = .ok (.iconst 0, 1) := by decide +kernel
theorem dX10_readsPin_61 : decode cX10_readsPin 61 = .ok (.istore_n 3, 1) := by decide +kernel
theorem dX10_readsPin_62 : decode cX10_readsPin 62 = .ok (.aload_n 0, 1) := by decide +kernel
theorem dX10_readsPin_63 : decode cX10_readsPin 63 = .ok (.aload_n 0, 1) := by decide +kernel
theorem dX10_readsPin_64 : decode cX10_readsPin 64 = .ok (.getfield 149, 3) := by decide +kernel
theorem dX10_readsPin_67 : decode cX10_readsPin 67 = .ok (.ifCond .ne 13, 3) := by decide +kernel
theorem dX10_readsPin_70 : decode cX10_readsPin 70 = .ok (.aload_n 0, 1) := by decide +kernel
theorem dX10_readsPin_71 : decode cX10_readsPin 71 = .ok (.iload_n 1, 1) := by decide +kernel
theorem dX10_readsPin_72 : decode cX10_readsPin 72 = .ok (.iload_n 2, 1) := by decide +kernel
theorem dX10_readsPin_73 : decode cX10_readsPin 73 = .ok (.iload_n 3, 1) := by decide +kernel
theorem dX10_readsPin_74 : decode cX10_readsPin 74 = .ok (.invokevirtual 93, 3) := by decide +kernel
theorem dX10_readsPin_77 : decode cX10_readsPin 77 = .ok (.ifCond .ne 7, 3) := by decide +kernel
theorem dX10_readsPin_80 : decode cX10_readsPin 80 = .ok (.iconst 1, 1) := by decide +kernel
theorem dX10_readsPin_81 : decode cX10_readsPin 81 = .ok (.goto 4, 3) := by decide +kernel
theorem dX10_readsPin_84 : decode cX10_readsPin 84 = .ok (.iconst 0, 1) := by decide +kernel
theorem dX10_readsPin_85 : decode cX10_readsPin 85 = .ok (.iconst 3, 1) := by decide +kernel
theorem dX10_readsPin_86 : decode cX10_readsPin 86 = .ok (.invokevirtual 161, 3) := by decide +kernel
theorem dX10_readsPin_89 : decode cX10_readsPin 89 = .ok (.pop, 1) := by decide +kernel
theorem dX10_readsPin_90 : decode cX10_readsPin 90 = .ok (.aload_n 0, 1) := by decide +kernel
theorem dX10_readsPin_91 : decode cX10_readsPin 91 = .ok (.invokevirtual 164, 3) := by decide +kernel
theorem dX10_readsPin_94 : decode cX10_readsPin 94 = .ok (.aload_n 0, 1) := by decide +kernel
theorem dX10_readsPin_95 : decode cX10_readsPin 95 = .ok (.bipush 59, 2) := by decide +kernel
theorem dX10_readsPin_97 : decode cX10_readsPin 97 = .ok (.invokevirtual 180, 3) := by decide +kernel
theorem dX10_readsPin_100 : decode cX10_readsPin 100 = .ok (.aload_n 0, 1) := by decide +kernel
theorem dX10_readsPin_101 : decode cX10_readsPin 101 = .ok (.getfield 149, 3) := by decide +kernel
theorem dX10_readsPin_104 : decode cX10_readsPin 104 = .ok (.ifCond .ne 19, 3) := by decide +kernel
theorem dX10_readsPin_107 : decode cX10_readsPin 107 = .ok (.aload_n 0, 1) := by decide +kernel
theorem dX10_readsPin_108 : decode cX10_readsPin 108 = .ok (.iload_n 1, 1) := by decide +kernel
theorem dX10_readsPin_109 : decode cX10_readsPin 109 = .ok (.iload_n 3, 1) := by decide +kernel
theorem dX10_readsPin_110 : decode cX10_readsPin 110 = .ok (.aload_n 0, 1) := by decide +kernel
theorem dX10_readsPin_111 : decode cX10_readsPin 111 = .ok (.iload_n 1, 1) := by decide +kernel
theorem dX10_readsPin_112 : decode cX10_readsPin 112 = .ok (.iload_n 3, 1) := by decide +kernel
theorem dX10_readsPin_113 : decode cX10_readsPin 113 = .ok (.invokevirtual 86, 3) := by decide +kernel
theorem dX10_readsPin_116 : decode cX10_readsPin 116 = .ok (.iconst 1, 1) := by decide +kernel
theorem dX10_readsPin_117 : decode cX10_readsPin 117 = .ok (.iload_n 2, 1) := by decide +kernel
theorem dX10_readsPin_118 : decode cX10_readsPin 118 = .ok (.ishl, 1) := by decide +kernel
theorem dX10_readsPin_119 : decode cX10_readsPin 119 = .ok (.ior, 1) := by decide +kernel
theorem dX10_readsPin_120 : decode cX10_readsPin 120 = .ok (.invokevirtual 185, 3) := by decide +kernel
theorem dX10_readsPin_123 : decode cX10_readsPin 123 = .ok (.return_, 1) := by decide +kernel
def fX10_readsPin (M : Mm) : Option Mm := (fX10_isWord M 3).bind fun q1 => (fX10_must M q1 (1 : Int32)).bind fun q3 => (fX10_goesOn q3.2).bind fun q5 => (fX10_number q5 (0 : Int32) (2 : Int32)).bind fun q7 => (fX10_number q7.2 (0 : Int32) ((q7.2.1 (19, 0, 0) 3) - (1 : Int32))).bind fun q9 => (fX10_looksAt q9.2 (0 : Int32) ((q9.2.1 (19, 0, 0) 0) - (1 : Int32))).bind fun q11 => if q11.1 = 0 then (if (q11.2.1 (18, 0, 0) 17) = 0 then ((fX10_has q11.2 q7.1 q9.1 (0 : Int32)).bind fun q26 => if q26 = 0 then ((fX10_must q11.2 (1 : Int32) (3 : Int32)).bind fun q40 => (fX10_goesOn q40.2).bind fun q42 => (fX10_takesSign q42 (59 : Int32)).bind fun q44 => if (q44.1 (18, 0, 0) 17) = 0 then ((fX10_set q44 q7.1 (0 : Int32)).bind fun q47 => (fX10_putSet q44 q7.1 (0 : Int32) (q47 ||| ((1 : Int32) <<< (q9.1 &&& 31)))).bind fun q49 => some q49) else some q44) else (fX10_must q11.2 (0 : Int32) (3 : Int32)).bind fun q29 => (fX10_goesOn q29.2).bind fun q31 => (fX10_takesSign q31 (59 : Int32)).bind fun q33 => if (q33.1 (18, 0, 0) 17) = 0 then ((fX10_set q33 q7.1 (0 : Int32)).bind fun q36 => (fX10_putSet q33 q7.1 (0 : Int32) (q36 ||| ((1 : Int32) <<< (q9.1 &&& 31)))).bind fun q38 => some q38) else some q33) else (fX10_must q11.2 (1 : Int32) (3 : Int32)).bind fun q15 => (fX10_goesOn q15.2).bind fun q17 => (fX10_takesSign q17 (59 : Int32)).bind fun q19 => if (q19.1 (18, 0, 0) 17) = 0 then ((fX10_set q19 q7.1 (0 : Int32)).bind fun q22 => (fX10_putSet q19 q7.1 (0 : Int32) (q22 ||| ((1 : Int32) <<< (q9.1 &&& 31)))).bind fun q24 => some q24) else some q19) else if (q11.2.1 (18, 0, 0) 17) = 0 then ((fX10_has q11.2 q7.1 q9.1 (q11.2.1 (18, 0, 0) 16)).bind fun q63 => if q63 = 0 then ((fX10_must q11.2 (1 : Int32) (3 : Int32)).bind fun q77 => (fX10_goesOn q77.2).bind fun q79 => (fX10_takesSign q79 (59 : Int32)).bind fun q81 => if (q81.1 (18, 0, 0) 17) = 0 then ((fX10_set q81 q7.1 (q11.2.1 (18, 0, 0) 16)).bind fun q84 => (fX10_putSet q81 q7.1 (q11.2.1 (18, 0, 0) 16) (q84 ||| ((1 : Int32) <<< (q9.1 &&& 31)))).bind fun q86 => some q86) else some q81) else (fX10_must q11.2 (0 : Int32) (3 : Int32)).bind fun q66 => (fX10_goesOn q66.2).bind fun q68 => (fX10_takesSign q68 (59 : Int32)).bind fun q70 => if (q70.1 (18, 0, 0) 17) = 0 then ((fX10_set q70 q7.1 (q11.2.1 (18, 0, 0) 16)).bind fun q73 => (fX10_putSet q70 q7.1 (q11.2.1 (18, 0, 0) 16) (q73 ||| ((1 : Int32) <<< (q9.1 &&& 31)))).bind fun q75 => some q75) else some q70) else (fX10_must q11.2 (1 : Int32) (3 : Int32)).bind fun q52 => (fX10_goesOn q52.2).bind fun q54 => (fX10_takesSign q54 (59 : Int32)).bind fun q56 => if (q56.1 (18, 0, 0) 17) = 0 then ((fX10_set q56 q7.1 (q11.2.1 (18, 0, 0) 16)).bind fun q59 => (fX10_putSet q56 q7.1 (q11.2.1 (18, 0, 0) 16) (q59 ||| ((1 : Int32) <<< (q9.1 &&& 31)))).bind fun q61 => some q61) else some q56
set_option maxRecDepth 20000 in
set_option maxHeartbeats 2000000 in
theorem sX10_readsPin {wv : Nat} (M : Mm) {res : Mm} (h : fX10_readsPin M  = some res) : TF (wv + 1) yX10_readsPin cX10_readsPin 4 none 8 [.inr (18, 0, 0)] M (none) res := by
  rw [fX10_readsPin] at h
  refine TF.go (n := 3) (ls := [some (.inr (18, 0, 0)), none, none, none]) rfl rfl rfl rfl rfl ?_
  refine z_aload_n (i := 0) dX10_readsPin_0 rfl rfl ?_
  refine z_aload_n (i := 0) dX10_readsPin_1 rfl rfl ?_
  refine z_ldcS (j := 3) dX10_readsPin_2 sw_RX10_183 ?_
  obtain ⟨q1, hq2, h⟩ := bnd h
  refine z_fVi (sX10_isWord M 3 (Nat.le_of_ble_eq_true rfl) hq2) dX10_readsPin_4 ml_X10_173 cd_X10_isWord mk18 rfl rfl rfl rfl rfl rfl ?_
  refine z_iconst (v := (1 : Int32)) dX10_readsPin_7 kc_1 ?_
  obtain ⟨q3, hq4, h⟩ := bnd h
  refine z_fVi (sX10_must M q1 (1 : Int32) hq4) dX10_readsPin_8 ml_X10_161 cd_X10_must mk18 rfl rfl rfl rfl rfl rfl ?_
  refine z_pop dX10_readsPin_11 rfl ?_
  refine z_aload_n (i := 0) dX10_readsPin_12 rfl rfl ?_
  obtain ⟨q5, hq6, h⟩ := bnd h
  refine z_fVv (sX10_goesOn q3.2 hq6) dX10_readsPin_13 ml_X10_164 cd_X10_goesOn mk18 rfl rfl rfl rfl rfl rfl ?_
  refine z_aload_n (i := 0) dX10_readsPin_16 rfl rfl ?_
  refine z_iconst (v := (0 : Int32)) dX10_readsPin_17 kc_0 ?_
  refine z_iconst (v := (2 : Int32)) dX10_readsPin_18 kc_2 ?_
  obtain ⟨q7, hq8, h⟩ := bnd h
  refine z_fVi (sX10_number q5 (0 : Int32) (2 : Int32) hq8) dX10_readsPin_19 ml_X10_177 cd_X10_number mk18 rfl rfl rfl rfl rfl rfl ?_
  refine z_istore_n (i := 1) dX10_readsPin_22 rfl (Nat.le_of_ble_eq_true rfl) rfl ?_
  refine z_aload_n (i := 0) dX10_readsPin_23 rfl rfl ?_
  refine z_iconst (v := (0 : Int32)) dX10_readsPin_24 kc_0 ?_
  refine z_aload_n (i := 0) dX10_readsPin_25 rfl rfl ?_
  refine z_getR (r' := (19, 0, 0)) dX10_readsPin_26 fl_X10_7 mk18 rfl rfl ?_
  refine z_iconst (v := (3 : Int32)) dX10_readsPin_29 kc_3 ?_
  refine z_iald (x := (q7.2.1 (19, 0, 0) 3)) dX10_readsPin_30 (m19 _ (Nat.le_of_ble_eq_true rfl)) rfl (by decide) rfl ?_
  refine z_iconst (v := (1 : Int32)) dX10_readsPin_31 kc_1 ?_
  refine z_isub dX10_readsPin_32 ?_
  obtain ⟨q9, hq10, h⟩ := bnd h
  refine z_fVi (sX10_number q7.2 (0 : Int32) ((q7.2.1 (19, 0, 0) 3) - (1 : Int32)) hq10) dX10_readsPin_33 ml_X10_177 cd_X10_number mk18 rfl rfl rfl rfl rfl rfl ?_
  refine z_istore_n (i := 2) dX10_readsPin_36 rfl (Nat.le_of_ble_eq_true rfl) rfl ?_
  refine z_aload_n (i := 0) dX10_readsPin_37 rfl rfl ?_
  refine z_iconst (v := (0 : Int32)) dX10_readsPin_38 kc_0 ?_
  refine z_aload_n (i := 0) dX10_readsPin_39 rfl rfl ?_
  refine z_getR (r' := (19, 0, 0)) dX10_readsPin_40 fl_X10_7 mk18 rfl rfl ?_
  refine z_iconst (v := (0 : Int32)) dX10_readsPin_43 kc_0 ?_
  refine z_iald (x := (q9.2.1 (19, 0, 0) 0)) dX10_readsPin_44 (m19 _ (Nat.le_of_ble_eq_true rfl)) rfl (by decide) rfl ?_
  refine z_iconst (v := (1 : Int32)) dX10_readsPin_45 kc_1 ?_
  refine z_isub dX10_readsPin_46 ?_
  obtain ⟨q11, hq12, h⟩ := bnd h
  refine z_fVi (sX10_looksAt q9.2 (0 : Int32) ((q9.2.1 (19, 0, 0) 0) - (1 : Int32)) hq12) dX10_readsPin_47 ml_X10_167 cd_X10_looksAt mk18 rfl rfl rfl rfl rfl rfl ?_
  refine z_if_eq (tgt := 60) dX10_readsPin_50 rfl (fun hc13 => ?_) (fun hc13 => ?_)
  · have h := it_t h hc13
    refine z_iconst (v := (0 : Int32)) dX10_readsPin_60 kc_0 ?_
    refine z_istore_n (i := 3) dX10_readsPin_61 rfl (Nat.le_of_ble_eq_true rfl) rfl ?_
    refine z_aload_n (i := 0) dX10_readsPin_62 rfl rfl ?_
    refine z_aload_n (i := 0) dX10_readsPin_63 rfl rfl ?_
    refine z_getI (x := (q11.2.1 (18, 0, 0) 17)) dX10_readsPin_64 fl_X10_149 mk18 rfl rfl ?_
    refine z_if_ne (tgt := 80) dX10_readsPin_67 rfl (fun hc14 => ?_) (fun hc14 => ?_)
    · have h := it_f h hc14
      refine z_iconst (v := (1 : Int32)) dX10_readsPin_80 kc_1 ?_
      refine z_goto (tgt := 85) dX10_readsPin_81 rfl ?_
      refine z_iconst (v := (3 : Int32)) dX10_readsPin_85 kc_3 ?_
      obtain ⟨q15, hq16, h⟩ := bnd h
      refine z_fVi (sX10_must q11.2 (1 : Int32) (3 : Int32) hq16) dX10_readsPin_86 ml_X10_161 cd_X10_must mk18 rfl rfl rfl rfl rfl rfl ?_
      refine z_pop dX10_readsPin_89 rfl ?_
      refine z_aload_n (i := 0) dX10_readsPin_90 rfl rfl ?_
      obtain ⟨q17, hq18, h⟩ := bnd h
      refine z_fVv (sX10_goesOn q15.2 hq18) dX10_readsPin_91 ml_X10_164 cd_X10_goesOn mk18 rfl rfl rfl rfl rfl rfl ?_
      refine z_aload_n (i := 0) dX10_readsPin_94 rfl rfl ?_
      refine z_bipush (v := (59 : Int32)) dX10_readsPin_95 kb_59 ?_
      obtain ⟨q19, hq20, h⟩ := bnd h
      refine z_fVv (sX10_takesSign q17 (59 : Int32) hq20) dX10_readsPin_97 ml_X10_180 cd_X10_takesSign mk18 rfl rfl rfl rfl rfl rfl ?_
      refine z_aload_n (i := 0) dX10_readsPin_100 rfl rfl ?_
      refine z_getI (x := (q19.1 (18, 0, 0) 17)) dX10_readsPin_101 fl_X10_149 mk18 rfl rfl ?_
      refine z_if_ne (tgt := 123) dX10_readsPin_104 rfl (fun hc21 => ?_) (fun hc21 => ?_)
      · have h := it_f h hc21
        cases h
        exact z_vret dX10_readsPin_123 rfl (Nat.le_refl _) (Nat.le_refl _) ⟨rfl, rfl⟩
      · have h := it_t h hc21
        refine z_aload_n (i := 0) dX10_readsPin_107 rfl rfl ?_
        refine z_iload_n (i := 1) dX10_readsPin_108 rfl rfl ?_
        refine z_iload_n (i := 3) dX10_readsPin_109 rfl rfl ?_
        refine z_aload_n (i := 0) dX10_readsPin_110 rfl rfl ?_
        refine z_iload_n (i := 1) dX10_readsPin_111 rfl rfl ?_
        refine z_iload_n (i := 3) dX10_readsPin_112 rfl rfl ?_
        obtain ⟨q22, hq23, h⟩ := bnd h
        refine z_fVi (sX10_set q19 q7.1 (0 : Int32) hq23) dX10_readsPin_113 ml_X10_86 cd_X10_set mk18 rfl rfl rfl rfl rfl rfl ?_
        refine z_iconst (v := (1 : Int32)) dX10_readsPin_116 kc_1 ?_
        refine z_iload_n (i := 2) dX10_readsPin_117 rfl rfl ?_
        refine z_ishl dX10_readsPin_118 ?_
        refine z_ior dX10_readsPin_119 ?_
        obtain ⟨q24, hq25, h⟩ := bnd h
        refine z_fVv (sX10_putSet q19 q7.1 (0 : Int32) (q22 ||| ((1 : Int32) <<< (q9.1 &&& 31))) hq25) dX10_readsPin_120 ml_X10_185 cd_X10_putSet mk18 rfl rfl rfl rfl rfl rfl ?_
        cases h
        exact z_vret dX10_readsPin_123 rfl (Nat.le_refl _) (Nat.le_refl _) ⟨rfl, rfl⟩
    · have h := it_t h hc14
      refine z_aload_n (i := 0) dX10_readsPin_70 rfl rfl ?_
      refine z_iload_n (i := 1) dX10_readsPin_71 rfl rfl ?_
      refine z_iload_n (i := 2) dX10_readsPin_72 rfl rfl ?_
      refine z_iload_n (i := 3) dX10_readsPin_73 rfl rfl ?_
      obtain ⟨q26, hq27, h⟩ := bnd h
      refine z_fVi (sX10_has q11.2 q7.1 q9.1 (0 : Int32) hq27) dX10_readsPin_74 ml_X10_93 cd_X10_has mk18 rfl rfl rfl rfl rfl rfl ?_
      refine z_if_ne (tgt := 84) dX10_readsPin_77 rfl (fun hc28 => ?_) (fun hc28 => ?_)
      · have h := it_f h hc28
        refine z_iconst (v := (0 : Int32)) dX10_readsPin_84 kc_0 ?_
        refine z_iconst (v := (3 : Int32)) dX10_readsPin_85 kc_3 ?_
        obtain ⟨q29, hq30, h⟩ := bnd h
        refine z_fVi (sX10_must q11.2 (0 : Int32) (3 : Int32) hq30) dX10_readsPin_86 ml_X10_161 cd_X10_must mk18 rfl rfl rfl rfl rfl rfl ?_
        refine z_pop dX10_readsPin_89 rfl ?_
        refine z_aload_n (i := 0) dX10_readsPin_90 rfl rfl ?_
        obtain ⟨q31, hq32, h⟩ := bnd h
        refine z_fVv (sX10_goesOn q29.2 hq32) dX10_readsPin_91 ml_X10_164 cd_X10_goesOn mk18 rfl rfl rfl rfl rfl rfl ?_
        refine z_aload_n (i := 0) dX10_readsPin_94 rfl rfl ?_
        refine z_bipush (v := (59 : Int32)) dX10_readsPin_95 kb_59 ?_
        obtain ⟨q33, hq34, h⟩ := bnd h
        refine z_fVv (sX10_takesSign q31 (59 : Int32) hq34) dX10_readsPin_97 ml_X10_180 cd_X10_takesSign mk18 rfl rfl rfl rfl rfl rfl ?_
        refine z_aload_n (i := 0) dX10_readsPin_100 rfl rfl ?_
        refine z_getI (x := (q33.1 (18, 0, 0) 17)) dX10_readsPin_101 fl_X10_149 mk18 rfl rfl ?_
        refine z_if_ne (tgt := 123) dX10_readsPin_104 rfl (fun hc35 => ?_) (fun hc35 => ?_)
        · have h := it_f h hc35
          cases h
          exact z_vret dX10_readsPin_123 rfl (Nat.le_refl _) (Nat.le_refl _) ⟨rfl, rfl⟩
        · have h := it_t h hc35
          refine z_aload_n (i := 0) dX10_readsPin_107 rfl rfl ?_
          refine z_iload_n (i := 1) dX10_readsPin_108 rfl rfl ?_
          refine z_iload_n (i := 3) dX10_readsPin_109 rfl rfl ?_
          refine z_aload_n (i := 0) dX10_readsPin_110 rfl rfl ?_
          refine z_iload_n (i := 1) dX10_readsPin_111 rfl rfl ?_
          refine z_iload_n (i := 3) dX10_readsPin_112 rfl rfl ?_
          obtain ⟨q36, hq37, h⟩ := bnd h
          refine z_fVi (sX10_set q33 q7.1 (0 : Int32) hq37) dX10_readsPin_113 ml_X10_86 cd_X10_set mk18 rfl rfl rfl rfl rfl rfl ?_
          refine z_iconst (v := (1 : Int32)) dX10_readsPin_116 kc_1 ?_
          refine z_iload_n (i := 2) dX10_readsPin_117 rfl rfl ?_
          refine z_ishl dX10_readsPin_118 ?_
          refine z_ior dX10_readsPin_119 ?_
          obtain ⟨q38, hq39, h⟩ := bnd h
          refine z_fVv (sX10_putSet q33 q7.1 (0 : Int32) (q36 ||| ((1 : Int32) <<< (q9.1 &&& 31))) hq39) dX10_readsPin_120 ml_X10_185 cd_X10_putSet mk18 rfl rfl rfl rfl rfl rfl ?_
          cases h
          exact z_vret dX10_readsPin_123 rfl (Nat.le_refl _) (Nat.le_refl _) ⟨rfl, rfl⟩
      · have h := it_t h hc28
        refine z_iconst (v := (1 : Int32)) dX10_readsPin_80 kc_1 ?_
        refine z_goto (tgt := 85) dX10_readsPin_81 rfl ?_
        refine z_iconst (v := (3 : Int32)) dX10_readsPin_85 kc_3 ?_
        obtain ⟨q40, hq41, h⟩ := bnd h
        refine z_fVi (sX10_must q11.2 (1 : Int32) (3 : Int32) hq41) dX10_readsPin_86 ml_X10_161 cd_X10_must mk18 rfl rfl rfl rfl rfl rfl ?_
        refine z_pop dX10_readsPin_89 rfl ?_
        refine z_aload_n (i := 0) dX10_readsPin_90 rfl rfl ?_
        obtain ⟨q42, hq43, h⟩ := bnd h
        refine z_fVv (sX10_goesOn q40.2 hq43) dX10_readsPin_91 ml_X10_164 cd_X10_goesOn mk18 rfl rfl rfl rfl rfl rfl ?_
        refine z_aload_n (i := 0) dX10_readsPin_94 rfl rfl ?_
        refine z_bipush (v := (59 : Int32)) dX10_readsPin_95 kb_59 ?_
        obtain ⟨q44, hq45, h⟩ := bnd h
        refine z_fVv (sX10_takesSign q42 (59 : Int32) hq45) dX10_readsPin_97 ml_X10_180 cd_X10_takesSign mk18 rfl rfl rfl rfl rfl rfl ?_
        refine z_aload_n (i := 0) dX10_readsPin_100 rfl rfl ?_
        refine z_getI (x := (q44.1 (18, 0, 0) 17)) dX10_readsPin_101 fl_X10_149 mk18 rfl rfl ?_
        refine z_if_ne (tgt := 123) dX10_readsPin_104 rfl (fun hc46 => ?_) (fun hc46 => ?_)
        · have h := it_f h hc46
          cases h
          exact z_vret dX10_readsPin_123 rfl (Nat.le_refl _) (Nat.le_refl _) ⟨rfl, rfl⟩
        · have h := it_t h hc46
          refine z_aload_n (i := 0) dX10_readsPin_107 rfl rfl ?_
          refine z_iload_n (i := 1) dX10_readsPin_108 rfl rfl ?_
          refine z_iload_n (i := 3) dX10_readsPin_109 rfl rfl ?_
          refine z_aload_n (i := 0) dX10_readsPin_110 rfl rfl ?_
          refine z_iload_n (i := 1) dX10_readsPin_111 rfl rfl ?_
          refine z_iload_n (i := 3) dX10_readsPin_112 rfl rfl ?_
          obtain ⟨q47, hq48, h⟩ := bnd h
          refine z_fVi (sX10_set q44 q7.1 (0 : Int32) hq48) dX10_readsPin_113 ml_X10_86 cd_X10_set mk18 rfl rfl rfl rfl rfl rfl ?_
          refine z_iconst (v := (1 : Int32)) dX10_readsPin_116 kc_1 ?_
          refine z_iload_n (i := 2) dX10_readsPin_117 rfl rfl ?_
          refine z_ishl dX10_readsPin_118 ?_
          refine z_ior dX10_readsPin_119 ?_
          obtain ⟨q49, hq50, h⟩ := bnd h
          refine z_fVv (sX10_putSet q44 q7.1 (0 : Int32) (q47 ||| ((1 : Int32) <<< (q9.1 &&& 31))) hq50) dX10_readsPin_120 ml_X10_185 cd_X10_putSet mk18 rfl rfl rfl rfl rfl rfl ?_
          cases h
          exact z_vret dX10_readsPin_123 rfl (Nat.le_refl _) (Nat.le_refl _) ⟨rfl, rfl⟩
  · have h := it_f h hc13
    refine z_aload_n (i := 0) dX10_readsPin_53 rfl rfl ?_
    refine z_getI (x := (q11.2.1 (18, 0, 0) 16)) dX10_readsPin_54 fl_X10_146 mk18 rfl rfl ?_
    refine z_goto (tgt := 61) dX10_readsPin_57 rfl ?_
    refine z_istore_n (i := 3) dX10_readsPin_61 rfl (Nat.le_of_ble_eq_true rfl) rfl ?_
    refine z_aload_n (i := 0) dX10_readsPin_62 rfl rfl ?_
    refine z_aload_n (i := 0) dX10_readsPin_63 rfl rfl ?_
    refine z_getI (x := (q11.2.1 (18, 0, 0) 17)) dX10_readsPin_64 fl_X10_149 mk18 rfl rfl ?_
    refine z_if_ne (tgt := 80) dX10_readsPin_67 rfl (fun hc51 => ?_) (fun hc51 => ?_)
    · have h := it_f h hc51
      refine z_iconst (v := (1 : Int32)) dX10_readsPin_80 kc_1 ?_
      refine z_goto (tgt := 85) dX10_readsPin_81 rfl ?_
      refine z_iconst (v := (3 : Int32)) dX10_readsPin_85 kc_3 ?_
      obtain ⟨q52, hq53, h⟩ := bnd h
      refine z_fVi (sX10_must q11.2 (1 : Int32) (3 : Int32) hq53) dX10_readsPin_86 ml_X10_161 cd_X10_must mk18 rfl rfl rfl rfl rfl rfl ?_
      refine z_pop dX10_readsPin_89 rfl ?_
      refine z_aload_n (i := 0) dX10_readsPin_90 rfl rfl ?_
      obtain ⟨q54, hq55, h⟩ := bnd h
      refine z_fVv (sX10_goesOn q52.2 hq55) dX10_readsPin_91 ml_X10_164 cd_X10_goesOn mk18 rfl rfl rfl rfl rfl rfl ?_
      refine z_aload_n (i := 0) dX10_readsPin_94 rfl rfl ?_
      refine z_bipush (v := (59 : Int32)) dX10_readsPin_95 kb_59 ?_
      obtain ⟨q56, hq57, h⟩ := bnd h
      refine z_fVv (sX10_takesSign q54 (59 : Int32) hq57) dX10_readsPin_97 ml_X10_180 cd_X10_takesSign mk18 rfl rfl rfl rfl rfl rfl ?_
      refine z_aload_n (i := 0) dX10_readsPin_100 rfl rfl ?_
      refine z_getI (x := (q56.1 (18, 0, 0) 17)) dX10_readsPin_101 fl_X10_149 mk18 rfl rfl ?_
      refine z_if_ne (tgt := 123) dX10_readsPin_104 rfl (fun hc58 => ?_) (fun hc58 => ?_)
      · have h := it_f h hc58
        cases h
        exact z_vret dX10_readsPin_123 rfl (Nat.le_refl _) (Nat.le_refl _) ⟨rfl, rfl⟩
      · have h := it_t h hc58
        refine z_aload_n (i := 0) dX10_readsPin_107 rfl rfl ?_
        refine z_iload_n (i := 1) dX10_readsPin_108 rfl rfl ?_
        refine z_iload_n (i := 3) dX10_readsPin_109 rfl rfl ?_
        refine z_aload_n (i := 0) dX10_readsPin_110 rfl rfl ?_
        refine z_iload_n (i := 1) dX10_readsPin_111 rfl rfl ?_
        refine z_iload_n (i := 3) dX10_readsPin_112 rfl rfl ?_
        obtain ⟨q59, hq60, h⟩ := bnd h
        refine z_fVi (sX10_set q56 q7.1 (q11.2.1 (18, 0, 0) 16) hq60) dX10_readsPin_113 ml_X10_86 cd_X10_set mk18 rfl rfl rfl rfl rfl rfl ?_
        refine z_iconst (v := (1 : Int32)) dX10_readsPin_116 kc_1 ?_
        refine z_iload_n (i := 2) dX10_readsPin_117 rfl rfl ?_
        refine z_ishl dX10_readsPin_118 ?_
        refine z_ior dX10_readsPin_119 ?_
        obtain ⟨q61, hq62, h⟩ := bnd h
        refine z_fVv (sX10_putSet q56 q7.1 (q11.2.1 (18, 0, 0) 16) (q59 ||| ((1 : Int32) <<< (q9.1 &&& 31))) hq62) dX10_readsPin_120 ml_X10_185 cd_X10_putSet mk18 rfl rfl rfl rfl rfl rfl ?_
        cases h
        exact z_vret dX10_readsPin_123 rfl (Nat.le_refl _) (Nat.le_refl _) ⟨rfl, rfl⟩
    · have h := it_t h hc51
      refine z_aload_n (i := 0) dX10_readsPin_70 rfl rfl ?_
      refine z_iload_n (i := 1) dX10_readsPin_71 rfl rfl ?_
      refine z_iload_n (i := 2) dX10_readsPin_72 rfl rfl ?_
      refine z_iload_n (i := 3) dX10_readsPin_73 rfl rfl ?_
      obtain ⟨q63, hq64, h⟩ := bnd h
      refine z_fVi (sX10_has q11.2 q7.1 q9.1 (q11.2.1 (18, 0, 0) 16) hq64) dX10_readsPin_74 ml_X10_93 cd_X10_has mk18 rfl rfl rfl rfl rfl rfl ?_
      refine z_if_ne (tgt := 84) dX10_readsPin_77 rfl (fun hc65 => ?_) (fun hc65 => ?_)
      · have h := it_f h hc65
        refine z_iconst (v := (0 : Int32)) dX10_readsPin_84 kc_0 ?_
        refine z_iconst (v := (3 : Int32)) dX10_readsPin_85 kc_3 ?_
        obtain ⟨q66, hq67, h⟩ := bnd h
        refine z_fVi (sX10_must q11.2 (0 : Int32) (3 : Int32) hq67) dX10_readsPin_86 ml_X10_161 cd_X10_must mk18 rfl rfl rfl rfl rfl rfl ?_
        refine z_pop dX10_readsPin_89 rfl ?_
        refine z_aload_n (i := 0) dX10_readsPin_90 rfl rfl ?_
        obtain ⟨q68, hq69, h⟩ := bnd h
        refine z_fVv (sX10_goesOn q66.2 hq69) dX10_readsPin_91 ml_X10_164 cd_X10_goesOn mk18 rfl rfl rfl rfl rfl rfl ?_
        refine z_aload_n (i := 0) dX10_readsPin_94 rfl rfl ?_
        refine z_bipush (v := (59 : Int32)) dX10_readsPin_95 kb_59 ?_
        obtain ⟨q70, hq71, h⟩ := bnd h
        refine z_fVv (sX10_takesSign q68 (59 : Int32) hq71) dX10_readsPin_97 ml_X10_180 cd_X10_takesSign mk18 rfl rfl rfl rfl rfl rfl ?_
        refine z_aload_n (i := 0) dX10_readsPin_100 rfl rfl ?_
        refine z_getI (x := (q70.1 (18, 0, 0) 17)) dX10_readsPin_101 fl_X10_149 mk18 rfl rfl ?_
        refine z_if_ne (tgt := 123) dX10_readsPin_104 rfl (fun hc72 => ?_) (fun hc72 => ?_)
        · have h := it_f h hc72
          cases h
          exact z_vret dX10_readsPin_123 rfl (Nat.le_refl _) (Nat.le_refl _) ⟨rfl, rfl⟩
        · have h := it_t h hc72
          refine z_aload_n (i := 0) dX10_readsPin_107 rfl rfl ?_
          refine z_iload_n (i := 1) dX10_readsPin_108 rfl rfl ?_
          refine z_iload_n (i := 3) dX10_readsPin_109 rfl rfl ?_
          refine z_aload_n (i := 0) dX10_readsPin_110 rfl rfl ?_
          refine z_iload_n (i := 1) dX10_readsPin_111 rfl rfl ?_
          refine z_iload_n (i := 3) dX10_readsPin_112 rfl rfl ?_
          obtain ⟨q73, hq74, h⟩ := bnd h
          refine z_fVi (sX10_set q70 q7.1 (q11.2.1 (18, 0, 0) 16) hq74) dX10_readsPin_113 ml_X10_86 cd_X10_set mk18 rfl rfl rfl rfl rfl rfl ?_
          refine z_iconst (v := (1 : Int32)) dX10_readsPin_116 kc_1 ?_
          refine z_iload_n (i := 2) dX10_readsPin_117 rfl rfl ?_
          refine z_ishl dX10_readsPin_118 ?_
          refine z_ior dX10_readsPin_119 ?_
          obtain ⟨q75, hq76, h⟩ := bnd h
          refine z_fVv (sX10_putSet q70 q7.1 (q11.2.1 (18, 0, 0) 16) (q73 ||| ((1 : Int32) <<< (q9.1 &&& 31))) hq76) dX10_readsPin_120 ml_X10_185 cd_X10_putSet mk18 rfl rfl rfl rfl rfl rfl ?_
          cases h
          exact z_vret dX10_readsPin_123 rfl (Nat.le_refl _) (Nat.le_refl _) ⟨rfl, rfl⟩
      · have h := it_t h hc65
        refine z_iconst (v := (1 : Int32)) dX10_readsPin_80 kc_1 ?_
        refine z_goto (tgt := 85) dX10_readsPin_81 rfl ?_
        refine z_iconst (v := (3 : Int32)) dX10_readsPin_85 kc_3 ?_
        obtain ⟨q77, hq78, h⟩ := bnd h
        refine z_fVi (sX10_must q11.2 (1 : Int32) (3 : Int32) hq78) dX10_readsPin_86 ml_X10_161 cd_X10_must mk18 rfl rfl rfl rfl rfl rfl ?_
        refine z_pop dX10_readsPin_89 rfl ?_
        refine z_aload_n (i := 0) dX10_readsPin_90 rfl rfl ?_
        obtain ⟨q79, hq80, h⟩ := bnd h
        refine z_fVv (sX10_goesOn q77.2 hq80) dX10_readsPin_91 ml_X10_164 cd_X10_goesOn mk18 rfl rfl rfl rfl rfl rfl ?_
        refine z_aload_n (i := 0) dX10_readsPin_94 rfl rfl ?_
        refine z_bipush (v := (59 : Int32)) dX10_readsPin_95 kb_59 ?_
        obtain ⟨q81, hq82, h⟩ := bnd h
        refine z_fVv (sX10_takesSign q79 (59 : Int32) hq82) dX10_readsPin_97 ml_X10_180 cd_X10_takesSign mk18 rfl rfl rfl rfl rfl rfl ?_
        refine z_aload_n (i := 0) dX10_readsPin_100 rfl rfl ?_
        refine z_getI (x := (q81.1 (18, 0, 0) 17)) dX10_readsPin_101 fl_X10_149 mk18 rfl rfl ?_
        refine z_if_ne (tgt := 123) dX10_readsPin_104 rfl (fun hc83 => ?_) (fun hc83 => ?_)
        · have h := it_f h hc83
          cases h
          exact z_vret dX10_readsPin_123 rfl (Nat.le_refl _) (Nat.le_refl _) ⟨rfl, rfl⟩
        · have h := it_t h hc83
          refine z_aload_n (i := 0) dX10_readsPin_107 rfl rfl ?_
          refine z_iload_n (i := 1) dX10_readsPin_108 rfl rfl ?_
          refine z_iload_n (i := 3) dX10_readsPin_109 rfl rfl ?_
          refine z_aload_n (i := 0) dX10_readsPin_110 rfl rfl ?_
          refine z_iload_n (i := 1) dX10_readsPin_111 rfl rfl ?_
          refine z_iload_n (i := 3) dX10_readsPin_112 rfl rfl ?_
          obtain ⟨q84, hq85, h⟩ := bnd h
          refine z_fVi (sX10_set q81 q7.1 (q11.2.1 (18, 0, 0) 16) hq85) dX10_readsPin_113 ml_X10_86 cd_X10_set mk18 rfl rfl rfl rfl rfl rfl ?_
          refine z_iconst (v := (1 : Int32)) dX10_readsPin_116 kc_1 ?_
          refine z_iload_n (i := 2) dX10_readsPin_117 rfl rfl ?_
          refine z_ishl dX10_readsPin_118 ?_
          refine z_ior dX10_readsPin_119 ?_
          obtain ⟨q86, hq87, h⟩ := bnd h
          refine z_fVv (sX10_putSet q81 q7.1 (q11.2.1 (18, 0, 0) 16) (q84 ||| ((1 : Int32) <<< (q9.1 &&& 31))) hq87) dX10_readsPin_120 ml_X10_185 cd_X10_putSet mk18 rfl rfl rfl rfl rfl rfl ?_
          cases h
          exact z_vret dX10_readsPin_123 rfl (Nat.le_refl _) (Nat.le_refl _) ⟨rfl, rfl⟩
