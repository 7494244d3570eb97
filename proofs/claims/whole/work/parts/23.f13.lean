theorem dX10_must_0 : decode cX10_must 0 = .ok (.aload_n 0, 1) := by decide +kernel
theorem dX10_must_1 : decode cX10_must 1 = .ok (.getfield 149, 3) := by decide +kernel
theorem dX10_must_4 : decode cX10_must 4 = .ok (.ifCond .ne 20, 3) := by decide +kernel
theorem dX10_must_7 : decode cX10_must 7 = .ok (.iload_n 1, 1) := by decide +kernel
theorem dX10_must_8 : decode cX10_must 8 = .ok (.ifCond .ne 16, 3) := by decide +kernel
theorem dX10_must_11 : decode cX10_must 11 = .ok (.aload_n 0, 1) := by decide +kernel
theorem dX10_must_12 : decode cX10_must 12 = .ok (.iload_n 2, 1) := by decide +kernel
theorem dX10_must_13 : decode cX10_must 13 = .ok (.putfield 149, 3) := by decide +kernel
theorem dX10_must_16 : decode cX10_must 16 = .ok (.aload_n 0, 1) := by decide +kernel
theorem dX10_must_17 : decode cX10_must 17 = .ok (.aload_n 0, 1) := by decide +kernel
theorem dX10_must_18 : decode cX10_must 18 = .ok (.getfield 140, 3) := by decide +kernel
theorem dX10_must_21 : decode cX10_must 21 = .ok (.putfield 152, 3) := by decide +kernel
theorem dX10_must_24 : decode cX10_must 24 = .ok (.aload_n 0, 1) := by decide +kernel
theorem dX10_must_25 : decode cX10_must 25 = .ok (.getfield 149, 3) := by decide +kernel
theorem dX10_must_28 : decode cX10_must 28 = .ok (.ifCond .ne 7, 3) := by decide +kernel
theorem dX10_must_31 : decode cX10_must 31 = .ok (.iconst 1, 1) := by decide +kernel
theorem dX10_must_32 : decode cX10_must 32 = .ok (.goto 4, 3) := by decide +kernel
theorem dX10_must_35 : decode cX10_must 35 = .ok (.iconst 0, 1) := by decide +kernel
theorem dX10_must_36 : decode cX10_must 36 = .ok (.ireturn, 1) := by decide +kernel
def fX10_must (M : Mm) (x1 : Int32) (x2 : Int32) : Option (Int32 × Mm) := if (M.1 (18, 0, 0) 17) = 0 then (if x1 = 0 then (if x2 = 0 then some ((1 : Int32), (putI (putI M (18, 0, 0) 17 x2) (18, 0, 0) 18 (M.1 (18, 0, 0) 14))) else some ((0 : Int32), (putI (putI M (18, 0, 0) 17 x2) (18, 0, 0) 18 (M.1 (18, 0, 0) 14)))) else if (M.1 (18, 0, 0) 17) = 0 then some ((1 : Int32), M) else some ((0 : Int32), M)) else if (M.1 (18, 0, 0) 17) = 0 then some ((1 : Int32), M) else some ((0 : Int32), M)
set_option maxRecDepth 20000 in
set_option maxHeartbeats 2000000 in
theorem sX10_must {wv : Nat} (M : Mm) (x1 : Int32) (x2 : Int32) {res : (Int32 × Mm)} (h : fX10_must M x1 x2 = some res) : TF (wv + 1) yX10_must cX10_must 3 (some .boolean) 0 [.inr (18, 0, 0), .inl (.int x1), .inl (.int x2)] M (some (.int res.1)) res.2 := by
  rw [fX10_must] at h
  refine TF.go (n := 0) (ls := [some (.inr (18, 0, 0)), some (.inl (.int x1)), some (.inl (.int x2))]) rfl rfl rfl rfl rfl ?_
  refine z_aload_n (i := 0) dX10_must_0 rfl rfl ?_
  refine z_getI (x := (M.1 (18, 0, 0) 17)) dX10_must_1 fl_X10_149 mk18 rfl rfl ?_
  refine z_if_ne (tgt := 24) dX10_must_4 rfl (fun hc1 => ?_) (fun hc1 => ?_)
  · have h := it_f h hc1
    refine z_aload_n (i := 0) dX10_must_24 rfl rfl ?_
    refine z_getI (x := (M.1 (18, 0, 0) 17)) dX10_must_25 fl_X10_149 mk18 rfl rfl ?_
    refine z_if_ne (tgt := 35) dX10_must_28 rfl (fun hc2 => ?_) (fun hc2 => ?_)
    · have h := it_f h hc2
      refine z_iconst (v := (0 : Int32)) dX10_must_35 kc_0 ?_
      cases h
      exact z_iret dX10_must_36 rfl rfl (Nat.le_refl _) (Nat.le_refl _) ⟨rfl, rfl⟩
    · have h := it_t h hc2
      refine z_iconst (v := (1 : Int32)) dX10_must_31 kc_1 ?_
      refine z_goto (tgt := 36) dX10_must_32 rfl ?_
      cases h
      exact z_iret dX10_must_36 rfl rfl (Nat.le_refl _) (Nat.le_refl _) ⟨rfl, rfl⟩
  · have h := it_t h hc1
    refine z_iload_n (i := 1) dX10_must_7 rfl rfl ?_
    refine z_if_ne (tgt := 24) dX10_must_8 rfl (fun hc3 => ?_) (fun hc3 => ?_)
    · have h := it_f h hc3
      refine z_aload_n (i := 0) dX10_must_24 rfl rfl ?_
      refine z_getI (x := (M.1 (18, 0, 0) 17)) dX10_must_25 fl_X10_149 mk18 rfl rfl ?_
      refine z_if_ne (tgt := 35) dX10_must_28 rfl (fun hc4 => ?_) (fun hc4 => ?_)
      · have h := it_f h hc4
        refine z_iconst (v := (0 : Int32)) dX10_must_35 kc_0 ?_
        cases h
        exact z_iret dX10_must_36 rfl rfl (Nat.le_refl _) (Nat.le_refl _) ⟨rfl, rfl⟩
      · have h := it_t h hc4
        refine z_iconst (v := (1 : Int32)) dX10_must_31 kc_1 ?_
        refine z_goto (tgt := 36) dX10_must_32 rfl ?_
        cases h
        exact z_iret dX10_must_36 rfl rfl (Nat.le_refl _) (Nat.le_refl _) ⟨rfl, rfl⟩
    · have h := it_t h hc3
      refine z_aload_n (i := 0) dX10_must_11 rfl rfl ?_
      refine z_iload_n (i := 2) dX10_must_12 rfl rfl ?_
      refine z_putI allR_nd dX10_must_13 fl_X10_149 mk18 rfl rfl ?_
      refine z_aload_n (i := 0) dX10_must_16 rfl rfl ?_
      refine z_aload_n (i := 0) dX10_must_17 rfl rfl ?_
      refine z_getI (x := (M.1 (18, 0, 0) 14)) dX10_must_18 fl_X10_140 mk18 rfl rfl ?_
      refine z_putI allR_nd dX10_must_21 fl_X10_152 mk18 rfl rfl ?_
      refine z_aload_n (i := 0) dX10_must_24 rfl rfl ?_
      refine z_getI (x := x2) dX10_must_25 fl_X10_149 mk18 rfl (gp1 (M := M) (r := (18, 0, 0)) (j := 17) (v := x2)) ?_
      refine z_if_ne (tgt := 35) dX10_must_28 rfl (fun hc5 => ?_) (fun hc5 => ?_)
      · have h := it_f h hc5
        refine z_iconst (v := (0 : Int32)) dX10_must_35 kc_0 ?_
        cases h
        exact z_iret dX10_must_36 rfl rfl (Nat.le_refl _) (Nat.le_refl _) ⟨rfl, rfl⟩
      · have h := it_t h hc5
        refine z_iconst (v := (1 : Int32)) dX10_must_31 kc_1 ?_
        refine z_goto (tgt := 36) dX10_must_32 rfl ?_
        cases h
        exact z_iret dX10_must_36 rfl rfl (Nat.le_refl _) (Nat.le_refl _) ⟨rfl, rfl⟩
theorem dX10_goesOn_0 : decode cX10_goesOn 0 = .ok (.aload_n 0, 1) := by decide +kernel
theorem dX10_goesOn_1 : decode cX10_goesOn 1 = .ok (.getfield 149, 3) := by decide +kernel
theorem dX10_goesOn_4 : decode cX10_goesOn 4 = .ok (.ifCond .ne 7, 3) := by decide +kernel
theorem dX10_goesOn_7 : decode cX10_goesOn 7 = .ok (.aload_n 0, 1) := by decide +kernel
theorem dX10_goesOn_8 : decode cX10_goesOn 8 = .ok (.invokevirtual 155, 3) := by decide +kernel
theorem dX10_goesOn_11 : decode cX10_goesOn 11 = .ok (.return_, 1) := by decide +kernel
def fX10_goesOn (M : Mm) : Option Mm := if (M.1 (18, 0, 0) 17) = 0 then ((fX10_reads M).bind fun q2 => some q2) else some M
set_option maxRecDepth 20000 in
set_option maxHeartbeats 2000000 in
theorem sX10_goesOn {wv : Nat} (M : Mm) {res : Mm} (h : fX10_goesOn M  = some res) : TF (wv + 1) yX10_goesOn cX10_goesOn 1 none 2 [.inr (18, 0, 0)] M (none) res := by
  rw [fX10_goesOn] at h
  refine TF.go (n := 0) (ls := [some (.inr (18, 0, 0))]) rfl rfl rfl rfl rfl ?_
  refine z_aload_n (i := 0) dX10_goesOn_0 rfl rfl ?_
  refine z_getI (x := (M.1 (18, 0, 0) 17)) dX10_goesOn_1 fl_X10_149 mk18 rfl rfl ?_
  refine z_if_ne (tgt := 11) dX10_goesOn_4 rfl (fun hc1 => ?_) (fun hc1 => ?_)
  · have h := it_f h hc1
    cases h
    exact z_vret dX10_goesOn_11 rfl (Nat.le_refl _) (Nat.le_refl _) ⟨rfl, rfl⟩
  · have h := it_t h hc1
    refine z_aload_n (i := 0) dX10_goesOn_7 rfl rfl ?_
    obtain ⟨q2, hq3, h⟩ := bnd h
    refine z_fVv (sX10_reads M hq3) dX10_goesOn_8 ml_X10_155 cd_X10_reads mk18 rfl rfl rfl rfl rfl rfl ?_
    cases h
    exact z_vret dX10_goesOn_11 rfl (Nat.le_refl _) (Nat.le_refl _) ⟨rfl, rfl⟩
theorem dX10_looksAt_0 : decode cX10_looksAt 0 = .ok (.aload_n 0, 1) := by decide +kernel
theorem dX10_looksAt_1 : decode cX10_looksAt 1 = .ok (.aload_n 0, 1) := by decide +kernel
theorem dX10_looksAt_2 : decode cX10_looksAt 2 = .ok (.getfield 143, 3) := by decide +kernel
theorem dX10_looksAt_5 : decode cX10_looksAt 5 = .ok (.iconst 2, 1) := by decide +kernel
theorem dX10_looksAt_6 : decode cX10_looksAt 6 = .ok (.if_icmp .ne 7, 3) := by decide +kernel
theorem dX10_looksAt_9 : decode cX10_looksAt 9 = .ok (.iconst 1, 1) := by decide +kernel
theorem dX10_looksAt_10 : decode cX10_looksAt 10 = .ok (.goto 4, 3) := by decide +kernel
theorem dX10_looksAt_13 : decode cX10_looksAt 13 = .ok (.iconst 0, 1) := by decide +kernel
theorem dX10_looksAt_14 : decode cX10_looksAt 14 = .ok (.iconst 1, 1) := by decide +kernel
theorem dX10_looksAt_15 : decode cX10_looksAt 15 = .ok (.invokevirtual 161, 3) := by decide +kernel
theorem dX10_looksAt_18 : decode cX10_looksAt 18 = .ok (.ifCond .eq 18, 3) := by decide +kernel
theorem dX10_looksAt_21 : decode cX10_looksAt 21 = .ok (.aload_n 0, 1) := by decide +kernel
theorem dX10_looksAt_22 : decode cX10_looksAt 22 = .ok (.aload_n 0, 1) := by decide +kernel
theorem dX10_looksAt_23 : decode cX10_looksAt 23 = .ok (.getfield 146, 3) := by decide +kernel
theorem dX10_looksAt_26 : decode cX10_looksAt 26 = .ok (.iload_n 1, 1) := by decide +kernel
theorem dX10_looksAt_27 : decode cX10_looksAt 27 = .ok (.iload_n 2, 1) := by decide +kernel
theorem dX10_looksAt_28 : decode cX10_looksAt 28 = .ok (.invokestatic 82, 3) := by decide +kernel
theorem dX10_looksAt_31 : decode cX10_looksAt 31 = .ok (.iconst 2, 1) := by decide +kernel
theorem dX10_looksAt_32 : decode cX10_looksAt 32 = .ok (.invokevirtual 161, 3) := by decide +kernel
theorem dX10_looksAt_35 : decode cX10_looksAt 35 = .ok (.pop, 1) := by decide +kernel
theorem dX10_looksAt_36 : decode cX10_looksAt 36 = .ok (.aload_n 0, 1) := by decide +kernel
theorem dX10_looksAt_37 : decode cX10_looksAt 37 = .ok (.getfield 149, 3) := by decide +kernel
theorem dX10_looksAt_40 : decode cX10_looksAt 40 = .ok (.ifCond .ne 7, 3) := by decide +kernel
theorem dX10_looksAt_43 : decode cX10_looksAt 43 = .ok (.iconst 1, 1) := by decide +kernel
theorem dX10_looksAt_44 : decode cX10_looksAt 44 = .ok (.goto 4, 3) := by decide +kernel
theorem dX10_looksAt_47 : decode cX10_looksAt 47 = .ok (.iconst 0, 1) := by decide +kernel
theorem dX10_looksAt_48 : decode cX10_looksAt 48 = .ok (.ireturn, 1) := by decide +kernel
def fX10_looksAt (M : Mm) (x1 : Int32) (x2 : Int32) : Option (Int32 × Mm) := if (M.1 (18, 0, 0) 15) = (2 : Int32) then ((fX10_must M (1 : Int32) (1 : Int32)).bind fun q9 => if q9.1 = 0 then (if (q9.2.1 (18, 0, 0) 17) = 0 then some ((1 : Int32), q9.2) else some ((0 : Int32), q9.2)) else (fX10_must q9.2 (fX10_in q9.2 (q9.2.1 (18, 0, 0) 16) x1 x2) (2 : Int32)).bind fun q13 => if (q13.2.1 (18, 0, 0) 17) = 0 then some ((1 : Int32), q13.2) else some ((0 : Int32), q13.2)) else (fX10_must M (0 : Int32) (1 : Int32)).bind fun q2 => if q2.1 = 0 then (if (q2.2.1 (18, 0, 0) 17) = 0 then some ((1 : Int32), q2.2) else some ((0 : Int32), q2.2)) else (fX10_must q2.2 (fX10_in q2.2 (q2.2.1 (18, 0, 0) 16) x1 x2) (2 : Int32)).bind fun q6 => if (q6.2.1 (18, 0, 0) 17) = 0 then some ((1 : Int32), q6.2) else some ((0 : Int32), q6.2)
set_option maxRecDepth 20000 in
set_option maxHeartbeats 2000000 in
theorem sX10_looksAt {wv : Nat} (M : Mm) (x1 : Int32) (x2 : Int32) {res : (Int32 × Mm)} (h : fX10_looksAt M x1 x2 = some res) : TF (wv + 1) yX10_looksAt cX10_looksAt 3 (some .boolean) 1 [.inr (18, 0, 0), .inl (.int x1), .inl (.int x2)] M (some (.int res.1)) res.2 := by
  rw [fX10_looksAt] at h
  refine TF.go (n := 0) (ls := [some (.inr (18, 0, 0)), some (.inl (.int x1)), some (.inl (.int x2))]) rfl rfl rfl rfl rfl ?_
  refine z_aload_n (i := 0) dX10_looksAt_0 rfl rfl ?_
  refine z_aload_n (i := 0) dX10_looksAt_1 rfl rfl ?_
  refine z_getI (x := (M.1 (18, 0, 0) 15)) dX10_looksAt_2 fl_X10_143 mk18 rfl rfl ?_
  refine z_iconst (v := (2 : Int32)) dX10_looksAt_5 kc_2 ?_
  refine z_icmp_ne (tgt := 13) dX10_looksAt_6 rfl (fun hc1 => ?_) (fun hc1 => ?_)
  · have h := it_f h hc1
    refine z_iconst (v := (0 : Int32)) dX10_looksAt_13 kc_0 ?_
    refine z_iconst (v := (1 : Int32)) dX10_looksAt_14 kc_1 ?_
    obtain ⟨q2, hq3, h⟩ := bnd h
    refine z_fVi (sX10_must M (0 : Int32) (1 : Int32) hq3) dX10_looksAt_15 ml_X10_161 cd_X10_must mk18 rfl rfl rfl rfl rfl rfl ?_
    refine z_if_eq (tgt := 36) dX10_looksAt_18 rfl (fun hc4 => ?_) (fun hc4 => ?_)
    · have h := it_t h hc4
      refine z_aload_n (i := 0) dX10_looksAt_36 rfl rfl ?_
      refine z_getI (x := (q2.2.1 (18, 0, 0) 17)) dX10_looksAt_37 fl_X10_149 mk18 rfl rfl ?_
      refine z_if_ne (tgt := 47) dX10_looksAt_40 rfl (fun hc5 => ?_) (fun hc5 => ?_)
      · have h := it_f h hc5
        refine z_iconst (v := (0 : Int32)) dX10_looksAt_47 kc_0 ?_
        cases h
        exact z_iret dX10_looksAt_48 rfl rfl (Nat.le_refl _) (Nat.le_refl _) ⟨rfl, rfl⟩
      · have h := it_t h hc5
        refine z_iconst (v := (1 : Int32)) dX10_looksAt_43 kc_1 ?_
        refine z_goto (tgt := 48) dX10_looksAt_44 rfl ?_
        cases h
        exact z_iret dX10_looksAt_48 rfl rfl (Nat.le_refl _) (Nat.le_refl _) ⟨rfl, rfl⟩
    · have h := it_f h hc4
      refine z_aload_n (i := 0) dX10_looksAt_21 rfl rfl ?_
      refine z_aload_n (i := 0) dX10_looksAt_22 rfl rfl ?_
      refine z_getI (x := (q2.2.1 (18, 0, 0) 16)) dX10_looksAt_23 fl_X10_146 mk18 rfl rfl ?_
      refine z_iload_n (i := 1) dX10_looksAt_26 rfl rfl ?_
      refine z_iload_n (i := 2) dX10_looksAt_27 rfl rfl ?_
      refine z_fSi (sX10_in q2.2 (q2.2.1 (18, 0, 0) 16) x1 x2) dX10_looksAt_28 ml_X10_82 cd_X10_in rfl rfl rfl rfl rfl ?_
      refine z_iconst (v := (2 : Int32)) dX10_looksAt_31 kc_2 ?_
      obtain ⟨q6, hq7, h⟩ := bnd h
      refine z_fVi (sX10_must q2.2 (fX10_in q2.2 (q2.2.1 (18, 0, 0) 16) x1 x2) (2 : Int32) hq7) dX10_looksAt_32 ml_X10_161 cd_X10_must mk18 rfl rfl rfl rfl rfl rfl ?_
      refine z_pop dX10_looksAt_35 rfl ?_
      refine z_aload_n (i := 0) dX10_looksAt_36 rfl rfl ?_
      refine z_getI (x := (q6.2.1 (18, 0, 0) 17)) dX10_looksAt_37 fl_X10_149 mk18 rfl rfl ?_
      refine z_if_ne (tgt := 47) dX10_looksAt_40 rfl (fun hc8 => ?_) (fun hc8 => ?_)
      · have h := it_f h hc8
        refine z_iconst (v := (0 : Int32)) dX10_looksAt_47 kc_0 ?_
        cases h
        exact z_iret dX10_looksAt_48 rfl rfl (Nat.le_refl _) (Nat.le_refl _) ⟨rfl, rfl⟩
      · have h := it_t h hc8
        refine z_iconst (v := (1 : Int32)) dX10_looksAt_43 kc_1 ?_
        refine z_goto (tgt := 48) dX10_looksAt_44 rfl ?_
        cases h
        exact z_iret dX10_looksAt_48 rfl rfl (Nat.le_refl _) (Nat.le_refl _) ⟨rfl, rfl⟩
  · have h := it_t h hc1
    refine z_iconst (v := (1 : Int32)) dX10_looksAt_9 kc_1 ?_
    refine z_goto (tgt := 14) dX10_looksAt_10 rfl ?_
    refine z_iconst (v := (1 : Int32)) dX10_looksAt_14 kc_1 ?_
    obtain ⟨q9, hq10, h⟩ := bnd h
    refine z_fVi (sX10_must M (1 : Int32) (1 : Int32) hq10) dX10_looksAt_15 ml_X10_161 cd_X10_must mk18 rfl rfl rfl rfl rfl rfl ?_
    refine z_if_eq (tgt := 36) dX10_looksAt_18 rfl (fun hc11 => ?_) (fun hc11 => ?_)
    · have h := it_t h hc11
      refine z_aload_n (i := 0) dX10_looksAt_36 rfl rfl ?_
      refine z_getI (x := (q9.2.1 (18, 0, 0) 17)) dX10_looksAt_37 fl_X10_149 mk18 rfl rfl ?_
      refine z_if_ne (tgt := 47) dX10_looksAt_40 rfl (fun hc12 => ?_) (fun hc12 => ?_)
      · have h := it_f h hc12
        refine z_iconst (v := (0 : Int32)) dX10_looksAt_47 kc_0 ?_
        cases h
        exact z_iret dX10_looksAt_48 rfl rfl (Nat.le_refl _) (Nat.le_refl _) ⟨rfl, rfl⟩
      · have h := it_t h hc12
        refine z_iconst (v := (1 : Int32)) dX10_looksAt_43 kc_1 ?_
        refine z_goto (tgt := 48) dX10_looksAt_44 rfl ?_
        cases h
        exact z_iret dX10_looksAt_48 rfl rfl (Nat.le_refl _) (Nat.le_refl _) ⟨rfl, rfl⟩
    · have h := it_f h hc11
      refine z_aload_n (i := 0) dX10_looksAt_21 rfl rfl ?_
      refine z_aload_n (i := 0) dX10_looksAt_22 rfl rfl ?_
      refine z_getI (x := (q9.2.1 (18, 0, 0) 16)) dX10_looksAt_23 fl_X10_146 mk18 rfl rfl ?_
      refine z_iload_n (i := 1) dX10_looksAt_26 rfl rfl ?_
      refine z_iload_n (i := 2) dX10_looksAt_27 rfl rfl ?_
      refine z_fSi (sX10_in q9.2 (q9.2.1 (18, 0, 0) 16) x1 x2) dX10_looksAt_28 ml_X10_82 cd_X10_in rfl rfl rfl rfl rfl ?_
      refine z_iconst (v := (2 : Int32)) dX10_looksAt_31 kc_2 ?_
      obtain ⟨q13, hq14, h⟩ := bnd h
      refine z_fVi (sX10_must q9.2 (fX10_in q9.2 (q9.2.1 (18, 0, 0) 16) x1 x2) (2 : Int32) hq14) dX10_looksAt_32 ml_X10_161 cd_X10_must mk18 rfl rfl rfl rfl rfl rfl ?_
      refine z_pop dX10_looksAt_35 rfl ?_
      refine z_aload_n (i := 0) dX10_looksAt_36 rfl rfl ?_
      refine z_getI (x := (q13.2.1 (18, 0, 0) 17)) dX10_looksAt_37 fl_X10_149 mk18 rfl rfl ?_
      refine z_if_ne (tgt := 47) dX10_looksAt_40 rfl (fun hc15 => ?_) (fun hc15 => ?_)
      · have h := it_f h hc15
        refine z_iconst (v := (0 : Int32)) dX10_looksAt_47 kc_0 ?_
        cases h
        exact z_iret dX10_looksAt_48 rfl rfl (Nat.le_refl _) (Nat.le_refl _) ⟨rfl, rfl⟩
      · have h := it_t h hc15
        refine z_iconst (v := (1 : Int32)) dX10_looksAt_43 kc_1 ?_
        refine z_goto (tgt := 48) dX10_looksAt_44 rfl ?_
        cases h
        exact z_iret dX10_looksAt_48 rfl rfl (Nat.le_refl _) (Nat.le_refl _) ⟨rfl, rfl⟩
theorem dX10_number_0 : decode cX10_number 0 = .ok (.aload_n 0, 1) := by decide +kernel
theorem dX10_number_1 : decode cX10_number 1 = .ok (.iload_n 1, 1) := by decide +kernel
theorem dX10_number_2 : decode cX10_number 2 = .ok (.iload_n 2, 1) := by decide +kernel
theorem dX10_number_3 : decode cX10_number 3 = .ok (.invokevirtual 167, 3) := by decide +kernel
theorem dX10_number_6 : decode cX10_number 6 = .ok (.istore_n 3, 1) := by decide +kernel
theorem dX10_number_7 : decode cX10_number 7 = .ok (.aload_n 0, 1) := by decide +kernel
theorem dX10_number_8 : decode cX10_number 8 = .ok (.getfield 146, 3) := by decide +kernel
theorem dX10_number_11 : decode cX10_number 11 = .ok (.istore 4, 2) := by decide +kernel
theorem dX10_number_13 : decode cX10_number 13 = .ok (.aload_n 0, 1) := by decide +kernel
theorem dX10_number_14 : decode cX10_number 14 = .ok (.invokevirtual 164, 3) := by decide +kernel
theorem dX10_number_17 : decode cX10_number 17 = .ok (.iload 4, 2) := by decide +kernel
theorem dX10_number_19 : decode cX10_number 19 = .ok (.ireturn, 1) := by decide +kernel
def fX10_number (M : Mm) (x1 : Int32) (x2 : Int32) : Option (Int32 × Mm) := (fX10_looksAt M x1 x2).bind fun q1 => (fX10_goesOn q1.2).bind fun q3 => some ((q1.2.1 (18, 0, 0) 16), q3)
set_option maxRecDepth 20000 in
set_option maxHeartbeats 2000000 in
theorem sX10_number {wv : Nat} (M : Mm) (x1 : Int32) (x2 : Int32) {res : (Int32 × Mm)} (h : fX10_number M x1 x2 = some res) : TF (wv + 1) yX10_number cX10_number 5 (some .int) 3 [.inr (18, 0, 0), .inl (.int x1), .inl (.int x2)] M (some (.int res.1)) res.2 := by
  rw [fX10_number] at h
  refine TF.go (n := 2) (ls := [some (.inr (18, 0, 0)), some (.inl (.int x1)), some (.inl (.int x2)), none, none]) rfl rfl rfl rfl rfl ?_
  refine z_aload_n (i := 0) dX10_number_0 rfl rfl ?_
  refine z_iload_n (i := 1) dX10_number_1 rfl rfl ?_
  refine z_iload_n (i := 2) dX10_number_2 rfl rfl ?_
  obtain ⟨q1, hq2, h⟩ := bnd h
  refine z_fVi (sX10_looksAt M x1 x2 hq2) dX10_number_3 ml_X10_167 cd_X10_looksAt mk18 rfl rfl rfl rfl rfl rfl ?_
  refine z_istore_n (i := 3) dX10_number_6 rfl (Nat.le_of_ble_eq_true rfl) rfl ?_
  refine z_aload_n (i := 0) dX10_number_7 rfl rfl ?_
  refine z_getI (x := (q1.2.1 (18, 0, 0) 16)) dX10_number_8 fl_X10_146 mk18 rfl rfl ?_
  refine z_istore (i := 4) dX10_number_11 (Nat.le_of_ble_eq_true rfl) rfl ?_
  refine z_aload_n (i := 0) dX10_number_13 rfl rfl ?_
  obtain ⟨q3, hq4, h⟩ := bnd h
  refine z_fVv (sX10_goesOn q1.2 hq4) dX10_number_14 ml_X10_164 cd_X10_goesOn mk18 rfl rfl rfl rfl rfl rfl ?_
  refine z_iload (i := 4) dX10_number_17 rfl ?_
  cases h
  exact z_iret dX10_number_19 rfl rfl (Nat.le_refl _) (Nat.le_refl _) ⟨rfl, rfl⟩
theorem dX10_isSign_0 : decode cX10_isSign 0 = .ok (.aload_n 0, 1) := by decide +kernel
theorem dX10_isSign_1 : decode cX10_isSign 1 = .ok (.getfield 149, 3) := by decide +kernel
theorem dX10_isSign_4 : decode cX10_isSign 4 = .ok (.ifCond .ne 27, 3) := by decide +kernel
theorem dX10_isSign_7 : decode cX10_isSign 7 = .ok (.aload_n 0, 1) := by decide +kernel
theorem dX10_isSign_8 : decode cX10_isSign 8 = .ok (.getfield 143, 3) := by decide +kernel
theorem dX10_isSign_11 : decode cX10_isSign 11 = .ok (.iconst 3, 1) := by decide +kernel
theorem dX10_isSign_12 : decode cX10_isSign 12 = .ok (.if_icmp .ne 19, 3) := by decide +kernel
theorem dX10_isSign_15 : decode cX10_isSign 15 = .ok (.aload_n 0, 1) := by decide +kernel
theorem dX10_isSign_16 : decode cX10_isSign 16 = .ok (.aload_n 0, 1) := by decide +kernel
theorem dX10_isSign_17 : decode cX10_isSign 17 = .ok (.getfield 140, 3) := by decide +kernel
theorem dX10_isSign_20 : decode cX10_isSign 20 = .ok (.invokevirtual 137, 3) := by decide +kernel
theorem dX10_isSign_23 : decode cX10_isSign 23 = .ok (.iload_n 1, 1) := by decide +kernel
theorem dX10_isSign_24 : decode cX10_isSign 24 = .ok (.if_icmp .ne 7, 3) := by decide +kernel
theorem dX10_isSign_27 : decode cX10_isSign 27 = .ok (.iconst 1, 1) := by decide +kernel
theorem dX10_isSign_28 : decode cX10_isSign 28 = .ok (.goto 4, 3) := by decide +kernel
theorem dX10_isSign_31 : decode cX10_isSign 31 = .ok (.iconst 0, 1) := by decide +kernel
theorem dX10_isSign_32 : decode cX10_isSign 32 = .ok (.ireturn, 1) := by decide +kernel
def fX10_isSign (M : Mm) (x1 : Int32) : Option Int32 := if (M.1 (18, 0, 0) 17) = 0 then (if (M.1 (18, 0, 0) 15) = (3 : Int32) then ((fX10_seen M (M.1 (18, 0, 0) 14)).bind fun q3 => if q3 = x1 then some (1 : Int32) else some (0 : Int32)) else some (0 : Int32)) else some (0 : Int32)
set_option maxRecDepth 20000 in
set_option maxHeartbeats 2000000 in
theorem sX10_isSign {wv : Nat} (M : Mm) (x1 : Int32) {res : Int32} (h : fX10_isSign M x1 = some res) : TF (wv + 1) yX10_isSign cX10_isSign 2 (some .boolean) 1 [.inr (18, 0, 0), .inl (.int x1)] M (some (.int res)) M := by
  rw [fX10_isSign] at h
  refine TF.go (n := 0) (ls := [some (.inr (18, 0, 0)), some (.inl (.int x1))]) rfl rfl rfl rfl rfl ?_
  refine z_aload_n (i := 0) dX10_isSign_0 rfl rfl ?_
  refine z_getI (x := (M.1 (18, 0, 0) 17)) dX10_isSign_1 fl_X10_149 mk18 rfl rfl ?_
  refine z_if_ne (tgt := 31) dX10_isSign_4 rfl (fun hc1 => ?_) (fun hc1 => ?_)
  · have h := it_f h hc1
    refine z_iconst (v := (0 : Int32)) dX10_isSign_31 kc_0 ?_
    cases h
    exact z_iret dX10_isSign_32 rfl rfl (Nat.le_refl _) (Nat.le_refl _) ⟨rfl, rfl⟩
  · have h := it_t h hc1
    refine z_aload_n (i := 0) dX10_isSign_7 rfl rfl ?_
    refine z_getI (x := (M.1 (18, 0, 0) 15)) dX10_isSign_8 fl_X10_143 mk18 rfl rfl ?_
    refine z_iconst (v := (3 : Int32)) dX10_isSign_11 kc_3 ?_
    refine z_icmp_ne (tgt := 31) dX10_isSign_12 rfl (fun hc2 => ?_) (fun hc2 => ?_)
    · have h := it_f h hc2
      refine z_iconst (v := (0 : Int32)) dX10_isSign_31 kc_0 ?_
      cases h
      exact z_iret dX10_isSign_32 rfl rfl (Nat.le_refl _) (Nat.le_refl _) ⟨rfl, rfl⟩
    · have h := it_t h hc2
      refine z_aload_n (i := 0) dX10_isSign_15 rfl rfl ?_
      refine z_aload_n (i := 0) dX10_isSign_16 rfl rfl ?_
      refine z_getI (x := (M.1 (18, 0, 0) 14)) dX10_isSign_17 fl_X10_140 mk18 rfl rfl ?_
      obtain ⟨q3, hq4, h⟩ := bnd h
      refine z_fVi (sX10_seen M (M.1 (18, 0, 0) 14) hq4) dX10_isSign_20 ml_X10_137 cd_X10_seen mk18 rfl rfl rfl rfl rfl rfl ?_
      refine z_iload_n (i := 1) dX10_isSign_23 rfl rfl ?_
      refine z_icmp_ne (tgt := 31) dX10_isSign_24 rfl (fun hc5 => ?_) (fun hc5 => ?_)
      · have h := it_f h hc5
        refine z_iconst (v := (0 : Int32)) dX10_isSign_31 kc_0 ?_
        cases h
        exact z_iret dX10_isSign_32 rfl rfl (Nat.le_refl _) (Nat.le_refl _) ⟨rfl, rfl⟩
      · have h := it_t h hc5
        refine z_iconst (v := (1 : Int32)) dX10_isSign_27 kc_1 ?_
        refine z_goto (tgt := 32) dX10_isSign_28 rfl ?_
        cases h
        exact z_iret dX10_isSign_32 rfl rfl (Nat.le_refl _) (Nat.le_refl _) ⟨rfl, rfl⟩
theorem dX10_takesSign_0 : decode cX10_takesSign 0 = .ok (.aload_n 0, 1) := by decide +kernel
theorem dX10_takesSign_1 : decode cX10_takesSign 1 = .ok (.aload_n 0, 1) := by decide +kernel
theorem dX10_takesSign_2 : decode cX10_takesSign 2 = .ok (.iload_n 1, 1) := by decide +kernel
theorem dX10_takesSign_3 : decode cX10_takesSign 3 = .ok (.invokevirtual 158, 3) := by decide +kernel
theorem dX10_takesSign_6 : decode cX10_takesSign 6 = .ok (.iconst 1, 1) := by decide +kernel
theorem dX10_takesSign_7 : decode cX10_takesSign 7 = .ok (.invokevirtual 161, 3) := by decide +kernel
theorem dX10_takesSign_10 : decode cX10_takesSign 10 = .ok (.pop, 1) := by decide +kernel
theorem dX10_takesSign_11 : decode cX10_takesSign 11 = .ok (.aload_n 0, 1) := by decide +kernel
theorem dX10_takesSign_12 : decode cX10_takesSign 12 = .ok (.invokevirtual 164, 3) := by decide +kernel
theorem dX10_takesSign_15 : decode cX10_takesSign 15 = .ok (.return_, 1) := by decide +kernel
def fX10_takesSign (M : Mm) (x1 : Int32) : Option Mm := (fX10_isSign M x1).bind fun q1 => (fX10_must M q1 (1 : Int32)).bind fun q3 => (fX10_goesOn q3.2).bind fun q5 => some q5
set_option maxRecDepth 20000 in
set_option maxHeartbeats 2000000 in
theorem sX10_takesSign {wv : Nat} (M : Mm) (x1 : Int32) {res : Mm} (h : fX10_takesSign M x1 = some res) : TF (wv + 1) yX10_takesSign cX10_takesSign 2 none 3 [.inr (18, 0, 0), .inl (.int x1)] M (none) res := by
  rw [fX10_takesSign] at h
  refine TF.go (n := 0) (ls := [some (.inr (18, 0, 0)), some (.inl (.int x1))]) rfl rfl rfl rfl rfl ?_
  refine z_aload_n (i := 0) dX10_takesSign_0 rfl rfl ?_
  refine z_aload_n (i := 0) dX10_takesSign_1 rfl rfl ?_
  refine z_iload_n (i := 1) dX10_takesSign_2 rfl rfl ?_
  obtain ⟨q1, hq2, h⟩ := bnd h
  refine z_fVi (sX10_isSign M x1 hq2) dX10_takesSign_3 ml_X10_158 cd_X10_isSign mk18 rfl rfl rfl rfl rfl rfl ?_
  refine z_iconst (v := (1 : Int32)) dX10_takesSign_6 kc_1 ?_
  obtain ⟨q3, hq4, h⟩ := bnd h
  refine z_fVi (sX10_must M q1 (1 : Int32) hq4) dX10_takesSign_7 ml_X10_161 cd_X10_must mk18 rfl rfl rfl rfl rfl rfl ?_
  refine z_pop dX10_takesSign_10 rfl ?_
  refine z_aload_n (i := 0) dX10_takesSign_11 rfl rfl ?_
  obtain ⟨q5, hq6, h⟩ := bnd h
  refine z_fVv (sX10_goesOn q3.2 hq6) dX10_takesSign_12 ml_X10_164 cd_X10_goesOn mk18 rfl rfl rfl rfl rfl rfl ?_
  cases h
  exact z_vret dX10_takesSign_15 rfl (Nat.le_refl _) (Nat.le_refl _) ⟨rfl, rfl⟩
theorem dX10_puts_0 : decode cX10_puts 0 = .ok (.aload_n 0, 1) := by decide +kernel
theorem dX10_puts_1 : decode cX10_puts 1 = .ok (.getfield 7, 3) := by decide +kernel
theorem dX10_puts_4 : decode cX10_puts 4 = .ok (.bipush 16, 2) := by decide +kernel
theorem dX10_puts_6 : decode cX10_puts 6 = .ok (.bipush 6, 2) := by decide +kernel
theorem dX10_puts_8 : decode cX10_puts 8 = .ok (.iload_n 1, 1) := by decide +kernel
theorem dX10_puts_9 : decode cX10_puts 9 = .ok (.imul, 1) := by decide +kernel
theorem dX10_puts_10 : decode cX10_puts 10 = .ok (.iadd, 1) := by decide +kernel
theorem dX10_puts_11 : decode cX10_puts 11 = .ok (.iload_n 2, 1) := by decide +kernel
theorem dX10_puts_12 : decode cX10_puts 12 = .ok (.iadd, 1) := by decide +kernel
theorem dX10_puts_13 : decode cX10_puts 13 = .ok (.iload_n 3, 1) := by decide +kernel
theorem dX10_puts_14 : decode cX10_puts 14 = .ok (.iastore, 1) := by decide +kernel
theorem dX10_puts_15 : decode cX10_puts 15 = .ok (.return_, 1) := by decide +kernel
def fX10_puts (M : Mm) (x1 : Int32) (x2 : Int32) (x3 : Int32) : Option Mm := if (((16 : Int32) + ((6 : Int32) * x1)) + x2) < 0 ∨ 280 ≤ (((16 : Int32) + ((6 : Int32) * x1)) + x2).toNatClampNeg then none else some (putI M (19, 0, 0) (((16 : Int32) + ((6 : Int32) * x1)) + x2).toNatClampNeg x3)
set_option maxRecDepth 20000 in
set_option maxHeartbeats 2000000 in
theorem sX10_puts {wv : Nat} (M : Mm) (x1 : Int32) (x2 : Int32) (x3 : Int32) {res : Mm} (h : fX10_puts M x1 x2 x3 = some res) : TF (wv + 1) yX10_puts cX10_puts 4 none 0 [.inr (18, 0, 0), .inl (.int x1), .inl (.int x2), .inl (.int x3)] M (none) res := by
  rw [fX10_puts] at h
  refine TF.go (n := 0) (ls := [some (.inr (18, 0, 0)), some (.inl (.int x1)), some (.inl (.int x2)), some (.inl (.int x3))]) rfl rfl rfl rfl rfl ?_
  refine z_aload_n (i := 0) dX10_puts_0 rfl rfl ?_
  refine z_getR (r' := (19, 0, 0)) dX10_puts_1 fl_X10_7 mk18 rfl rfl ?_
  refine z_bipush (v := (16 : Int32)) dX10_puts_4 kb_16 ?_
  refine z_bipush (v := (6 : Int32)) dX10_puts_6 kb_6 ?_
  refine z_iload_n (i := 1) dX10_puts_8 rfl rfl ?_
  refine z_imul dX10_puts_9 ?_
  refine z_iadd dX10_puts_10 ?_
  refine z_iload_n (i := 2) dX10_puts_11 rfl rfl ?_
  refine z_iadd dX10_puts_12 ?_
  refine z_iload_n (i := 3) dX10_puts_13 rfl rfl ?_
  obtain ⟨hc1, h⟩ := chk h
  refine z_iast (j := (((16 : Int32) + ((6 : Int32) * x1)) + x2).toNatClampNeg) allR_nd dX10_puts_14 (m19 _ (Nat.le_of_ble_eq_true rfl)) rfl hc1 rfl ?_
  cases h
  exact z_vret dX10_puts_15 rfl (Nat.le_refl _) (Nat.le_refl _) ⟨rfl, rfl⟩
theorem dX10_readsTooth_0 : decode cX10_readsTooth 0 = .ok (.aload_n 0, 1) := by decide +kernel
theorem dX10_readsTooth_1 : decode cX10_readsTooth 1 = .ok (.aload_n 0, 1) := by decide +kernel
theorem dX10_readsTooth_2 : decode cX10_readsTooth 2 = .ok (.ldc 171, 2) := by decide +kernel
theorem dX10_readsTooth_4 : decode cX10_readsTooth 4 = .ok (.invokevirtual 173, 3) := by decide +kernel
theorem dX10_readsTooth_7 : decode cX10_readsTooth 7 = .ok (.iconst 1, 1) := by decide +kernel
theorem dX10_readsTooth_8 : decode cX10_readsTooth 8 = .ok (.invokevirtual 161, 3) := by decide +kernel
theorem dX10_readsTooth_11 : decode cX10_readsTooth 11 = .ok (.pop, 1) := by decide +kernel
theorem dX10_readsTooth_12 : decode cX10_readsTooth 12 = .ok (.aload_n 0, 1) := by decide +kernel
theorem dX10_readsTooth_13 : decode cX10_readsTooth 13 = .ok (.aload_n 0, 1) := by decide +kernel
theorem dX10_readsTooth_14 : decode cX10_readsTooth 14 = .ok (.getfield 7, 3) := by decide +kernel
theorem dX10_readsTooth_17 : decode cX10_readsTooth 17 = .ok (.iconst 3, 1) := by decide +kernel
theorem dX10_readsTooth_18 : decode cX10_readsTooth 18 = .ok (.iaload, 1) := by decide +kernel
theorem dX10_readsTooth_19 : decode cX10_readsTooth 19 = .ok (.bipush 12, 2) := by decide +kernel
theorem dX10_readsTooth_21 : decode cX10_readsTooth 21 = .ok (.if_icmp .ge 7, 3) := by decide +kernel
theorem dX10_readsTooth_24 : decode cX10_readsTooth 24 = .ok (.iconst 1, 1) := by decide +kernel
theorem dX10_readsTooth_25 : decode cX10_readsTooth 25 = .ok (.goto 4, 3) := by decide +kernel
theorem dX10_readsTooth_28 : decode cX10_readsTooth 28 = .ok (.iconst 0, 1) := by decide +kernel
theorem dX10_readsTooth_29 : decode cX10_readsTooth 29 = .ok (.iconst 4, 1) := by decide +kernel
theorem dX10_readsTooth_30 : decode cX10_readsTooth 30 = .ok (.invokevirtual 161, 3) := by decide +kernel
theorem dX10_readsTooth_33 : decode cX10_readsTooth 33 = .ok (.pop, 1) := by decide +kernel
theorem dX10_readsTooth_34 : decode cX10_readsTooth 34 = .ok (.aload_n 0, 1) := by decide +kernel
theorem dX10_readsTooth_35 : decode cX10_readsTooth 35 = .ok (.invokevirtual 164, 3) := by decide +kernel
theorem dX10_readsTooth_38 : decode cX10_readsTooth 38 = .ok (.aload_n 0, 1) := by decide +kernel
theorem dX10_readsTooth_39 : decode cX10_readsTooth 39 = .ok (.iconst 0, 1) := by decide +kernel
theorem dX10_readsTooth_40 : decode cX10_readsTooth 40 = .ok (.bipush 60, 2) := by decide +kernel
theorem dX10_readsTooth_42 : decode cX10_readsTooth 42 = .ok (.invokevirtual 177, 3) := by decide +kernel
theorem dX10_readsTooth_45 : decode cX10_readsTooth 45 = .ok (.istore_n 1, 1) := by decide +kernel
theorem dX10_readsTooth_46 : decode cX10_readsTooth 46 = .ok (.aload_n 0, 1) := by decide +kernel
theorem dX10_readsTooth_47 : decode cX10_readsTooth 47 = .ok (.iconst 1, 1) := by decide +kernel
theorem dX10_readsTooth_48 : decode cX10_readsTooth 48 = .ok (.bipush 9, 2) := by decide +kernel
theorem dX10_readsTooth_50 : decode cX10_readsTooth 50 = .ok (.invokevirtual 177, 3) := by decide +kernel
theorem dX10_readsTooth_53 : decode cX10_readsTooth 53 = .ok (.istore_n 2, 1) := by decide +kernel
theorem dX10_readsTooth_54 : decode cX10_readsTooth 54 = .ok (.aload_n 0, 1) := by decide +kernel
theorem dX10_readsTooth_55 : decode cX10_readsTooth 55 = .ok (.bipush 10, 2) := by decide +kernel
theorem dX10_readsTooth_57 : decode cX10_readsTooth 57 = .ok (.sipush 999, 3) := by decide +kernel
theorem dX10_readsTooth_60 : decode cX10_readsTooth 60 = .ok (.invokevirtual 177, 3) := by decide +kernel
theorem dX10_readsTooth_63 : decode cX10_readsTooth 63 = .ok (.istore_n 3, 1) := by decide +kernel
theorem dX10_readsTooth_64 : decode cX10_readsTooth 64 = .ok (.aload_n 0, 1) := by decide +kernel
theorem dX10_readsTooth_65 : decode cX10_readsTooth 65 = .ok (.bipush 59, 2) := by decide +kernel
theorem dX10_readsTooth_67 : decode cX10_readsTooth 67 = .ok (.invokevirtual 180, 3) := by decide +kernel
theorem dX10_readsTooth_70 : decode cX10_readsTooth 70 = .ok (.aload_n 0, 1) := by decide +kernel
theorem dX10_readsTooth_71 : decode cX10_readsTooth 71 = .ok (.getfield 149, 3) := by decide +kernel
theorem dX10_readsTooth_74 : decode cX10_readsTooth 74 = .ok (.ifCond .eq 4, 3) := by decide +kernel
theorem dX10_readsTooth_77 : decode cX10_readsTooth 77 = .ok (.return_, 1) := by decide +kernel
theorem dX10_readsTooth_78 : decode cX10_readsTooth 78 = .ok (.aload_n 0, 1) := by decide +kernel
theorem dX10_readsTooth_79 : decode cX10_readsTooth 79 = .ok (.getfield 7, 3) := by decide +kernel
theorem dX10_readsTooth_82 : decode cX10_readsTooth 82 = .ok (.iconst 3, 1) := by decide +kernel
theorem dX10_readsTooth_83 : decode cX10_readsTooth 83 = .ok (.iaload, 1) := by decide +kernel
theorem dX10_readsTooth_84 : decode cX10_readsTooth 84 = .ok (.istore 4, 2) := by decide +kernel
theorem dX10_readsTooth_86 : decode cX10_readsTooth 86 = .ok (.aload_n 0, 1) := by decide +kernel
theorem dX10_readsTooth_87 : decode cX10_readsTooth 87 = .ok (.iload 4, 2) := by decide +kernel
theorem dX10_readsTooth_89 : decode cX10_readsTooth 89 = .ok (.iconst 0, 1) := by decide +kernel
theorem dX10_readsTooth_90 : decode cX10_readsTooth 90 = .ok (.iload_n 1, 1) := by decide +kernel
theorem dX10_readsTooth_91 : decode cX10_readsTooth 91 = .ok (.invokevirtual 108, 3) := by decide +kernel
theorem dX10_readsTooth_94 : decode cX10_readsTooth 94 = .ok (.aload_n 0, 1) := by decide +kernel
theorem dX10_readsTooth_95 : decode cX10_readsTooth 95 = .ok (.iload 4, 2) := by decide +kernel
theorem dX10_readsTooth_97 : decode cX10_readsTooth 97 = .ok (.iconst 2, 1) := by decide +kernel
theorem dX10_readsTooth_98 : decode cX10_readsTooth 98 = .ok (.iload_n 2, 1) := by decide +kernel
theorem dX10_readsTooth_99 : decode cX10_readsTooth 99 = .ok (.invokevirtual 108, 3) := by decide +kernel
theorem dX10_readsTooth_102 : decode cX10_readsTooth 102 = .ok (.aload_n 0, 1) := by decide +kernel
theorem dX10_readsTooth_103 : decode cX10_readsTooth 103 = .ok (.iload 4, 2) := by decide +kernel
theorem dX10_readsTooth_105 : decode cX10_readsTooth 105 = .ok (.iconst 3, 1) := by decide +kernel
theorem dX10_readsTooth_106 : decode cX10_readsTooth 106 = .ok (.iload_n 3, 1) := by decide +kernel
theorem dX10_readsTooth_107 : decode cX10_readsTooth 107 = .ok (.invokevirtual 108, 3) := by decide +kernel
theorem dX10_readsTooth_110 : decode cX10_readsTooth 110 = .ok (.aload_n 0, 1) := by decide +kernel
theorem dX10_readsTooth_111 : decode cX10_readsTooth 111 = .ok (.iload 4, 2) := by decide +kernel
theorem dX10_readsTooth_113 : decode cX10_readsTooth 113 = .ok (.iconst 5, 1) := by decide +kernel
theorem dX10_readsTooth_114 : decode cX10_readsTooth 114 = .ok (.bipush 99, 2) := by decide +kernel
theorem dX10_readsTooth_116 : decode cX10_readsTooth 116 = .ok (.invokevirtual 108, 3) := by decide +kernel
theorem dX10_readsTooth_119 : decode cX10_readsTooth 119 = .ok (.aload_n 0, 1) := by decide +kernel
theorem dX10_readsTooth_120 : decode cX10_readsTooth 120 = .ok (.getfield 7, 3) := by decide +kernel
theorem dX10_readsTooth_123 : decode cX10_readsTooth 123 = .ok (.iconst 3, 1) := by decide +kernel
theorem dX10_readsTooth_124 : decode cX10_readsTooth 124 = .ok (.dup2, 1) := by decide +kernel
theorem dX10_readsTooth_125 : decode cX10_readsTooth 125 = .ok (.iaload, 1) := by decide +kernel
theorem dX10_readsTooth_126 : decode cX10_readsTooth 126 = .ok (.iconst 1, 1) := by decide +kernel
theorem dX10_readsTooth_127 : decode cX10_readsTooth 127 = .ok (.iadd, 1) := by decide +kernel
theorem dX10_readsTooth_128 : decode cX10_readsTooth 128 = .ok (.iastore, 1) := by decide +kernel
theorem dX10_readsTooth_129 : decode cX10_readsTooth 129 = .ok (.return_, 1) := by decide +kernel
def fX10_readsTooth (M : Mm) : Option Mm := (fX10_isWord M 2).bind fun q1 => (fX10_must M q1 (1 : Int32)).bind fun q3 => if (12 : Int32) ≤ (q3.2.1 (19, 0, 0) 3) then ((fX10_must q3.2 (0 : Int32) (4 : Int32)).bind fun q6 => (fX10_goesOn q6.2).bind fun q8 => (fX10_number q8 (0 : Int32) (60 : Int32)).bind fun q10 => (fX10_number q10.2 (1 : Int32) (9 : Int32)).bind fun q12 => (fX10_number q12.2 (10 : Int32) (999 : Int32)).bind fun q14 => (fX10_takesSign q14.2 (59 : Int32)).bind fun q16 => if (q16.1 (18, 0, 0) 17) = 0 then ((fX10_puts q16 (q16.1 (19, 0, 0) 3) (0 : Int32) q10.1).bind fun q19 => (fX10_puts q19 (q16.1 (19, 0, 0) 3) (2 : Int32) q12.1).bind fun q21 => (fX10_puts q21 (q16.1 (19, 0, 0) 3) (3 : Int32) q14.1).bind fun q23 => (fX10_puts q23 (q16.1 (19, 0, 0) 3) (5 : Int32) (99 : Int32)).bind fun q25 => some (putI q25 (19, 0, 0) 3 ((q25.1 (19, 0, 0) 3) + (1 : Int32)))) else some q16) else (fX10_must q3.2 (1 : Int32) (4 : Int32)).bind fun q27 => (fX10_goesOn q27.2).bind fun q29 => (fX10_number q29 (0 : Int32) (60 : Int32)).bind fun q31 => (fX10_number q31.2 (1 : Int32) (9 : Int32)).bind fun q33 => (fX10_number q33.2 (10 : Int32) (999 : Int32)).bind fun q35 => (fX10_takesSign q35.2 (59 : Int32)).bind fun q37 => if (q37.1 (18, 0, 0) 17) = 0 then ((fX10_puts q37 (q37.1 (19, 0, 0) 3) (0 : Int32) q31.1).bind fun q40 => (fX10_puts q40 (q37.1 (19, 0, 0) 3) (2 : Int32) q33.1).bind fun q42 => (fX10_puts q42 (q37.1 (19, 0, 0) 3) (3 : Int32) q35.1).bind fun q44 => (fX10_puts q44 (q37.1 (19, 0, 0) 3) (5 : Int32) (99 : Int32)).bind fun q46 => some (putI q46 (19, 0, 0) 3 ((q46.1 (19, 0, 0) 3) + (1 : Int32)))) else some q37
set_option maxRecDepth 20000 in
set_option maxHeartbeats 2000000 in
theorem sX10_readsTooth {wv : Nat} (M : Mm) {res : Mm} (h : fX10_readsTooth M  = some res) : TF (wv + 1) yX10_readsTooth cX10_readsTooth 5 none 8 [.inr (18, 0, 0)] M (none) res := by
  rw [fX10_readsTooth] at h
  refine TF.go (n := 4) (ls := [some (.inr (18, 0, 0)), none, none, none, none]) rfl rfl rfl rfl rfl ?_
  refine z_aload_n (i := 0) dX10_readsTooth_0 rfl rfl ?_
  refine z_aload_n (i := 0) dX10_readsTooth_1 rfl rfl ?_
  refine z_ldcS (j := 2) dX10_readsTooth_2 sw_RX10_171 ?_
  obtain ⟨q1, hq2, h⟩ := bnd h
  refine z_fVi (sX10_isWord M 2 (Nat.le_of_ble_eq_true rfl) hq2) dX10_readsTooth_4 ml_X10_173 cd_X10_isWord mk18 rfl rfl rfl rfl rfl rfl ?_
  refine z_iconst (v := (1 : Int32)) dX10_readsTooth_7 kc_1 ?_
  obtain ⟨q3, hq4, h⟩ := bnd h
  refine z_fVi (sX10_must M q1 (1 : Int32) hq4) dX10_readsTooth_8 ml_X10_161 cd_X10_must mk18 rfl rfl rfl rfl rfl rfl ?_
  refine z_pop dX10_readsTooth_11 rfl ?_
  refine z_aload_n (i := 0) dX10_readsTooth_12 rfl rfl ?_
  refine z_aload_n (i := 0) dX10_readsTooth_13 rfl rfl ?_
  refine z_getR (r' := (19, 0, 0)) dX10_readsTooth_14 fl_X10_7 mk18 rfl rfl ?_
  refine z_iconst (v := (3 : Int32)) dX10_readsTooth_17 kc_3 ?_
  refine z_iald (x := (q3.2.1 (19, 0, 0) 3)) dX10_readsTooth_18 (m19 _ (Nat.le_of_ble_eq_true rfl)) rfl (by decide) rfl ?_
  refine z_bipush (v := (12 : Int32)) dX10_readsTooth_19 kb_12 ?_
  refine z_icmp_ge (tgt := 28) dX10_readsTooth_21 rfl (fun hc5 => ?_) (fun hc5 => ?_)
  · have h := it_t h hc5
    refine z_iconst (v := (0 : Int32)) dX10_readsTooth_28 kc_0 ?_
    refine z_iconst (v := (4 : Int32)) dX10_readsTooth_29 kc_4 ?_
    obtain ⟨q6, hq7, h⟩ := bnd h
    refine z_fVi (sX10_must q3.2 (0 : Int32) (4 : Int32) hq7) dX10_readsTooth_30 ml_X10_161 cd_X10_must mk18 rfl rfl rfl rfl rfl rfl ?_
    refine z_pop dX10_readsTooth_33 rfl ?_
    refine z_aload_n (i := 0) dX10_readsTooth_34 rfl rfl ?_
    obtain ⟨q8, hq9, h⟩ := bnd h
    refine z_fVv (sX10_goesOn q6.2 hq9) dX10_readsTooth_35 ml_X10_164 cd_X10_goesOn mk18 rfl rfl rfl rfl rfl rfl ?_
    refine z_aload_n (i := 0) dX10_readsTooth_38 rfl rfl ?_
    refine z_iconst (v := (0 : Int32)) dX10_readsTooth_39 kc_0 ?_
    refine z_bipush (v := (60 : Int32)) dX10_readsTooth_40 kb_60 ?_
    obtain ⟨q10, hq11, h⟩ := bnd h
    refine z_fVi (sX10_number q8 (0 : Int32) (60 : Int32) hq11) dX10_readsTooth_42 ml_X10_177 cd_X10_number mk18 rfl rfl rfl rfl rfl rfl ?_
    refine z_istore_n (i := 1) dX10_readsTooth_45 rfl (Nat.le_of_ble_eq_true rfl) rfl ?_
    refine z_aload_n (i := 0) dX10_readsTooth_46 rfl rfl ?_
    refine z_iconst (v := (1 : Int32)) dX10_readsTooth_47 kc_1 ?_
    refine z_bipush (v := (9 : Int32)) dX10_readsTooth_48 kb_9 ?_
    obtain ⟨q12, hq13, h⟩ := bnd h
    refine z_fVi (sX10_number q10.2 (1 : Int32) (9 : Int32) hq13) dX10_readsTooth_50 ml_X10_177 cd_X10_number mk18 rfl rfl rfl rfl rfl rfl ?_
    refine z_istore_n (i := 2) dX10_readsTooth_53 rfl (Nat.le_of_ble_eq_true rfl) rfl ?_
    refine z_aload_n (i := 0) dX10_readsTooth_54 rfl rfl ?_
    refine z_bipush (v := (10 : Int32)) dX10_readsTooth_55 kb_10 ?_
    refine z_sipush (v := (999 : Int32)) dX10_readsTooth_57 ks_999 ?_
    obtain ⟨q14, hq15, h⟩ := bnd h
    refine z_fVi (sX10_number q12.2 (10 : Int32) (999 : Int32) hq15) dX10_readsTooth_60 ml_X10_177 cd_X10_number mk18 rfl rfl rfl rfl rfl rfl ?_
    refine z_istore_n (i := 3) dX10_readsTooth_63 rfl (Nat.le_of_ble_eq_true rfl) rfl ?_
    refine z_aload_n (i := 0) dX10_readsTooth_64 rfl rfl ?_
    refine z_bipush (v := (59 : Int32)) dX10_readsTooth_65 kb_59 ?_
    obtain ⟨q16, hq17, h⟩ := bnd h
    refine z_fVv (sX10_takesSign q14.2 (59 : Int32) hq17) dX10_readsTooth_67 ml_X10_180 cd_X10_takesSign mk18 rfl rfl rfl rfl rfl rfl ?_
    refine z_aload_n (i := 0) dX10_readsTooth_70 rfl rfl ?_
    refine z_getI (x := (q16.1 (18, 0, 0) 17)) dX10_readsTooth_71 fl_X10_149 mk18 rfl rfl ?_
    refine z_if_eq (tgt := 78) dX10_readsTooth_74 rfl (fun hc18 => ?_) (fun hc18 => ?_)
    · have h := it_t h hc18
      refine z_aload_n (i := 0) dX10_readsTooth_78 rfl rfl ?_
      refine z_getR (r' := (19, 0, 0)) dX10_readsTooth_79 fl_X10_7 mk18 rfl rfl ?_
      refine z_iconst (v := (3 : Int32)) dX10_readsTooth_82 kc_3 ?_
      refine z_iald (x := (q16.1 (19, 0, 0) 3)) dX10_readsTooth_83 (m19 _ (Nat.le_of_ble_eq_true rfl)) rfl (by decide) rfl ?_
      refine z_istore (i := 4) dX10_readsTooth_84 (Nat.le_of_ble_eq_true rfl) rfl ?_
      refine z_aload_n (i := 0) dX10_readsTooth_86 rfl rfl ?_
      refine z_iload (i := 4) dX10_readsTooth_87 rfl ?_
      refine z_iconst (v := (0 : Int32)) dX10_readsTooth_89 kc_0 ?_
      refine z_iload_n (i := 1) dX10_readsTooth_90 rfl rfl ?_
      obtain ⟨q19, hq20, h⟩ := bnd h
      refine z_fVv (sX10_puts q16 (q16.1 (19, 0, 0) 3) (0 : Int32) q10.1 hq20) dX10_readsTooth_91 ml_X10_108 cd_X10_puts mk18 rfl rfl rfl rfl rfl rfl ?_
      refine z_aload_n (i := 0) dX10_readsTooth_94 rfl rfl ?_
      refine z_iload (i := 4) dX10_readsTooth_95 rfl ?_
      refine z_iconst (v := (2 : Int32)) dX10_readsTooth_97 kc_2 ?_
      refine z_iload_n (i := 2) dX10_readsTooth_98 rfl rfl ?_
      obtain ⟨q21, hq22, h⟩ := bnd h
      refine z_fVv (sX10_puts q19 (q16.1 (19, 0, 0) 3) (2 : Int32) q12.1 hq22) dX10_readsTooth_99 ml_X10_108 cd_X10_puts mk18 rfl rfl rfl rfl rfl rfl ?_
      refine z_aload_n (i := 0) dX10_readsTooth_102 rfl rfl ?_
      refine z_iload (i := 4) dX10_readsTooth_103 rfl ?_
      refine z_iconst (v := (3 : Int32)) dX10_readsTooth_105 kc_3 ?_
      refine z_iload_n (i := 3) dX10_readsTooth_106 rfl rfl ?_
      obtain ⟨q23, hq24, h⟩ := bnd h
      refine z_fVv (sX10_puts q21 (q16.1 (19, 0, 0) 3) (3 : Int32) q14.1 hq24) dX10_readsTooth_107 ml_X10_108 cd_X10_puts mk18 rfl rfl rfl rfl rfl rfl ?_
      refine z_aload_n (i := 0) dX10_readsTooth_110 rfl rfl ?_
      refine z_iload (i := 4) dX10_readsTooth_111 rfl ?_
      refine z_iconst (v := (5 : Int32)) dX10_readsTooth_113 kc_5 ?_
      refine z_bipush (v := (99 : Int32)) dX10_readsTooth_114 kb_99 ?_
      obtain ⟨q25, hq26, h⟩ := bnd h
      refine z_fVv (sX10_puts q23 (q16.1 (19, 0, 0) 3) (5 : Int32) (99 : Int32) hq26) dX10_readsTooth_116 ml_X10_108 cd_X10_puts mk18 rfl rfl rfl rfl rfl rfl ?_
      refine z_aload_n (i := 0) dX10_readsTooth_119 rfl rfl ?_
      refine z_getR (r' := (19, 0, 0)) dX10_readsTooth_120 fl_X10_7 mk18 rfl rfl ?_
      refine z_iconst (v := (3 : Int32)) dX10_readsTooth_123 kc_3 ?_
      refine z_dup2 dX10_readsTooth_124 rfl rfl ?_
      refine z_iald (x := (q25.1 (19, 0, 0) 3)) dX10_readsTooth_125 (m19 _ (Nat.le_of_ble_eq_true rfl)) rfl (by decide) rfl ?_
      refine z_iconst (v := (1 : Int32)) dX10_readsTooth_126 kc_1 ?_
      refine z_iadd dX10_readsTooth_127 ?_
      refine z_iast (j := 3) allR_nd dX10_readsTooth_128 (m19 _ (Nat.le_of_ble_eq_true rfl)) rfl (by decide) rfl ?_
      cases h
      exact z_vret dX10_readsTooth_129 rfl (Nat.le_refl _) (Nat.le_refl _) ⟨rfl, rfl⟩
    · have h := it_f h hc18
      cases h
      exact z_vret dX10_readsTooth_77 rfl (Nat.le_refl _) (Nat.le_refl _) ⟨rfl, rfl⟩
  · have h := it_f h hc5
    refine z_iconst (v := (1 : Int32)) dX10_readsTooth_24 kc_1 ?_
    refine z_goto (tgt := 29) dX10_readsTooth_25 rfl ?_
    refine z_iconst (v := (4 : Int32)) dX10_readsTooth_29 kc_4 ?_
    obtain ⟨q27, hq28, h⟩ := bnd h
    refine z_fVi (sX10_must q3.2 (1 : Int32) (4 : Int32) hq28) dX10_readsTooth_30 ml_X10_161 cd_X10_must mk18 rfl rfl rfl rfl rfl rfl ?_
    refine z_pop dX10_readsTooth_33 rfl ?_
    refine z_aload_n (i := 0) dX10_readsTooth_34 rfl rfl ?_
    obtain ⟨q29, hq30, h⟩ := bnd h
    refine z_fVv (sX10_goesOn q27.2 hq30) dX10_readsTooth_35 ml_X10_164 cd_X10_goesOn mk18 rfl rfl rfl rfl rfl rfl ?_
    refine z_aload_n (i := 0) dX10_readsTooth_38 rfl rfl ?_
    refine z_iconst (v := (0 : Int32)) dX10_readsTooth_39 kc_0 ?_
    refine z_bipush (v := (60 : Int32)) dX10_readsTooth_40 kb_60 ?_
    obtain ⟨q31, hq32, h⟩ := bnd h
    refine z_fVi (sX10_number q29 (0 : Int32) (60 : Int32) hq32) dX10_readsTooth_42 ml_X10_177 cd_X10_number mk18 rfl rfl rfl rfl rfl rfl ?_
    refine z_istore_n (i := 1) dX10_readsTooth_45 rfl (Nat.le_of_ble_eq_true rfl) rfl ?_
    refine z_aload_n (i := 0) dX10_readsTooth_46 rfl rfl ?_
    refine z_iconst (v := (1 : Int32)) dX10_readsTooth_47 kc_1 ?_
    refine z_bipush (v := (9 : Int32)) dX10_readsTooth_48 kb_9 ?_
    obtain ⟨q33, hq34, h⟩ := bnd h
    refine z_fVi (sX10_number q31.2 (1 : Int32) (9 : Int32) hq34) dX10_readsTooth_50 ml_X10_177 cd_X10_number mk18 rfl rfl rfl rfl rfl rfl ?_
    refine z_istore_n (i := 2) dX10_readsTooth_53 rfl (Nat.le_of_ble_eq_true rfl) rfl ?_
    refine z_aload_n (i := 0) dX10_readsTooth_54 rfl rfl ?_
    refine z_bipush (v := (10 : Int32)) dX10_readsTooth_55 kb_10 ?_
    refine z_sipush (v := (999 : Int32)) dX10_readsTooth_57 ks_999 ?_
    obtain ⟨q35, hq36, h⟩ := bnd h
    refine z_fVi (sX10_number q33.2 (10 : Int32) (999 : Int32) hq36) dX10_readsTooth_60 ml_X10_177 cd_X10_number mk18 rfl rfl rfl rfl rfl rfl ?_
    refine z_istore_n (i := 3) dX10_readsTooth_63 rfl (Nat.le_of_ble_eq_true rfl) rfl ?_
    refine z_aload_n (i := 0) dX10_readsTooth_64 rfl rfl ?_
    refine z_bipush (v := (59 : Int32)) dX10_readsTooth_65 kb_59 ?_
    obtain ⟨q37, hq38, h⟩ := bnd h
    refine z_fVv (sX10_takesSign q35.2 (59 : Int32) hq38) dX10_readsTooth_67 ml_X10_180 cd_X10_takesSign mk18 rfl rfl rfl rfl rfl rfl ?_
    refine z_aload_n (i := 0) dX10_readsTooth_70 rfl rfl ?_
    refine z_getI (x := (q37.1 (18, 0, 0) 17)) dX10_readsTooth_71 fl_X10_149 mk18 rfl rfl ?_
    refine z_if_eq (tgt := 78) dX10_readsTooth_74 rfl (fun hc39 => ?_) (fun hc39 => ?_)
    · have h := it_t h hc39
      refine z_aload_n (i := 0) dX10_readsTooth_78 rfl rfl ?_
      refine z_getR (r' := (19, 0, 0)) dX10_readsTooth_79 fl_X10_7 mk18 rfl rfl ?_
      refine z_iconst (v := (3 : Int32)) dX10_readsTooth_82 kc_3 ?_
      refine z_iald (x := (q37.1 (19, 0, 0) 3)) dX10_readsTooth_83 (m19 _ (Nat.le_of_ble_eq_true rfl)) rfl (by decide) rfl ?_
      refine z_istore (i := 4) dX10_readsTooth_84 (Nat.le_of_ble_eq_true rfl) rfl ?_
      refine z_aload_n (i := 0) dX10_readsTooth_86 rfl rfl ?_
      refine z_iload (i := 4) dX10_readsTooth_87 rfl ?_
      refine z_iconst (v := (0 : Int32)) dX10_readsTooth_89 kc_0 ?_
      refine z_iload_n (i := 1) dX10_readsTooth_90 rfl rfl ?_
      obtain ⟨q40, hq41, h⟩ := bnd h
      refine z_fVv (sX10_puts q37 (q37.1 (19, 0, 0) 3) (0 : Int32) q31.1 hq41) dX10_readsTooth_91 ml_X10_108 cd_X10_puts mk18 rfl rfl rfl rfl rfl rfl ?_
      refine z_aload_n (i := 0) dX10_readsTooth_94 rfl rfl ?_
      refine z_iload (i := 4) dX10_readsTooth_95 rfl ?_
      refine z_iconst (v := (2 : Int32)) dX10_readsTooth_97 kc_2 ?_
      refine z_iload_n (i := 2) dX10_readsTooth_98 rfl rfl ?_
      obtain ⟨q42, hq43, h⟩ := bnd h
      refine z_fVv (sX10_puts q40 (q37.1 (19, 0, 0) 3) (2 : Int32) q33.1 hq43) dX10_readsTooth_99 ml_X10_108 cd_X10_puts mk18 rfl rfl rfl rfl rfl rfl ?_
      refine z_aload_n (i := 0) dX10_readsTooth_102 rfl rfl ?_
      refine z_iload (i := 4) dX10_readsTooth_103 rfl ?_
      refine z_iconst (v := (3 : Int32)) dX10_readsTooth_105 kc_3 ?_
      refine z_iload_n (i := 3) dX10_readsTooth_106 rfl rfl ?_
      obtain ⟨q44, hq45, h⟩ := bnd h
      refine z_fVv (sX10_puts q42 (q37.1 (19, 0, 0) 3) (3 : Int32) q35.1 hq45) dX10_readsTooth_107 ml_X10_108 cd_X10_puts mk18 rfl rfl rfl rfl rfl rfl ?_
      refine z_aload_n (i := 0) dX10_readsTooth_110 rfl rfl ?_
      refine z_iload (i := 4) dX10_readsTooth_111 rfl ?_
      refine z_iconst (v := (5 : Int32)) dX10_readsTooth_113 kc_5 ?_
      refine z_bipush (v := (99 : Int32)) dX10_readsTooth_114 kb_99 ?_
      obtain ⟨q46, hq47, h⟩ := bnd h
      refine z_fVv (sX10_puts q44 (q37.1 (19, 0, 0) 3) (5 : Int32) (99 : Int32) hq47) dX10_readsTooth_116 ml_X10_108 cd_X10_puts mk18 rfl rfl rfl rfl rfl rfl ?_
      refine z_aload_n (i := 0) dX10_readsTooth_119 rfl rfl ?_
      refine z_getR (r' := (19, 0, 0)) dX10_readsTooth_120 fl_X10_7 mk18 rfl rfl ?_
      refine z_iconst (v := (3 : Int32)) dX10_readsTooth_123 kc_3 ?_
      refine z_dup2 dX10_readsTooth_124 rfl rfl ?_
      refine z_iald (x := (q46.1 (19, 0, 0) 3)) dX10_readsTooth_125 (m19 _ (Nat.le_of_ble_eq_true rfl)) rfl (by decide) rfl ?_
      refine z_iconst (v := (1 : Int32)) dX10_readsTooth_126 kc_1 ?_
      refine z_iadd dX10_readsTooth_127 ?_
      refine z_iast (j := 3) allR_nd dX10_readsTooth_128 (m19 _ (Nat.le_of_ble_eq_true rfl)) rfl (by decide) rfl ?_
      cases h
      exact z_vret dX10_readsTooth_129 rfl (Nat.le_refl _) (Nat.le_refl _) ⟨rfl, rfl⟩
    · have h := it_f h hc39
      cases h
      exact z_vret dX10_readsTooth_77 rfl (Nat.le_refl _) (Nat.le_refl _) ⟨rfl, rfl⟩
theorem dX10_set_0 : decode cX10_set 0 = .ok (.aload_n 0, 1) := by decide +kernel
theorem dX10_set_1 : decode cX10_set 1 = .ok (.getfield 7, 3) := by decide +kernel
theorem dX10_set_4 : decode cX10_set 4 = .ok (.bipush 88, 2) := by decide +kernel
theorem dX10_set_6 : decode cX10_set 6 = .ok (.bipush 64, 2) := by decide +kernel
theorem dX10_set_8 : decode cX10_set 8 = .ok (.iload_n 1, 1) := by decide +kernel
theorem dX10_set_9 : decode cX10_set 9 = .ok (.imul, 1) := by decide +kernel
theorem dX10_set_10 : decode cX10_set 10 = .ok (.iadd, 1) := by decide +kernel
theorem dX10_set_11 : decode cX10_set 11 = .ok (.iload_n 2, 1) := by decide +kernel
theorem dX10_set_12 : decode cX10_set 12 = .ok (.iadd, 1) := by decide +kernel
theorem dX10_set_13 : decode cX10_set 13 = .ok (.iaload, 1) := by decide +kernel
theorem dX10_set_14 : decode cX10_set 14 = .ok (.ireturn, 1) := by decide +kernel
def fX10_set (M : Mm) (x1 : Int32) (x2 : Int32) : Option Int32 := if (((88 : Int32) + ((64 : Int32) * x1)) + x2) < 0 ∨ 280 ≤ (((88 : Int32) + ((64 : Int32) * x1)) + x2).toNatClampNeg then none else some (M.1 (19, 0, 0) (((88 : Int32) + ((64 : Int32) * x1)) + x2).toNatClampNeg)
set_option maxRecDepth 20000 in
set_option maxHeartbeats 2000000 in
theorem sX10_set {wv : Nat} (M : Mm) (x1 : Int32) (x2 : Int32) {res : Int32} (h : fX10_set M x1 x2 = some res) : TF (wv + 1) yX10_set cX10_set 3 (some .int) 0 [.inr (18, 0, 0), .inl (.int x1), .inl (.int x2)] M (some (.int res)) M := by
  rw [fX10_set] at h
  refine TF.go (n := 0) (ls := [some (.inr (18, 0, 0)), some (.inl (.int x1)), some (.inl (.int x2))]) rfl rfl rfl rfl rfl ?_
  refine z_aload_n (i := 0) dX10_set_0 rfl rfl ?_
  refine z_getR (r' := (19, 0, 0)) dX10_set_1 fl_X10_7 mk18 rfl rfl ?_
  refine z_bipush (v := (88 : Int32)) dX10_set_4 kb_88 ?_
  refine z_bipush (v := (64 : Int32)) dX10_set_6 kb_64 ?_
  refine z_iload_n (i := 1) dX10_set_8 rfl rfl ?_
  refine z_imul dX10_set_9 ?_
  refine z_iadd dX10_set_10 ?_
  refine z_iload_n (i := 2) dX10_set_11 rfl rfl ?_
  refine z_iadd dX10_set_12 ?_
  obtain ⟨hc1, h⟩ := chk h
  refine z_iald (x := (M.1 (19, 0, 0) (((88 : Int32) + ((64 : Int32) * x1)) + x2).toNatClampNeg)) dX10_set_13 (m19 _ (Nat.le_of_ble_eq_true rfl)) rfl hc1 rfl ?_
  cases h
  exact z_iret dX10_set_14 rfl rfl (Nat.le_refl _) (Nat.le_refl _) ⟨rfl, rfl⟩
theorem dX10_has_0 : decode cX10_has 0 = .ok (.aload_n 0, 1) := by decide +kernel
theorem dX10_has_1 : decode cX10_has 1 = .ok (.iload_n 1, 1) := by decide +kernel
theorem dX10_has_2 : decode cX10_has 2 = .ok (.iload_n 3, 1) := by decide +kernel
theorem dX10_has_3 : decode cX10_has 3 = .ok (.invokevirtual 86, 3) := by decide +kernel
theorem dX10_has_6 : decode cX10_has 6 = .ok (.iload_n 2, 1) := by decide +kernel
theorem dX10_has_7 : decode cX10_has 7 = .ok (.ishr, 1) := by decide +kernel
theorem dX10_has_8 : decode cX10_has 8 = .ok (.iconst 1, 1) := by decide +kernel
theorem dX10_has_9 : decode cX10_has 9 = .ok (.iand, 1) := by decide +kernel
theorem dX10_has_10 : decode cX10_has 10 = .ok (.iconst 1, 1) := by decide +kernel
theorem dX10_has_11 : decode cX10_has 11 = .ok (.if_icmp .ne 7, 3) := by decide +kernel
theorem dX10_has_14 : decode cX10_has 14 = .ok (.iconst 1, 1) := by decide +kernel
theorem dX10_has_15 : decode cX10_has 15 = .ok (.goto 4, 3) := by decide +kernel
theorem dX10_has_18 : decode cX10_has 18 = .ok (.iconst 0, 1) := by decide +kernel
theorem dX10_has_19 : decode cX10_has 19 = .ok (.ireturn, 1) := by decide +kernel
def fX10_has (M : Mm) (x1 : Int32) (x2 : Int32) (x3 : Int32) : Option Int32 := (fX10_set M x1 x3).bind fun q1 => if ((q1 >>> (x2 &&& 31)) &&& (1 : Int32)) = (1 : Int32) then some (1 : Int32) else some (0 : Int32)
set_option maxRecDepth 20000 in
set_option maxHeartbeats 2000000 in
theorem sX10_has {wv : Nat} (M : Mm) (x1 : Int32) (x2 : Int32) (x3 : Int32) {res : Int32} (h : fX10_has M x1 x2 x3 = some res) : TF (wv + 1) yX10_has cX10_has 4 (some .boolean) 1 [.inr (18, 0, 0), .inl (.int x1), .inl (.int x2), .inl (.int x3)] M (some (.int res)) M := by
  rw [fX10_has] at h
  refine TF.go (n := 0) (ls := [some (.inr (18, 0, 0)), some (.inl (.int x1)), some (.inl (.int x2)), some (.inl (.int x3))]) rfl rfl rfl rfl rfl ?_
  refine z_aload_n (i := 0) dX10_has_0 rfl rfl ?_
  refine z_iload_n (i := 1) dX10_has_1 rfl rfl ?_
  refine z_iload_n (i := 3) dX10_has_2 rfl rfl ?_
  obtain ⟨q1, hq2, h⟩ := bnd h
  refine z_fVi (sX10_set M x1 x3 hq2) dX10_has_3 ml_X10_86 cd_X10_set mk18 rfl rfl rfl rfl rfl rfl ?_
  refine z_iload_n (i := 2) dX10_has_6 rfl rfl ?_
  refine z_ishr dX10_has_7 ?_
  refine z_iconst (v := (1 : Int32)) dX10_has_8 kc_1 ?_
  refine z_iand dX10_has_9 ?_
  refine z_iconst (v := (1 : Int32)) dX10_has_10 kc_1 ?_
  refine z_icmp_ne (tgt := 18) dX10_has_11 rfl (fun hc3 => ?_) (fun hc3 => ?_)
  · have h := it_f h hc3
    refine z_iconst (v := (0 : Int32)) dX10_has_18 kc_0 ?_
    cases h
    exact z_iret dX10_has_19 rfl rfl (Nat.le_refl _) (Nat.le_refl _) ⟨rfl, rfl⟩
  · have h := it_t h hc3
    refine z_iconst (v := (1 : Int32)) dX10_has_14 kc_1 ?_
    refine z_goto (tgt := 19) dX10_has_15 rfl ?_
    cases h
    exact z_iret dX10_has_19 rfl rfl (Nat.le_refl _) (Nat.le_refl _) ⟨rfl, rfl⟩
theorem dX10_putSet_0 : decode cX10_putSet 0 = .ok (.aload_n 0, 1) := by decide +kernel
theorem dX10_putSet_1 : decode cX10_putSet 1 = .ok (.getfield 7, 3) := by decide +kernel
theorem dX10_putSet_4 : decode cX10_putSet 4 = .ok (.bipush 88, 2) := by decide +kernel
theorem dX10_putSet_6 : decode cX10_putSet 6 = .ok (.bipush 64, 2) := by decide +kernel
theorem dX10_putSet_8 : decode cX10_putSet 8 = .ok (.iload_n 1, 1) := by decide +kernel
theorem dX10_putSet_9 : decode cX10_putSet 9 = .ok (.imul, 1) := by decide +kernel
theorem dX10_putSet_10 : decode cX10_putSet 10 = .ok (.iadd, 1) := by decide +kernel
theorem dX10_putSet_11 : decode cX10_putSet 11 = .ok (.iload_n 2, 1) := by decide +kernel
theorem dX10_putSet_12 : decode cX10_putSet 12 = .ok (.iadd, 1) := by decide +kernel
theorem dX10_putSet_13 : decode cX10_putSet 13 = .ok (.iload_n 3, 1) := by decide +kernel
theorem dX10_putSet_14 : decode cX10_putSet 14 = .ok (.iastore, 1) := by decide +kernel
theorem dX10_putSet_15 : decode cX10_putSet 15 = .ok (.return_, 1) := by decide +kernel
def fX10_putSet (M : Mm) (x1 : Int32) (x2 : Int32) (x3 : Int32) : Option Mm := if (((88 : Int32) + ((64 : Int32) * x1)) + x2) < 0 ∨ 280 ≤ (((88 : Int32) + ((64 : Int32) * x1)) + x2).toNatClampNeg then none else some (putI M (19, 0, 0) (((88 : Int32) + ((64 : Int32) * x1)) + x2).toNatClampNeg x3)
set_option maxRecDepth 20000 in
set_option maxHeartbeats 2000000 in
theorem sX10_putSet {wv : Nat} (M : Mm) (x1 : Int32) (x2 : Int32) (x3 : Int32) {res : Mm} (h : fX10_putSet M x1 x2 x3 = some res) : TF (wv + 1) yX10_putSet cX10_putSet 4 none 0 [.inr (18, 0, 0), .inl (.int x1), .inl (.int x2), .inl (.int x3)] M (none) res := by
  rw [fX10_putSet] at h
  refine TF.go (n := 0) (ls := [some (.inr (18, 0, 0)), some (.inl (.int x1)), some (.inl (.int x2)), some (.inl (.int x3))]) rfl rfl rfl rfl rfl ?_
  refine z_aload_n (i := 0) dX10_putSet_0 rfl rfl ?_
  refine z_getR (r' := (19, 0, 0)) dX10_putSet_1 fl_X10_7 mk18 rfl rfl ?_
  refine z_bipush (v := (88 : Int32)) dX10_putSet_4 kb_88 ?_
  refine z_bipush (v := (64 : Int32)) dX10_putSet_6 kb_64 ?_
  refine z_iload_n (i := 1) dX10_putSet_8 rfl rfl ?_
  refine z_imul dX10_putSet_9 ?_
  refine z_iadd dX10_putSet_10 ?_
  refine z_iload_n (i := 2) dX10_putSet_11 rfl rfl ?_
  refine z_iadd dX10_putSet_12 ?_
  refine z_iload_n (i := 3) dX10_putSet_13 rfl rfl ?_
  obtain ⟨hc1, h⟩ := chk h
  refine z_iast (j := (((88 : Int32) + ((64 : Int32) * x1)) + x2).toNatClampNeg) allR_nd dX10_putSet_14 (m19 _ (Nat.le_of_ble_eq_true rfl)) rfl hc1 rfl ?_
  cases h
  exact z_vret dX10_putSet_15 rfl (Nat.le_refl _) (Nat.le_refl _) ⟨rfl, rfl⟩
