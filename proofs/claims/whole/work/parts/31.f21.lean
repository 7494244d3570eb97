theorem dX10_vaning_0 : decode cX10_vaning 0 = .ok (.aload_n 0, 1) := by decide +kernel
theorem dX10_vaning_1 : decode cX10_vaning 1 = .ok (.iload_n 1, 1) := by decide +kernel
theorem dX10_vaning_2 : decode cX10_vaning 2 = .ok (.iconst 0, 1) := by decide +kernel
theorem dX10_vaning_3 : decode cX10_vaning 3 = .ok (.bipush 90, 2) := by decide +kernel
theorem dX10_vaning_5 : decode cX10_vaning 5 = .ok (.invokestatic 82, 3) := by decide +kernel
theorem dX10_vaning_8 : decode cX10_vaning 8 = .ok (.iconst 1, 1) := by decide +kernel
theorem dX10_vaning_9 : decode cX10_vaning 9 = .ok (.invokevirtual 127, 3) := by decide +kernel
theorem dX10_vaning_12 : decode cX10_vaning 12 = .ok (.ifCond .ne 5, 3) := by decide +kernel
theorem dX10_vaning_15 : decode cX10_vaning 15 = .ok (.iconst 0, 1) := by decide +kernel
theorem dX10_vaning_16 : decode cX10_vaning 16 = .ok (.ireturn, 1) := by decide +kernel
theorem dX10_vaning_17 : decode cX10_vaning 17 = .ok (.aload_n 0, 1) := by decide +kernel
theorem dX10_vaning_18 : decode cX10_vaning 18 = .ok (.invokevirtual 344, 3) := by decide +kernel
theorem dX10_vaning_21 : decode cX10_vaning 21 = .ok (.aload_n 0, 1) := by decide +kernel
theorem dX10_vaning_22 : decode cX10_vaning 22 = .ok (.getfield 7, 3) := by decide +kernel
theorem dX10_vaning_25 : decode cX10_vaning 25 = .ok (.iconst 2, 1) := by decide +kernel
theorem dX10_vaning_26 : decode cX10_vaning 26 = .ok (.iaload, 1) := by decide +kernel
theorem dX10_vaning_27 : decode cX10_vaning 27 = .ok (.istore_n 2, 1) := by decide +kernel
theorem dX10_vaning_28 : decode cX10_vaning 28 = .ok (.aload_n 0, 1) := by decide +kernel
theorem dX10_vaning_29 : decode cX10_vaning 29 = .ok (.getfield 7, 3) := by decide +kernel
theorem dX10_vaning_32 : decode cX10_vaning 32 = .ok (.iconst 2, 1) := by decide +kernel
theorem dX10_vaning_33 : decode cX10_vaning 33 = .ok (.iload_n 1, 1) := by decide +kernel
theorem dX10_vaning_34 : decode cX10_vaning 34 = .ok (.iastore, 1) := by decide +kernel
theorem dX10_vaning_35 : decode cX10_vaning 35 = .ok (.iload_n 2, 1) := by decide +kernel
theorem dX10_vaning_36 : decode cX10_vaning 36 = .ok (.ireturn, 1) := by decide +kernel
def fX10_vaning (M : Mm) (x1 : Int32) : Option (Int32 × Mm) := (fX10_right M (fX10_in M x1 (0 : Int32) (90 : Int32)) (1 : Int32)).bind fun q1 => if q1.1 = 0 then some ((0 : Int32), q1.2) else (fX10_changes q1.2).bind fun q4 => some ((q4.1 (19, 0, 0) 2), (putI q4 (19, 0, 0) 2 x1))
set_option maxRecDepth 20000 in
set_option maxHeartbeats 2000000 in
theorem sX10_vaning {wv : Nat} (M : Mm) (x1 : Int32) {res : (Int32 × Mm)} (h : fX10_vaning M x1 = some res) : TF (wv + 1) yX10_vaning cX10_vaning 3 (some .int) 2 [.inr (18, 0, 0), .inl (.int x1)] M (some (.int res.1)) res.2 := by
  rw [fX10_vaning] at h
  refine TF.go (n := 1) (ls := [some (.inr (18, 0, 0)), some (.inl (.int x1)), none]) rfl rfl rfl rfl rfl ?_
  refine z_aload_n (i := 0) dX10_vaning_0 rfl rfl ?_
  refine z_iload_n (i := 1) dX10_vaning_1 rfl rfl ?_
  refine z_iconst (v := (0 : Int32)) dX10_vaning_2 kc_0 ?_
  refine z_bipush (v := (90 : Int32)) dX10_vaning_3 kb_90 ?_
  refine z_fSi (sX10_in M x1 (0 : Int32) (90 : Int32)) dX10_vaning_5 ml_X10_82 cd_X10_in rfl rfl rfl rfl rfl ?_
  refine z_iconst (v := (1 : Int32)) dX10_vaning_8 kc_1 ?_
  obtain ⟨q1, hq2, h⟩ := bnd h
  refine z_fVi (sX10_right M (fX10_in M x1 (0 : Int32) (90 : Int32)) (1 : Int32) hq2) dX10_vaning_9 ml_X10_127 cd_X10_right mk18 rfl rfl rfl rfl rfl rfl ?_
  refine z_if_ne (tgt := 17) dX10_vaning_12 rfl (fun hc3 => ?_) (fun hc3 => ?_)
  · have h := it_f h hc3
    refine z_aload_n (i := 0) dX10_vaning_17 rfl rfl ?_
    obtain ⟨q4, hq5, h⟩ := bnd h
    refine z_fVv (sX10_changes q1.2 hq5) dX10_vaning_18 ml_X10_344 cd_X10_changes mk18 rfl rfl rfl rfl rfl rfl ?_
    refine z_aload_n (i := 0) dX10_vaning_21 rfl rfl ?_
    refine z_getR (r' := (19, 0, 0)) dX10_vaning_22 fl_X10_7 mk18 rfl rfl ?_
    refine z_iconst (v := (2 : Int32)) dX10_vaning_25 kc_2 ?_
    refine z_iald (x := (q4.1 (19, 0, 0) 2)) dX10_vaning_26 (m19 _ (Nat.le_of_ble_eq_true rfl)) rfl (by decide) rfl ?_
    refine z_istore_n (i := 2) dX10_vaning_27 rfl (Nat.le_of_ble_eq_true rfl) rfl ?_
    refine z_aload_n (i := 0) dX10_vaning_28 rfl rfl ?_
    refine z_getR (r' := (19, 0, 0)) dX10_vaning_29 fl_X10_7 mk18 rfl rfl ?_
    refine z_iconst (v := (2 : Int32)) dX10_vaning_32 kc_2 ?_
    refine z_iload_n (i := 1) dX10_vaning_33 rfl rfl ?_
    refine z_iast (j := 2) allR_nd dX10_vaning_34 (m19 _ (Nat.le_of_ble_eq_true rfl)) rfl (by decide) rfl ?_
    refine z_iload_n (i := 2) dX10_vaning_35 rfl rfl ?_
    cases h
    exact z_iret dX10_vaning_36 rfl rfl (Nat.le_refl _) (Nat.le_refl _) ⟨rfl, rfl⟩
  · have h := it_t h hc3
    refine z_iconst (v := (0 : Int32)) dX10_vaning_15 kc_0 ?_
    cases h
    exact z_iret dX10_vaning_16 rfl rfl (Nat.le_refl _) (Nat.le_refl _) ⟨rfl, rfl⟩
theorem dX10_winding_0 : decode cX10_winding 0 = .ok (.aload_n 0, 1) := by decide +kernel
theorem dX10_winding_1 : decode cX10_winding 1 = .ok (.iload_n 1, 1) := by decide +kernel
theorem dX10_winding_2 : decode cX10_winding 2 = .ok (.iconst 1, 1) := by decide +kernel
theorem dX10_winding_3 : decode cX10_winding 3 = .ok (.bipush 20, 2) := by decide +kernel
theorem dX10_winding_5 : decode cX10_winding 5 = .ok (.invokestatic 82, 3) := by decide +kernel
theorem dX10_winding_8 : decode cX10_winding 8 = .ok (.iconst 1, 1) := by decide +kernel
theorem dX10_winding_9 : decode cX10_winding 9 = .ok (.invokevirtual 127, 3) := by decide +kernel
theorem dX10_winding_12 : decode cX10_winding 12 = .ok (.ifCond .eq 29, 3) := by decide +kernel
theorem dX10_winding_15 : decode cX10_winding 15 = .ok (.aload_n 0, 1) := by decide +kernel
theorem dX10_winding_16 : decode cX10_winding 16 = .ok (.aload_n 0, 1) := by decide +kernel
theorem dX10_winding_17 : decode cX10_winding 17 = .ok (.getfield 7, 3) := by decide +kernel
theorem dX10_winding_20 : decode cX10_winding 20 = .ok (.iconst 1, 1) := by decide +kernel
theorem dX10_winding_21 : decode cX10_winding 21 = .ok (.iaload, 1) := by decide +kernel
theorem dX10_winding_22 : decode cX10_winding 22 = .ok (.iload_n 1, 1) := by decide +kernel
theorem dX10_winding_23 : decode cX10_winding 23 = .ok (.iadd, 1) := by decide +kernel
theorem dX10_winding_24 : decode cX10_winding 24 = .ok (.bipush 20, 2) := by decide +kernel
theorem dX10_winding_26 : decode cX10_winding 26 = .ok (.if_icmp .gt 7, 3) := by decide +kernel
theorem dX10_winding_29 : decode cX10_winding 29 = .ok (.iconst 1, 1) := by decide +kernel
theorem dX10_winding_30 : decode cX10_winding 30 = .ok (.goto 4, 3) := by decide +kernel
theorem dX10_winding_33 : decode cX10_winding 33 = .ok (.iconst 0, 1) := by decide +kernel
theorem dX10_winding_34 : decode cX10_winding 34 = .ok (.iconst 2, 1) := by decide +kernel
theorem dX10_winding_35 : decode cX10_winding 35 = .ok (.invokevirtual 127, 3) := by decide +kernel
theorem dX10_winding_38 : decode cX10_winding 38 = .ok (.ifCond .ne 5, 3) := by decide +kernel
theorem dX10_winding_41 : decode cX10_winding 41 = .ok (.iconst 0, 1) := by decide +kernel
theorem dX10_winding_42 : decode cX10_winding 42 = .ok (.ireturn, 1) := by decide +kernel
theorem dX10_winding_43 : decode cX10_winding 43 = .ok (.aload_n 0, 1) := by decide +kernel
theorem dX10_winding_44 : decode cX10_winding 44 = .ok (.invokevirtual 344, 3) := by decide +kernel
theorem dX10_winding_47 : decode cX10_winding 47 = .ok (.aload_n 0, 1) := by decide +kernel
theorem dX10_winding_48 : decode cX10_winding 48 = .ok (.getfield 7, 3) := by decide +kernel
theorem dX10_winding_51 : decode cX10_winding 51 = .ok (.iconst 1, 1) := by decide +kernel
theorem dX10_winding_52 : decode cX10_winding 52 = .ok (.dup2, 1) := by decide +kernel
theorem dX10_winding_53 : decode cX10_winding 53 = .ok (.iaload, 1) := by decide +kernel
theorem dX10_winding_54 : decode cX10_winding 54 = .ok (.iload_n 1, 1) := by decide +kernel
theorem dX10_winding_55 : decode cX10_winding 55 = .ok (.iadd, 1) := by decide +kernel
theorem dX10_winding_56 : decode cX10_winding 56 = .ok (.iastore, 1) := by decide +kernel
theorem dX10_winding_57 : decode cX10_winding 57 = .ok (.aload_n 0, 1) := by decide +kernel
theorem dX10_winding_58 : decode cX10_winding 58 = .ok (.getfield 7, 3) := by decide +kernel
theorem dX10_winding_61 : decode cX10_winding 61 = .ok (.iconst 1, 1) := by decide +kernel
theorem dX10_winding_62 : decode cX10_winding 62 = .ok (.iaload, 1) := by decide +kernel
theorem dX10_winding_63 : decode cX10_winding 63 = .ok (.ireturn, 1) := by decide +kernel
def fX10_winding (M : Mm) (x1 : Int32) : Option (Int32 × Mm) := (fX10_right M (fX10_in M x1 (1 : Int32) (20 : Int32)) (1 : Int32)).bind fun q1 => if q1.1 = 0 then some ((0 : Int32), q1.2) else if (20 : Int32) < ((q1.2.1 (19, 0, 0) 1) + x1) then ((fX10_right q1.2 (0 : Int32) (2 : Int32)).bind fun q5 => if q5.1 = 0 then some ((0 : Int32), q5.2) else (fX10_changes q5.2).bind fun q8 => some (((q8.1 (19, 0, 0) 1) + x1), (putI q8 (19, 0, 0) 1 ((q8.1 (19, 0, 0) 1) + x1)))) else (fX10_right q1.2 (1 : Int32) (2 : Int32)).bind fun q10 => if q10.1 = 0 then some ((0 : Int32), q10.2) else (fX10_changes q10.2).bind fun q13 => some (((q13.1 (19, 0, 0) 1) + x1), (putI q13 (19, 0, 0) 1 ((q13.1 (19, 0, 0) 1) + x1)))
set_option maxRecDepth 20000 in
set_option maxHeartbeats 2000000 in
theorem sX10_winding {wv : Nat} (M : Mm) (x1 : Int32) {res : (Int32 × Mm)} (h : fX10_winding M x1 = some res) : TF (wv + 1) yX10_winding cX10_winding 2 (some .int) 2 [.inr (18, 0, 0), .inl (.int x1)] M (some (.int res.1)) res.2 := by
  rw [fX10_winding] at h
  refine TF.go (n := 0) (ls := [some (.inr (18, 0, 0)), some (.inl (.int x1))]) rfl rfl rfl rfl rfl ?_
  refine z_aload_n (i := 0) dX10_winding_0 rfl rfl ?_
  refine z_iload_n (i := 1) dX10_winding_1 rfl rfl ?_
  refine z_iconst (v := (1 : Int32)) dX10_winding_2 kc_1 ?_
  refine z_bipush (v := (20 : Int32)) dX10_winding_3 kb_20 ?_
  refine z_fSi (sX10_in M x1 (1 : Int32) (20 : Int32)) dX10_winding_5 ml_X10_82 cd_X10_in rfl rfl rfl rfl rfl ?_
  refine z_iconst (v := (1 : Int32)) dX10_winding_8 kc_1 ?_
  obtain ⟨q1, hq2, h⟩ := bnd h
  refine z_fVi (sX10_right M (fX10_in M x1 (1 : Int32) (20 : Int32)) (1 : Int32) hq2) dX10_winding_9 ml_X10_127 cd_X10_right mk18 rfl rfl rfl rfl rfl rfl ?_
  refine z_if_eq (tgt := 41) dX10_winding_12 rfl (fun hc3 => ?_) (fun hc3 => ?_)
  · have h := it_t h hc3
    refine z_iconst (v := (0 : Int32)) dX10_winding_41 kc_0 ?_
    cases h
    exact z_iret dX10_winding_42 rfl rfl (Nat.le_refl _) (Nat.le_refl _) ⟨rfl, rfl⟩
  · have h := it_f h hc3
    refine z_aload_n (i := 0) dX10_winding_15 rfl rfl ?_
    refine z_aload_n (i := 0) dX10_winding_16 rfl rfl ?_
    refine z_getR (r' := (19, 0, 0)) dX10_winding_17 fl_X10_7 mk18 rfl rfl ?_
    refine z_iconst (v := (1 : Int32)) dX10_winding_20 kc_1 ?_
    refine z_iald (x := (q1.2.1 (19, 0, 0) 1)) dX10_winding_21 (m19 _ (Nat.le_of_ble_eq_true rfl)) rfl (by decide) rfl ?_
    refine z_iload_n (i := 1) dX10_winding_22 rfl rfl ?_
    refine z_iadd dX10_winding_23 ?_
    refine z_bipush (v := (20 : Int32)) dX10_winding_24 kb_20 ?_
    refine z_icmp_gt (tgt := 33) dX10_winding_26 rfl (fun hc4 => ?_) (fun hc4 => ?_)
    · have h := it_t h hc4
      refine z_iconst (v := (0 : Int32)) dX10_winding_33 kc_0 ?_
      refine z_iconst (v := (2 : Int32)) dX10_winding_34 kc_2 ?_
      obtain ⟨q5, hq6, h⟩ := bnd h
      refine z_fVi (sX10_right q1.2 (0 : Int32) (2 : Int32) hq6) dX10_winding_35 ml_X10_127 cd_X10_right mk18 rfl rfl rfl rfl rfl rfl ?_
      refine z_if_ne (tgt := 43) dX10_winding_38 rfl (fun hc7 => ?_) (fun hc7 => ?_)
      · have h := it_f h hc7
        refine z_aload_n (i := 0) dX10_winding_43 rfl rfl ?_
        obtain ⟨q8, hq9, h⟩ := bnd h
        refine z_fVv (sX10_changes q5.2 hq9) dX10_winding_44 ml_X10_344 cd_X10_changes mk18 rfl rfl rfl rfl rfl rfl ?_
        refine z_aload_n (i := 0) dX10_winding_47 rfl rfl ?_
        refine z_getR (r' := (19, 0, 0)) dX10_winding_48 fl_X10_7 mk18 rfl rfl ?_
        refine z_iconst (v := (1 : Int32)) dX10_winding_51 kc_1 ?_
        refine z_dup2 dX10_winding_52 rfl rfl ?_
        refine z_iald (x := (q8.1 (19, 0, 0) 1)) dX10_winding_53 (m19 _ (Nat.le_of_ble_eq_true rfl)) rfl (by decide) rfl ?_
        refine z_iload_n (i := 1) dX10_winding_54 rfl rfl ?_
        refine z_iadd dX10_winding_55 ?_
        refine z_iast (j := 1) allR_nd dX10_winding_56 (m19 _ (Nat.le_of_ble_eq_true rfl)) rfl (by decide) rfl ?_
        refine z_aload_n (i := 0) dX10_winding_57 rfl rfl ?_
        refine z_getR (r' := (19, 0, 0)) dX10_winding_58 fl_X10_7 mk18 rfl rfl ?_
        refine z_iconst (v := (1 : Int32)) dX10_winding_61 kc_1 ?_
        refine z_iald (x := ((q8.1 (19, 0, 0) 1) + x1)) dX10_winding_62 (m19 _ (Nat.le_of_ble_eq_true rfl)) rfl (by decide) (gp1 (M := q8) (r := (19, 0, 0)) (j := 1) (v := ((q8.1 (19, 0, 0) 1) + x1))) ?_
        cases h
        exact z_iret dX10_winding_63 rfl rfl (Nat.le_refl _) (Nat.le_refl _) ⟨rfl, rfl⟩
      · have h := it_t h hc7
        refine z_iconst (v := (0 : Int32)) dX10_winding_41 kc_0 ?_
        cases h
        exact z_iret dX10_winding_42 rfl rfl (Nat.le_refl _) (Nat.le_refl _) ⟨rfl, rfl⟩
    · have h := it_f h hc4
      refine z_iconst (v := (1 : Int32)) dX10_winding_29 kc_1 ?_
      refine z_goto (tgt := 34) dX10_winding_30 rfl ?_
      refine z_iconst (v := (2 : Int32)) dX10_winding_34 kc_2 ?_
      obtain ⟨q10, hq11, h⟩ := bnd h
      refine z_fVi (sX10_right q1.2 (1 : Int32) (2 : Int32) hq11) dX10_winding_35 ml_X10_127 cd_X10_right mk18 rfl rfl rfl rfl rfl rfl ?_
      refine z_if_ne (tgt := 43) dX10_winding_38 rfl (fun hc12 => ?_) (fun hc12 => ?_)
      · have h := it_f h hc12
        refine z_aload_n (i := 0) dX10_winding_43 rfl rfl ?_
        obtain ⟨q13, hq14, h⟩ := bnd h
        refine z_fVv (sX10_changes q10.2 hq14) dX10_winding_44 ml_X10_344 cd_X10_changes mk18 rfl rfl rfl rfl rfl rfl ?_
        refine z_aload_n (i := 0) dX10_winding_47 rfl rfl ?_
        refine z_getR (r' := (19, 0, 0)) dX10_winding_48 fl_X10_7 mk18 rfl rfl ?_
        refine z_iconst (v := (1 : Int32)) dX10_winding_51 kc_1 ?_
        refine z_dup2 dX10_winding_52 rfl rfl ?_
        refine z_iald (x := (q13.1 (19, 0, 0) 1)) dX10_winding_53 (m19 _ (Nat.le_of_ble_eq_true rfl)) rfl (by decide) rfl ?_
        refine z_iload_n (i := 1) dX10_winding_54 rfl rfl ?_
        refine z_iadd dX10_winding_55 ?_
        refine z_iast (j := 1) allR_nd dX10_winding_56 (m19 _ (Nat.le_of_ble_eq_true rfl)) rfl (by decide) rfl ?_
        refine z_aload_n (i := 0) dX10_winding_57 rfl rfl ?_
        refine z_getR (r' := (19, 0, 0)) dX10_winding_58 fl_X10_7 mk18 rfl rfl ?_
        refine z_iconst (v := (1 : Int32)) dX10_winding_61 kc_1 ?_
        refine z_iald (x := ((q13.1 (19, 0, 0) 1) + x1)) dX10_winding_62 (m19 _ (Nat.le_of_ble_eq_true rfl)) rfl (by decide) (gp1 (M := q13) (r := (19, 0, 0)) (j := 1) (v := ((q13.1 (19, 0, 0) 1) + x1))) ?_
        cases h
        exact z_iret dX10_winding_63 rfl rfl (Nat.le_refl _) (Nat.le_refl _) ⟨rfl, rfl⟩
      · have h := it_t h hc12
        refine z_iconst (v := (0 : Int32)) dX10_winding_41 kc_0 ?_
        cases h
        exact z_iret dX10_winding_42 rfl rfl (Nat.le_refl _) (Nat.le_refl _) ⟨rfl, rfl⟩
theorem dX10_selecting_0 : decode cX10_selecting 0 = .ok (.aload_n 0, 1) := by decide +kernel
theorem dX10_selecting_1 : decode cX10_selecting 1 = .ok (.aload_n 0, 1) := by decide +kernel
theorem dX10_selecting_2 : decode cX10_selecting 2 = .ok (.iload_n 1, 1) := by decide +kernel
theorem dX10_selecting_3 : decode cX10_selecting 3 = .ok (.invokevirtual 288, 3) := by decide +kernel
theorem dX10_selecting_6 : decode cX10_selecting 6 = .ok (.iconst 1, 1) := by decide +kernel
theorem dX10_selecting_7 : decode cX10_selecting 7 = .ok (.invokevirtual 127, 3) := by decide +kernel
theorem dX10_selecting_10 : decode cX10_selecting 10 = .ok (.ifCond .ne 5, 3) := by decide +kernel
theorem dX10_selecting_13 : decode cX10_selecting 13 = .ok (.iconst 0, 1) := by decide +kernel
theorem dX10_selecting_14 : decode cX10_selecting 14 = .ok (.ireturn, 1) := by decide +kernel
theorem dX10_selecting_15 : decode cX10_selecting 15 = .ok (.aload_n 0, 1) := by decide +kernel
theorem dX10_selecting_16 : decode cX10_selecting 16 = .ok (.invokevirtual 344, 3) := by decide +kernel
theorem dX10_selecting_19 : decode cX10_selecting 19 = .ok (.aload_n 0, 1) := by decide +kernel
theorem dX10_selecting_20 : decode cX10_selecting 20 = .ok (.getfield 7, 3) := by decide +kernel
theorem dX10_selecting_23 : decode cX10_selecting 23 = .ok (.iconst 4, 1) := by decide +kernel
theorem dX10_selecting_24 : decode cX10_selecting 24 = .ok (.iaload, 1) := by decide +kernel
theorem dX10_selecting_25 : decode cX10_selecting 25 = .ok (.istore_n 2, 1) := by decide +kernel
theorem dX10_selecting_26 : decode cX10_selecting 26 = .ok (.aload_n 0, 1) := by decide +kernel
theorem dX10_selecting_27 : decode cX10_selecting 27 = .ok (.getfield 7, 3) := by decide +kernel
theorem dX10_selecting_30 : decode cX10_selecting 30 = .ok (.iconst 4, 1) := by decide +kernel
theorem dX10_selecting_31 : decode cX10_selecting 31 = .ok (.iload_n 1, 1) := by decide +kernel
theorem dX10_selecting_32 : decode cX10_selecting 32 = .ok (.iastore, 1) := by decide +kernel
theorem dX10_selecting_33 : decode cX10_selecting 33 = .ok (.iload_n 2, 1) := by decide +kernel
theorem dX10_selecting_34 : decode cX10_selecting 34 = .ok (.ireturn, 1) := by decide +kernel
def fX10_selecting (M : Mm) (x1 : Int32) : Option (Int32 × Mm) := (fX10_right M (fX10_isTune M x1) (1 : Int32)).bind fun q1 => if q1.1 = 0 then some ((0 : Int32), q1.2) else (fX10_changes q1.2).bind fun q4 => some ((q4.1 (19, 0, 0) 4), (putI q4 (19, 0, 0) 4 x1))
set_option maxRecDepth 20000 in
set_option maxHeartbeats 2000000 in
theorem sX10_selecting {wv : Nat} (M : Mm) (x1 : Int32) {res : (Int32 × Mm)} (h : fX10_selecting M x1 = some res) : TF (wv + 1) yX10_selecting cX10_selecting 3 (some .int) 2 [.inr (18, 0, 0), .inl (.int x1)] M (some (.int res.1)) res.2 := by
  rw [fX10_selecting] at h
  refine TF.go (n := 1) (ls := [some (.inr (18, 0, 0)), some (.inl (.int x1)), none]) rfl rfl rfl rfl rfl ?_
  refine z_aload_n (i := 0) dX10_selecting_0 rfl rfl ?_
  refine z_aload_n (i := 0) dX10_selecting_1 rfl rfl ?_
  refine z_iload_n (i := 1) dX10_selecting_2 rfl rfl ?_
  refine z_fVi (sX10_isTune M x1) dX10_selecting_3 ml_X10_288 cd_X10_isTune mk18 rfl rfl rfl rfl rfl rfl ?_
  refine z_iconst (v := (1 : Int32)) dX10_selecting_6 kc_1 ?_
  obtain ⟨q1, hq2, h⟩ := bnd h
  refine z_fVi (sX10_right M (fX10_isTune M x1) (1 : Int32) hq2) dX10_selecting_7 ml_X10_127 cd_X10_right mk18 rfl rfl rfl rfl rfl rfl ?_
  refine z_if_ne (tgt := 15) dX10_selecting_10 rfl (fun hc3 => ?_) (fun hc3 => ?_)
  · have h := it_f h hc3
    refine z_aload_n (i := 0) dX10_selecting_15 rfl rfl ?_
    obtain ⟨q4, hq5, h⟩ := bnd h
    refine z_fVv (sX10_changes q1.2 hq5) dX10_selecting_16 ml_X10_344 cd_X10_changes mk18 rfl rfl rfl rfl rfl rfl ?_
    refine z_aload_n (i := 0) dX10_selecting_19 rfl rfl ?_
    refine z_getR (r' := (19, 0, 0)) dX10_selecting_20 fl_X10_7 mk18 rfl rfl ?_
    refine z_iconst (v := (4 : Int32)) dX10_selecting_23 kc_4 ?_
    refine z_iald (x := (q4.1 (19, 0, 0) 4)) dX10_selecting_24 (m19 _ (Nat.le_of_ble_eq_true rfl)) rfl (by decide) rfl ?_
    refine z_istore_n (i := 2) dX10_selecting_25 rfl (Nat.le_of_ble_eq_true rfl) rfl ?_
    refine z_aload_n (i := 0) dX10_selecting_26 rfl rfl ?_
    refine z_getR (r' := (19, 0, 0)) dX10_selecting_27 fl_X10_7 mk18 rfl rfl ?_
    refine z_iconst (v := (4 : Int32)) dX10_selecting_30 kc_4 ?_
    refine z_iload_n (i := 1) dX10_selecting_31 rfl rfl ?_
    refine z_iast (j := 4) allR_nd dX10_selecting_32 (m19 _ (Nat.le_of_ble_eq_true rfl)) rfl (by decide) rfl ?_
    refine z_iload_n (i := 2) dX10_selecting_33 rfl rfl ?_
    cases h
    exact z_iret dX10_selecting_34 rfl rfl (Nat.le_refl _) (Nat.le_refl _) ⟨rfl, rfl⟩
  · have h := it_t h hc3
    refine z_iconst (v := (0 : Int32)) dX10_selecting_13 kc_0 ?_
    cases h
    exact z_iret dX10_selecting_14 rfl rfl (Nat.le_refl _) (Nat.le_refl _) ⟨rfl, rfl⟩
theorem dX10_playing_0 : decode cX10_playing 0 = .ok (.aload_n 0, 1) := by decide +kernel
theorem dX10_playing_1 : decode cX10_playing 1 = .ok (.iload_n 1, 1) := by decide +kernel
theorem dX10_playing_2 : decode cX10_playing 2 = .ok (.iconst 1, 1) := by decide +kernel
theorem dX10_playing_3 : decode cX10_playing 3 = .ok (.sipush 300, 3) := by decide +kernel
theorem dX10_playing_6 : decode cX10_playing 6 = .ok (.invokestatic 82, 3) := by decide +kernel
theorem dX10_playing_9 : decode cX10_playing 9 = .ok (.iconst 1, 1) := by decide +kernel
theorem dX10_playing_10 : decode cX10_playing 10 = .ok (.invokevirtual 127, 3) := by decide +kernel
theorem dX10_playing_13 : decode cX10_playing 13 = .ok (.ifCond .eq 25, 3) := by decide +kernel
theorem dX10_playing_16 : decode cX10_playing 16 = .ok (.aload_n 0, 1) := by decide +kernel
theorem dX10_playing_17 : decode cX10_playing 17 = .ok (.aload_n 0, 1) := by decide +kernel
theorem dX10_playing_18 : decode cX10_playing 18 = .ok (.getfield 7, 3) := by decide +kernel
theorem dX10_playing_21 : decode cX10_playing 21 = .ok (.iconst 1, 1) := by decide +kernel
theorem dX10_playing_22 : decode cX10_playing 22 = .ok (.iaload, 1) := by decide +kernel
theorem dX10_playing_23 : decode cX10_playing 23 = .ok (.ifCond .le 7, 3) := by decide +kernel
theorem dX10_playing_26 : decode cX10_playing 26 = .ok (.iconst 1, 1) := by decide +kernel
theorem dX10_playing_27 : decode cX10_playing 27 = .ok (.goto 4, 3) := by decide +kernel
theorem dX10_playing_30 : decode cX10_playing 30 = .ok (.iconst 0, 1) := by decide +kernel
theorem dX10_playing_31 : decode cX10_playing 31 = .ok (.iconst 2, 1) := by decide +kernel
theorem dX10_playing_32 : decode cX10_playing 32 = .ok (.invokevirtual 127, 3) := by decide +kernel
theorem dX10_playing_35 : decode cX10_playing 35 = .ok (.ifCond .ne 5, 3) := by decide +kernel
theorem dX10_playing_38 : decode cX10_playing 38 = .ok (.iconst 0, 1) := by decide +kernel
theorem dX10_playing_39 : decode cX10_playing 39 = .ok (.ireturn, 1) := by decide +kernel
theorem dX10_playing_40 : decode cX10_playing 40 = .ok (.aload_n 0, 1) := by decide +kernel
theorem dX10_playing_41 : decode cX10_playing 41 = .ok (.invokevirtual 344, 3) := by decide +kernel
theorem dX10_playing_44 : decode cX10_playing 44 = .ok (.aload_n 0, 1) := by decide +kernel
theorem dX10_playing_45 : decode cX10_playing 45 = .ok (.iload_n 1, 1) := by decide +kernel
theorem dX10_playing_46 : decode cX10_playing 46 = .ok (.invokevirtual 338, 3) := by decide +kernel
theorem dX10_playing_49 : decode cX10_playing 49 = .ok (.ireturn, 1) := by decide +kernel
def fX10_playing (M : Mm) (x1 : Int32) : Option (Int32 × Mm) := (fX10_right M (fX10_in M x1 (1 : Int32) (300 : Int32)) (1 : Int32)).bind fun q1 => if q1.1 = 0 then some ((0 : Int32), q1.2) else if (q1.2.1 (19, 0, 0) 1) ≤ 0 then ((fX10_right q1.2 (0 : Int32) (2 : Int32)).bind fun q5 => if q5.1 = 0 then some ((0 : Int32), q5.2) else (fX10_changes q5.2).bind fun q8 => (fX10_steps q8 x1).bind fun q10 => some (q10.1, q10.2)) else (fX10_right q1.2 (1 : Int32) (2 : Int32)).bind fun q12 => if q12.1 = 0 then some ((0 : Int32), q12.2) else (fX10_changes q12.2).bind fun q15 => (fX10_steps q15 x1).bind fun q17 => some (q17.1, q17.2)
set_option maxRecDepth 20000 in
set_option maxHeartbeats 2000000 in
theorem sX10_playing {wv : Nat} (M : Mm) (x1 : Int32) {res : (Int32 × Mm)} (h : fX10_playing M x1 = some res) : TF (wv + 1) yX10_playing cX10_playing 2 (some .int) 6 [.inr (18, 0, 0), .inl (.int x1)] M (some (.int res.1)) res.2 := by
  rw [fX10_playing] at h
  refine TF.go (n := 0) (ls := [some (.inr (18, 0, 0)), some (.inl (.int x1))]) rfl rfl rfl rfl rfl ?_
  refine z_aload_n (i := 0) dX10_playing_0 rfl rfl ?_
  refine z_iload_n (i := 1) dX10_playing_1 rfl rfl ?_
  refine z_iconst (v := (1 : Int32)) dX10_playing_2 kc_1 ?_
  refine z_sipush (v := (300 : Int32)) dX10_playing_3 ks_300 ?_
  refine z_fSi (sX10_in M x1 (1 : Int32) (300 : Int32)) dX10_playing_6 ml_X10_82 cd_X10_in rfl rfl rfl rfl rfl ?_
  refine z_iconst (v := (1 : Int32)) dX10_playing_9 kc_1 ?_
  obtain ⟨q1, hq2, h⟩ := bnd h
  refine z_fVi (sX10_right M (fX10_in M x1 (1 : Int32) (300 : Int32)) (1 : Int32) hq2) dX10_playing_10 ml_X10_127 cd_X10_right mk18 rfl rfl rfl rfl rfl rfl ?_
  refine z_if_eq (tgt := 38) dX10_playing_13 rfl (fun hc3 => ?_) (fun hc3 => ?_)
  · have h := it_t h hc3
    refine z_iconst (v := (0 : Int32)) dX10_playing_38 kc_0 ?_
    cases h
    exact z_iret dX10_playing_39 rfl rfl (Nat.le_refl _) (Nat.le_refl _) ⟨rfl, rfl⟩
  · have h := it_f h hc3
    refine z_aload_n (i := 0) dX10_playing_16 rfl rfl ?_
    refine z_aload_n (i := 0) dX10_playing_17 rfl rfl ?_
    refine z_getR (r' := (19, 0, 0)) dX10_playing_18 fl_X10_7 mk18 rfl rfl ?_
    refine z_iconst (v := (1 : Int32)) dX10_playing_21 kc_1 ?_
    refine z_iald (x := (q1.2.1 (19, 0, 0) 1)) dX10_playing_22 (m19 _ (Nat.le_of_ble_eq_true rfl)) rfl (by decide) rfl ?_
    refine z_if_le (tgt := 30) dX10_playing_23 rfl (fun hc4 => ?_) (fun hc4 => ?_)
    · have h := it_t h hc4
      refine z_iconst (v := (0 : Int32)) dX10_playing_30 kc_0 ?_
      refine z_iconst (v := (2 : Int32)) dX10_playing_31 kc_2 ?_
      obtain ⟨q5, hq6, h⟩ := bnd h
      refine z_fVi (sX10_right q1.2 (0 : Int32) (2 : Int32) hq6) dX10_playing_32 ml_X10_127 cd_X10_right mk18 rfl rfl rfl rfl rfl rfl ?_
      refine z_if_ne (tgt := 40) dX10_playing_35 rfl (fun hc7 => ?_) (fun hc7 => ?_)
      · have h := it_f h hc7
        refine z_aload_n (i := 0) dX10_playing_40 rfl rfl ?_
        obtain ⟨q8, hq9, h⟩ := bnd h
        refine z_fVv (sX10_changes q5.2 hq9) dX10_playing_41 ml_X10_344 cd_X10_changes mk18 rfl rfl rfl rfl rfl rfl ?_
        refine z_aload_n (i := 0) dX10_playing_44 rfl rfl ?_
        refine z_iload_n (i := 1) dX10_playing_45 rfl rfl ?_
        obtain ⟨q10, hq11, h⟩ := bnd h
        refine z_fVi (sX10_steps q8 x1 hq11) dX10_playing_46 ml_X10_338 cd_X10_steps mk18 rfl rfl rfl rfl rfl rfl ?_
        cases h
        exact z_iret dX10_playing_49 rfl rfl (Nat.le_refl _) (Nat.le_refl _) ⟨rfl, rfl⟩
      · have h := it_t h hc7
        refine z_iconst (v := (0 : Int32)) dX10_playing_38 kc_0 ?_
        cases h
        exact z_iret dX10_playing_39 rfl rfl (Nat.le_refl _) (Nat.le_refl _) ⟨rfl, rfl⟩
    · have h := it_f h hc4
      refine z_iconst (v := (1 : Int32)) dX10_playing_26 kc_1 ?_
      refine z_goto (tgt := 31) dX10_playing_27 rfl ?_
      refine z_iconst (v := (2 : Int32)) dX10_playing_31 kc_2 ?_
      obtain ⟨q12, hq13, h⟩ := bnd h
      refine z_fVi (sX10_right q1.2 (1 : Int32) (2 : Int32) hq13) dX10_playing_32 ml_X10_127 cd_X10_right mk18 rfl rfl rfl rfl rfl rfl ?_
      refine z_if_ne (tgt := 40) dX10_playing_35 rfl (fun hc14 => ?_) (fun hc14 => ?_)
      · have h := it_f h hc14
        refine z_aload_n (i := 0) dX10_playing_40 rfl rfl ?_
        obtain ⟨q15, hq16, h⟩ := bnd h
        refine z_fVv (sX10_changes q12.2 hq16) dX10_playing_41 ml_X10_344 cd_X10_changes mk18 rfl rfl rfl rfl rfl rfl ?_
        refine z_aload_n (i := 0) dX10_playing_44 rfl rfl ?_
        refine z_iload_n (i := 1) dX10_playing_45 rfl rfl ?_
        obtain ⟨q17, hq18, h⟩ := bnd h
        refine z_fVi (sX10_steps q15 x1 hq18) dX10_playing_46 ml_X10_338 cd_X10_steps mk18 rfl rfl rfl rfl rfl rfl ?_
        cases h
        exact z_iret dX10_playing_49 rfl rfl (Nat.le_refl _) (Nat.le_refl _) ⟨rfl, rfl⟩
      · have h := it_t h hc14
        refine z_iconst (v := (0 : Int32)) dX10_playing_38 kc_0 ?_
        cases h
        exact z_iret dX10_playing_39 rfl rfl (Nat.le_refl _) (Nat.le_refl _) ⟨rfl, rfl⟩
theorem dX10_does_0 : decode cX10_does 0 = .ok (.aload_n 0, 1) := by decide +kernel
theorem dX10_does_1 : decode cX10_does 1 = .ok (.iconst 0, 1) := by decide +kernel
theorem dX10_does_2 : decode cX10_does 2 = .ok (.putfield 79, 3) := by decide +kernel
theorem dX10_does_5 : decode cX10_does 5 = .ok (.aload_n 0, 1) := by decide +kernel
theorem dX10_does_6 : decode cX10_does 6 = .ok (.getfield 42, 3) := by decide +kernel
theorem dX10_does_9 : decode cX10_does 9 = .ok (.iload_n 1, 1) := by decide +kernel
theorem dX10_does_10 : decode cX10_does 10 = .ok (.iaload, 1) := by decide +kernel
theorem dX10_does_11 : decode cX10_does 11 = .ok (.istore_n 2, 1) := by decide +kernel
theorem dX10_does_12 : decode cX10_does 12 = .ok (.aload_n 0, 1) := by decide +kernel
theorem dX10_does_13 : decode cX10_does 13 = .ok (.getfield 39, 3) := by decide +kernel
theorem dX10_does_16 : decode cX10_does 16 = .ok (.iload_n 1, 1) := by decide +kernel
theorem dX10_does_17 : decode cX10_does 17 = .ok (.iaload, 1) := by decide +kernel
theorem dX10_does_18 : decode cX10_does 18 = .ok (.tableswitch 132 0 7 #[46, 65, 84, 96, 108, 114, 120, 126], 46) := by decide +kernel
theorem dX10_does_64 : decode cX10_does 64 = .ok (.aload_n 0, 1) := by decide +kernel
theorem dX10_does_65 : decode cX10_does 65 = .ok (.iload_n 2, 1) := by decide +kernel
theorem dX10_does_66 : decode cX10_does 66 = .ok (.aload_n 0, 1) := by decide +kernel
theorem dX10_does_67 : decode cX10_does 67 = .ok (.getfield 45, 3) := by decide +kernel
theorem dX10_does_70 : decode cX10_does 70 = .ok (.iload_n 1, 1) := by decide +kernel
theorem dX10_does_71 : decode cX10_does 71 = .ok (.iaload, 1) := by decide +kernel
theorem dX10_does_72 : decode cX10_does 72 = .ok (.aload_n 0, 1) := by decide +kernel
theorem dX10_does_73 : decode cX10_does 73 = .ok (.getfield 48, 3) := by decide +kernel
theorem dX10_does_76 : decode cX10_does 76 = .ok (.iload_n 1, 1) := by decide +kernel
theorem dX10_does_77 : decode cX10_does 77 = .ok (.iaload, 1) := by decide +kernel
theorem dX10_does_78 : decode cX10_does 78 = .ok (.iconst 1, 1) := by decide +kernel
theorem dX10_does_79 : decode cX10_does 79 = .ok (.invokevirtual 247, 3) := by decide +kernel
theorem dX10_does_82 : decode cX10_does 82 = .ok (.ireturn, 1) := by decide +kernel
theorem dX10_does_83 : decode cX10_does 83 = .ok (.aload_n 0, 1) := by decide +kernel
theorem dX10_does_84 : decode cX10_does 84 = .ok (.iload_n 2, 1) := by decide +kernel
theorem dX10_does_85 : decode cX10_does 85 = .ok (.aload_n 0, 1) := by decide +kernel
theorem dX10_does_86 : decode cX10_does 86 = .ok (.getfield 45, 3) := by decide +kernel
theorem dX10_does_89 : decode cX10_does 89 = .ok (.iload_n 1, 1) := by decide +kernel
theorem dX10_does_90 : decode cX10_does 90 = .ok (.iaload, 1) := by decide +kernel
theorem dX10_does_91 : decode cX10_does 91 = .ok (.aload_n 0, 1) := by decide +kernel
theorem dX10_does_92 : decode cX10_does 92 = .ok (.getfield 48, 3) := by decide +kernel
theorem dX10_does_95 : decode cX10_does 95 = .ok (.iload_n 1, 1) := by decide +kernel
theorem dX10_does_96 : decode cX10_does 96 = .ok (.iaload, 1) := by decide +kernel
theorem dX10_does_97 : decode cX10_does 97 = .ok (.iconst 0, 1) := by decide +kernel
theorem dX10_does_98 : decode cX10_does 98 = .ok (.invokevirtual 247, 3) := by decide +kernel
theorem dX10_does_101 : decode cX10_does 101 = .ok (.ireturn, 1) := by decide +kernel
theorem dX10_does_102 : decode cX10_does 102 = .ok (.aload_n 0, 1) := by decide +kernel
theorem dX10_does_103 : decode cX10_does 103 = .ok (.iload_n 2, 1) := by decide +kernel
theorem dX10_does_104 : decode cX10_does 104 = .ok (.aload_n 0, 1) := by decide +kernel
theorem dX10_does_105 : decode cX10_does 105 = .ok (.getfield 45, 3) := by decide +kernel
theorem dX10_does_108 : decode cX10_does 108 = .ok (.iload_n 1, 1) := by decide +kernel
theorem dX10_does_109 : decode cX10_does 109 = .ok (.iaload, 1) := by decide +kernel
theorem dX10_does_110 : decode cX10_does 110 = .ok (.invokevirtual 251, 3) := by decide +kernel
theorem dX10_does_113 : decode cX10_does 113 = .ok (.ireturn, 1) := by decide +kernel
theorem dX10_does_114 : decode cX10_does 114 = .ok (.aload_n 0, 1) := by decide +kernel
theorem dX10_does_115 : decode cX10_does 115 = .ok (.iload_n 2, 1) := by decide +kernel
theorem dX10_does_116 : decode cX10_does 116 = .ok (.aload_n 0, 1) := by decide +kernel
theorem dX10_does_117 : decode cX10_does 117 = .ok (.getfield 45, 3) := by decide +kernel
theorem dX10_does_120 : decode cX10_does 120 = .ok (.iload_n 1, 1) := by decide +kernel
theorem dX10_does_121 : decode cX10_does 121 = .ok (.iaload, 1) := by decide +kernel
theorem dX10_does_122 : decode cX10_does 122 = .ok (.invokevirtual 254, 3) := by decide +kernel
theorem dX10_does_125 : decode cX10_does 125 = .ok (.ireturn, 1) := by decide +kernel
theorem dX10_does_126 : decode cX10_does 126 = .ok (.aload_n 0, 1) := by decide +kernel
theorem dX10_does_127 : decode cX10_does 127 = .ok (.iload_n 2, 1) := by decide +kernel
theorem dX10_does_128 : decode cX10_does 128 = .ok (.invokevirtual 257, 3) := by decide +kernel
theorem dX10_does_131 : decode cX10_does 131 = .ok (.ireturn, 1) := by decide +kernel
theorem dX10_does_132 : decode cX10_does 132 = .ok (.aload_n 0, 1) := by decide +kernel
theorem dX10_does_133 : decode cX10_does 133 = .ok (.iload_n 2, 1) := by decide +kernel
theorem dX10_does_134 : decode cX10_does 134 = .ok (.invokevirtual 260, 3) := by decide +kernel
theorem dX10_does_137 : decode cX10_does 137 = .ok (.ireturn, 1) := by decide +kernel
theorem dX10_does_138 : decode cX10_does 138 = .ok (.aload_n 0, 1) := by decide +kernel
theorem dX10_does_139 : decode cX10_does 139 = .ok (.iload_n 2, 1) := by decide +kernel
theorem dX10_does_140 : decode cX10_does 140 = .ok (.invokevirtual 263, 3) := by decide +kernel
theorem dX10_does_143 : decode cX10_does 143 = .ok (.ireturn, 1) := by decide +kernel
theorem dX10_does_144 : decode cX10_does 144 = .ok (.aload_n 0, 1) := by decide +kernel
theorem dX10_does_145 : decode cX10_does 145 = .ok (.iload_n 2, 1) := by decide +kernel
theorem dX10_does_146 : decode cX10_does 146 = .ok (.invokevirtual 266, 3) := by decide +kernel
theorem dX10_does_149 : decode cX10_does 149 = .ok (.ireturn, 1) := by decide +kernel
theorem dX10_does_150 : decode cX10_does 150 = .ok (.aload_n 0, 1) := by decide +kernel
theorem dX10_does_151 : decode cX10_does 151 = .ok (.iload_n 2, 1) := by decide +kernel
theorem dX10_does_152 : decode cX10_does 152 = .ok (.invokevirtual 269, 3) := by decide +kernel
theorem dX10_does_155 : decode cX10_does 155 = .ok (.ireturn, 1) := by decide +kernel
def fX10_does (M : Mm) (x1 : Int32) : Option (Int32 × Mm) := if x1 < 0 ∨ 30 ≤ x1.toNatClampNeg then none else if x1 < 0 ∨ 30 ≤ x1.toNatClampNeg then none else if (M.1 (19, 7, 0) x1.toNatClampNeg) = (0 : Int32) then (if x1 < 0 ∨ 30 ≤ x1.toNatClampNeg then none else if x1 < 0 ∨ 30 ≤ x1.toNatClampNeg then none else (fX10_pinning (putI M (18, 0, 0) 8 (0 : Int32)) (M.1 (19, 8, 0) x1.toNatClampNeg) (M.1 (19, 9, 0) x1.toNatClampNeg) (M.1 (19, 10, 0) x1.toNatClampNeg) (1 : Int32)).bind fun q6 => some (q6.1, q6.2)) else if (M.1 (19, 7, 0) x1.toNatClampNeg) = (1 : Int32) then (if x1 < 0 ∨ 30 ≤ x1.toNatClampNeg then none else if x1 < 0 ∨ 30 ≤ x1.toNatClampNeg then none else (fX10_pinning (putI M (18, 0, 0) 8 (0 : Int32)) (M.1 (19, 8, 0) x1.toNatClampNeg) (M.1 (19, 9, 0) x1.toNatClampNeg) (M.1 (19, 10, 0) x1.toNatClampNeg) (0 : Int32)).bind fun q11 => some (q11.1, q11.2)) else if (M.1 (19, 7, 0) x1.toNatClampNeg) = (2 : Int32) then (if x1 < 0 ∨ 30 ≤ x1.toNatClampNeg then none else (fX10_gapping (putI M (18, 0, 0) 8 (0 : Int32)) (M.1 (19, 8, 0) x1.toNatClampNeg) (M.1 (19, 9, 0) x1.toNatClampNeg)).bind fun q15 => some (q15.1, q15.2)) else if (M.1 (19, 7, 0) x1.toNatClampNeg) = (3 : Int32) then (if x1 < 0 ∨ 30 ≤ x1.toNatClampNeg then none else (fX10_bending (putI M (18, 0, 0) 8 (0 : Int32)) (M.1 (19, 8, 0) x1.toNatClampNeg) (M.1 (19, 9, 0) x1.toNatClampNeg)).bind fun q19 => some (q19.1, q19.2)) else if (M.1 (19, 7, 0) x1.toNatClampNeg) = (4 : Int32) then ((fX10_replacing (putI M (18, 0, 0) 8 (0 : Int32)) (M.1 (19, 8, 0) x1.toNatClampNeg)).bind fun q22 => some (q22.1, q22.2)) else if (M.1 (19, 7, 0) x1.toNatClampNeg) = (5 : Int32) then ((fX10_vaning (putI M (18, 0, 0) 8 (0 : Int32)) (M.1 (19, 8, 0) x1.toNatClampNeg)).bind fun q25 => some (q25.1, q25.2)) else if (M.1 (19, 7, 0) x1.toNatClampNeg) = (6 : Int32) then ((fX10_winding (putI M (18, 0, 0) 8 (0 : Int32)) (M.1 (19, 8, 0) x1.toNatClampNeg)).bind fun q28 => some (q28.1, q28.2)) else if (M.1 (19, 7, 0) x1.toNatClampNeg) = (7 : Int32) then ((fX10_selecting (putI M (18, 0, 0) 8 (0 : Int32)) (M.1 (19, 8, 0) x1.toNatClampNeg)).bind fun q31 => some (q31.1, q31.2)) else (fX10_playing (putI M (18, 0, 0) 8 (0 : Int32)) (M.1 (19, 8, 0) x1.toNatClampNeg)).bind fun q33 => some (q33.1, q33.2)
set_option maxRecDepth 20000 in
set_option maxHeartbeats 2000000 in
theorem sX10_does {wv : Nat} (M : Mm) (x1 : Int32) {res : (Int32 × Mm)} (h : fX10_does M x1 = some res) : TF (wv + 1) yX10_does cX10_does 3 (some .int) 7 [.inr (18, 0, 0), .inl (.int x1)] M (some (.int res.1)) res.2 := by
  rw [fX10_does] at h
  refine TF.go (n := 1) (ls := [some (.inr (18, 0, 0)), some (.inl (.int x1)), none]) rfl rfl rfl rfl rfl ?_
  refine z_aload_n (i := 0) dX10_does_0 rfl rfl ?_
  refine z_iconst (v := (0 : Int32)) dX10_does_1 kc_0 ?_
  refine z_putI allR_nd dX10_does_2 fl_X10_79 mk18 rfl rfl ?_
  refine z_aload_n (i := 0) dX10_does_5 rfl rfl ?_
  refine z_getR (r' := (19, 8, 0)) dX10_does_6 fl_X10_42 mk18 rfl rfl ?_
  refine z_iload_n (i := 1) dX10_does_9 rfl rfl ?_
  obtain ⟨hc1, h⟩ := chk h
  refine z_iald (x := (M.1 (19, 8, 0) x1.toNatClampNeg)) dX10_does_10 (m19 _ (Nat.le_of_ble_eq_true rfl)) rfl hc1 rfl ?_
  refine z_istore_n (i := 2) dX10_does_11 rfl (Nat.le_of_ble_eq_true rfl) rfl ?_
  refine z_aload_n (i := 0) dX10_does_12 rfl rfl ?_
  refine z_getR (r' := (19, 7, 0)) dX10_does_13 fl_X10_39 mk18 rfl rfl ?_
  refine z_iload_n (i := 1) dX10_does_16 rfl rfl ?_
  obtain ⟨hc2, h⟩ := chk h
  refine z_iald (x := (M.1 (19, 7, 0) x1.toNatClampNeg)) dX10_does_17 (m19 _ (Nat.le_of_ble_eq_true rfl)) rfl hc2 rfl ?_
  by_cases hc3 : (M.1 (19, 7, 0) x1.toNatClampNeg) = (0 : Int32)
  · have h := it_t h hc3
    refine z_tin (tgt := 64) dX10_does_18 (by rw [hc3]; decide) (by rw [hc3]; decide) (off := 46) (by rw [hc3]; decide) rfl ?_
    refine z_aload_n (i := 0) dX10_does_64 rfl rfl ?_
    refine z_iload_n (i := 2) dX10_does_65 rfl rfl ?_
    refine z_aload_n (i := 0) dX10_does_66 rfl rfl ?_
    refine z_getR (r' := (19, 9, 0)) dX10_does_67 fl_X10_45 mk18 rfl rfl ?_
    refine z_iload_n (i := 1) dX10_does_70 rfl rfl ?_
    obtain ⟨hc4, h⟩ := chk h
    refine z_iald (x := (M.1 (19, 9, 0) x1.toNatClampNeg)) dX10_does_71 (m19 _ (Nat.le_of_ble_eq_true rfl)) rfl hc4 rfl ?_
    refine z_aload_n (i := 0) dX10_does_72 rfl rfl ?_
    refine z_getR (r' := (19, 10, 0)) dX10_does_73 fl_X10_48 mk18 rfl rfl ?_
    refine z_iload_n (i := 1) dX10_does_76 rfl rfl ?_
    obtain ⟨hc5, h⟩ := chk h
    refine z_iald (x := (M.1 (19, 10, 0) x1.toNatClampNeg)) dX10_does_77 (m19 _ (Nat.le_of_ble_eq_true rfl)) rfl hc5 rfl ?_
    refine z_iconst (v := (1 : Int32)) dX10_does_78 kc_1 ?_
    obtain ⟨q6, hq7, h⟩ := bnd h
    refine z_fVi (sX10_pinning (putI M (18, 0, 0) 8 (0 : Int32)) (M.1 (19, 8, 0) x1.toNatClampNeg) (M.1 (19, 9, 0) x1.toNatClampNeg) (M.1 (19, 10, 0) x1.toNatClampNeg) (1 : Int32) hq7) dX10_does_79 ml_X10_247 cd_X10_pinning mk18 rfl rfl rfl rfl rfl rfl ?_
    cases h
    exact z_iret dX10_does_82 rfl rfl (Nat.le_refl _) (Nat.le_refl _) ⟨rfl, rfl⟩
  have h := it_f h hc3
  by_cases hc8 : (M.1 (19, 7, 0) x1.toNatClampNeg) = (1 : Int32)
  · have h := it_t h hc8
    refine z_tin (tgt := 83) dX10_does_18 (by rw [hc8]; decide) (by rw [hc8]; decide) (off := 65) (by rw [hc8]; decide) rfl ?_
    refine z_aload_n (i := 0) dX10_does_83 rfl rfl ?_
    refine z_iload_n (i := 2) dX10_does_84 rfl rfl ?_
    refine z_aload_n (i := 0) dX10_does_85 rfl rfl ?_
    refine z_getR (r' := (19, 9, 0)) dX10_does_86 fl_X10_45 mk18 rfl rfl ?_
    refine z_iload_n (i := 1) dX10_does_89 rfl rfl ?_
    obtain ⟨hc9, h⟩ := chk h
    refine z_iald (x := (M.1 (19, 9, 0) x1.toNatClampNeg)) dX10_does_90 (m19 _ (Nat.le_of_ble_eq_true rfl)) rfl hc9 rfl ?_
    refine z_aload_n (i := 0) dX10_does_91 rfl rfl ?_
    refine z_getR (r' := (19, 10, 0)) dX10_does_92 fl_X10_48 mk18 rfl rfl ?_
    refine z_iload_n (i := 1) dX10_does_95 rfl rfl ?_
    obtain ⟨hc10, h⟩ := chk h
    refine z_iald (x := (M.1 (19, 10, 0) x1.toNatClampNeg)) dX10_does_96 (m19 _ (Nat.le_of_ble_eq_true rfl)) rfl hc10 rfl ?_
    refine z_iconst (v := (0 : Int32)) dX10_does_97 kc_0 ?_
    obtain ⟨q11, hq12, h⟩ := bnd h
    refine z_fVi (sX10_pinning (putI M (18, 0, 0) 8 (0 : Int32)) (M.1 (19, 8, 0) x1.toNatClampNeg) (M.1 (19, 9, 0) x1.toNatClampNeg) (M.1 (19, 10, 0) x1.toNatClampNeg) (0 : Int32) hq12) dX10_does_98 ml_X10_247 cd_X10_pinning mk18 rfl rfl rfl rfl rfl rfl ?_
    cases h
    exact z_iret dX10_does_101 rfl rfl (Nat.le_refl _) (Nat.le_refl _) ⟨rfl, rfl⟩
  have h := it_f h hc8
  by_cases hc13 : (M.1 (19, 7, 0) x1.toNatClampNeg) = (2 : Int32)
  · have h := it_t h hc13
    refine z_tin (tgt := 102) dX10_does_18 (by rw [hc13]; decide) (by rw [hc13]; decide) (off := 84) (by rw [hc13]; decide) rfl ?_
    refine z_aload_n (i := 0) dX10_does_102 rfl rfl ?_
    refine z_iload_n (i := 2) dX10_does_103 rfl rfl ?_
    refine z_aload_n (i := 0) dX10_does_104 rfl rfl ?_
    refine z_getR (r' := (19, 9, 0)) dX10_does_105 fl_X10_45 mk18 rfl rfl ?_
    refine z_iload_n (i := 1) dX10_does_108 rfl rfl ?_
    obtain ⟨hc14, h⟩ := chk h
    refine z_iald (x := (M.1 (19, 9, 0) x1.toNatClampNeg)) dX10_does_109 (m19 _ (Nat.le_of_ble_eq_true rfl)) rfl hc14 rfl ?_
    obtain ⟨q15, hq16, h⟩ := bnd h
    refine z_fVi (sX10_gapping (putI M (18, 0, 0) 8 (0 : Int32)) (M.1 (19, 8, 0) x1.toNatClampNeg) (M.1 (19, 9, 0) x1.toNatClampNeg) hq16) dX10_does_110 ml_X10_251 cd_X10_gapping mk18 rfl rfl rfl rfl rfl rfl ?_
    cases h
    exact z_iret dX10_does_113 rfl rfl (Nat.le_refl _) (Nat.le_refl _) ⟨rfl, rfl⟩
  have h := it_f h hc13
  by_cases hc17 : (M.1 (19, 7, 0) x1.toNatClampNeg) = (3 : Int32)
  · have h := it_t h hc17
    refine z_tin (tgt := 114) dX10_does_18 (by rw [hc17]; decide) (by rw [hc17]; decide) (off := 96) (by rw [hc17]; decide) rfl ?_
    refine z_aload_n (i := 0) dX10_does_114 rfl rfl ?_
    refine z_iload_n (i := 2) dX10_does_115 rfl rfl ?_
    refine z_aload_n (i := 0) dX10_does_116 rfl rfl ?_
    refine z_getR (r' := (19, 9, 0)) dX10_does_117 fl_X10_45 mk18 rfl rfl ?_
    refine z_iload_n (i := 1) dX10_does_120 rfl rfl ?_
    obtain ⟨hc18, h⟩ := chk h
    refine z_iald (x := (M.1 (19, 9, 0) x1.toNatClampNeg)) dX10_does_121 (m19 _ (Nat.le_of_ble_eq_true rfl)) rfl hc18 rfl ?_
    obtain ⟨q19, hq20, h⟩ := bnd h
    refine z_fVi (sX10_bending (putI M (18, 0, 0) 8 (0 : Int32)) (M.1 (19, 8, 0) x1.toNatClampNeg) (M.1 (19, 9, 0) x1.toNatClampNeg) hq20) dX10_does_122 ml_X10_254 cd_X10_bending mk18 rfl rfl rfl rfl rfl rfl ?_
    cases h
    exact z_iret dX10_does_125 rfl rfl (Nat.le_refl _) (Nat.le_refl _) ⟨rfl, rfl⟩
  have h := it_f h hc17
  by_cases hc21 : (M.1 (19, 7, 0) x1.toNatClampNeg) = (4 : Int32)
  · have h := it_t h hc21
    refine z_tin (tgt := 126) dX10_does_18 (by rw [hc21]; decide) (by rw [hc21]; decide) (off := 108) (by rw [hc21]; decide) rfl ?_
    refine z_aload_n (i := 0) dX10_does_126 rfl rfl ?_
    refine z_iload_n (i := 2) dX10_does_127 rfl rfl ?_
    obtain ⟨q22, hq23, h⟩ := bnd h
    refine z_fVi (sX10_replacing (putI M (18, 0, 0) 8 (0 : Int32)) (M.1 (19, 8, 0) x1.toNatClampNeg) hq23) dX10_does_128 ml_X10_257 cd_X10_replacing mk18 rfl rfl rfl rfl rfl rfl ?_
    cases h
    exact z_iret dX10_does_131 rfl rfl (Nat.le_refl _) (Nat.le_refl _) ⟨rfl, rfl⟩
  have h := it_f h hc21
  by_cases hc24 : (M.1 (19, 7, 0) x1.toNatClampNeg) = (5 : Int32)
  · have h := it_t h hc24
    refine z_tin (tgt := 132) dX10_does_18 (by rw [hc24]; decide) (by rw [hc24]; decide) (off := 114) (by rw [hc24]; decide) rfl ?_
    refine z_aload_n (i := 0) dX10_does_132 rfl rfl ?_
    refine z_iload_n (i := 2) dX10_does_133 rfl rfl ?_
    obtain ⟨q25, hq26, h⟩ := bnd h
    refine z_fVi (sX10_vaning (putI M (18, 0, 0) 8 (0 : Int32)) (M.1 (19, 8, 0) x1.toNatClampNeg) hq26) dX10_does_134 ml_X10_260 cd_X10_vaning mk18 rfl rfl rfl rfl rfl rfl ?_
    cases h
    exact z_iret dX10_does_137 rfl rfl (Nat.le_refl _) (Nat.le_refl _) ⟨rfl, rfl⟩
  have h := it_f h hc24
  by_cases hc27 : (M.1 (19, 7, 0) x1.toNatClampNeg) = (6 : Int32)
  · have h := it_t h hc27
    refine z_tin (tgt := 138) dX10_does_18 (by rw [hc27]; decide) (by rw [hc27]; decide) (off := 120) (by rw [hc27]; decide) rfl ?_
    refine z_aload_n (i := 0) dX10_does_138 rfl rfl ?_
    refine z_iload_n (i := 2) dX10_does_139 rfl rfl ?_
    obtain ⟨q28, hq29, h⟩ := bnd h
    refine z_fVi (sX10_winding (putI M (18, 0, 0) 8 (0 : Int32)) (M.1 (19, 8, 0) x1.toNatClampNeg) hq29) dX10_does_140 ml_X10_263 cd_X10_winding mk18 rfl rfl rfl rfl rfl rfl ?_
    cases h
    exact z_iret dX10_does_143 rfl rfl (Nat.le_refl _) (Nat.le_refl _) ⟨rfl, rfl⟩
  have h := it_f h hc27
  by_cases hc30 : (M.1 (19, 7, 0) x1.toNatClampNeg) = (7 : Int32)
  · have h := it_t h hc30
    refine z_tin (tgt := 144) dX10_does_18 (by rw [hc30]; decide) (by rw [hc30]; decide) (off := 126) (by rw [hc30]; decide) rfl ?_
    refine z_aload_n (i := 0) dX10_does_144 rfl rfl ?_
    refine z_iload_n (i := 2) dX10_does_145 rfl rfl ?_
    obtain ⟨q31, hq32, h⟩ := bnd h
    refine z_fVi (sX10_selecting (putI M (18, 0, 0) 8 (0 : Int32)) (M.1 (19, 8, 0) x1.toNatClampNeg) hq32) dX10_does_146 ml_X10_266 cd_X10_selecting mk18 rfl rfl rfl rfl rfl rfl ?_
    cases h
    exact z_iret dX10_does_149 rfl rfl (Nat.le_refl _) (Nat.le_refl _) ⟨rfl, rfl⟩
  have h := it_f h hc30
  refine z_tout (tgt := 150) dX10_does_18 (tswo (fun k h1 h2 h3 => ?_)) rfl ?_
  · have h4 : k = 0 ∨ k = 1 ∨ k = 2 ∨ k = 3 ∨ k = 4 ∨ k = 5 ∨ k = 6 ∨ k = 7 := by omega
    rcases h4 with rfl | rfl | rfl | rfl | rfl | rfl | rfl | rfl
    · exact hc3 (Int32.toInt_inj.mp (h3.trans (by decide)))
    · exact hc8 (Int32.toInt_inj.mp (h3.trans (by decide)))
    · exact hc13 (Int32.toInt_inj.mp (h3.trans (by decide)))
    · exact hc17 (Int32.toInt_inj.mp (h3.trans (by decide)))
    · exact hc21 (Int32.toInt_inj.mp (h3.trans (by decide)))
    · exact hc24 (Int32.toInt_inj.mp (h3.trans (by decide)))
    · exact hc27 (Int32.toInt_inj.mp (h3.trans (by decide)))
    · exact hc30 (Int32.toInt_inj.mp (h3.trans (by decide)))
  · refine z_aload_n (i := 0) dX10_does_150 rfl rfl ?_
    refine z_iload_n (i := 2) dX10_does_151 rfl rfl ?_
    obtain ⟨q33, hq34, h⟩ := bnd h
    refine z_fVi (sX10_playing (putI M (18, 0, 0) 8 (0 : Int32)) (M.1 (19, 8, 0) x1.toNatClampNeg) hq34) dX10_does_152 ml_X10_269 cd_X10_playing mk18 rfl rfl rfl rfl rfl rfl ?_
    cases h
    exact z_iret dX10_does_155 rfl rfl (Nat.le_refl _) (Nat.le_refl _) ⟨rfl, rfl⟩
theorem dX10_doesAll_0 : decode cX10_doesAll 0 = .ok (.iload_n 1, 1) := by decide +kernel
theorem dX10_doesAll_1 : decode cX10_doesAll 1 = .ok (.istore_n 3, 1) := by decide +kernel
theorem dX10_doesAll_2 : decode cX10_doesAll 2 = .ok (.iload_n 3, 1) := by decide +kernel
theorem dX10_doesAll_3 : decode cX10_doesAll 3 = .ok (.iload_n 2, 1) := by decide +kernel
theorem dX10_doesAll_4 : decode cX10_doesAll 4 = .ok (.if_icmp .ge 105, 3) := by decide +kernel
theorem dX10_doesAll_7 : decode cX10_doesAll 7 = .ok (.aload_n 0, 1) := by decide +kernel
theorem dX10_doesAll_8 : decode cX10_doesAll 8 = .ok (.getfield 39, 3) := by decide +kernel
theorem dX10_doesAll_11 : decode cX10_doesAll 11 = .ok (.iload_n 3, 1) := by decide +kernel
theorem dX10_doesAll_12 : decode cX10_doesAll 12 = .ok (.iaload, 1) := by decide +kernel
theorem dX10_doesAll_13 : decode cX10_doesAll 13 = .ok (.bipush 9, 2) := by decide +kernel
theorem dX10_doesAll_15 : decode cX10_doesAll 15 = .ok (.if_icmp .ne 51, 3) := by decide +kernel
theorem dX10_doesAll_18 : decode cX10_doesAll 18 = .ok (.iconst 0, 1) := by decide +kernel
theorem dX10_doesAll_19 : decode cX10_doesAll 19 = .ok (.istore 4, 2) := by decide +kernel
theorem dX10_doesAll_21 : decode cX10_doesAll 21 = .ok (.iload 4, 2) := by decide +kernel
theorem dX10_doesAll_23 : decode cX10_doesAll 23 = .ok (.aload_n 0, 1) := by decide +kernel
theorem dX10_doesAll_24 : decode cX10_doesAll 24 = .ok (.getfield 42, 3) := by decide +kernel
theorem dX10_doesAll_27 : decode cX10_doesAll 27 = .ok (.iload_n 3, 1) := by decide +kernel
theorem dX10_doesAll_28 : decode cX10_doesAll 28 = .ok (.iaload, 1) := by decide +kernel
theorem dX10_doesAll_29 : decode cX10_doesAll 29 = .ok (.if_icmp .ge 27, 3) := by decide +kernel
theorem dX10_doesAll_32 : decode cX10_doesAll 32 = .ok (.aload_n 0, 1) := by decide +kernel
theorem dX10_doesAll_33 : decode cX10_doesAll 33 = .ok (.iload_n 3, 1) := by decide +kernel
theorem dX10_doesAll_34 : decode cX10_doesAll 34 = .ok (.iconst 1, 1) := by decide +kernel
theorem dX10_doesAll_35 : decode cX10_doesAll 35 = .ok (.iadd, 1) := by decide +kernel
theorem dX10_doesAll_36 : decode cX10_doesAll 36 = .ok (.aload_n 0, 1) := by decide +kernel
theorem dX10_doesAll_37 : decode cX10_doesAll 37 = .ok (.getfield 45, 3) := by decide +kernel
theorem dX10_doesAll_40 : decode cX10_doesAll 40 = .ok (.iload_n 3, 1) := by decide +kernel
theorem dX10_doesAll_41 : decode cX10_doesAll 41 = .ok (.iaload, 1) := by decide +kernel
theorem dX10_doesAll_42 : decode cX10_doesAll 42 = .ok (.invokevirtual 272, 3) := by decide +kernel
theorem dX10_doesAll_45 : decode cX10_doesAll 45 = .ok (.ifCond .ne 5, 3) := by decide +kernel
theorem dX10_doesAll_48 : decode cX10_doesAll 48 = .ok (.iconst 0, 1) := by decide +kernel
theorem dX10_doesAll_49 : decode cX10_doesAll 49 = .ok (.ireturn, 1) := by decide +kernel
theorem dX10_doesAll_50 : decode cX10_doesAll 50 = .ok (.iinc 4 1, 3) := by decide +kernel
theorem dX10_doesAll_53 : decode cX10_doesAll 53 = .ok (.goto (-32), 3) := by decide +kernel
theorem dX10_doesAll_56 : decode cX10_doesAll 56 = .ok (.aload_n 0, 1) := by decide +kernel
theorem dX10_doesAll_57 : decode cX10_doesAll 57 = .ok (.getfield 45, 3) := by decide +kernel
theorem dX10_doesAll_60 : decode cX10_doesAll 60 = .ok (.iload_n 3, 1) := by decide +kernel
theorem dX10_doesAll_61 : decode cX10_doesAll 61 = .ok (.iaload, 1) := by decide +kernel
theorem dX10_doesAll_62 : decode cX10_doesAll 62 = .ok (.istore_n 3, 1) := by decide +kernel
theorem dX10_doesAll_63 : decode cX10_doesAll 63 = .ok (.goto (-61), 3) := by decide +kernel
theorem dX10_doesAll_66 : decode cX10_doesAll 66 = .ok (.aload_n 0, 1) := by decide +kernel
theorem dX10_doesAll_67 : decode cX10_doesAll 67 = .ok (.getfield 275, 3) := by decide +kernel
theorem dX10_doesAll_70 : decode cX10_doesAll 70 = .ok (.bipush 40, 2) := by decide +kernel
theorem dX10_doesAll_72 : decode cX10_doesAll 72 = .ok (.if_icmp .ne 5, 3) := by decide +kernel
theorem dX10_doesAll_75 : decode cX10_doesAll 75 = .ok (.iconst 0, 1) := by decide +kernel
theorem dX10_doesAll_76 : decode cX10_doesAll 76 = .ok (.ireturn, 1) := by decide +kernel
theorem dX10_doesAll_77 : decode cX10_doesAll 77 = .ok (.aload_n 0, 1) := by decide +kernel
theorem dX10_doesAll_78 : decode cX10_doesAll 78 = .ok (.iload_n 3, 1) := by decide +kernel
theorem dX10_doesAll_79 : decode cX10_doesAll 79 = .ok (.invokevirtual 278, 3) := by decide +kernel
theorem dX10_doesAll_82 : decode cX10_doesAll 82 = .ok (.istore 4, 2) := by decide +kernel
theorem dX10_doesAll_84 : decode cX10_doesAll 84 = .ok (.aload_n 0, 1) := by decide +kernel
theorem dX10_doesAll_85 : decode cX10_doesAll 85 = .ok (.getfield 79, 3) := by decide +kernel
theorem dX10_doesAll_88 : decode cX10_doesAll 88 = .ok (.ifCond .eq 5, 3) := by decide +kernel
theorem dX10_doesAll_91 : decode cX10_doesAll 91 = .ok (.iconst 0, 1) := by decide +kernel
theorem dX10_doesAll_92 : decode cX10_doesAll 92 = .ok (.ireturn, 1) := by decide +kernel
theorem dX10_doesAll_93 : decode cX10_doesAll 93 = .ok (.aload_n 0, 1) := by decide +kernel
theorem dX10_doesAll_94 : decode cX10_doesAll 94 = .ok (.dup, 1) := by decide +kernel
theorem dX10_doesAll_95 : decode cX10_doesAll 95 = .ok (.getfield 275, 3) := by decide +kernel
theorem dX10_doesAll_98 : decode cX10_doesAll 98 = .ok (.iconst 1, 1) := by decide +kernel
theorem dX10_doesAll_99 : decode cX10_doesAll 99 = .ok (.iadd, 1) := by decide +kernel
theorem dX10_doesAll_100 : decode cX10_doesAll 100 = .ok (.putfield 275, 3) := by decide +kernel
theorem dX10_doesAll_103 : decode cX10_doesAll 103 = .ok (.iinc 3 1, 3) := by decide +kernel
theorem dX10_doesAll_106 : decode cX10_doesAll 106 = .ok (.goto (-104), 3) := by decide +kernel
theorem dX10_doesAll_109 : decode cX10_doesAll 109 = .ok (.iconst 1, 1) := by decide +kernel
theorem dX10_doesAll_110 : decode cX10_doesAll 110 = .ok (.ireturn, 1) := by decide +kernel
def fX10_doesAll_L21 (rc : Mm → Int32 → Int32 → Option (Int32 × Mm)) (c2 : Int32) (c3 : Int32) (K : Int32 → Mm → Option (Int32 × Mm)) : Nat → Int32 → Mm → Option (Int32 × Mm)
  | 0, _, _ => none
  | n + 1, v4, M => if c3 < 0 ∨ 30 ≤ c3.toNatClampNeg then none else if (M.1 (19, 8, 0) c3.toNatClampNeg) ≤ v4 then K v4 M else if c3 < 0 ∨ 30 ≤ c3.toNatClampNeg then none else (rc M (c3 + (1 : Int32)) (M.1 (19, 9, 0) c3.toNatClampNeg)).bind fun q11 => if q11.1 = 0 then some ((0 : Int32), q11.2) else fX10_doesAll_L21 rc c2 c3 K n (v4 + (1 : Int32)) q11.2
def fX10_doesAll_L2 (rc : Mm → Int32 → Int32 → Option (Int32 × Mm)) (c2 : Int32) (K : Int32 → Mm → Option (Int32 × Mm)) : Nat → Int32 → Mm → Option (Int32 × Mm)
  | 0, _, _ => none
  | n + 1, v3, M => if c2 ≤ v3 then K v3 M else if v3 < 0 ∨ 30 ≤ v3.toNatClampNeg then none else if (M.1 (19, 7, 0) v3.toNatClampNeg) = (9 : Int32) then (fX10_doesAll_L21 rc c2 v3 (fun w14 M15 => if v3 < 0 ∨ 30 ≤ v3.toNatClampNeg then none else fX10_doesAll_L2 rc c2 K n (M15.1 (19, 9, 0) v3.toNatClampNeg) M15) NF (0 : Int32) M) else if (M.1 (18, 0, 0) 24) = (40 : Int32) then some ((0 : Int32), M) else (fX10_does M v3).bind fun q5 => if (q5.2.1 (18, 0, 0) 8) = 0 then fX10_doesAll_L2 rc c2 K n (v3 + (1 : Int32)) (putI q5.2 (18, 0, 0) 24 ((q5.2.1 (18, 0, 0) 24) + (1 : Int32))) else some ((0 : Int32), q5.2)
def fX10_doesAll (rc : Mm → Int32 → Int32 → Option (Int32 × Mm)) (M : Mm) (x1 : Int32) (x2 : Int32) : Option (Int32 × Mm) := fX10_doesAll_L2 rc x2 (fun w17 M18 => some ((1 : Int32), M18)) NF x1 M
def gX10_doesAll : Nat → Mm → Int32 → Int32 → Option (Int32 × Mm)
  | 0, _, _, _ => none
  | n + 1, M, x1, x2 => fX10_doesAll (gX10_doesAll n) M x1 x2
set_option maxRecDepth 20000 in
set_option maxHeartbeats 2000000 in
theorem sX10_doesAll_L21 {wv : Nat} (rc : Mm → Int32 → Int32 → Option (Int32 × Mm)) (c2 : Int32) (c3 : Int32) (dd : Nat) (hrc : ∀ (M : Mm) (x1 : Int32) (x2 : Int32) (res : (Int32 × Mm)), rc M x1 x2 = some res → TF (wv + 1) yX10_doesAll cX10_doesAll 5 (some .boolean) dd [.inr (18, 0, 0), .inl (.int x1), .inl (.int x2)] M (some (.int res.1)) res.2) {res : (Int32 × Mm)} {K : Int32 → Mm → Option (Int32 × Mm)} : ∀ (n : Nat) (v4 : Int32) (M : Mm), fX10_doesAll_L21 rc c2 c3 K n v4 M = some res →
    (∀ (v4 : Int32) (M : Mm), K v4 M = some res → Z RX10 cX10_doesAll 5 (some .boolean) [] "doesAll" (rmD (dd + 8) 0 0) (QM SH (allR (wv + 1)) 0 0 (fun v M9 => v = some (.int res.1) ∧ M9 = res.2) (fun _ _ => False)) (allR (wv + 1)) SH 0 0 56 [some (.inr (18, 0, 0)), none, some (.inl (.int c2)), some (.inl (.int c3)), some (.inl (.int v4))] [] M) → Z RX10 cX10_doesAll 5 (some .boolean) [] "doesAll" (rmD (dd + 8) 0 0) (QM SH (allR (wv + 1)) 0 0 (fun v M9 => v = some (.int res.1) ∧ M9 = res.2) (fun _ _ => False)) (allR (wv + 1)) SH 0 0 21 [some (.inr (18, 0, 0)), none, some (.inl (.int c2)), some (.inl (.int c3)), some (.inl (.int v4))] [] M := by
  intro n
  induction n with
  | zero => intro v4 M h; cases h
  | succ n ih =>
    intro v4 M h hK
    rw [fX10_doesAll_L21] at h
    refine z_iload (i := 4) dX10_doesAll_21 rfl ?_
    refine z_aload_n (i := 0) dX10_doesAll_23 rfl rfl ?_
    refine z_getR (r' := (19, 8, 0)) dX10_doesAll_24 fl_X10_42 mk18 rfl rfl ?_
    refine z_iload_n (i := 3) dX10_doesAll_27 rfl rfl ?_
    obtain ⟨hc8, h⟩ := chk h
    refine z_iald (x := (M.1 (19, 8, 0) c3.toNatClampNeg)) dX10_doesAll_28 (m19 _ (Nat.le_of_ble_eq_true rfl)) rfl hc8 rfl ?_
    refine z_icmp_ge (tgt := 56) dX10_doesAll_29 rfl (fun hc9 => ?_) (fun hc9 => ?_)
    · have h := it_t h hc9
      exact hK _ _ h
    · have h := it_f h hc9
      refine z_aload_n (i := 0) dX10_doesAll_32 rfl rfl ?_
      refine z_iload_n (i := 3) dX10_doesAll_33 rfl rfl ?_
      refine z_iconst (v := (1 : Int32)) dX10_doesAll_34 kc_1 ?_
      refine z_iadd dX10_doesAll_35 ?_
      refine z_aload_n (i := 0) dX10_doesAll_36 rfl rfl ?_
      refine z_getR (r' := (19, 9, 0)) dX10_doesAll_37 fl_X10_45 mk18 rfl rfl ?_
      refine z_iload_n (i := 3) dX10_doesAll_40 rfl rfl ?_
      obtain ⟨hc10, h⟩ := chk h
      refine z_iald (x := (M.1 (19, 9, 0) c3.toNatClampNeg)) dX10_doesAll_41 (m19 _ (Nat.le_of_ble_eq_true rfl)) rfl hc10 rfl ?_
      obtain ⟨q11, hq12, h⟩ := bnd h
      refine z_fVi (hrc M (c3 + (1 : Int32)) (M.1 (19, 9, 0) c3.toNatClampNeg) _ hq12) dX10_doesAll_42 ml_X10_272 cd_X10_doesAll mk18 rfl rfl rfl (rmk_d (by omega) (by decide)) rfl rfl ?_
      refine z_if_ne (tgt := 50) dX10_doesAll_45 rfl (fun hc13 => ?_) (fun hc13 => ?_)
      · have h := it_f h hc13
        refine z_iinc (i := 4) (v := (v4 + (1 : Int32))) dX10_doesAll_50 rfl (iinc_k kc_1) (Nat.le_of_ble_eq_true rfl) rfl ?_
        refine z_goto (tgt := 21) dX10_doesAll_53 rfl ?_
        exact ih _ _ h hK
      · have h := it_t h hc13
        refine z_iconst (v := (0 : Int32)) dX10_doesAll_48 kc_0 ?_
        cases h
        exact z_iret dX10_doesAll_49 rfl rfl (Nat.le_refl _) (Nat.le_refl _) ⟨rfl, rfl⟩
set_option maxRecDepth 20000 in
set_option maxHeartbeats 2000000 in
theorem sX10_doesAll_L2 {wv : Nat} (rc : Mm → Int32 → Int32 → Option (Int32 × Mm)) (c2 : Int32) (dd : Nat) (hrc : ∀ (M : Mm) (x1 : Int32) (x2 : Int32) (res : (Int32 × Mm)), rc M x1 x2 = some res → TF (wv + 1) yX10_doesAll cX10_doesAll 5 (some .boolean) dd [.inr (18, 0, 0), .inl (.int x1), .inl (.int x2)] M (some (.int res.1)) res.2) {res : (Int32 × Mm)} {K : Int32 → Mm → Option (Int32 × Mm)} : ∀ (n : Nat) (v3 : Int32) (M : Mm), fX10_doesAll_L2 rc c2 K n v3 M = some res →
    (∀ (v3 : Int32) (M : Mm), K v3 M = some res → Z RX10 cX10_doesAll 5 (some .boolean) [] "doesAll" (rmD (dd + 8) 0 0) (QM SH (allR (wv + 1)) 0 0 (fun v M9 => v = some (.int res.1) ∧ M9 = res.2) (fun _ _ => False)) (allR (wv + 1)) SH 0 0 109 [some (.inr (18, 0, 0)), none, some (.inl (.int c2)), some (.inl (.int v3)), none] [] M) → Z RX10 cX10_doesAll 5 (some .boolean) [] "doesAll" (rmD (dd + 8) 0 0) (QM SH (allR (wv + 1)) 0 0 (fun v M9 => v = some (.int res.1) ∧ M9 = res.2) (fun _ _ => False)) (allR (wv + 1)) SH 0 0 2 [some (.inr (18, 0, 0)), none, some (.inl (.int c2)), some (.inl (.int v3)), none] [] M := by
  intro n
  induction n with
  | zero => intro v3 M h; cases h
  | succ n ih =>
    intro v3 M h hK
    rw [fX10_doesAll_L2] at h
    refine z_iload_n (i := 3) dX10_doesAll_2 rfl rfl ?_
    refine z_iload_n (i := 2) dX10_doesAll_3 rfl rfl ?_
    refine z_icmp_ge (tgt := 109) dX10_doesAll_4 rfl (fun hc1 => ?_) (fun hc1 => ?_)
    · have h := it_t h hc1
      exact hK _ _ h
    · have h := it_f h hc1
      refine z_aload_n (i := 0) dX10_doesAll_7 rfl rfl ?_
      refine z_getR (r' := (19, 7, 0)) dX10_doesAll_8 fl_X10_39 mk18 rfl rfl ?_
      refine z_iload_n (i := 3) dX10_doesAll_11 rfl rfl ?_
      obtain ⟨hc2, h⟩ := chk h
      refine z_iald (x := (M.1 (19, 7, 0) v3.toNatClampNeg)) dX10_doesAll_12 (m19 _ (Nat.le_of_ble_eq_true rfl)) rfl hc2 rfl ?_
      refine z_bipush (v := (9 : Int32)) dX10_doesAll_13 kb_9 ?_
      refine z_icmp_ne (tgt := 66) dX10_doesAll_15 rfl (fun hc3 => ?_) (fun hc3 => ?_)
      · have h := it_f h hc3
        refine z_aload_n (i := 0) dX10_doesAll_66 rfl rfl ?_
        refine z_getI (x := (M.1 (18, 0, 0) 24)) dX10_doesAll_67 fl_X10_275 mk18 rfl rfl ?_
        refine z_bipush (v := (40 : Int32)) dX10_doesAll_70 kb_40 ?_
        refine z_icmp_ne (tgt := 77) dX10_doesAll_72 rfl (fun hc4 => ?_) (fun hc4 => ?_)
        · have h := it_f h hc4
          refine z_aload_n (i := 0) dX10_doesAll_77 rfl rfl ?_
          refine z_iload_n (i := 3) dX10_doesAll_78 rfl rfl ?_
          obtain ⟨q5, hq6, h⟩ := bnd h
          refine z_fVi (sX10_does M v3 hq6) dX10_doesAll_79 ml_X10_278 cd_X10_does mk18 rfl rfl rfl (rmk_d (by omega) (by decide)) rfl rfl ?_
          refine z_istore (i := 4) dX10_doesAll_82 (Nat.le_of_ble_eq_true rfl) rfl ?_
          refine z_aload_n (i := 0) dX10_doesAll_84 rfl rfl ?_
          refine z_getI (x := (q5.2.1 (18, 0, 0) 8)) dX10_doesAll_85 fl_X10_79 mk18 rfl rfl ?_
          refine z_if_eq (tgt := 93) dX10_doesAll_88 rfl (fun hc7 => ?_) (fun hc7 => ?_)
          · have h := it_t h hc7
            refine z_aload_n (i := 0) dX10_doesAll_93 rfl rfl ?_
            refine z_dup dX10_doesAll_94 rfl ?_
            refine z_getI (x := (q5.2.1 (18, 0, 0) 24)) dX10_doesAll_95 fl_X10_275 mk18 rfl rfl ?_
            refine z_iconst (v := (1 : Int32)) dX10_doesAll_98 kc_1 ?_
            refine z_iadd dX10_doesAll_99 ?_
            refine z_putI allR_nd dX10_doesAll_100 fl_X10_275 mk18 rfl rfl ?_
            refine z_iinc (i := 3) (v := (v3 + (1 : Int32))) dX10_doesAll_103 rfl (iinc_k kc_1) (Nat.le_of_ble_eq_true rfl) rfl ?_
            refine z_goto (tgt := 2) dX10_doesAll_106 rfl ?_
            refine z_fgt (i := 4) ?_
            exact ih _ _ h hK
          · have h := it_f h hc7
            refine z_iconst (v := (0 : Int32)) dX10_doesAll_91 kc_0 ?_
            cases h
            exact z_iret dX10_doesAll_92 rfl rfl (Nat.le_refl _) (Nat.le_refl _) ⟨rfl, rfl⟩
        · have h := it_t h hc4
          refine z_iconst (v := (0 : Int32)) dX10_doesAll_75 kc_0 ?_
          cases h
          exact z_iret dX10_doesAll_76 rfl rfl (Nat.le_refl _) (Nat.le_refl _) ⟨rfl, rfl⟩
      · have h := it_t h hc3
        refine z_iconst (v := (0 : Int32)) dX10_doesAll_18 kc_0 ?_
        refine z_istore (i := 4) dX10_doesAll_19 (Nat.le_of_ble_eq_true rfl) rfl ?_
        refine sX10_doesAll_L21 rc c2 v3 dd hrc NF _ _ h (fun w14 M15 h => ?_)
        refine z_aload_n (i := 0) dX10_doesAll_56 rfl rfl ?_
        refine z_getR (r' := (19, 9, 0)) dX10_doesAll_57 fl_X10_45 mk18 rfl rfl ?_
        refine z_iload_n (i := 3) dX10_doesAll_60 rfl rfl ?_
        obtain ⟨hc16, h⟩ := chk h
        refine z_iald (x := (M15.1 (19, 9, 0) v3.toNatClampNeg)) dX10_doesAll_61 (m19 _ (Nat.le_of_ble_eq_true rfl)) rfl hc16 rfl ?_
        refine z_istore_n (i := 3) dX10_doesAll_62 rfl (Nat.le_of_ble_eq_true rfl) rfl ?_
        refine z_goto (tgt := 2) dX10_doesAll_63 rfl ?_
        refine z_fgt (i := 4) ?_
        exact ih _ _ h hK
set_option maxRecDepth 20000 in
set_option maxHeartbeats 2000000 in
theorem sX10_doesAll {wv : Nat} (rc : Mm → Int32 → Int32 → Option (Int32 × Mm)) (dd : Nat) (hrc : ∀ (M : Mm) (x1 : Int32) (x2 : Int32) (res : (Int32 × Mm)), rc M x1 x2 = some res → TF (wv + 1) yX10_doesAll cX10_doesAll 5 (some .boolean) dd [.inr (18, 0, 0), .inl (.int x1), .inl (.int x2)] M (some (.int res.1)) res.2) (M : Mm) (x1 : Int32) (x2 : Int32) {res : (Int32 × Mm)} (h : fX10_doesAll rc M x1 x2 = some res) : TF (wv + 1) yX10_doesAll cX10_doesAll 5 (some .boolean) (dd + 8) [.inr (18, 0, 0), .inl (.int x1), .inl (.int x2)] M (some (.int res.1)) res.2 := by
  rw [fX10_doesAll] at h
  refine TF.go (n := 2) (ls := [some (.inr (18, 0, 0)), some (.inl (.int x1)), some (.inl (.int x2)), none, none]) rfl rfl rfl rfl rfl ?_
  refine z_iload_n (i := 1) dX10_doesAll_0 rfl rfl ?_
  refine z_istore_n (i := 3) dX10_doesAll_1 rfl (Nat.le_of_ble_eq_true rfl) rfl ?_
  refine z_fgt (i := 1) ?_
  refine sX10_doesAll_L2 rc x2 dd hrc NF _ _ h (fun w17 M18 h => ?_)
  refine z_iconst (v := (1 : Int32)) dX10_doesAll_109 kc_1 ?_
  cases h
  exact z_iret dX10_doesAll_110 rfl rfl (Nat.le_refl _) (Nat.le_refl _) ⟨rfl, rfl⟩
set_option maxRecDepth 20000 in
set_option maxHeartbeats 2000000 in
theorem uX10_doesAll {wv : Nat} : ∀ (n : Nat) (M : Mm) (x1 : Int32) (x2 : Int32) (res : (Int32 × Mm)), gX10_doesAll n M x1 x2 = some res → TF (wv + 1) yX10_doesAll cX10_doesAll 5 (some .boolean) (8 * n) [.inr (18, 0, 0), .inl (.int x1), .inl (.int x2)] M (some (.int res.1)) res.2 := by
  intro n
  induction n with
  | zero => intro M x1 x2  res h; cases h
  | succ n ih =>
    intro M x1 x2  res h
    exact sX10_doesAll (gX10_doesAll n) (8 * n) (fun M x1 x2  res h => ih M x1 x2  res h) M x1 x2  h
