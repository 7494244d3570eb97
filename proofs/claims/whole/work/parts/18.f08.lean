theorem dX7_fail_0 : decode cX7_fail 0 = .ok (.aload_n 0, 1) := by decide +kernel
theorem dX7_fail_1 : decode cX7_fail 1 = .ok (.iload_n 1, 1) := by decide +kernel
theorem dX7_fail_2 : decode cX7_fail 2 = .ok (.putfield 32, 3) := by decide +kernel
theorem dX7_fail_5 : decode cX7_fail 5 = .ok (.aload_n 0, 1) := by decide +kernel
theorem dX7_fail_6 : decode cX7_fail 6 = .ok (.aload_n 0, 1) := by decide +kernel
theorem dX7_fail_7 : decode cX7_fail 7 = .ok (.getfield 38, 3) := by decide +kernel
theorem dX7_fail_10 : decode cX7_fail 10 = .ok (.ifCond .lt 27, 3) := by decide +kernel
theorem dX7_fail_13 : decode cX7_fail 13 = .ok (.aload_n 0, 1) := by decide +kernel
theorem dX7_fail_14 : decode cX7_fail 14 = .ok (.getfield 38, 3) := by decide +kernel
theorem dX7_fail_17 : decode cX7_fail 17 = .ok (.aload_n 0, 1) := by decide +kernel
theorem dX7_fail_18 : decode cX7_fail 18 = .ok (.getfield 15, 3) := by decide +kernel
theorem dX7_fail_21 : decode cX7_fail 21 = .ok (.arraylength, 1) := by decide +kernel
theorem dX7_fail_22 : decode cX7_fail 22 = .ok (.if_icmp .ge 15, 3) := by decide +kernel
theorem dX7_fail_25 : decode cX7_fail 25 = .ok (.aload_n 0, 1) := by decide +kernel
theorem dX7_fail_26 : decode cX7_fail 26 = .ok (.getfield 15, 3) := by decide +kernel
theorem dX7_fail_29 : decode cX7_fail 29 = .ok (.aload_n 0, 1) := by decide +kernel
theorem dX7_fail_30 : decode cX7_fail 30 = .ok (.getfield 38, 3) := by decide +kernel
theorem dX7_fail_33 : decode cX7_fail 33 = .ok (.iaload, 1) := by decide +kernel
theorem dX7_fail_34 : decode cX7_fail 34 = .ok (.goto 4, 3) := by decide +kernel
theorem dX7_fail_37 : decode cX7_fail 37 = .ok (.iconst (-1), 1) := by decide +kernel
theorem dX7_fail_38 : decode cX7_fail 38 = .ok (.putfield 28, 3) := by decide +kernel
theorem dX7_fail_41 : decode cX7_fail 41 = .ok (.iconst 0, 1) := by decide +kernel
theorem dX7_fail_42 : decode cX7_fail 42 = .ok (.ireturn, 1) := by decide +kernel
def fX7_fail (M : Mm) (x1 : Int32) : Option (Int32 × Mm) := if (M.1 (3, 0, 0) 6) < 0 then some ((0 : Int32), (putI (putI M (3, 0, 0) 7 x1) (3, 0, 0) 8 (-1 : Int32))) else if (801 : Int32) ≤ (M.1 (3, 0, 0) 6) then some ((0 : Int32), (putI (putI M (3, 0, 0) 7 x1) (3, 0, 0) 8 (-1 : Int32))) else if (M.1 (3, 0, 0) 6) < 0 ∨ 801 ≤ (M.1 (3, 0, 0) 6).toNatClampNeg then none else some ((0 : Int32), (putI (putI M (3, 0, 0) 7 x1) (3, 0, 0) 8 (M.1 (4, 1, 0) (M.1 (3, 0, 0) 6).toNatClampNeg)))
set_option maxRecDepth 20000 in
set_option maxHeartbeats 2000000 in
theorem sX7_fail {wv : Nat} (M : Mm) (x1 : Int32) {res : (Int32 × Mm)} (h : fX7_fail M x1 = some res) : TF wv yX7_fail cX7_fail 2 (some .boolean) 0 [.inr (3, 0, 0), .inl (.int x1)] M (some (.int res.1)) res.2 := by
  rw [fX7_fail] at h
  refine TF.go (n := 0) (ls := [some (.inr (3, 0, 0)), some (.inl (.int x1))]) rfl rfl rfl rfl rfl ?_
  refine z_aload_n (i := 0) dX7_fail_0 rfl rfl ?_
  refine z_iload_n (i := 1) dX7_fail_1 rfl rfl ?_
  refine z_putI allR_nd dX7_fail_2 fl_X7_32 mk3 rfl rfl ?_
  refine z_aload_n (i := 0) dX7_fail_5 rfl rfl ?_
  refine z_aload_n (i := 0) dX7_fail_6 rfl rfl ?_
  refine z_getI (x := (M.1 (3, 0, 0) 6)) dX7_fail_7 fl_X7_38 mk3 rfl rfl ?_
  refine z_if_lt (tgt := 37) dX7_fail_10 rfl (fun hc1 => ?_) (fun hc1 => ?_)
  · have h := it_t h hc1
    refine z_iconst (v := (-1 : Int32)) dX7_fail_37 kc_m1 ?_
    refine z_putI allR_nd dX7_fail_38 fl_X7_28 mk3 rfl rfl ?_
    refine z_iconst (v := (0 : Int32)) dX7_fail_41 kc_0 ?_
    cases h
    exact z_iret dX7_fail_42 rfl rfl (Nat.le_refl _) (Nat.le_refl _) ⟨rfl, rfl⟩
  · have h := it_f h hc1
    refine z_aload_n (i := 0) dX7_fail_13 rfl rfl ?_
    refine z_getI (x := (M.1 (3, 0, 0) 6)) dX7_fail_14 fl_X7_38 mk3 rfl rfl ?_
    refine z_aload_n (i := 0) dX7_fail_17 rfl rfl ?_
    refine z_getR (r' := (4, 1, 0)) dX7_fail_18 fl_X7_15 mk3 rfl rfl ?_
    refine z_alen (v := (801 : Int32)) dX7_fail_21 (m4 _ (Nat.le_of_ble_eq_true rfl)) rfl (Nat.le_of_ble_eq_true rfl) (by decide) ?_
    refine z_icmp_ge (tgt := 37) dX7_fail_22 rfl (fun hc2 => ?_) (fun hc2 => ?_)
    · have h := it_t h hc2
      refine z_iconst (v := (-1 : Int32)) dX7_fail_37 kc_m1 ?_
      refine z_putI allR_nd dX7_fail_38 fl_X7_28 mk3 rfl rfl ?_
      refine z_iconst (v := (0 : Int32)) dX7_fail_41 kc_0 ?_
      cases h
      exact z_iret dX7_fail_42 rfl rfl (Nat.le_refl _) (Nat.le_refl _) ⟨rfl, rfl⟩
    · have h := it_f h hc2
      refine z_aload_n (i := 0) dX7_fail_25 rfl rfl ?_
      refine z_getR (r' := (4, 1, 0)) dX7_fail_26 fl_X7_15 mk3 rfl rfl ?_
      refine z_aload_n (i := 0) dX7_fail_29 rfl rfl ?_
      refine z_getI (x := (M.1 (3, 0, 0) 6)) dX7_fail_30 fl_X7_38 mk3 rfl rfl ?_
      obtain ⟨hc3, h⟩ := chk h
      refine z_iald (x := (M.1 (4, 1, 0) (M.1 (3, 0, 0) 6).toNatClampNeg)) dX7_fail_33 (m4 _ (Nat.le_of_ble_eq_true rfl)) rfl hc3 rfl ?_
      refine z_goto (tgt := 38) dX7_fail_34 rfl ?_
      refine z_putI allR_nd dX7_fail_38 fl_X7_28 mk3 rfl rfl ?_
      refine z_iconst (v := (0 : Int32)) dX7_fail_41 kc_0 ?_
      cases h
      exact z_iret dX7_fail_42 rfl rfl (Nat.le_refl _) (Nat.le_refl _) ⟨rfl, rfl⟩
theorem dX7_advance_0 : decode cX7_advance 0 = .ok (.aload_n 0, 1) := by decide +kernel
theorem dX7_advance_1 : decode cX7_advance 1 = .ok (.getfield 38, 3) := by decide +kernel
theorem dX7_advance_4 : decode cX7_advance 4 = .ok (.aload_n 0, 1) := by decide +kernel
theorem dX7_advance_5 : decode cX7_advance 5 = .ok (.getfield 35, 3) := by decide +kernel
theorem dX7_advance_8 : decode cX7_advance 8 = .ok (.iconst 1, 1) := by decide +kernel
theorem dX7_advance_9 : decode cX7_advance 9 = .ok (.isub, 1) := by decide +kernel
theorem dX7_advance_10 : decode cX7_advance 10 = .ok (.if_icmp .ge 13, 3) := by decide +kernel
theorem dX7_advance_13 : decode cX7_advance 13 = .ok (.aload_n 0, 1) := by decide +kernel
theorem dX7_advance_14 : decode cX7_advance 14 = .ok (.dup, 1) := by decide +kernel
theorem dX7_advance_15 : decode cX7_advance 15 = .ok (.getfield 38, 3) := by decide +kernel
theorem dX7_advance_18 : decode cX7_advance 18 = .ok (.iconst 1, 1) := by decide +kernel
theorem dX7_advance_19 : decode cX7_advance 19 = .ok (.iadd, 1) := by decide +kernel
theorem dX7_advance_20 : decode cX7_advance 20 = .ok (.putfield 38, 3) := by decide +kernel
theorem dX7_advance_23 : decode cX7_advance 23 = .ok (.return_, 1) := by decide +kernel
def fX7_advance (M : Mm) : Mm := if ((M.1 (3, 0, 0) 5) - (1 : Int32)) ≤ (M.1 (3, 0, 0) 6) then M else (putI M (3, 0, 0) 6 ((M.1 (3, 0, 0) 6) + (1 : Int32)))
set_option maxRecDepth 20000 in
set_option maxHeartbeats 2000000 in
theorem tX7_advance {wv : Nat} (M : Mm) {res : Mm} (h : fX7_advance M  = res) : TF wv yX7_advance cX7_advance 1 none 0 [.inr (3, 0, 0)] M (none) res := by
  rw [fX7_advance] at h
  refine TF.go (n := 0) (ls := [some (.inr (3, 0, 0))]) rfl rfl rfl rfl rfl ?_
  refine z_aload_n (i := 0) dX7_advance_0 rfl rfl ?_
  refine z_getI (x := (M.1 (3, 0, 0) 6)) dX7_advance_1 fl_X7_38 mk3 rfl rfl ?_
  refine z_aload_n (i := 0) dX7_advance_4 rfl rfl ?_
  refine z_getI (x := (M.1 (3, 0, 0) 5)) dX7_advance_5 fl_X7_35 mk3 rfl rfl ?_
  refine z_iconst (v := (1 : Int32)) dX7_advance_8 kc_1 ?_
  refine z_isub dX7_advance_9 ?_
  refine z_icmp_ge (tgt := 23) dX7_advance_10 rfl (fun hc1 => ?_) (fun hc1 => ?_)
  · have h := it_t h hc1
    subst h
    exact z_vret dX7_advance_23 rfl (Nat.le_refl _) (Nat.le_refl _) ⟨rfl, rfl⟩
  · have h := it_f h hc1
    refine z_aload_n (i := 0) dX7_advance_13 rfl rfl ?_
    refine z_dup dX7_advance_14 rfl ?_
    refine z_getI (x := (M.1 (3, 0, 0) 6)) dX7_advance_15 fl_X7_38 mk3 rfl rfl ?_
    refine z_iconst (v := (1 : Int32)) dX7_advance_18 kc_1 ?_
    refine z_iadd dX7_advance_19 ?_
    refine z_putI allR_nd dX7_advance_20 fl_X7_38 mk3 rfl rfl ?_
    subst h
    exact z_vret dX7_advance_23 rfl (Nat.le_refl _) (Nat.le_refl _) ⟨rfl, rfl⟩
theorem sX7_advance {wv : Nat} (M : Mm) : TF wv yX7_advance cX7_advance 1 none 0 [.inr (3, 0, 0)] M (none) (fX7_advance M ) := tX7_advance M   rfl
theorem dX7_takeNumber_0 : decode cX7_takeNumber 0 = .ok (.aload_n 0, 1) := by decide +kernel
theorem dX7_takeNumber_1 : decode cX7_takeNumber 1 = .ok (.iconst 2, 1) := by decide +kernel
theorem dX7_takeNumber_2 : decode cX7_takeNumber 2 = .ok (.invokevirtual 68, 3) := by decide +kernel
theorem dX7_takeNumber_5 : decode cX7_takeNumber 5 = .ok (.ifCond .ne 11, 3) := by decide +kernel
theorem dX7_takeNumber_8 : decode cX7_takeNumber 8 = .ok (.aload_n 0, 1) := by decide +kernel
theorem dX7_takeNumber_9 : decode cX7_takeNumber 9 = .ok (.iconst 1, 1) := by decide +kernel
theorem dX7_takeNumber_10 : decode cX7_takeNumber 10 = .ok (.invokevirtual 85, 3) := by decide +kernel
theorem dX7_takeNumber_13 : decode cX7_takeNumber 13 = .ok (.pop, 1) := by decide +kernel
theorem dX7_takeNumber_14 : decode cX7_takeNumber 14 = .ok (.iconst (-1), 1) := by decide +kernel
theorem dX7_takeNumber_15 : decode cX7_takeNumber 15 = .ok (.ireturn, 1) := by decide +kernel
theorem dX7_takeNumber_16 : decode cX7_takeNumber 16 = .ok (.aload_n 0, 1) := by decide +kernel
theorem dX7_takeNumber_17 : decode cX7_takeNumber 17 = .ok (.getfield 21, 3) := by decide +kernel
theorem dX7_takeNumber_20 : decode cX7_takeNumber 20 = .ok (.aload_n 0, 1) := by decide +kernel
theorem dX7_takeNumber_21 : decode cX7_takeNumber 21 = .ok (.getfield 38, 3) := by decide +kernel
theorem dX7_takeNumber_24 : decode cX7_takeNumber 24 = .ok (.iaload, 1) := by decide +kernel
theorem dX7_takeNumber_25 : decode cX7_takeNumber 25 = .ok (.istore_n 3, 1) := by decide +kernel
theorem dX7_takeNumber_26 : decode cX7_takeNumber 26 = .ok (.iload_n 3, 1) := by decide +kernel
theorem dX7_takeNumber_27 : decode cX7_takeNumber 27 = .ok (.iload_n 1, 1) := by decide +kernel
theorem dX7_takeNumber_28 : decode cX7_takeNumber 28 = .ok (.if_icmp .lt 8, 3) := by decide +kernel
theorem dX7_takeNumber_31 : decode cX7_takeNumber 31 = .ok (.iload_n 3, 1) := by decide +kernel
theorem dX7_takeNumber_32 : decode cX7_takeNumber 32 = .ok (.iload_n 2, 1) := by decide +kernel
theorem dX7_takeNumber_33 : decode cX7_takeNumber 33 = .ok (.if_icmp .le 11, 3) := by decide +kernel
theorem dX7_takeNumber_36 : decode cX7_takeNumber 36 = .ok (.aload_n 0, 1) := by decide +kernel
theorem dX7_takeNumber_37 : decode cX7_takeNumber 37 = .ok (.iconst 2, 1) := by decide +kernel
theorem dX7_takeNumber_38 : decode cX7_takeNumber 38 = .ok (.invokevirtual 85, 3) := by decide +kernel
theorem dX7_takeNumber_41 : decode cX7_takeNumber 41 = .ok (.pop, 1) := by decide +kernel
theorem dX7_takeNumber_42 : decode cX7_takeNumber 42 = .ok (.iconst (-1), 1) := by decide +kernel
theorem dX7_takeNumber_43 : decode cX7_takeNumber 43 = .ok (.ireturn, 1) := by decide +kernel
theorem dX7_takeNumber_44 : decode cX7_takeNumber 44 = .ok (.aload_n 0, 1) := by decide +kernel
theorem dX7_takeNumber_45 : decode cX7_takeNumber 45 = .ok (.invokevirtual 88, 3) := by decide +kernel
theorem dX7_takeNumber_48 : decode cX7_takeNumber 48 = .ok (.iload_n 3, 1) := by decide +kernel
theorem dX7_takeNumber_49 : decode cX7_takeNumber 49 = .ok (.ireturn, 1) := by decide +kernel
def fX7_takeNumber (M : Mm) (x1 : Int32) (x2 : Int32) : Option (Int32 × Mm) := (fX7_atKind M (2 : Int32)).bind fun q1 => if q1 = 0 then ((fX7_fail M (1 : Int32)).bind fun q11 => some ((-1 : Int32), q11.2)) else if (M.1 (3, 0, 0) 6) < 0 ∨ 801 ≤ (M.1 (3, 0, 0) 6).toNatClampNeg then none else if (M.1 (4, 3, 0) (M.1 (3, 0, 0) 6).toNatClampNeg) < x1 then ((fX7_fail M (2 : Int32)).bind fun q6 => some ((-1 : Int32), q6.2)) else if (M.1 (4, 3, 0) (M.1 (3, 0, 0) 6).toNatClampNeg) ≤ x2 then some ((M.1 (4, 3, 0) (M.1 (3, 0, 0) 6).toNatClampNeg), (fX7_advance M)) else (fX7_fail M (2 : Int32)).bind fun q9 => some ((-1 : Int32), q9.2)
set_option maxRecDepth 20000 in
set_option maxHeartbeats 2000000 in
theorem sX7_takeNumber {wv : Nat} (M : Mm) (x1 : Int32) (x2 : Int32) {res : (Int32 × Mm)} (h : fX7_takeNumber M x1 x2 = some res) : TF wv yX7_takeNumber cX7_takeNumber 4 (some .int) 1 [.inr (3, 0, 0), .inl (.int x1), .inl (.int x2)] M (some (.int res.1)) res.2 := by
  rw [fX7_takeNumber] at h
  refine TF.go (n := 1) (ls := [some (.inr (3, 0, 0)), some (.inl (.int x1)), some (.inl (.int x2)), none]) rfl rfl rfl rfl rfl ?_
  refine z_aload_n (i := 0) dX7_takeNumber_0 rfl rfl ?_
  refine z_iconst (v := (2 : Int32)) dX7_takeNumber_1 kc_2 ?_
  obtain ⟨q1, hq2, h⟩ := bnd h
  refine z_fVi (sX7_atKind M (2 : Int32) hq2) dX7_takeNumber_2 ml_X7_68 cd_X7_atKind mk3 rfl rfl rfl rfl rfl rfl ?_
  refine z_if_ne (tgt := 16) dX7_takeNumber_5 rfl (fun hc3 => ?_) (fun hc3 => ?_)
  · have h := it_f h hc3
    refine z_aload_n (i := 0) dX7_takeNumber_16 rfl rfl ?_
    refine z_getR (r' := (4, 3, 0)) dX7_takeNumber_17 fl_X7_21 mk3 rfl rfl ?_
    refine z_aload_n (i := 0) dX7_takeNumber_20 rfl rfl ?_
    refine z_getI (x := (M.1 (3, 0, 0) 6)) dX7_takeNumber_21 fl_X7_38 mk3 rfl rfl ?_
    obtain ⟨hc4, h⟩ := chk h
    refine z_iald (x := (M.1 (4, 3, 0) (M.1 (3, 0, 0) 6).toNatClampNeg)) dX7_takeNumber_24 (m4 _ (Nat.le_of_ble_eq_true rfl)) rfl hc4 rfl ?_
    refine z_istore_n (i := 3) dX7_takeNumber_25 rfl (Nat.le_of_ble_eq_true rfl) rfl ?_
    refine z_iload_n (i := 3) dX7_takeNumber_26 rfl rfl ?_
    refine z_iload_n (i := 1) dX7_takeNumber_27 rfl rfl ?_
    refine z_icmp_lt (tgt := 36) dX7_takeNumber_28 rfl (fun hc5 => ?_) (fun hc5 => ?_)
    · have h := it_t h hc5
      refine z_aload_n (i := 0) dX7_takeNumber_36 rfl rfl ?_
      refine z_iconst (v := (2 : Int32)) dX7_takeNumber_37 kc_2 ?_
      obtain ⟨q6, hq7, h⟩ := bnd h
      refine z_fVi (sX7_fail M (2 : Int32) hq7) dX7_takeNumber_38 ml_X7_85 cd_X7_fail mk3 rfl rfl rfl rfl rfl rfl ?_
      refine z_pop dX7_takeNumber_41 rfl ?_
      refine z_iconst (v := (-1 : Int32)) dX7_takeNumber_42 kc_m1 ?_
      cases h
      exact z_iret dX7_takeNumber_43 rfl rfl (Nat.le_refl _) (Nat.le_refl _) ⟨rfl, rfl⟩
    · have h := it_f h hc5
      refine z_iload_n (i := 3) dX7_takeNumber_31 rfl rfl ?_
      refine z_iload_n (i := 2) dX7_takeNumber_32 rfl rfl ?_
      refine z_icmp_le (tgt := 44) dX7_takeNumber_33 rfl (fun hc8 => ?_) (fun hc8 => ?_)
      · have h := it_t h hc8
        refine z_aload_n (i := 0) dX7_takeNumber_44 rfl rfl ?_
        refine z_fVv (sX7_advance M) dX7_takeNumber_45 ml_X7_88 cd_X7_advance mk3 rfl rfl rfl rfl rfl rfl ?_
        refine z_iload_n (i := 3) dX7_takeNumber_48 rfl rfl ?_
        cases h
        exact z_iret dX7_takeNumber_49 rfl rfl (Nat.le_refl _) (Nat.le_refl _) ⟨rfl, rfl⟩
      · have h := it_f h hc8
        refine z_aload_n (i := 0) dX7_takeNumber_36 rfl rfl ?_
        refine z_iconst (v := (2 : Int32)) dX7_takeNumber_37 kc_2 ?_
        obtain ⟨q9, hq10, h⟩ := bnd h
        refine z_fVi (sX7_fail M (2 : Int32) hq10) dX7_takeNumber_38 ml_X7_85 cd_X7_fail mk3 rfl rfl rfl rfl rfl rfl ?_
        refine z_pop dX7_takeNumber_41 rfl ?_
        refine z_iconst (v := (-1 : Int32)) dX7_takeNumber_42 kc_m1 ?_
        cases h
        exact z_iret dX7_takeNumber_43 rfl rfl (Nat.le_refl _) (Nat.le_refl _) ⟨rfl, rfl⟩
  · have h := it_t h hc3
    refine z_aload_n (i := 0) dX7_takeNumber_8 rfl rfl ?_
    refine z_iconst (v := (1 : Int32)) dX7_takeNumber_9 kc_1 ?_
    obtain ⟨q11, hq12, h⟩ := bnd h
    refine z_fVi (sX7_fail M (1 : Int32) hq12) dX7_takeNumber_10 ml_X7_85 cd_X7_fail mk3 rfl rfl rfl rfl rfl rfl ?_
    refine z_pop dX7_takeNumber_13 rfl ?_
    refine z_iconst (v := (-1 : Int32)) dX7_takeNumber_14 kc_m1 ?_
    cases h
    exact z_iret dX7_takeNumber_15 rfl rfl (Nat.le_refl _) (Nat.le_refl _) ⟨rfl, rfl⟩
theorem dX5_readArgument_0 : decode cX5_readArgument 0 = .ok (.aload_n 0, 1) := by decide +kernel
theorem dX5_readArgument_1 : decode cX5_readArgument 1 = .ok (.getfield 9, 3) := by decide +kernel
theorem dX5_readArgument_4 : decode cX5_readArgument 4 = .ok (.iload_n 3, 1) := by decide +kernel
theorem dX5_readArgument_5 : decode cX5_readArgument 5 = .ok (.iload 4, 2) := by decide +kernel
theorem dX5_readArgument_7 : decode cX5_readArgument 7 = .ok (.invokevirtual 107, 3) := by decide +kernel
theorem dX5_readArgument_10 : decode cX5_readArgument 10 = .ok (.istore 5, 2) := by decide +kernel
theorem dX5_readArgument_12 : decode cX5_readArgument 12 = .ok (.iload 5, 2) := by decide +kernel
theorem dX5_readArgument_14 : decode cX5_readArgument 14 = .ok (.iconst (-1), 1) := by decide +kernel
theorem dX5_readArgument_15 : decode cX5_readArgument 15 = .ok (.if_icmp .ne 5, 3) := by decide +kernel
theorem dX5_readArgument_18 : decode cX5_readArgument 18 = .ok (.iconst 0, 1) := by decide +kernel
theorem dX5_readArgument_19 : decode cX5_readArgument 19 = .ok (.ireturn, 1) := by decide +kernel
theorem dX5_readArgument_20 : decode cX5_readArgument 20 = .ok (.aload_n 0, 1) := by decide +kernel
theorem dX5_readArgument_21 : decode cX5_readArgument 21 = .ok (.getfield 15, 3) := by decide +kernel
theorem dX5_readArgument_24 : decode cX5_readArgument 24 = .ok (.iload_n 1, 1) := by decide +kernel
theorem dX5_readArgument_25 : decode cX5_readArgument 25 = .ok (.iload_n 2, 1) := by decide +kernel
theorem dX5_readArgument_26 : decode cX5_readArgument 26 = .ok (.iload 5, 2) := by decide +kernel
theorem dX5_readArgument_28 : decode cX5_readArgument 28 = .ok (.invokevirtual 110, 3) := by decide +kernel
theorem dX5_readArgument_31 : decode cX5_readArgument 31 = .ok (.iconst 1, 1) := by decide +kernel
theorem dX5_readArgument_32 : decode cX5_readArgument 32 = .ok (.ireturn, 1) := by decide +kernel
def fX5_readArgument (M : Mm) (x1 : Int32) (x2 : Int32) (x3 : Int32) (x4 : Int32) : Option (Int32 × Mm) := (fX7_takeNumber M x3 x4).bind fun q1 => if q1.1 = (-1 : Int32) then some ((0 : Int32), q1.2) else (fX4_putArgument q1.2 x1 x2 q1.1).bind fun q4 => some ((1 : Int32), q4)
set_option maxRecDepth 20000 in
set_option maxHeartbeats 2000000 in
theorem sX5_readArgument {wv : Nat} (M : Mm) (x1 : Int32) (x2 : Int32) (x3 : Int32) (x4 : Int32) {res : (Int32 × Mm)} (h : fX5_readArgument M x1 x2 x3 x4 = some res) : TF wv yX5_readArgument cX5_readArgument 6 (some .boolean) 2 [.inr (6, 0, 0), .inl (.int x1), .inl (.int x2), .inl (.int x3), .inl (.int x4)] M (some (.int res.1)) res.2 := by
  rw [fX5_readArgument] at h
  refine TF.go (n := 1) (ls := [some (.inr (6, 0, 0)), some (.inl (.int x1)), some (.inl (.int x2)), some (.inl (.int x3)), some (.inl (.int x4)), none]) rfl rfl rfl rfl rfl ?_
  refine z_aload_n (i := 0) dX5_readArgument_0 rfl rfl ?_
  refine z_getR (r' := (3, 0, 0)) dX5_readArgument_1 fl_X5_9 mk6 rfl rfl ?_
  refine z_iload_n (i := 3) dX5_readArgument_4 rfl rfl ?_
  refine z_iload (i := 4) dX5_readArgument_5 rfl ?_
  obtain ⟨q1, hq2, h⟩ := bnd h
  refine z_fVi (sX7_takeNumber M x3 x4 hq2) dX5_readArgument_7 ml_X5_107 cd_X7_takeNumber mk3 rfl rfl rfl rfl rfl rfl ?_
  refine z_istore (i := 5) dX5_readArgument_10 (Nat.le_of_ble_eq_true rfl) rfl ?_
  refine z_iload (i := 5) dX5_readArgument_12 rfl ?_
  refine z_iconst (v := (-1 : Int32)) dX5_readArgument_14 kc_m1 ?_
  refine z_icmp_ne (tgt := 20) dX5_readArgument_15 rfl (fun hc3 => ?_) (fun hc3 => ?_)
  · have h := it_f h hc3
    refine z_aload_n (i := 0) dX5_readArgument_20 rfl rfl ?_
    refine z_getR (r' := (7, 0, 0)) dX5_readArgument_21 fl_X5_15 mk6 rfl rfl ?_
    refine z_iload_n (i := 1) dX5_readArgument_24 rfl rfl ?_
    refine z_iload_n (i := 2) dX5_readArgument_25 rfl rfl ?_
    refine z_iload (i := 5) dX5_readArgument_26 rfl ?_
    obtain ⟨q4, hq5, h⟩ := bnd h
    refine z_fVv (sX4_putArgument q1.2 x1 x2 q1.1 hq5) dX5_readArgument_28 ml_X5_110 cd_X4_putArgument mk7 rfl rfl rfl rfl rfl rfl ?_
    refine z_iconst (v := (1 : Int32)) dX5_readArgument_31 kc_1 ?_
    cases h
    exact z_iret dX5_readArgument_32 rfl rfl (Nat.le_refl _) (Nat.le_refl _) ⟨rfl, rfl⟩
  · have h := it_t h hc3
    refine z_iconst (v := (0 : Int32)) dX5_readArgument_18 kc_0 ?_
    cases h
    exact z_iret dX5_readArgument_19 rfl rfl (Nat.le_refl _) (Nat.le_refl _) ⟨rfl, rfl⟩
theorem dX7_atSign_0 : decode cX7_atSign 0 = .ok (.aload_n 0, 1) := by decide +kernel
theorem dX7_atSign_1 : decode cX7_atSign 1 = .ok (.iconst 3, 1) := by decide +kernel
theorem dX7_atSign_2 : decode cX7_atSign 2 = .ok (.invokevirtual 68, 3) := by decide +kernel
theorem dX7_atSign_5 : decode cX7_atSign 5 = .ok (.ifCond .eq 27, 3) := by decide +kernel
theorem dX7_atSign_8 : decode cX7_atSign 8 = .ok (.aload_n 0, 1) := by decide +kernel
theorem dX7_atSign_9 : decode cX7_atSign 9 = .ok (.getfield 24, 3) := by decide +kernel
theorem dX7_atSign_12 : decode cX7_atSign 12 = .ok (.aload_n 0, 1) := by decide +kernel
theorem dX7_atSign_13 : decode cX7_atSign 13 = .ok (.getfield 15, 3) := by decide +kernel
theorem dX7_atSign_16 : decode cX7_atSign 16 = .ok (.aload_n 0, 1) := by decide +kernel
theorem dX7_atSign_17 : decode cX7_atSign 17 = .ok (.getfield 38, 3) := by decide +kernel
theorem dX7_atSign_20 : decode cX7_atSign 20 = .ok (.iaload, 1) := by decide +kernel
theorem dX7_atSign_21 : decode cX7_atSign 21 = .ok (.invokevirtual 46, 3) := by decide +kernel
theorem dX7_atSign_24 : decode cX7_atSign 24 = .ok (.iload_n 1, 1) := by decide +kernel
theorem dX7_atSign_25 : decode cX7_atSign 25 = .ok (.if_icmp .ne 7, 3) := by decide +kernel
theorem dX7_atSign_28 : decode cX7_atSign 28 = .ok (.iconst 1, 1) := by decide +kernel
theorem dX7_atSign_29 : decode cX7_atSign 29 = .ok (.goto 4, 3) := by decide +kernel
theorem dX7_atSign_32 : decode cX7_atSign 32 = .ok (.iconst 0, 1) := by decide +kernel
theorem dX7_atSign_33 : decode cX7_atSign 33 = .ok (.ireturn, 1) := by decide +kernel
def fX7_atSign (M : Mm) (x1 : Int32) : Option Int32 := (fX7_atKind M (3 : Int32)).bind fun q1 => if q1 = 0 then some (0 : Int32) else if (M.1 (3, 0, 0) 6) < 0 ∨ 801 ≤ (M.1 (3, 0, 0) 6).toNatClampNeg then none else (fX1_at M 0 (M.1 (4, 1, 0) (M.1 (3, 0, 0) 6).toNatClampNeg)).bind fun q5 => if q5 = x1 then some (1 : Int32) else some (0 : Int32)
set_option maxRecDepth 20000 in
set_option maxHeartbeats 2000000 in
theorem sX7_atSign {wv : Nat} (M : Mm) (x1 : Int32) {res : Int32} (h : fX7_atSign M x1 = some res) : TF wv yX7_atSign cX7_atSign 2 (some .boolean) 1 [.inr (3, 0, 0), .inl (.int x1)] M (some (.int res)) M := by
  rw [fX7_atSign] at h
  refine TF.go (n := 0) (ls := [some (.inr (3, 0, 0)), some (.inl (.int x1))]) rfl rfl rfl rfl rfl ?_
  refine z_aload_n (i := 0) dX7_atSign_0 rfl rfl ?_
  refine z_iconst (v := (3 : Int32)) dX7_atSign_1 kc_3 ?_
  obtain ⟨q1, hq2, h⟩ := bnd h
  refine z_fVi (sX7_atKind M (3 : Int32) hq2) dX7_atSign_2 ml_X7_68 cd_X7_atKind mk3 rfl rfl rfl rfl rfl rfl ?_
  refine z_if_eq (tgt := 32) dX7_atSign_5 rfl (fun hc3 => ?_) (fun hc3 => ?_)
  · have h := it_t h hc3
    refine z_iconst (v := (0 : Int32)) dX7_atSign_32 kc_0 ?_
    cases h
    exact z_iret dX7_atSign_33 rfl rfl (Nat.le_refl _) (Nat.le_refl _) ⟨rfl, rfl⟩
  · have h := it_f h hc3
    refine z_aload_n (i := 0) dX7_atSign_8 rfl rfl ?_
    refine z_getR (r' := (1, 0, 0)) dX7_atSign_9 fl_X7_24 mk3 rfl rfl ?_
    refine z_aload_n (i := 0) dX7_atSign_12 rfl rfl ?_
    refine z_getR (r' := (4, 1, 0)) dX7_atSign_13 fl_X7_15 mk3 rfl rfl ?_
    refine z_aload_n (i := 0) dX7_atSign_16 rfl rfl ?_
    refine z_getI (x := (M.1 (3, 0, 0) 6)) dX7_atSign_17 fl_X7_38 mk3 rfl rfl ?_
    obtain ⟨hc4, h⟩ := chk h
    refine z_iald (x := (M.1 (4, 1, 0) (M.1 (3, 0, 0) 6).toNatClampNeg)) dX7_atSign_20 (m4 _ (Nat.le_of_ble_eq_true rfl)) rfl hc4 rfl ?_
    obtain ⟨q5, hq6, h⟩ := bnd h
    refine z_fVi (sX1_at M 0 (M.1 (4, 1, 0) (M.1 (3, 0, 0) 6).toNatClampNeg) (Nat.le_of_ble_eq_true rfl) hq6) dX7_atSign_21 ml_X7_46 cd_X1_at (m1 _ (Nat.le_of_ble_eq_true rfl)) rfl rfl rfl rfl rfl rfl ?_
    refine z_iload_n (i := 1) dX7_atSign_24 rfl rfl ?_
    refine z_icmp_ne (tgt := 32) dX7_atSign_25 rfl (fun hc7 => ?_) (fun hc7 => ?_)
    · have h := it_f h hc7
      refine z_iconst (v := (0 : Int32)) dX7_atSign_32 kc_0 ?_
      cases h
      exact z_iret dX7_atSign_33 rfl rfl (Nat.le_refl _) (Nat.le_refl _) ⟨rfl, rfl⟩
    · have h := it_t h hc7
      refine z_iconst (v := (1 : Int32)) dX7_atSign_28 kc_1 ?_
      refine z_goto (tgt := 33) dX7_atSign_29 rfl ?_
      cases h
      exact z_iret dX7_atSign_33 rfl rfl (Nat.le_refl _) (Nat.le_refl _) ⟨rfl, rfl⟩
theorem dX7_takeSign_0 : decode cX7_takeSign 0 = .ok (.aload_n 0, 1) := by decide +kernel
theorem dX7_takeSign_1 : decode cX7_takeSign 1 = .ok (.iload_n 1, 1) := by decide +kernel
theorem dX7_takeSign_2 : decode cX7_takeSign 2 = .ok (.invokevirtual 91, 3) := by decide +kernel
theorem dX7_takeSign_5 : decode cX7_takeSign 5 = .ok (.ifCond .ne 9, 3) := by decide +kernel
theorem dX7_takeSign_8 : decode cX7_takeSign 8 = .ok (.aload_n 0, 1) := by decide +kernel
theorem dX7_takeSign_9 : decode cX7_takeSign 9 = .ok (.iconst 1, 1) := by decide +kernel
theorem dX7_takeSign_10 : decode cX7_takeSign 10 = .ok (.invokevirtual 85, 3) := by decide +kernel
theorem dX7_takeSign_13 : decode cX7_takeSign 13 = .ok (.ireturn, 1) := by decide +kernel
theorem dX7_takeSign_14 : decode cX7_takeSign 14 = .ok (.aload_n 0, 1) := by decide +kernel
theorem dX7_takeSign_15 : decode cX7_takeSign 15 = .ok (.invokevirtual 88, 3) := by decide +kernel
theorem dX7_takeSign_18 : decode cX7_takeSign 18 = .ok (.iconst 1, 1) := by decide +kernel
theorem dX7_takeSign_19 : decode cX7_takeSign 19 = .ok (.ireturn, 1) := by decide +kernel
def fX7_takeSign (M : Mm) (x1 : Int32) : Option (Int32 × Mm) := (fX7_atSign M x1).bind fun q1 => if q1 = 0 then ((fX7_fail M (1 : Int32)).bind fun q4 => some ((bz q4.1), q4.2)) else some ((1 : Int32), (fX7_advance M))
set_option maxRecDepth 20000 in
set_option maxHeartbeats 2000000 in
theorem sX7_takeSign {wv : Nat} (M : Mm) (x1 : Int32) {res : (Int32 × Mm)} (h : fX7_takeSign M x1 = some res) : TF wv yX7_takeSign cX7_takeSign 2 (some .boolean) 2 [.inr (3, 0, 0), .inl (.int x1)] M (some (.int res.1)) res.2 := by
  rw [fX7_takeSign] at h
  refine TF.go (n := 0) (ls := [some (.inr (3, 0, 0)), some (.inl (.int x1))]) rfl rfl rfl rfl rfl ?_
  refine z_aload_n (i := 0) dX7_takeSign_0 rfl rfl ?_
  refine z_iload_n (i := 1) dX7_takeSign_1 rfl rfl ?_
  obtain ⟨q1, hq2, h⟩ := bnd h
  refine z_fVi (sX7_atSign M x1 hq2) dX7_takeSign_2 ml_X7_91 cd_X7_atSign mk3 rfl rfl rfl rfl rfl rfl ?_
  refine z_if_ne (tgt := 14) dX7_takeSign_5 rfl (fun hc3 => ?_) (fun hc3 => ?_)
  · have h := it_f h hc3
    refine z_aload_n (i := 0) dX7_takeSign_14 rfl rfl ?_
    refine z_fVv (sX7_advance M) dX7_takeSign_15 ml_X7_88 cd_X7_advance mk3 rfl rfl rfl rfl rfl rfl ?_
    refine z_iconst (v := (1 : Int32)) dX7_takeSign_18 kc_1 ?_
    cases h
    exact z_iret dX7_takeSign_19 rfl rfl (Nat.le_refl _) (Nat.le_refl _) ⟨rfl, rfl⟩
  · have h := it_t h hc3
    refine z_aload_n (i := 0) dX7_takeSign_8 rfl rfl ?_
    refine z_iconst (v := (1 : Int32)) dX7_takeSign_9 kc_1 ?_
    obtain ⟨q4, hq5, h⟩ := bnd h
    refine z_fVi (sX7_fail M (1 : Int32) hq5) dX7_takeSign_10 ml_X7_85 cd_X7_fail mk3 rfl rfl rfl rfl rfl rfl ?_
    cases h
    exact z_iret dX7_takeSign_13 rfl (bz_ok _) (Nat.le_refl _) (Nat.le_refl _) ⟨rfl, rfl⟩
theorem dX5_readRepeat_0 : decode cX5_readRepeat 0 = .ok (.aload_n 0, 1) := by decide +kernel
theorem dX5_readRepeat_1 : decode cX5_readRepeat 1 = .ok (.iload_n 1, 1) := by decide +kernel
theorem dX5_readRepeat_2 : decode cX5_readRepeat 2 = .ok (.iconst 0, 1) := by decide +kernel
theorem dX5_readRepeat_3 : decode cX5_readRepeat 3 = .ok (.iconst 0, 1) := by decide +kernel
theorem dX5_readRepeat_4 : decode cX5_readRepeat 4 = .ok (.bipush 20, 2) := by decide +kernel
theorem dX5_readRepeat_6 : decode cX5_readRepeat 6 = .ok (.invokevirtual 69, 3) := by decide +kernel
theorem dX5_readRepeat_9 : decode cX5_readRepeat 9 = .ok (.ifCond .ne 5, 3) := by decide +kernel
theorem dX5_readRepeat_12 : decode cX5_readRepeat 12 = .ok (.iconst 0, 1) := by decide +kernel
theorem dX5_readRepeat_13 : decode cX5_readRepeat 13 = .ok (.ireturn, 1) := by decide +kernel
theorem dX5_readRepeat_14 : decode cX5_readRepeat 14 = .ok (.aload_n 0, 1) := by decide +kernel
theorem dX5_readRepeat_15 : decode cX5_readRepeat 15 = .ok (.getfield 9, 3) := by decide +kernel
theorem dX5_readRepeat_18 : decode cX5_readRepeat 18 = .ok (.bipush 40, 2) := by decide +kernel
theorem dX5_readRepeat_20 : decode cX5_readRepeat 20 = .ok (.invokevirtual 73, 3) := by decide +kernel
theorem dX5_readRepeat_23 : decode cX5_readRepeat 23 = .ok (.ifCond .eq 17, 3) := by decide +kernel
theorem dX5_readRepeat_26 : decode cX5_readRepeat 26 = .ok (.iload_n 2, 1) := by decide +kernel
theorem dX5_readRepeat_27 : decode cX5_readRepeat 27 = .ok (.iconst 2, 1) := by decide +kernel
theorem dX5_readRepeat_28 : decode cX5_readRepeat 28 = .ok (.if_icmp .lt 12, 3) := by decide +kernel
theorem dX5_readRepeat_31 : decode cX5_readRepeat 31 = .ok (.aload_n 0, 1) := by decide +kernel
theorem dX5_readRepeat_32 : decode cX5_readRepeat 32 = .ok (.getfield 9, 3) := by decide +kernel
theorem dX5_readRepeat_35 : decode cX5_readRepeat 35 = .ok (.iconst 4, 1) := by decide +kernel
theorem dX5_readRepeat_36 : decode cX5_readRepeat 36 = .ok (.invokevirtual 44, 3) := by decide +kernel
theorem dX5_readRepeat_39 : decode cX5_readRepeat 39 = .ok (.ireturn, 1) := by decide +kernel
theorem dX5_readRepeat_40 : decode cX5_readRepeat 40 = .ok (.aload_n 0, 1) := by decide +kernel
theorem dX5_readRepeat_41 : decode cX5_readRepeat 41 = .ok (.getfield 9, 3) := by decide +kernel
theorem dX5_readRepeat_44 : decode cX5_readRepeat 44 = .ok (.bipush 40, 2) := by decide +kernel
theorem dX5_readRepeat_46 : decode cX5_readRepeat 46 = .ok (.invokevirtual 65, 3) := by decide +kernel
theorem dX5_readRepeat_49 : decode cX5_readRepeat 49 = .ok (.ifCond .eq 13, 3) := by decide +kernel
theorem dX5_readRepeat_52 : decode cX5_readRepeat 52 = .ok (.aload_n 0, 1) := by decide +kernel
theorem dX5_readRepeat_53 : decode cX5_readRepeat 53 = .ok (.iload_n 2, 1) := by decide +kernel
theorem dX5_readRepeat_54 : decode cX5_readRepeat 54 = .ok (.iconst 1, 1) := by decide +kernel
theorem dX5_readRepeat_55 : decode cX5_readRepeat 55 = .ok (.iadd, 1) := by decide +kernel
theorem dX5_readRepeat_56 : decode cX5_readRepeat 56 = .ok (.invokevirtual 29, 3) := by decide +kernel
theorem dX5_readRepeat_59 : decode cX5_readRepeat 59 = .ok (.ifCond .ne 5, 3) := by decide +kernel
theorem dX5_readRepeat_62 : decode cX5_readRepeat 62 = .ok (.iconst 0, 1) := by decide +kernel
theorem dX5_readRepeat_63 : decode cX5_readRepeat 63 = .ok (.ireturn, 1) := by decide +kernel
theorem dX5_readRepeat_64 : decode cX5_readRepeat 64 = .ok (.aload_n 0, 1) := by decide +kernel
theorem dX5_readRepeat_65 : decode cX5_readRepeat 65 = .ok (.getfield 15, 3) := by decide +kernel
theorem dX5_readRepeat_68 : decode cX5_readRepeat 68 = .ok (.iload_n 1, 1) := by decide +kernel
theorem dX5_readRepeat_69 : decode cX5_readRepeat 69 = .ok (.invokevirtual 76, 3) := by decide +kernel
theorem dX5_readRepeat_72 : decode cX5_readRepeat 72 = .ok (.aload_n 0, 1) := by decide +kernel
theorem dX5_readRepeat_73 : decode cX5_readRepeat 73 = .ok (.getfield 9, 3) := by decide +kernel
theorem dX5_readRepeat_76 : decode cX5_readRepeat 76 = .ok (.bipush 41, 2) := by decide +kernel
theorem dX5_readRepeat_78 : decode cX5_readRepeat 78 = .ok (.invokevirtual 65, 3) := by decide +kernel
theorem dX5_readRepeat_81 : decode cX5_readRepeat 81 = .ok (.ireturn, 1) := by decide +kernel
def fX5_readRepeat (rc : Mm → Int32 → Option (Int32 × Mm)) (M : Mm) (x1 : Int32) (x2 : Int32) : Option (Int32 × Mm) := (fX5_readArgument M x1 (0 : Int32) (0 : Int32) (20 : Int32)).bind fun q1 => if q1.1 = 0 then some ((0 : Int32), q1.2) else (fX7_atSign q1.2 (40 : Int32)).bind fun q4 => if q4 = 0 then ((fX7_takeSign q1.2 (40 : Int32)).bind fun q7 => if q7.1 = 0 then some ((0 : Int32), q7.2) else (rc q7.2 (x2 + (1 : Int32))).bind fun q10 => if q10.1 = 0 then some ((0 : Int32), q10.2) else (fX4_closeRepeat q10.2 x1).bind fun q13 => (fX7_takeSign q13 (41 : Int32)).bind fun q15 => some ((bz q15.1), q15.2)) else if x2 < (2 : Int32) then ((fX7_takeSign q1.2 (40 : Int32)).bind fun q18 => if q18.1 = 0 then some ((0 : Int32), q18.2) else (rc q18.2 (x2 + (1 : Int32))).bind fun q21 => if q21.1 = 0 then some ((0 : Int32), q21.2) else (fX4_closeRepeat q21.2 x1).bind fun q24 => (fX7_takeSign q24 (41 : Int32)).bind fun q26 => some ((bz q26.1), q26.2)) else (fX7_fail q1.2 (4 : Int32)).bind fun q28 => some ((bz q28.1), q28.2)
set_option maxRecDepth 20000 in
set_option maxHeartbeats 2000000 in
theorem sX5_readRepeat {wv : Nat} (rc : Mm → Int32 → Option (Int32 × Mm)) (dd : Nat) (hrc : ∀ (M : Mm) (x1 : Int32) (res : (Int32 × Mm)), rc M x1 = some res → TF wv yX5_readCommands cX5_readCommands 6 (some .boolean) dd [.inr (6, 0, 0), .inl (.int x1)] M (some (.int res.1)) res.2) (M : Mm) (x1 : Int32) (x2 : Int32) {res : (Int32 × Mm)} (h : fX5_readRepeat rc M x1 x2 = some res) : TF wv yX5_readRepeat cX5_readRepeat 3 (some .boolean) (dd + 3) [.inr (6, 0, 0), .inl (.int x1), .inl (.int x2)] M (some (.int res.1)) res.2 := by
  rw [fX5_readRepeat] at h
  refine TF.go (n := 0) (ls := [some (.inr (6, 0, 0)), some (.inl (.int x1)), some (.inl (.int x2))]) rfl rfl rfl rfl rfl ?_
  refine z_aload_n (i := 0) dX5_readRepeat_0 rfl rfl ?_
  refine z_iload_n (i := 1) dX5_readRepeat_1 rfl rfl ?_
  refine z_iconst (v := (0 : Int32)) dX5_readRepeat_2 kc_0 ?_
  refine z_iconst (v := (0 : Int32)) dX5_readRepeat_3 kc_0 ?_
  refine z_bipush (v := (20 : Int32)) dX5_readRepeat_4 kb_20 ?_
  obtain ⟨q1, hq2, h⟩ := bnd h
  refine z_fVi (sX5_readArgument M x1 (0 : Int32) (0 : Int32) (20 : Int32) hq2) dX5_readRepeat_6 ml_X5_69 cd_X5_readArgument mk6 rfl rfl rfl (rmk_d (by omega) (by decide)) rfl rfl ?_
  refine z_if_ne (tgt := 14) dX5_readRepeat_9 rfl (fun hc3 => ?_) (fun hc3 => ?_)
  · have h := it_f h hc3
    refine z_aload_n (i := 0) dX5_readRepeat_14 rfl rfl ?_
    refine z_getR (r' := (3, 0, 0)) dX5_readRepeat_15 fl_X5_9 mk6 rfl rfl ?_
    refine z_bipush (v := (40 : Int32)) dX5_readRepeat_18 kb_40 ?_
    obtain ⟨q4, hq5, h⟩ := bnd h
    refine z_fVi (sX7_atSign q1.2 (40 : Int32) hq5) dX5_readRepeat_20 ml_X5_73 cd_X7_atSign mk3 rfl rfl rfl (rmk_d (by omega) (by decide)) rfl rfl ?_
    refine z_if_eq (tgt := 40) dX5_readRepeat_23 rfl (fun hc6 => ?_) (fun hc6 => ?_)
    · have h := it_t h hc6
      refine z_aload_n (i := 0) dX5_readRepeat_40 rfl rfl ?_
      refine z_getR (r' := (3, 0, 0)) dX5_readRepeat_41 fl_X5_9 mk6 rfl rfl ?_
      refine z_bipush (v := (40 : Int32)) dX5_readRepeat_44 kb_40 ?_
      obtain ⟨q7, hq8, h⟩ := bnd h
      refine z_fVi (sX7_takeSign q1.2 (40 : Int32) hq8) dX5_readRepeat_46 ml_X5_65 cd_X7_takeSign mk3 rfl rfl rfl (rmk_d (by omega) (by decide)) rfl rfl ?_
      refine z_if_eq (tgt := 62) dX5_readRepeat_49 rfl (fun hc9 => ?_) (fun hc9 => ?_)
      · have h := it_t h hc9
        refine z_iconst (v := (0 : Int32)) dX5_readRepeat_62 kc_0 ?_
        cases h
        exact z_iret dX5_readRepeat_63 rfl rfl (Nat.le_refl _) (Nat.le_refl _) ⟨rfl, rfl⟩
      · have h := it_f h hc9
        refine z_aload_n (i := 0) dX5_readRepeat_52 rfl rfl ?_
        refine z_iload_n (i := 2) dX5_readRepeat_53 rfl rfl ?_
        refine z_iconst (v := (1 : Int32)) dX5_readRepeat_54 kc_1 ?_
        refine z_iadd dX5_readRepeat_55 ?_
        obtain ⟨q10, hq11, h⟩ := bnd h
        refine z_fVi (hrc q7.2 (x2 + (1 : Int32)) _ hq11) dX5_readRepeat_56 ml_X5_29 cd_X5_readCommands mk6 rfl rfl rfl (rmk_d (by omega) (by decide)) rfl rfl ?_
        refine z_if_ne (tgt := 64) dX5_readRepeat_59 rfl (fun hc12 => ?_) (fun hc12 => ?_)
        · have h := it_f h hc12
          refine z_aload_n (i := 0) dX5_readRepeat_64 rfl rfl ?_
          refine z_getR (r' := (7, 0, 0)) dX5_readRepeat_65 fl_X5_15 mk6 rfl rfl ?_
          refine z_iload_n (i := 1) dX5_readRepeat_68 rfl rfl ?_
          obtain ⟨q13, hq14, h⟩ := bnd h
          refine z_fVv (sX4_closeRepeat q10.2 x1 hq14) dX5_readRepeat_69 ml_X5_76 cd_X4_closeRepeat mk7 rfl rfl rfl (rmk_d (by omega) (by decide)) rfl rfl ?_
          refine z_aload_n (i := 0) dX5_readRepeat_72 rfl rfl ?_
          refine z_getR (r' := (3, 0, 0)) dX5_readRepeat_73 fl_X5_9 mk6 rfl rfl ?_
          refine z_bipush (v := (41 : Int32)) dX5_readRepeat_76 kb_41 ?_
          obtain ⟨q15, hq16, h⟩ := bnd h
          refine z_fVi (sX7_takeSign q13 (41 : Int32) hq16) dX5_readRepeat_78 ml_X5_65 cd_X7_takeSign mk3 rfl rfl rfl (rmk_d (by omega) (by decide)) rfl rfl ?_
          cases h
          exact z_iret dX5_readRepeat_81 rfl (bz_ok _) (Nat.le_refl _) (Nat.le_refl _) ⟨rfl, rfl⟩
        · have h := it_t h hc12
          refine z_iconst (v := (0 : Int32)) dX5_readRepeat_62 kc_0 ?_
          cases h
          exact z_iret dX5_readRepeat_63 rfl rfl (Nat.le_refl _) (Nat.le_refl _) ⟨rfl, rfl⟩
    · have h := it_f h hc6
      refine z_iload_n (i := 2) dX5_readRepeat_26 rfl rfl ?_
      refine z_iconst (v := (2 : Int32)) dX5_readRepeat_27 kc_2 ?_
      refine z_icmp_lt (tgt := 40) dX5_readRepeat_28 rfl (fun hc17 => ?_) (fun hc17 => ?_)
      · have h := it_t h hc17
        refine z_aload_n (i := 0) dX5_readRepeat_40 rfl rfl ?_
        refine z_getR (r' := (3, 0, 0)) dX5_readRepeat_41 fl_X5_9 mk6 rfl rfl ?_
        refine z_bipush (v := (40 : Int32)) dX5_readRepeat_44 kb_40 ?_
        obtain ⟨q18, hq19, h⟩ := bnd h
        refine z_fVi (sX7_takeSign q1.2 (40 : Int32) hq19) dX5_readRepeat_46 ml_X5_65 cd_X7_takeSign mk3 rfl rfl rfl (rmk_d (by omega) (by decide)) rfl rfl ?_
        refine z_if_eq (tgt := 62) dX5_readRepeat_49 rfl (fun hc20 => ?_) (fun hc20 => ?_)
        · have h := it_t h hc20
          refine z_iconst (v := (0 : Int32)) dX5_readRepeat_62 kc_0 ?_
          cases h
          exact z_iret dX5_readRepeat_63 rfl rfl (Nat.le_refl _) (Nat.le_refl _) ⟨rfl, rfl⟩
        · have h := it_f h hc20
          refine z_aload_n (i := 0) dX5_readRepeat_52 rfl rfl ?_
          refine z_iload_n (i := 2) dX5_readRepeat_53 rfl rfl ?_
          refine z_iconst (v := (1 : Int32)) dX5_readRepeat_54 kc_1 ?_
          refine z_iadd dX5_readRepeat_55 ?_
          obtain ⟨q21, hq22, h⟩ := bnd h
          refine z_fVi (hrc q18.2 (x2 + (1 : Int32)) _ hq22) dX5_readRepeat_56 ml_X5_29 cd_X5_readCommands mk6 rfl rfl rfl (rmk_d (by omega) (by decide)) rfl rfl ?_
          refine z_if_ne (tgt := 64) dX5_readRepeat_59 rfl (fun hc23 => ?_) (fun hc23 => ?_)
          · have h := it_f h hc23
            refine z_aload_n (i := 0) dX5_readRepeat_64 rfl rfl ?_
            refine z_getR (r' := (7, 0, 0)) dX5_readRepeat_65 fl_X5_15 mk6 rfl rfl ?_
            refine z_iload_n (i := 1) dX5_readRepeat_68 rfl rfl ?_
            obtain ⟨q24, hq25, h⟩ := bnd h
            refine z_fVv (sX4_closeRepeat q21.2 x1 hq25) dX5_readRepeat_69 ml_X5_76 cd_X4_closeRepeat mk7 rfl rfl rfl (rmk_d (by omega) (by decide)) rfl rfl ?_
            refine z_aload_n (i := 0) dX5_readRepeat_72 rfl rfl ?_
            refine z_getR (r' := (3, 0, 0)) dX5_readRepeat_73 fl_X5_9 mk6 rfl rfl ?_
            refine z_bipush (v := (41 : Int32)) dX5_readRepeat_76 kb_41 ?_
            obtain ⟨q26, hq27, h⟩ := bnd h
            refine z_fVi (sX7_takeSign q24 (41 : Int32) hq27) dX5_readRepeat_78 ml_X5_65 cd_X7_takeSign mk3 rfl rfl rfl (rmk_d (by omega) (by decide)) rfl rfl ?_
            cases h
            exact z_iret dX5_readRepeat_81 rfl (bz_ok _) (Nat.le_refl _) (Nat.le_refl _) ⟨rfl, rfl⟩
          · have h := it_t h hc23
            refine z_iconst (v := (0 : Int32)) dX5_readRepeat_62 kc_0 ?_
            cases h
            exact z_iret dX5_readRepeat_63 rfl rfl (Nat.le_refl _) (Nat.le_refl _) ⟨rfl, rfl⟩
      · have h := it_f h hc17
        refine z_aload_n (i := 0) dX5_readRepeat_31 rfl rfl ?_
        refine z_getR (r' := (3, 0, 0)) dX5_readRepeat_32 fl_X5_9 mk6 rfl rfl ?_
        refine z_iconst (v := (4 : Int32)) dX5_readRepeat_35 kc_4 ?_
        obtain ⟨q28, hq29, h⟩ := bnd h
        refine z_fVi (sX7_fail q1.2 (4 : Int32) hq29) dX5_readRepeat_36 ml_X5_44 cd_X7_fail mk3 rfl rfl rfl (rmk_d (by omega) (by decide)) rfl rfl ?_
        cases h
        exact z_iret dX5_readRepeat_39 rfl (bz_ok _) (Nat.le_refl _) (Nat.le_refl _) ⟨rfl, rfl⟩
  · have h := it_t h hc3
    refine z_iconst (v := (0 : Int32)) dX5_readRepeat_12 kc_0 ?_
    cases h
    exact z_iret dX5_readRepeat_13 rfl rfl (Nat.le_refl _) (Nat.le_refl _) ⟨rfl, rfl⟩
theorem dX5_readDirection_0 : decode cX5_readDirection 0 = .ok (.aload_n 0, 1) := by decide +kernel
theorem dX5_readDirection_1 : decode cX5_readDirection 1 = .ok (.getfield 9, 3) := by decide +kernel
theorem dX5_readDirection_4 : decode cX5_readDirection 4 = .ok (.ldc 114, 2) := by decide +kernel
theorem dX5_readDirection_6 : decode cX5_readDirection 6 = .ok (.invokevirtual 82, 3) := by decide +kernel
theorem dX5_readDirection_9 : decode cX5_readDirection 9 = .ok (.istore_n 3, 1) := by decide +kernel
theorem dX5_readDirection_10 : decode cX5_readDirection 10 = .ok (.iload_n 3, 1) := by decide +kernel
theorem dX5_readDirection_11 : decode cX5_readDirection 11 = .ok (.ifCond .ne 24, 3) := by decide +kernel
theorem dX5_readDirection_14 : decode cX5_readDirection 14 = .ok (.aload_n 0, 1) := by decide +kernel
theorem dX5_readDirection_15 : decode cX5_readDirection 15 = .ok (.getfield 9, 3) := by decide +kernel
theorem dX5_readDirection_18 : decode cX5_readDirection 18 = .ok (.ldc 116, 2) := by decide +kernel
theorem dX5_readDirection_20 : decode cX5_readDirection 20 = .ok (.invokevirtual 82, 3) := by decide +kernel
theorem dX5_readDirection_23 : decode cX5_readDirection 23 = .ok (.ifCond .ne 12, 3) := by decide +kernel
theorem dX5_readDirection_26 : decode cX5_readDirection 26 = .ok (.aload_n 0, 1) := by decide +kernel
theorem dX5_readDirection_27 : decode cX5_readDirection 27 = .ok (.getfield 9, 3) := by decide +kernel
theorem dX5_readDirection_30 : decode cX5_readDirection 30 = .ok (.iconst 1, 1) := by decide +kernel
theorem dX5_readDirection_31 : decode cX5_readDirection 31 = .ok (.invokevirtual 44, 3) := by decide +kernel
theorem dX5_readDirection_34 : decode cX5_readDirection 34 = .ok (.ireturn, 1) := by decide +kernel
theorem dX5_readDirection_35 : decode cX5_readDirection 35 = .ok (.aload_n 0, 1) := by decide +kernel
theorem dX5_readDirection_36 : decode cX5_readDirection 36 = .ok (.getfield 9, 3) := by decide +kernel
theorem dX5_readDirection_39 : decode cX5_readDirection 39 = .ok (.invokevirtual 51, 3) := by decide +kernel
theorem dX5_readDirection_42 : decode cX5_readDirection 42 = .ok (.aload_n 0, 1) := by decide +kernel
theorem dX5_readDirection_43 : decode cX5_readDirection 43 = .ok (.getfield 15, 3) := by decide +kernel
theorem dX5_readDirection_46 : decode cX5_readDirection 46 = .ok (.iload_n 1, 1) := by decide +kernel
theorem dX5_readDirection_47 : decode cX5_readDirection 47 = .ok (.iload_n 2, 1) := by decide +kernel
theorem dX5_readDirection_48 : decode cX5_readDirection 48 = .ok (.iload_n 3, 1) := by decide +kernel
theorem dX5_readDirection_49 : decode cX5_readDirection 49 = .ok (.ifCond .eq 7, 3) := by decide +kernel
theorem dX5_readDirection_52 : decode cX5_readDirection 52 = .ok (.iconst 1, 1) := by decide +kernel
theorem dX5_readDirection_53 : decode cX5_readDirection 53 = .ok (.goto 4, 3) := by decide +kernel
theorem dX5_readDirection_56 : decode cX5_readDirection 56 = .ok (.iconst (-1), 1) := by decide +kernel
theorem dX5_readDirection_57 : decode cX5_readDirection 57 = .ok (.invokevirtual 110, 3) := by decide +kernel
theorem dX5_readDirection_60 : decode cX5_readDirection 60 = .ok (.iconst 1, 1) := by decide +kernel
theorem dX5_readDirection_61 : decode cX5_readDirection 61 = .ok (.ireturn, 1) := by decide +kernel
def fX5_readDirection (M : Mm) (x1 : Int32) (x2 : Int32) : Option (Int32 × Mm) := (fX7_atWord M 13).bind fun q1 => if q1 = 0 then ((fX7_atWord M 14).bind fun q9 => if q9 = 0 then ((fX7_fail M (1 : Int32)).bind fun q17 => some ((bz q17.1), q17.2)) else if q1 = 0 then ((fX4_putArgument (fX7_advance M) x1 x2 (-1 : Int32)).bind fun q13 => some ((1 : Int32), q13)) else (fX4_putArgument (fX7_advance M) x1 x2 (1 : Int32)).bind fun q15 => some ((1 : Int32), q15)) else if q1 = 0 then ((fX4_putArgument (fX7_advance M) x1 x2 (-1 : Int32)).bind fun q5 => some ((1 : Int32), q5)) else (fX4_putArgument (fX7_advance M) x1 x2 (1 : Int32)).bind fun q7 => some ((1 : Int32), q7)
set_option maxRecDepth 20000 in
set_option maxHeartbeats 2000000 in
theorem sX5_readDirection {wv : Nat} (M : Mm) (x1 : Int32) (x2 : Int32) {res : (Int32 × Mm)} (h : fX5_readDirection M x1 x2 = some res) : TF wv yX5_readDirection cX5_readDirection 4 (some .boolean) 8 [.inr (6, 0, 0), .inl (.int x1), .inl (.int x2)] M (some (.int res.1)) res.2 := by
  rw [fX5_readDirection] at h
  refine TF.go (n := 1) (ls := [some (.inr (6, 0, 0)), some (.inl (.int x1)), some (.inl (.int x2)), none]) rfl rfl rfl rfl rfl ?_
  refine z_aload_n (i := 0) dX5_readDirection_0 rfl rfl ?_
  refine z_getR (r' := (3, 0, 0)) dX5_readDirection_1 fl_X5_9 mk6 rfl rfl ?_
  refine z_ldcS (j := 13) dX5_readDirection_4 sw_RX5_114 ?_
  obtain ⟨q1, hq2, h⟩ := bnd h
  refine z_fVi (sX7_atWord M 13 (Nat.le_of_ble_eq_true rfl) hq2) dX5_readDirection_6 ml_X5_82 cd_X7_atWord mk3 rfl rfl rfl rfl rfl rfl ?_
  refine z_istore_n (i := 3) dX5_readDirection_9 rfl (Nat.le_of_ble_eq_true rfl) rfl ?_
  refine z_iload_n (i := 3) dX5_readDirection_10 rfl rfl ?_
  refine z_if_ne (tgt := 35) dX5_readDirection_11 rfl (fun hc3 => ?_) (fun hc3 => ?_)
  · have h := it_f h hc3
    refine z_aload_n (i := 0) dX5_readDirection_35 rfl rfl ?_
    refine z_getR (r' := (3, 0, 0)) dX5_readDirection_36 fl_X5_9 mk6 rfl rfl ?_
    refine z_fVv (sX7_advance M) dX5_readDirection_39 ml_X5_51 cd_X7_advance mk3 rfl rfl rfl rfl rfl rfl ?_
    refine z_aload_n (i := 0) dX5_readDirection_42 rfl rfl ?_
    refine z_getR (r' := (7, 0, 0)) dX5_readDirection_43 fl_X5_15 mk6 rfl rfl ?_
    refine z_iload_n (i := 1) dX5_readDirection_46 rfl rfl ?_
    refine z_iload_n (i := 2) dX5_readDirection_47 rfl rfl ?_
    refine z_iload_n (i := 3) dX5_readDirection_48 rfl rfl ?_
    refine z_if_eq (tgt := 56) dX5_readDirection_49 rfl (fun hc4 => ?_) (fun hc4 => ?_)
    · have h := it_t h hc4
      refine z_iconst (v := (-1 : Int32)) dX5_readDirection_56 kc_m1 ?_
      obtain ⟨q5, hq6, h⟩ := bnd h
      refine z_fVv (sX4_putArgument (fX7_advance M) x1 x2 (-1 : Int32) hq6) dX5_readDirection_57 ml_X5_110 cd_X4_putArgument mk7 rfl rfl rfl rfl rfl rfl ?_
      refine z_iconst (v := (1 : Int32)) dX5_readDirection_60 kc_1 ?_
      cases h
      exact z_iret dX5_readDirection_61 rfl rfl (Nat.le_refl _) (Nat.le_refl _) ⟨rfl, rfl⟩
    · have h := it_f h hc4
      refine z_iconst (v := (1 : Int32)) dX5_readDirection_52 kc_1 ?_
      refine z_goto (tgt := 57) dX5_readDirection_53 rfl ?_
      obtain ⟨q7, hq8, h⟩ := bnd h
      refine z_fVv (sX4_putArgument (fX7_advance M) x1 x2 (1 : Int32) hq8) dX5_readDirection_57 ml_X5_110 cd_X4_putArgument mk7 rfl rfl rfl rfl rfl rfl ?_
      refine z_iconst (v := (1 : Int32)) dX5_readDirection_60 kc_1 ?_
      cases h
      exact z_iret dX5_readDirection_61 rfl rfl (Nat.le_refl _) (Nat.le_refl _) ⟨rfl, rfl⟩
  · have h := it_t h hc3
    refine z_aload_n (i := 0) dX5_readDirection_14 rfl rfl ?_
    refine z_getR (r' := (3, 0, 0)) dX5_readDirection_15 fl_X5_9 mk6 rfl rfl ?_
    refine z_ldcS (j := 14) dX5_readDirection_18 sw_RX5_116 ?_
    obtain ⟨q9, hq10, h⟩ := bnd h
    refine z_fVi (sX7_atWord M 14 (Nat.le_of_ble_eq_true rfl) hq10) dX5_readDirection_20 ml_X5_82 cd_X7_atWord mk3 rfl rfl rfl rfl rfl rfl ?_
    refine z_if_ne (tgt := 35) dX5_readDirection_23 rfl (fun hc11 => ?_) (fun hc11 => ?_)
    · have h := it_f h hc11
      refine z_aload_n (i := 0) dX5_readDirection_35 rfl rfl ?_
      refine z_getR (r' := (3, 0, 0)) dX5_readDirection_36 fl_X5_9 mk6 rfl rfl ?_
      refine z_fVv (sX7_advance M) dX5_readDirection_39 ml_X5_51 cd_X7_advance mk3 rfl rfl rfl rfl rfl rfl ?_
      refine z_aload_n (i := 0) dX5_readDirection_42 rfl rfl ?_
      refine z_getR (r' := (7, 0, 0)) dX5_readDirection_43 fl_X5_15 mk6 rfl rfl ?_
      refine z_iload_n (i := 1) dX5_readDirection_46 rfl rfl ?_
      refine z_iload_n (i := 2) dX5_readDirection_47 rfl rfl ?_
      refine z_iload_n (i := 3) dX5_readDirection_48 rfl rfl ?_
      refine z_if_eq (tgt := 56) dX5_readDirection_49 rfl (fun hc12 => ?_) (fun hc12 => ?_)
      · have h := it_t h hc12
        refine z_iconst (v := (-1 : Int32)) dX5_readDirection_56 kc_m1 ?_
        obtain ⟨q13, hq14, h⟩ := bnd h
        refine z_fVv (sX4_putArgument (fX7_advance M) x1 x2 (-1 : Int32) hq14) dX5_readDirection_57 ml_X5_110 cd_X4_putArgument mk7 rfl rfl rfl rfl rfl rfl ?_
        refine z_iconst (v := (1 : Int32)) dX5_readDirection_60 kc_1 ?_
        cases h
        exact z_iret dX5_readDirection_61 rfl rfl (Nat.le_refl _) (Nat.le_refl _) ⟨rfl, rfl⟩
      · have h := it_f h hc12
        refine z_iconst (v := (1 : Int32)) dX5_readDirection_52 kc_1 ?_
        refine z_goto (tgt := 57) dX5_readDirection_53 rfl ?_
        obtain ⟨q15, hq16, h⟩ := bnd h
        refine z_fVv (sX4_putArgument (fX7_advance M) x1 x2 (1 : Int32) hq16) dX5_readDirection_57 ml_X5_110 cd_X4_putArgument mk7 rfl rfl rfl rfl rfl rfl ?_
        refine z_iconst (v := (1 : Int32)) dX5_readDirection_60 kc_1 ?_
        cases h
        exact z_iret dX5_readDirection_61 rfl rfl (Nat.le_refl _) (Nat.le_refl _) ⟨rfl, rfl⟩
    · have h := it_t h hc11
      refine z_aload_n (i := 0) dX5_readDirection_26 rfl rfl ?_
      refine z_getR (r' := (3, 0, 0)) dX5_readDirection_27 fl_X5_9 mk6 rfl rfl ?_
      refine z_iconst (v := (1 : Int32)) dX5_readDirection_30 kc_1 ?_
      obtain ⟨q17, hq18, h⟩ := bnd h
      refine z_fVi (sX7_fail M (1 : Int32) hq18) dX5_readDirection_31 ml_X5_44 cd_X7_fail mk3 rfl rfl rfl rfl rfl rfl ?_
      cases h
      exact z_iret dX5_readDirection_34 rfl (bz_ok _) (Nat.le_refl _) (Nat.le_refl _) ⟨rfl, rfl⟩
