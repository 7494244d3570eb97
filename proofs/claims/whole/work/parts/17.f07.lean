theorem dX7_putToken_0 : decode cX7_putToken 0 = .ok (.aload_n 0, 1) := by decide +kernel
theorem dX7_putToken_1 : decode cX7_putToken 1 = .ok (.getfield 35, 3) := by decide +kernel
theorem dX7_putToken_4 : decode cX7_putToken 4 = .ok (.ifCond .lt 65, 3) := by decide +kernel
theorem dX7_putToken_7 : decode cX7_putToken 7 = .ok (.aload_n 0, 1) := by decide +kernel
theorem dX7_putToken_8 : decode cX7_putToken 8 = .ok (.getfield 35, 3) := by decide +kernel
theorem dX7_putToken_11 : decode cX7_putToken 11 = .ok (.aload_n 0, 1) := by decide +kernel
theorem dX7_putToken_12 : decode cX7_putToken 12 = .ok (.getfield 9, 3) := by decide +kernel
theorem dX7_putToken_15 : decode cX7_putToken 15 = .ok (.arraylength, 1) := by decide +kernel
theorem dX7_putToken_16 : decode cX7_putToken 16 = .ok (.if_icmp .ge 53, 3) := by decide +kernel
theorem dX7_putToken_19 : decode cX7_putToken 19 = .ok (.aload_n 0, 1) := by decide +kernel
theorem dX7_putToken_20 : decode cX7_putToken 20 = .ok (.getfield 9, 3) := by decide +kernel
theorem dX7_putToken_23 : decode cX7_putToken 23 = .ok (.aload_n 0, 1) := by decide +kernel
theorem dX7_putToken_24 : decode cX7_putToken 24 = .ok (.getfield 35, 3) := by decide +kernel
theorem dX7_putToken_27 : decode cX7_putToken 27 = .ok (.iload_n 1, 1) := by decide +kernel
theorem dX7_putToken_28 : decode cX7_putToken 28 = .ok (.iastore, 1) := by decide +kernel
theorem dX7_putToken_29 : decode cX7_putToken 29 = .ok (.aload_n 0, 1) := by decide +kernel
theorem dX7_putToken_30 : decode cX7_putToken 30 = .ok (.getfield 15, 3) := by decide +kernel
theorem dX7_putToken_33 : decode cX7_putToken 33 = .ok (.aload_n 0, 1) := by decide +kernel
theorem dX7_putToken_34 : decode cX7_putToken 34 = .ok (.getfield 35, 3) := by decide +kernel
theorem dX7_putToken_37 : decode cX7_putToken 37 = .ok (.iload_n 2, 1) := by decide +kernel
theorem dX7_putToken_38 : decode cX7_putToken 38 = .ok (.iastore, 1) := by decide +kernel
theorem dX7_putToken_39 : decode cX7_putToken 39 = .ok (.aload_n 0, 1) := by decide +kernel
theorem dX7_putToken_40 : decode cX7_putToken 40 = .ok (.getfield 18, 3) := by decide +kernel
theorem dX7_putToken_43 : decode cX7_putToken 43 = .ok (.aload_n 0, 1) := by decide +kernel
theorem dX7_putToken_44 : decode cX7_putToken 44 = .ok (.getfield 35, 3) := by decide +kernel
theorem dX7_putToken_47 : decode cX7_putToken 47 = .ok (.iload_n 2, 1) := by decide +kernel
theorem dX7_putToken_48 : decode cX7_putToken 48 = .ok (.iastore, 1) := by decide +kernel
theorem dX7_putToken_49 : decode cX7_putToken 49 = .ok (.aload_n 0, 1) := by decide +kernel
theorem dX7_putToken_50 : decode cX7_putToken 50 = .ok (.getfield 21, 3) := by decide +kernel
theorem dX7_putToken_53 : decode cX7_putToken 53 = .ok (.aload_n 0, 1) := by decide +kernel
theorem dX7_putToken_54 : decode cX7_putToken 54 = .ok (.getfield 35, 3) := by decide +kernel
theorem dX7_putToken_57 : decode cX7_putToken 57 = .ok (.iconst 0, 1) := by decide +kernel
theorem dX7_putToken_58 : decode cX7_putToken 58 = .ok (.iastore, 1) := by decide +kernel
theorem dX7_putToken_59 : decode cX7_putToken 59 = .ok (.aload_n 0, 1) := by decide +kernel
theorem dX7_putToken_60 : decode cX7_putToken 60 = .ok (.dup, 1) := by decide +kernel
theorem dX7_putToken_61 : decode cX7_putToken 61 = .ok (.getfield 35, 3) := by decide +kernel
theorem dX7_putToken_64 : decode cX7_putToken 64 = .ok (.iconst 1, 1) := by decide +kernel
theorem dX7_putToken_65 : decode cX7_putToken 65 = .ok (.iadd, 1) := by decide +kernel
theorem dX7_putToken_66 : decode cX7_putToken 66 = .ok (.putfield 35, 3) := by decide +kernel
theorem dX7_putToken_69 : decode cX7_putToken 69 = .ok (.return_, 1) := by decide +kernel
def fX7_putToken (M : Mm) (x1 : Int32) (x2 : Int32) : Option Mm := if (M.1 (3, 0, 0) 5) < 0 then some M else if (801 : Int32) ≤ (M.1 (3, 0, 0) 5) then some M else if (M.1 (3, 0, 0) 5) < 0 ∨ 801 ≤ (M.1 (3, 0, 0) 5).toNatClampNeg then none else if (M.1 (3, 0, 0) 5) < 0 ∨ 801 ≤ (M.1 (3, 0, 0) 5).toNatClampNeg then none else if (M.1 (3, 0, 0) 5) < 0 ∨ 801 ≤ (M.1 (3, 0, 0) 5).toNatClampNeg then none else if (M.1 (3, 0, 0) 5) < 0 ∨ 801 ≤ (M.1 (3, 0, 0) 5).toNatClampNeg then none else some (putI (putI (putI (putI (putI M (4, 0, 0) (M.1 (3, 0, 0) 5).toNatClampNeg x1) (4, 1, 0) (M.1 (3, 0, 0) 5).toNatClampNeg x2) (4, 2, 0) (M.1 (3, 0, 0) 5).toNatClampNeg x2) (4, 3, 0) (M.1 (3, 0, 0) 5).toNatClampNeg (0 : Int32)) (3, 0, 0) 5 ((M.1 (3, 0, 0) 5) + (1 : Int32)))
set_option maxRecDepth 20000 in
set_option maxHeartbeats 2000000 in
theorem sX7_putToken {wv : Nat} (M : Mm) (x1 : Int32) (x2 : Int32) {res : Mm} (h : fX7_putToken M x1 x2 = some res) : TF wv yX7_putToken cX7_putToken 3 none 0 [.inr (3, 0, 0), .inl (.int x1), .inl (.int x2)] M (none) res := by
  rw [fX7_putToken] at h
  refine TF.go (n := 0) (ls := [some (.inr (3, 0, 0)), some (.inl (.int x1)), some (.inl (.int x2))]) rfl rfl rfl rfl rfl ?_
  refine z_aload_n (i := 0) dX7_putToken_0 rfl rfl ?_
  refine z_getI (x := (M.1 (3, 0, 0) 5)) dX7_putToken_1 fl_X7_35 mk3 rfl rfl ?_
  refine z_if_lt (tgt := 69) dX7_putToken_4 rfl (fun hc1 => ?_) (fun hc1 => ?_)
  · have h := it_t h hc1
    cases h
    exact z_vret dX7_putToken_69 rfl (Nat.le_refl _) (Nat.le_refl _) ⟨rfl, rfl⟩
  · have h := it_f h hc1
    refine z_aload_n (i := 0) dX7_putToken_7 rfl rfl ?_
    refine z_getI (x := (M.1 (3, 0, 0) 5)) dX7_putToken_8 fl_X7_35 mk3 rfl rfl ?_
    refine z_aload_n (i := 0) dX7_putToken_11 rfl rfl ?_
    refine z_getR (r' := (4, 0, 0)) dX7_putToken_12 fl_X7_9 mk3 rfl rfl ?_
    refine z_alen (v := (801 : Int32)) dX7_putToken_15 (m4 _ (Nat.le_of_ble_eq_true rfl)) rfl (Nat.le_of_ble_eq_true rfl) (by decide) ?_
    refine z_icmp_ge (tgt := 69) dX7_putToken_16 rfl (fun hc2 => ?_) (fun hc2 => ?_)
    · have h := it_t h hc2
      cases h
      exact z_vret dX7_putToken_69 rfl (Nat.le_refl _) (Nat.le_refl _) ⟨rfl, rfl⟩
    · have h := it_f h hc2
      refine z_aload_n (i := 0) dX7_putToken_19 rfl rfl ?_
      refine z_getR (r' := (4, 0, 0)) dX7_putToken_20 fl_X7_9 mk3 rfl rfl ?_
      refine z_aload_n (i := 0) dX7_putToken_23 rfl rfl ?_
      refine z_getI (x := (M.1 (3, 0, 0) 5)) dX7_putToken_24 fl_X7_35 mk3 rfl rfl ?_
      refine z_iload_n (i := 1) dX7_putToken_27 rfl rfl ?_
      obtain ⟨hc3, h⟩ := chk h
      refine z_iast (j := (M.1 (3, 0, 0) 5).toNatClampNeg) allR_nd dX7_putToken_28 (m4 _ (Nat.le_of_ble_eq_true rfl)) rfl hc3 rfl ?_
      refine z_aload_n (i := 0) dX7_putToken_29 rfl rfl ?_
      refine z_getR (r' := (4, 1, 0)) dX7_putToken_30 fl_X7_15 mk3 rfl rfl ?_
      refine z_aload_n (i := 0) dX7_putToken_33 rfl rfl ?_
      refine z_getI (x := (M.1 (3, 0, 0) 5)) dX7_putToken_34 fl_X7_35 mk3 rfl rfl ?_
      refine z_iload_n (i := 2) dX7_putToken_37 rfl rfl ?_
      obtain ⟨hc4, h⟩ := chk h
      refine z_iast (j := (M.1 (3, 0, 0) 5).toNatClampNeg) allR_nd dX7_putToken_38 (m4 _ (Nat.le_of_ble_eq_true rfl)) rfl hc4 rfl ?_
      refine z_aload_n (i := 0) dX7_putToken_39 rfl rfl ?_
      refine z_getR (r' := (4, 2, 0)) dX7_putToken_40 fl_X7_18 mk3 rfl rfl ?_
      refine z_aload_n (i := 0) dX7_putToken_43 rfl rfl ?_
      refine z_getI (x := (M.1 (3, 0, 0) 5)) dX7_putToken_44 fl_X7_35 mk3 rfl rfl ?_
      refine z_iload_n (i := 2) dX7_putToken_47 rfl rfl ?_
      obtain ⟨hc5, h⟩ := chk h
      refine z_iast (j := (M.1 (3, 0, 0) 5).toNatClampNeg) allR_nd dX7_putToken_48 (m4 _ (Nat.le_of_ble_eq_true rfl)) rfl hc5 rfl ?_
      refine z_aload_n (i := 0) dX7_putToken_49 rfl rfl ?_
      refine z_getR (r' := (4, 3, 0)) dX7_putToken_50 fl_X7_21 mk3 rfl rfl ?_
      refine z_aload_n (i := 0) dX7_putToken_53 rfl rfl ?_
      refine z_getI (x := (M.1 (3, 0, 0) 5)) dX7_putToken_54 fl_X7_35 mk3 rfl rfl ?_
      refine z_iconst (v := (0 : Int32)) dX7_putToken_57 kc_0 ?_
      obtain ⟨hc6, h⟩ := chk h
      refine z_iast (j := (M.1 (3, 0, 0) 5).toNatClampNeg) allR_nd dX7_putToken_58 (m4 _ (Nat.le_of_ble_eq_true rfl)) rfl hc6 rfl ?_
      refine z_aload_n (i := 0) dX7_putToken_59 rfl rfl ?_
      refine z_dup dX7_putToken_60 rfl ?_
      refine z_getI (x := (M.1 (3, 0, 0) 5)) dX7_putToken_61 fl_X7_35 mk3 rfl rfl ?_
      refine z_iconst (v := (1 : Int32)) dX7_putToken_64 kc_1 ?_
      refine z_iadd dX7_putToken_65 ?_
      refine z_putI allR_nd dX7_putToken_66 fl_X7_35 mk3 rfl rfl ?_
      cases h
      exact z_vret dX7_putToken_69 rfl (Nat.le_refl _) (Nat.le_refl _) ⟨rfl, rfl⟩
theorem dX7_lengthenToken_0 : decode cX7_lengthenToken 0 = .ok (.aload_n 0, 1) := by decide +kernel
theorem dX7_lengthenToken_1 : decode cX7_lengthenToken 1 = .ok (.getfield 35, 3) := by decide +kernel
theorem dX7_lengthenToken_4 : decode cX7_lengthenToken 4 = .ok (.iconst 1, 1) := by decide +kernel
theorem dX7_lengthenToken_5 : decode cX7_lengthenToken 5 = .ok (.isub, 1) := by decide +kernel
theorem dX7_lengthenToken_6 : decode cX7_lengthenToken 6 = .ok (.istore_n 2, 1) := by decide +kernel
theorem dX7_lengthenToken_7 : decode cX7_lengthenToken 7 = .ok (.iload_n 2, 1) := by decide +kernel
theorem dX7_lengthenToken_8 : decode cX7_lengthenToken 8 = .ok (.ifCond .lt 12, 3) := by decide +kernel
theorem dX7_lengthenToken_11 : decode cX7_lengthenToken 11 = .ok (.iload_n 2, 1) := by decide +kernel
theorem dX7_lengthenToken_12 : decode cX7_lengthenToken 12 = .ok (.aload_n 0, 1) := by decide +kernel
theorem dX7_lengthenToken_13 : decode cX7_lengthenToken 13 = .ok (.getfield 9, 3) := by decide +kernel
theorem dX7_lengthenToken_16 : decode cX7_lengthenToken 16 = .ok (.arraylength, 1) := by decide +kernel
theorem dX7_lengthenToken_17 : decode cX7_lengthenToken 17 = .ok (.if_icmp .lt 4, 3) := by decide +kernel
theorem dX7_lengthenToken_20 : decode cX7_lengthenToken 20 = .ok (.return_, 1) := by decide +kernel
theorem dX7_lengthenToken_21 : decode cX7_lengthenToken 21 = .ok (.aload_n 0, 1) := by decide +kernel
theorem dX7_lengthenToken_22 : decode cX7_lengthenToken 22 = .ok (.getfield 18, 3) := by decide +kernel
theorem dX7_lengthenToken_25 : decode cX7_lengthenToken 25 = .ok (.iload_n 2, 1) := by decide +kernel
theorem dX7_lengthenToken_26 : decode cX7_lengthenToken 26 = .ok (.iload_n 1, 1) := by decide +kernel
theorem dX7_lengthenToken_27 : decode cX7_lengthenToken 27 = .ok (.iconst 1, 1) := by decide +kernel
theorem dX7_lengthenToken_28 : decode cX7_lengthenToken 28 = .ok (.iadd, 1) := by decide +kernel
theorem dX7_lengthenToken_29 : decode cX7_lengthenToken 29 = .ok (.iastore, 1) := by decide +kernel
theorem dX7_lengthenToken_30 : decode cX7_lengthenToken 30 = .ok (.aload_n 0, 1) := by decide +kernel
theorem dX7_lengthenToken_31 : decode cX7_lengthenToken 31 = .ok (.getfield 9, 3) := by decide +kernel
theorem dX7_lengthenToken_34 : decode cX7_lengthenToken 34 = .ok (.iload_n 2, 1) := by decide +kernel
theorem dX7_lengthenToken_35 : decode cX7_lengthenToken 35 = .ok (.iaload, 1) := by decide +kernel
theorem dX7_lengthenToken_36 : decode cX7_lengthenToken 36 = .ok (.iconst 2, 1) := by decide +kernel
theorem dX7_lengthenToken_37 : decode cX7_lengthenToken 37 = .ok (.if_icmp .ne 35, 3) := by decide +kernel
theorem dX7_lengthenToken_40 : decode cX7_lengthenToken 40 = .ok (.aload_n 0, 1) := by decide +kernel
theorem dX7_lengthenToken_41 : decode cX7_lengthenToken 41 = .ok (.getfield 21, 3) := by decide +kernel
theorem dX7_lengthenToken_44 : decode cX7_lengthenToken 44 = .ok (.iload_n 2, 1) := by decide +kernel
theorem dX7_lengthenToken_45 : decode cX7_lengthenToken 45 = .ok (.ldc 61, 2) := by decide +kernel
theorem dX7_lengthenToken_47 : decode cX7_lengthenToken 47 = .ok (.aload_n 0, 1) := by decide +kernel
theorem dX7_lengthenToken_48 : decode cX7_lengthenToken 48 = .ok (.getfield 21, 3) := by decide +kernel
theorem dX7_lengthenToken_51 : decode cX7_lengthenToken 51 = .ok (.iload_n 2, 1) := by decide +kernel
theorem dX7_lengthenToken_52 : decode cX7_lengthenToken 52 = .ok (.iaload, 1) := by decide +kernel
theorem dX7_lengthenToken_53 : decode cX7_lengthenToken 53 = .ok (.bipush 10, 2) := by decide +kernel
theorem dX7_lengthenToken_55 : decode cX7_lengthenToken 55 = .ok (.imul, 1) := by decide +kernel
theorem dX7_lengthenToken_56 : decode cX7_lengthenToken 56 = .ok (.aload_n 0, 1) := by decide +kernel
theorem dX7_lengthenToken_57 : decode cX7_lengthenToken 57 = .ok (.getfield 24, 3) := by decide +kernel
theorem dX7_lengthenToken_60 : decode cX7_lengthenToken 60 = .ok (.iload_n 1, 1) := by decide +kernel
theorem dX7_lengthenToken_61 : decode cX7_lengthenToken 61 = .ok (.invokevirtual 46, 3) := by decide +kernel
theorem dX7_lengthenToken_64 : decode cX7_lengthenToken 64 = .ok (.iadd, 1) := by decide +kernel
theorem dX7_lengthenToken_65 : decode cX7_lengthenToken 65 = .ok (.bipush 48, 2) := by decide +kernel
theorem dX7_lengthenToken_67 : decode cX7_lengthenToken 67 = .ok (.isub, 1) := by decide +kernel
theorem dX7_lengthenToken_68 : decode cX7_lengthenToken 68 = .ok (.invokestatic 62, 3) := by decide +kernel
theorem dX7_lengthenToken_71 : decode cX7_lengthenToken 71 = .ok (.iastore, 1) := by decide +kernel
theorem dX7_lengthenToken_72 : decode cX7_lengthenToken 72 = .ok (.return_, 1) := by decide +kernel
def fX7_lengthenToken (M : Mm) (x1 : Int32) : Option Mm := if ((M.1 (3, 0, 0) 5) - (1 : Int32)) < 0 then some M else if ((M.1 (3, 0, 0) 5) - (1 : Int32)) < (801 : Int32) then (if ((M.1 (3, 0, 0) 5) - (1 : Int32)) < 0 ∨ 801 ≤ ((M.1 (3, 0, 0) 5) - (1 : Int32)).toNatClampNeg then none else if ((M.1 (3, 0, 0) 5) - (1 : Int32)) < 0 ∨ 801 ≤ ((M.1 (3, 0, 0) 5) - (1 : Int32)).toNatClampNeg then none else if (M.1 (4, 0, 0) ((M.1 (3, 0, 0) 5) - (1 : Int32)).toNatClampNeg) = (2 : Int32) then (if ((M.1 (3, 0, 0) 5) - (1 : Int32)) < 0 ∨ 801 ≤ ((M.1 (3, 0, 0) 5) - (1 : Int32)).toNatClampNeg then none else (fX1_at (putI M (4, 2, 0) ((M.1 (3, 0, 0) 5) - (1 : Int32)).toNatClampNeg (x1 + (1 : Int32))) 0 x1).bind fun q7 => if ((M.1 (3, 0, 0) 5) - (1 : Int32)) < 0 ∨ 801 ≤ ((M.1 (3, 0, 0) 5) - (1 : Int32)).toNatClampNeg then none else some (putI (putI M (4, 2, 0) ((M.1 (3, 0, 0) 5) - (1 : Int32)).toNatClampNeg (x1 + (1 : Int32))) (4, 3, 0) ((M.1 (3, 0, 0) 5) - (1 : Int32)).toNatClampNeg (fJ9_min_7cf53 (putI M (4, 2, 0) ((M.1 (3, 0, 0) 5) - (1 : Int32)).toNatClampNeg (x1 + (1 : Int32))) (1000000 : Int32) ((((M.1 (4, 3, 0) ((M.1 (3, 0, 0) 5) - (1 : Int32)).toNatClampNeg) * (10 : Int32)) + q7) - (48 : Int32))))) else some (putI M (4, 2, 0) ((M.1 (3, 0, 0) 5) - (1 : Int32)).toNatClampNeg (x1 + (1 : Int32)))) else some M
set_option maxRecDepth 20000 in
set_option maxHeartbeats 2000000 in
theorem sX7_lengthenToken {wv : Nat} (M : Mm) (x1 : Int32) {res : Mm} (h : fX7_lengthenToken M x1 = some res) : TF wv yX7_lengthenToken cX7_lengthenToken 3 none 1 [.inr (3, 0, 0), .inl (.int x1)] M (none) res := by
  rw [fX7_lengthenToken] at h
  refine TF.go (n := 1) (ls := [some (.inr (3, 0, 0)), some (.inl (.int x1)), none]) rfl rfl rfl rfl rfl ?_
  refine z_aload_n (i := 0) dX7_lengthenToken_0 rfl rfl ?_
  refine z_getI (x := (M.1 (3, 0, 0) 5)) dX7_lengthenToken_1 fl_X7_35 mk3 rfl rfl ?_
  refine z_iconst (v := (1 : Int32)) dX7_lengthenToken_4 kc_1 ?_
  refine z_isub dX7_lengthenToken_5 ?_
  refine z_istore_n (i := 2) dX7_lengthenToken_6 rfl (Nat.le_of_ble_eq_true rfl) rfl ?_
  refine z_iload_n (i := 2) dX7_lengthenToken_7 rfl rfl ?_
  refine z_if_lt (tgt := 20) dX7_lengthenToken_8 rfl (fun hc1 => ?_) (fun hc1 => ?_)
  · have h := it_t h hc1
    cases h
    exact z_vret dX7_lengthenToken_20 rfl (Nat.le_refl _) (Nat.le_refl _) ⟨rfl, rfl⟩
  · have h := it_f h hc1
    refine z_iload_n (i := 2) dX7_lengthenToken_11 rfl rfl ?_
    refine z_aload_n (i := 0) dX7_lengthenToken_12 rfl rfl ?_
    refine z_getR (r' := (4, 0, 0)) dX7_lengthenToken_13 fl_X7_9 mk3 rfl rfl ?_
    refine z_alen (v := (801 : Int32)) dX7_lengthenToken_16 (m4 _ (Nat.le_of_ble_eq_true rfl)) rfl (Nat.le_of_ble_eq_true rfl) (by decide) ?_
    refine z_icmp_lt (tgt := 21) dX7_lengthenToken_17 rfl (fun hc2 => ?_) (fun hc2 => ?_)
    · have h := it_t h hc2
      refine z_aload_n (i := 0) dX7_lengthenToken_21 rfl rfl ?_
      refine z_getR (r' := (4, 2, 0)) dX7_lengthenToken_22 fl_X7_18 mk3 rfl rfl ?_
      refine z_iload_n (i := 2) dX7_lengthenToken_25 rfl rfl ?_
      refine z_iload_n (i := 1) dX7_lengthenToken_26 rfl rfl ?_
      refine z_iconst (v := (1 : Int32)) dX7_lengthenToken_27 kc_1 ?_
      refine z_iadd dX7_lengthenToken_28 ?_
      obtain ⟨hc3, h⟩ := chk h
      refine z_iast (j := ((M.1 (3, 0, 0) 5) - (1 : Int32)).toNatClampNeg) allR_nd dX7_lengthenToken_29 (m4 _ (Nat.le_of_ble_eq_true rfl)) rfl hc3 rfl ?_
      refine z_aload_n (i := 0) dX7_lengthenToken_30 rfl rfl ?_
      refine z_getR (r' := (4, 0, 0)) dX7_lengthenToken_31 fl_X7_9 mk3 rfl rfl ?_
      refine z_iload_n (i := 2) dX7_lengthenToken_34 rfl rfl ?_
      obtain ⟨hc4, h⟩ := chk h
      refine z_iald (x := (M.1 (4, 0, 0) ((M.1 (3, 0, 0) 5) - (1 : Int32)).toNatClampNeg)) dX7_lengthenToken_35 (m4 _ (Nat.le_of_ble_eq_true rfl)) rfl hc4 (by simp [putI, putL]) ?_
      refine z_iconst (v := (2 : Int32)) dX7_lengthenToken_36 kc_2 ?_
      refine z_icmp_ne (tgt := 72) dX7_lengthenToken_37 rfl (fun hc5 => ?_) (fun hc5 => ?_)
      · have h := it_f h hc5
        cases h
        exact z_vret dX7_lengthenToken_72 rfl (Nat.le_refl _) (Nat.le_refl _) ⟨rfl, rfl⟩
      · have h := it_t h hc5
        refine z_aload_n (i := 0) dX7_lengthenToken_40 rfl rfl ?_
        refine z_getR (r' := (4, 3, 0)) dX7_lengthenToken_41 fl_X7_21 mk3 rfl rfl ?_
        refine z_iload_n (i := 2) dX7_lengthenToken_44 rfl rfl ?_
        refine z_ldc (v := (1000000 : Int32)) dX7_lengthenToken_45 (al_mem 431 (by decide +kernel) rfl) ?_
        refine z_aload_n (i := 0) dX7_lengthenToken_47 rfl rfl ?_
        refine z_getR (r' := (4, 3, 0)) dX7_lengthenToken_48 fl_X7_21 mk3 rfl rfl ?_
        refine z_iload_n (i := 2) dX7_lengthenToken_51 rfl rfl ?_
        obtain ⟨hc6, h⟩ := chk h
        refine z_iald (x := (M.1 (4, 3, 0) ((M.1 (3, 0, 0) 5) - (1 : Int32)).toNatClampNeg)) dX7_lengthenToken_52 (m4 _ (Nat.le_of_ble_eq_true rfl)) rfl hc6 (by simp [putI, putL]) ?_
        refine z_bipush (v := (10 : Int32)) dX7_lengthenToken_53 kb_10 ?_
        refine z_imul dX7_lengthenToken_55 ?_
        refine z_aload_n (i := 0) dX7_lengthenToken_56 rfl rfl ?_
        refine z_getR (r' := (1, 0, 0)) dX7_lengthenToken_57 fl_X7_24 mk3 rfl rfl ?_
        refine z_iload_n (i := 1) dX7_lengthenToken_60 rfl rfl ?_
        obtain ⟨q7, hq8, h⟩ := bnd h
        refine z_fVi (sX1_at (putI M (4, 2, 0) ((M.1 (3, 0, 0) 5) - (1 : Int32)).toNatClampNeg (x1 + (1 : Int32))) 0 x1 (Nat.le_of_ble_eq_true rfl) hq8) dX7_lengthenToken_61 ml_X7_46 cd_X1_at (m1 _ (Nat.le_of_ble_eq_true rfl)) rfl rfl rfl rfl rfl rfl ?_
        refine z_iadd dX7_lengthenToken_64 ?_
        refine z_bipush (v := (48 : Int32)) dX7_lengthenToken_65 kb_48 ?_
        refine z_isub dX7_lengthenToken_67 ?_
        refine z_fSi (sJ9_min_7cf53 (putI M (4, 2, 0) ((M.1 (3, 0, 0) 5) - (1 : Int32)).toNatClampNeg (x1 + (1 : Int32))) (1000000 : Int32) ((((M.1 (4, 3, 0) ((M.1 (3, 0, 0) 5) - (1 : Int32)).toNatClampNeg) * (10 : Int32)) + q7) - (48 : Int32))) dX7_lengthenToken_68 ml_X7_62 cd_J9_min_7cf53 rfl rfl rfl rfl rfl ?_
        obtain ⟨hc9, h⟩ := chk h
        refine z_iast (j := ((M.1 (3, 0, 0) 5) - (1 : Int32)).toNatClampNeg) allR_nd dX7_lengthenToken_71 (m4 _ (Nat.le_of_ble_eq_true rfl)) rfl hc9 rfl ?_
        cases h
        exact z_vret dX7_lengthenToken_72 rfl (Nat.le_refl _) (Nat.le_refl _) ⟨rfl, rfl⟩
    · have h := it_f h hc2
      cases h
      exact z_vret dX7_lengthenToken_20 rfl (Nat.le_refl _) (Nat.le_refl _) ⟨rfl, rfl⟩
theorem dX7_scan_0 : decode cX7_scan 0 = .ok (.aload_n 0, 1) := by decide +kernel
theorem dX7_scan_1 : decode cX7_scan 1 = .ok (.iconst 0, 1) := by decide +kernel
theorem dX7_scan_2 : decode cX7_scan 2 = .ok (.putfield 32, 3) := by decide +kernel
theorem dX7_scan_5 : decode cX7_scan 5 = .ok (.aload_n 0, 1) := by decide +kernel
theorem dX7_scan_6 : decode cX7_scan 6 = .ok (.iconst (-1), 1) := by decide +kernel
theorem dX7_scan_7 : decode cX7_scan 7 = .ok (.putfield 28, 3) := by decide +kernel
theorem dX7_scan_10 : decode cX7_scan 10 = .ok (.aload_n 0, 1) := by decide +kernel
theorem dX7_scan_11 : decode cX7_scan 11 = .ok (.iconst 0, 1) := by decide +kernel
theorem dX7_scan_12 : decode cX7_scan 12 = .ok (.putfield 35, 3) := by decide +kernel
theorem dX7_scan_15 : decode cX7_scan 15 = .ok (.aload_n 0, 1) := by decide +kernel
theorem dX7_scan_16 : decode cX7_scan 16 = .ok (.iconst 0, 1) := by decide +kernel
theorem dX7_scan_17 : decode cX7_scan 17 = .ok (.putfield 38, 3) := by decide +kernel
theorem dX7_scan_20 : decode cX7_scan 20 = .ok (.iconst 4, 1) := by decide +kernel
theorem dX7_scan_21 : decode cX7_scan 21 = .ok (.istore_n 1, 1) := by decide +kernel
theorem dX7_scan_22 : decode cX7_scan 22 = .ok (.iconst 0, 1) := by decide +kernel
theorem dX7_scan_23 : decode cX7_scan 23 = .ok (.istore_n 2, 1) := by decide +kernel
theorem dX7_scan_24 : decode cX7_scan 24 = .ok (.iload_n 2, 1) := by decide +kernel
theorem dX7_scan_25 : decode cX7_scan 25 = .ok (.aload_n 0, 1) := by decide +kernel
theorem dX7_scan_26 : decode cX7_scan 26 = .ok (.getfield 24, 3) := by decide +kernel
theorem dX7_scan_29 : decode cX7_scan 29 = .ok (.getfield 41, 3) := by decide +kernel
theorem dX7_scan_32 : decode cX7_scan 32 = .ok (.if_icmp .ge 54, 3) := by decide +kernel
theorem dX7_scan_35 : decode cX7_scan 35 = .ok (.aload_n 0, 1) := by decide +kernel
theorem dX7_scan_36 : decode cX7_scan 36 = .ok (.getfield 24, 3) := by decide +kernel
theorem dX7_scan_39 : decode cX7_scan 39 = .ok (.iload_n 2, 1) := by decide +kernel
theorem dX7_scan_40 : decode cX7_scan 40 = .ok (.invokevirtual 46, 3) := by decide +kernel
theorem dX7_scan_43 : decode cX7_scan 43 = .ok (.invokestatic 50, 3) := by decide +kernel
theorem dX7_scan_46 : decode cX7_scan 46 = .ok (.istore_n 3, 1) := by decide +kernel
theorem dX7_scan_47 : decode cX7_scan 47 = .ok (.iload_n 3, 1) := by decide +kernel
theorem dX7_scan_48 : decode cX7_scan 48 = .ok (.iconst 3, 1) := by decide +kernel
theorem dX7_scan_49 : decode cX7_scan 49 = .ok (.if_icmp .eq 13, 3) := by decide +kernel
theorem dX7_scan_52 : decode cX7_scan 52 = .ok (.iload_n 3, 1) := by decide +kernel
theorem dX7_scan_53 : decode cX7_scan 53 = .ok (.iconst 4, 1) := by decide +kernel
theorem dX7_scan_54 : decode cX7_scan 54 = .ok (.if_icmp .eq 14, 3) := by decide +kernel
theorem dX7_scan_57 : decode cX7_scan 57 = .ok (.iload_n 3, 1) := by decide +kernel
theorem dX7_scan_58 : decode cX7_scan 58 = .ok (.iload_n 1, 1) := by decide +kernel
theorem dX7_scan_59 : decode cX7_scan 59 = .ok (.if_icmp .eq 9, 3) := by decide +kernel
theorem dX7_scan_62 : decode cX7_scan 62 = .ok (.aload_n 0, 1) := by decide +kernel
theorem dX7_scan_63 : decode cX7_scan 63 = .ok (.iload_n 3, 1) := by decide +kernel
theorem dX7_scan_64 : decode cX7_scan 64 = .ok (.iload_n 2, 1) := by decide +kernel
theorem dX7_scan_65 : decode cX7_scan 65 = .ok (.invokevirtual 53, 3) := by decide +kernel
theorem dX7_scan_68 : decode cX7_scan 68 = .ok (.iload_n 3, 1) := by decide +kernel
theorem dX7_scan_69 : decode cX7_scan 69 = .ok (.iconst 4, 1) := by decide +kernel
theorem dX7_scan_70 : decode cX7_scan 70 = .ok (.if_icmp .eq 8, 3) := by decide +kernel
theorem dX7_scan_73 : decode cX7_scan 73 = .ok (.aload_n 0, 1) := by decide +kernel
theorem dX7_scan_74 : decode cX7_scan 74 = .ok (.iload_n 2, 1) := by decide +kernel
theorem dX7_scan_75 : decode cX7_scan 75 = .ok (.invokevirtual 57, 3) := by decide +kernel
theorem dX7_scan_78 : decode cX7_scan 78 = .ok (.iload_n 3, 1) := by decide +kernel
theorem dX7_scan_79 : decode cX7_scan 79 = .ok (.istore_n 1, 1) := by decide +kernel
theorem dX7_scan_80 : decode cX7_scan 80 = .ok (.iinc 2 1, 3) := by decide +kernel
theorem dX7_scan_83 : decode cX7_scan 83 = .ok (.goto (-59), 3) := by decide +kernel
theorem dX7_scan_86 : decode cX7_scan 86 = .ok (.aload_n 0, 1) := by decide +kernel
theorem dX7_scan_87 : decode cX7_scan 87 = .ok (.iconst 0, 1) := by decide +kernel
theorem dX7_scan_88 : decode cX7_scan 88 = .ok (.aload_n 0, 1) := by decide +kernel
theorem dX7_scan_89 : decode cX7_scan 89 = .ok (.getfield 24, 3) := by decide +kernel
theorem dX7_scan_92 : decode cX7_scan 92 = .ok (.getfield 41, 3) := by decide +kernel
theorem dX7_scan_95 : decode cX7_scan 95 = .ok (.invokevirtual 53, 3) := by decide +kernel
theorem dX7_scan_98 : decode cX7_scan 98 = .ok (.return_, 1) := by decide +kernel
def fX7_scan_L24 (K : Int32 → Int32 → Mm → Option Mm) : Nat → Int32 → Int32 → Mm → Option Mm
  | 0, _, _, _ => none
  | n + 1, v1, v2, M => if (M.1 (1, 0, 0) 1) ≤ v2 then K v1 v2 M else (fX1_at M 0 v2).bind fun q2 => if (fX7_kindOf M q2) = (3 : Int32) then ((fX7_putToken M (fX7_kindOf M q2) v2).bind fun q5 => if (fX7_kindOf M q2) = (4 : Int32) then fX7_scan_L24 K n (fX7_kindOf M q2) (v2 + (1 : Int32)) q5 else (fX7_lengthenToken q5 v2).bind fun q8 => fX7_scan_L24 K n (fX7_kindOf M q2) (v2 + (1 : Int32)) q8) else if (fX7_kindOf M q2) = (4 : Int32) then (if (fX7_kindOf M q2) = (4 : Int32) then fX7_scan_L24 K n (fX7_kindOf M q2) (v2 + (1 : Int32)) M else (fX7_lengthenToken M v2).bind fun q12 => fX7_scan_L24 K n (fX7_kindOf M q2) (v2 + (1 : Int32)) q12) else if (fX7_kindOf M q2) = v1 then (if (fX7_kindOf M q2) = (4 : Int32) then fX7_scan_L24 K n (fX7_kindOf M q2) (v2 + (1 : Int32)) M else (fX7_lengthenToken M v2).bind fun q16 => fX7_scan_L24 K n (fX7_kindOf M q2) (v2 + (1 : Int32)) q16) else (fX7_putToken M (fX7_kindOf M q2) v2).bind fun q18 => if (fX7_kindOf M q2) = (4 : Int32) then fX7_scan_L24 K n (fX7_kindOf M q2) (v2 + (1 : Int32)) q18 else (fX7_lengthenToken q18 v2).bind fun q21 => fX7_scan_L24 K n (fX7_kindOf M q2) (v2 + (1 : Int32)) q21
def fX7_scan (M : Mm) : Option Mm := fX7_scan_L24 (fun w23 w24 M25 => (fX7_putToken M25 (0 : Int32) (M25.1 (1, 0, 0) 1)).bind fun q26 => some q26) NF (4 : Int32) (0 : Int32) (putI (putI (putI (putI M (3, 0, 0) 7 (0 : Int32)) (3, 0, 0) 8 (-1 : Int32)) (3, 0, 0) 5 (0 : Int32)) (3, 0, 0) 6 (0 : Int32))
set_option maxRecDepth 20000 in
set_option maxHeartbeats 2000000 in
theorem sX7_scan_L24 {wv : Nat} {res : Mm} {K : Int32 → Int32 → Mm → Option Mm} : ∀ (n : Nat) (v1 : Int32) (v2 : Int32) (M : Mm), fX7_scan_L24 K n v1 v2 M = some res →
    (∀ (v1 : Int32) (v2 : Int32) (M : Mm), K v1 v2 M = some res → Z RX7 cX7_scan 4 none [] "scan" (rmD 2 0 0) (QM SH (allR wv) 0 0 (fun v M9 => v = none ∧ M9 = res) (fun _ _ => False)) (allR wv) SH 0 0 86 [some (.inr (3, 0, 0)), some (.inl (.int v1)), some (.inl (.int v2)), none] [] M) → Z RX7 cX7_scan 4 none [] "scan" (rmD 2 0 0) (QM SH (allR wv) 0 0 (fun v M9 => v = none ∧ M9 = res) (fun _ _ => False)) (allR wv) SH 0 0 24 [some (.inr (3, 0, 0)), some (.inl (.int v1)), some (.inl (.int v2)), none] [] M := by
  intro n
  induction n with
  | zero => intro v1 v2 M h; cases h
  | succ n ih =>
    intro v1 v2 M h hK
    rw [fX7_scan_L24] at h
    refine z_iload_n (i := 2) dX7_scan_24 rfl rfl ?_
    refine z_aload_n (i := 0) dX7_scan_25 rfl rfl ?_
    refine z_getR (r' := (1, 0, 0)) dX7_scan_26 fl_X7_24 mk3 rfl rfl ?_
    refine z_getI (x := (M.1 (1, 0, 0) 1)) dX7_scan_29 fl_X7_41 (m1 _ (Nat.le_of_ble_eq_true rfl)) rfl rfl ?_
    refine z_icmp_ge (tgt := 86) dX7_scan_32 rfl (fun hc1 => ?_) (fun hc1 => ?_)
    · have h := it_t h hc1
      exact hK _ _ _ h
    · have h := it_f h hc1
      refine z_aload_n (i := 0) dX7_scan_35 rfl rfl ?_
      refine z_getR (r' := (1, 0, 0)) dX7_scan_36 fl_X7_24 mk3 rfl rfl ?_
      refine z_iload_n (i := 2) dX7_scan_39 rfl rfl ?_
      obtain ⟨q2, hq3, h⟩ := bnd h
      refine z_fVi (sX1_at M 0 v2 (Nat.le_of_ble_eq_true rfl) hq3) dX7_scan_40 ml_X7_46 cd_X1_at (m1 _ (Nat.le_of_ble_eq_true rfl)) rfl rfl rfl rfl rfl rfl ?_
      refine z_fSi (sX7_kindOf M q2) dX7_scan_43 ml_X7_50 cd_X7_kindOf rfl rfl rfl rfl rfl ?_
      refine z_istore_n (i := 3) dX7_scan_46 rfl (Nat.le_of_ble_eq_true rfl) rfl ?_
      refine z_iload_n (i := 3) dX7_scan_47 rfl rfl ?_
      refine z_iconst (v := (3 : Int32)) dX7_scan_48 kc_3 ?_
      refine z_icmp_eq (tgt := 62) dX7_scan_49 rfl (fun hc4 => ?_) (fun hc4 => ?_)
      · have h := it_t h hc4
        refine z_aload_n (i := 0) dX7_scan_62 rfl rfl ?_
        refine z_iload_n (i := 3) dX7_scan_63 rfl rfl ?_
        refine z_iload_n (i := 2) dX7_scan_64 rfl rfl ?_
        obtain ⟨q5, hq6, h⟩ := bnd h
        refine z_fVv (sX7_putToken M (fX7_kindOf M q2) v2 hq6) dX7_scan_65 ml_X7_53 cd_X7_putToken mk3 rfl rfl rfl rfl rfl rfl ?_
        refine z_iload_n (i := 3) dX7_scan_68 rfl rfl ?_
        refine z_iconst (v := (4 : Int32)) dX7_scan_69 kc_4 ?_
        refine z_icmp_eq (tgt := 78) dX7_scan_70 rfl (fun hc7 => ?_) (fun hc7 => ?_)
        · have h := it_t h hc7
          refine z_iload_n (i := 3) dX7_scan_78 rfl rfl ?_
          refine z_istore_n (i := 1) dX7_scan_79 rfl (Nat.le_of_ble_eq_true rfl) rfl ?_
          refine z_iinc (i := 2) (v := (v2 + (1 : Int32))) dX7_scan_80 rfl (iinc_k kc_1) (Nat.le_of_ble_eq_true rfl) rfl ?_
          refine z_goto (tgt := 24) dX7_scan_83 rfl ?_
          refine z_fgt (i := 3) ?_
          exact ih _ _ _ h hK
        · have h := it_f h hc7
          refine z_aload_n (i := 0) dX7_scan_73 rfl rfl ?_
          refine z_iload_n (i := 2) dX7_scan_74 rfl rfl ?_
          obtain ⟨q8, hq9, h⟩ := bnd h
          refine z_fVv (sX7_lengthenToken q5 v2 hq9) dX7_scan_75 ml_X7_57 cd_X7_lengthenToken mk3 rfl rfl rfl rfl rfl rfl ?_
          refine z_iload_n (i := 3) dX7_scan_78 rfl rfl ?_
          refine z_istore_n (i := 1) dX7_scan_79 rfl (Nat.le_of_ble_eq_true rfl) rfl ?_
          refine z_iinc (i := 2) (v := (v2 + (1 : Int32))) dX7_scan_80 rfl (iinc_k kc_1) (Nat.le_of_ble_eq_true rfl) rfl ?_
          refine z_goto (tgt := 24) dX7_scan_83 rfl ?_
          refine z_fgt (i := 3) ?_
          exact ih _ _ _ h hK
      · have h := it_f h hc4
        refine z_iload_n (i := 3) dX7_scan_52 rfl rfl ?_
        refine z_iconst (v := (4 : Int32)) dX7_scan_53 kc_4 ?_
        refine z_icmp_eq (tgt := 68) dX7_scan_54 rfl (fun hc10 => ?_) (fun hc10 => ?_)
        · have h := it_t h hc10
          refine z_iload_n (i := 3) dX7_scan_68 rfl rfl ?_
          refine z_iconst (v := (4 : Int32)) dX7_scan_69 kc_4 ?_
          refine z_icmp_eq (tgt := 78) dX7_scan_70 rfl (fun hc11 => ?_) (fun hc11 => ?_)
          · have h := it_t h hc11
            refine z_iload_n (i := 3) dX7_scan_78 rfl rfl ?_
            refine z_istore_n (i := 1) dX7_scan_79 rfl (Nat.le_of_ble_eq_true rfl) rfl ?_
            refine z_iinc (i := 2) (v := (v2 + (1 : Int32))) dX7_scan_80 rfl (iinc_k kc_1) (Nat.le_of_ble_eq_true rfl) rfl ?_
            refine z_goto (tgt := 24) dX7_scan_83 rfl ?_
            refine z_fgt (i := 3) ?_
            exact ih _ _ _ h hK
          · have h := it_f h hc11
            refine z_aload_n (i := 0) dX7_scan_73 rfl rfl ?_
            refine z_iload_n (i := 2) dX7_scan_74 rfl rfl ?_
            obtain ⟨q12, hq13, h⟩ := bnd h
            refine z_fVv (sX7_lengthenToken M v2 hq13) dX7_scan_75 ml_X7_57 cd_X7_lengthenToken mk3 rfl rfl rfl rfl rfl rfl ?_
            refine z_iload_n (i := 3) dX7_scan_78 rfl rfl ?_
            refine z_istore_n (i := 1) dX7_scan_79 rfl (Nat.le_of_ble_eq_true rfl) rfl ?_
            refine z_iinc (i := 2) (v := (v2 + (1 : Int32))) dX7_scan_80 rfl (iinc_k kc_1) (Nat.le_of_ble_eq_true rfl) rfl ?_
            refine z_goto (tgt := 24) dX7_scan_83 rfl ?_
            refine z_fgt (i := 3) ?_
            exact ih _ _ _ h hK
        · have h := it_f h hc10
          refine z_iload_n (i := 3) dX7_scan_57 rfl rfl ?_
          refine z_iload_n (i := 1) dX7_scan_58 rfl rfl ?_
          refine z_icmp_eq (tgt := 68) dX7_scan_59 rfl (fun hc14 => ?_) (fun hc14 => ?_)
          · have h := it_t h hc14
            refine z_iload_n (i := 3) dX7_scan_68 rfl rfl ?_
            refine z_iconst (v := (4 : Int32)) dX7_scan_69 kc_4 ?_
            refine z_icmp_eq (tgt := 78) dX7_scan_70 rfl (fun hc15 => ?_) (fun hc15 => ?_)
            · have h := it_t h hc15
              refine z_iload_n (i := 3) dX7_scan_78 rfl rfl ?_
              refine z_istore_n (i := 1) dX7_scan_79 rfl (Nat.le_of_ble_eq_true rfl) rfl ?_
              refine z_iinc (i := 2) (v := (v2 + (1 : Int32))) dX7_scan_80 rfl (iinc_k kc_1) (Nat.le_of_ble_eq_true rfl) rfl ?_
              refine z_goto (tgt := 24) dX7_scan_83 rfl ?_
              refine z_fgt (i := 3) ?_
              exact ih _ _ _ h hK
            · have h := it_f h hc15
              refine z_aload_n (i := 0) dX7_scan_73 rfl rfl ?_
              refine z_iload_n (i := 2) dX7_scan_74 rfl rfl ?_
              obtain ⟨q16, hq17, h⟩ := bnd h
              refine z_fVv (sX7_lengthenToken M v2 hq17) dX7_scan_75 ml_X7_57 cd_X7_lengthenToken mk3 rfl rfl rfl rfl rfl rfl ?_
              refine z_iload_n (i := 3) dX7_scan_78 rfl rfl ?_
              refine z_istore_n (i := 1) dX7_scan_79 rfl (Nat.le_of_ble_eq_true rfl) rfl ?_
              refine z_iinc (i := 2) (v := (v2 + (1 : Int32))) dX7_scan_80 rfl (iinc_k kc_1) (Nat.le_of_ble_eq_true rfl) rfl ?_
              refine z_goto (tgt := 24) dX7_scan_83 rfl ?_
              refine z_fgt (i := 3) ?_
              exact ih _ _ _ h hK
          · have h := it_f h hc14
            refine z_aload_n (i := 0) dX7_scan_62 rfl rfl ?_
            refine z_iload_n (i := 3) dX7_scan_63 rfl rfl ?_
            refine z_iload_n (i := 2) dX7_scan_64 rfl rfl ?_
            obtain ⟨q18, hq19, h⟩ := bnd h
            refine z_fVv (sX7_putToken M (fX7_kindOf M q2) v2 hq19) dX7_scan_65 ml_X7_53 cd_X7_putToken mk3 rfl rfl rfl rfl rfl rfl ?_
            refine z_iload_n (i := 3) dX7_scan_68 rfl rfl ?_
            refine z_iconst (v := (4 : Int32)) dX7_scan_69 kc_4 ?_
            refine z_icmp_eq (tgt := 78) dX7_scan_70 rfl (fun hc20 => ?_) (fun hc20 => ?_)
            · have h := it_t h hc20
              refine z_iload_n (i := 3) dX7_scan_78 rfl rfl ?_
              refine z_istore_n (i := 1) dX7_scan_79 rfl (Nat.le_of_ble_eq_true rfl) rfl ?_
              refine z_iinc (i := 2) (v := (v2 + (1 : Int32))) dX7_scan_80 rfl (iinc_k kc_1) (Nat.le_of_ble_eq_true rfl) rfl ?_
              refine z_goto (tgt := 24) dX7_scan_83 rfl ?_
              refine z_fgt (i := 3) ?_
              exact ih _ _ _ h hK
            · have h := it_f h hc20
              refine z_aload_n (i := 0) dX7_scan_73 rfl rfl ?_
              refine z_iload_n (i := 2) dX7_scan_74 rfl rfl ?_
              obtain ⟨q21, hq22, h⟩ := bnd h
              refine z_fVv (sX7_lengthenToken q18 v2 hq22) dX7_scan_75 ml_X7_57 cd_X7_lengthenToken mk3 rfl rfl rfl rfl rfl rfl ?_
              refine z_iload_n (i := 3) dX7_scan_78 rfl rfl ?_
              refine z_istore_n (i := 1) dX7_scan_79 rfl (Nat.le_of_ble_eq_true rfl) rfl ?_
              refine z_iinc (i := 2) (v := (v2 + (1 : Int32))) dX7_scan_80 rfl (iinc_k kc_1) (Nat.le_of_ble_eq_true rfl) rfl ?_
              refine z_goto (tgt := 24) dX7_scan_83 rfl ?_
              refine z_fgt (i := 3) ?_
              exact ih _ _ _ h hK
set_option maxRecDepth 20000 in
set_option maxHeartbeats 2000000 in
theorem sX7_scan {wv : Nat} (M : Mm) {res : Mm} (h : fX7_scan M  = some res) : TF wv yX7_scan cX7_scan 4 none 2 [.inr (3, 0, 0)] M (none) res := by
  rw [fX7_scan] at h
  refine TF.go (n := 3) (ls := [some (.inr (3, 0, 0)), none, none, none]) rfl rfl rfl rfl rfl ?_
  refine z_aload_n (i := 0) dX7_scan_0 rfl rfl ?_
  refine z_iconst (v := (0 : Int32)) dX7_scan_1 kc_0 ?_
  refine z_putI allR_nd dX7_scan_2 fl_X7_32 mk3 rfl rfl ?_
  refine z_aload_n (i := 0) dX7_scan_5 rfl rfl ?_
  refine z_iconst (v := (-1 : Int32)) dX7_scan_6 kc_m1 ?_
  refine z_putI allR_nd dX7_scan_7 fl_X7_28 mk3 rfl rfl ?_
  refine z_aload_n (i := 0) dX7_scan_10 rfl rfl ?_
  refine z_iconst (v := (0 : Int32)) dX7_scan_11 kc_0 ?_
  refine z_putI allR_nd dX7_scan_12 fl_X7_35 mk3 rfl rfl ?_
  refine z_aload_n (i := 0) dX7_scan_15 rfl rfl ?_
  refine z_iconst (v := (0 : Int32)) dX7_scan_16 kc_0 ?_
  refine z_putI allR_nd dX7_scan_17 fl_X7_38 mk3 rfl rfl ?_
  refine z_iconst (v := (4 : Int32)) dX7_scan_20 kc_4 ?_
  refine z_istore_n (i := 1) dX7_scan_21 rfl (Nat.le_of_ble_eq_true rfl) rfl ?_
  refine z_iconst (v := (0 : Int32)) dX7_scan_22 kc_0 ?_
  refine z_istore_n (i := 2) dX7_scan_23 rfl (Nat.le_of_ble_eq_true rfl) rfl ?_
  refine sX7_scan_L24  NF _ _ _ h (fun w23 w24 M25 h => ?_)
  refine z_aload_n (i := 0) dX7_scan_86 rfl rfl ?_
  refine z_iconst (v := (0 : Int32)) dX7_scan_87 kc_0 ?_
  refine z_aload_n (i := 0) dX7_scan_88 rfl rfl ?_
  refine z_getR (r' := (1, 0, 0)) dX7_scan_89 fl_X7_24 mk3 rfl rfl ?_
  refine z_getI (x := (M25.1 (1, 0, 0) 1)) dX7_scan_92 fl_X7_41 (m1 _ (Nat.le_of_ble_eq_true rfl)) rfl rfl ?_
  obtain ⟨q26, hq27, h⟩ := bnd h
  refine z_fVv (sX7_putToken M25 (0 : Int32) (M25.1 (1, 0, 0) 1) hq27) dX7_scan_95 ml_X7_53 cd_X7_putToken mk3 rfl rfl rfl rfl rfl rfl ?_
  cases h
  exact z_vret dX7_scan_98 rfl (Nat.le_refl _) (Nat.le_refl _) ⟨rfl, rfl⟩
theorem dX7_atKind_0 : decode cX7_atKind 0 = .ok (.aload_n 0, 1) := by decide +kernel
theorem dX7_atKind_1 : decode cX7_atKind 1 = .ok (.getfield 38, 3) := by decide +kernel
theorem dX7_atKind_4 : decode cX7_atKind 4 = .ok (.ifCond .lt 32, 3) := by decide +kernel
theorem dX7_atKind_7 : decode cX7_atKind 7 = .ok (.aload_n 0, 1) := by decide +kernel
theorem dX7_atKind_8 : decode cX7_atKind 8 = .ok (.getfield 38, 3) := by decide +kernel
theorem dX7_atKind_11 : decode cX7_atKind 11 = .ok (.aload_n 0, 1) := by decide +kernel
theorem dX7_atKind_12 : decode cX7_atKind 12 = .ok (.getfield 9, 3) := by decide +kernel
theorem dX7_atKind_15 : decode cX7_atKind 15 = .ok (.arraylength, 1) := by decide +kernel
theorem dX7_atKind_16 : decode cX7_atKind 16 = .ok (.if_icmp .ge 20, 3) := by decide +kernel
theorem dX7_atKind_19 : decode cX7_atKind 19 = .ok (.aload_n 0, 1) := by decide +kernel
theorem dX7_atKind_20 : decode cX7_atKind 20 = .ok (.getfield 9, 3) := by decide +kernel
theorem dX7_atKind_23 : decode cX7_atKind 23 = .ok (.aload_n 0, 1) := by decide +kernel
theorem dX7_atKind_24 : decode cX7_atKind 24 = .ok (.getfield 38, 3) := by decide +kernel
theorem dX7_atKind_27 : decode cX7_atKind 27 = .ok (.iaload, 1) := by decide +kernel
theorem dX7_atKind_28 : decode cX7_atKind 28 = .ok (.iload_n 1, 1) := by decide +kernel
theorem dX7_atKind_29 : decode cX7_atKind 29 = .ok (.if_icmp .ne 7, 3) := by decide +kernel
theorem dX7_atKind_32 : decode cX7_atKind 32 = .ok (.iconst 1, 1) := by decide +kernel
theorem dX7_atKind_33 : decode cX7_atKind 33 = .ok (.goto 4, 3) := by decide +kernel
theorem dX7_atKind_36 : decode cX7_atKind 36 = .ok (.iconst 0, 1) := by decide +kernel
theorem dX7_atKind_37 : decode cX7_atKind 37 = .ok (.ireturn, 1) := by decide +kernel
def fX7_atKind (M : Mm) (x1 : Int32) : Option Int32 := if (M.1 (3, 0, 0) 6) < 0 then some (0 : Int32) else if (801 : Int32) ≤ (M.1 (3, 0, 0) 6) then some (0 : Int32) else if (M.1 (3, 0, 0) 6) < 0 ∨ 801 ≤ (M.1 (3, 0, 0) 6).toNatClampNeg then none else if (M.1 (4, 0, 0) (M.1 (3, 0, 0) 6).toNatClampNeg) = x1 then some (1 : Int32) else some (0 : Int32)
set_option maxRecDepth 20000 in
set_option maxHeartbeats 2000000 in
theorem sX7_atKind {wv : Nat} (M : Mm) (x1 : Int32) {res : Int32} (h : fX7_atKind M x1 = some res) : TF wv yX7_atKind cX7_atKind 2 (some .boolean) 0 [.inr (3, 0, 0), .inl (.int x1)] M (some (.int res)) M := by
  rw [fX7_atKind] at h
  refine TF.go (n := 0) (ls := [some (.inr (3, 0, 0)), some (.inl (.int x1))]) rfl rfl rfl rfl rfl ?_
  refine z_aload_n (i := 0) dX7_atKind_0 rfl rfl ?_
  refine z_getI (x := (M.1 (3, 0, 0) 6)) dX7_atKind_1 fl_X7_38 mk3 rfl rfl ?_
  refine z_if_lt (tgt := 36) dX7_atKind_4 rfl (fun hc1 => ?_) (fun hc1 => ?_)
  · have h := it_t h hc1
    refine z_iconst (v := (0 : Int32)) dX7_atKind_36 kc_0 ?_
    cases h
    exact z_iret dX7_atKind_37 rfl rfl (Nat.le_refl _) (Nat.le_refl _) ⟨rfl, rfl⟩
  · have h := it_f h hc1
    refine z_aload_n (i := 0) dX7_atKind_7 rfl rfl ?_
    refine z_getI (x := (M.1 (3, 0, 0) 6)) dX7_atKind_8 fl_X7_38 mk3 rfl rfl ?_
    refine z_aload_n (i := 0) dX7_atKind_11 rfl rfl ?_
    refine z_getR (r' := (4, 0, 0)) dX7_atKind_12 fl_X7_9 mk3 rfl rfl ?_
    refine z_alen (v := (801 : Int32)) dX7_atKind_15 (m4 _ (Nat.le_of_ble_eq_true rfl)) rfl (Nat.le_of_ble_eq_true rfl) (by decide) ?_
    refine z_icmp_ge (tgt := 36) dX7_atKind_16 rfl (fun hc2 => ?_) (fun hc2 => ?_)
    · have h := it_t h hc2
      refine z_iconst (v := (0 : Int32)) dX7_atKind_36 kc_0 ?_
      cases h
      exact z_iret dX7_atKind_37 rfl rfl (Nat.le_refl _) (Nat.le_refl _) ⟨rfl, rfl⟩
    · have h := it_f h hc2
      refine z_aload_n (i := 0) dX7_atKind_19 rfl rfl ?_
      refine z_getR (r' := (4, 0, 0)) dX7_atKind_20 fl_X7_9 mk3 rfl rfl ?_
      refine z_aload_n (i := 0) dX7_atKind_23 rfl rfl ?_
      refine z_getI (x := (M.1 (3, 0, 0) 6)) dX7_atKind_24 fl_X7_38 mk3 rfl rfl ?_
      obtain ⟨hc3, h⟩ := chk h
      refine z_iald (x := (M.1 (4, 0, 0) (M.1 (3, 0, 0) 6).toNatClampNeg)) dX7_atKind_27 (m4 _ (Nat.le_of_ble_eq_true rfl)) rfl hc3 rfl ?_
      refine z_iload_n (i := 1) dX7_atKind_28 rfl rfl ?_
      refine z_icmp_ne (tgt := 36) dX7_atKind_29 rfl (fun hc4 => ?_) (fun hc4 => ?_)
      · have h := it_f h hc4
        refine z_iconst (v := (0 : Int32)) dX7_atKind_36 kc_0 ?_
        cases h
        exact z_iret dX7_atKind_37 rfl rfl (Nat.le_refl _) (Nat.le_refl _) ⟨rfl, rfl⟩
      · have h := it_t h hc4
        refine z_iconst (v := (1 : Int32)) dX7_atKind_32 kc_1 ?_
        refine z_goto (tgt := 37) dX7_atKind_33 rfl ?_
        cases h
        exact z_iret dX7_atKind_37 rfl rfl (Nat.le_refl _) (Nat.le_refl _) ⟨rfl, rfl⟩
theorem dX7_atAnyWord_0 : decode cX7_atAnyWord 0 = .ok (.aload_n 0, 1) := by decide +kernel
theorem dX7_atAnyWord_1 : decode cX7_atAnyWord 1 = .ok (.iconst 1, 1) := by decide +kernel
theorem dX7_atAnyWord_2 : decode cX7_atAnyWord 2 = .ok (.invokevirtual 68, 3) := by decide +kernel
theorem dX7_atAnyWord_5 : decode cX7_atAnyWord 5 = .ok (.ireturn, 1) := by decide +kernel
def fX7_atAnyWord (M : Mm) : Option Int32 := (fX7_atKind M (1 : Int32)).bind fun q1 => some (bz q1)
set_option maxRecDepth 20000 in
set_option maxHeartbeats 2000000 in
theorem sX7_atAnyWord {wv : Nat} (M : Mm) {res : Int32} (h : fX7_atAnyWord M  = some res) : TF wv yX7_atAnyWord cX7_atAnyWord 1 (some .boolean) 1 [.inr (3, 0, 0)] M (some (.int res)) M := by
  rw [fX7_atAnyWord] at h
  refine TF.go (n := 0) (ls := [some (.inr (3, 0, 0))]) rfl rfl rfl rfl rfl ?_
  refine z_aload_n (i := 0) dX7_atAnyWord_0 rfl rfl ?_
  refine z_iconst (v := (1 : Int32)) dX7_atAnyWord_1 kc_1 ?_
  obtain ⟨q1, hq2, h⟩ := bnd h
  refine z_fVi (sX7_atKind M (1 : Int32) hq2) dX7_atAnyWord_2 ml_X7_68 cd_X7_atKind mk3 rfl rfl rfl rfl rfl rfl ?_
  cases h
  exact z_iret dX7_atAnyWord_5 rfl (bz_ok _) (Nat.le_refl _) (Nat.le_refl _) ⟨rfl, rfl⟩
theorem dX7_atWord_0 : decode cX7_atWord 0 = .ok (.aload_n 0, 1) := by decide +kernel
theorem dX7_atWord_1 : decode cX7_atWord 1 = .ok (.iconst 1, 1) := by decide +kernel
theorem dX7_atWord_2 : decode cX7_atWord 2 = .ok (.invokevirtual 68, 3) := by decide +kernel
theorem dX7_atWord_5 : decode cX7_atWord 5 = .ok (.ifCond .eq 29, 3) := by decide +kernel
theorem dX7_atWord_8 : decode cX7_atWord 8 = .ok (.aload_n 0, 1) := by decide +kernel
theorem dX7_atWord_9 : decode cX7_atWord 9 = .ok (.getfield 18, 3) := by decide +kernel
theorem dX7_atWord_12 : decode cX7_atWord 12 = .ok (.aload_n 0, 1) := by decide +kernel
theorem dX7_atWord_13 : decode cX7_atWord 13 = .ok (.getfield 38, 3) := by decide +kernel
theorem dX7_atWord_16 : decode cX7_atWord 16 = .ok (.iaload, 1) := by decide +kernel
theorem dX7_atWord_17 : decode cX7_atWord 17 = .ok (.aload_n 0, 1) := by decide +kernel
theorem dX7_atWord_18 : decode cX7_atWord 18 = .ok (.getfield 15, 3) := by decide +kernel
theorem dX7_atWord_21 : decode cX7_atWord 21 = .ok (.aload_n 0, 1) := by decide +kernel
theorem dX7_atWord_22 : decode cX7_atWord 22 = .ok (.getfield 38, 3) := by decide +kernel
theorem dX7_atWord_25 : decode cX7_atWord 25 = .ok (.iaload, 1) := by decide +kernel
theorem dX7_atWord_26 : decode cX7_atWord 26 = .ok (.isub, 1) := by decide +kernel
theorem dX7_atWord_27 : decode cX7_atWord 27 = .ok (.aload_n 1, 1) := by decide +kernel
theorem dX7_atWord_28 : decode cX7_atWord 28 = .ok (.invokevirtual 72, 3) := by decide +kernel
theorem dX7_atWord_31 : decode cX7_atWord 31 = .ok (.if_icmp .eq 5, 3) := by decide +kernel
theorem dX7_atWord_34 : decode cX7_atWord 34 = .ok (.iconst 0, 1) := by decide +kernel
theorem dX7_atWord_35 : decode cX7_atWord 35 = .ok (.ireturn, 1) := by decide +kernel
theorem dX7_atWord_36 : decode cX7_atWord 36 = .ok (.aload_n 0, 1) := by decide +kernel
theorem dX7_atWord_37 : decode cX7_atWord 37 = .ok (.getfield 15, 3) := by decide +kernel
theorem dX7_atWord_40 : decode cX7_atWord 40 = .ok (.aload_n 0, 1) := by decide +kernel
theorem dX7_atWord_41 : decode cX7_atWord 41 = .ok (.getfield 38, 3) := by decide +kernel
theorem dX7_atWord_44 : decode cX7_atWord 44 = .ok (.iaload, 1) := by decide +kernel
theorem dX7_atWord_45 : decode cX7_atWord 45 = .ok (.istore_n 2, 1) := by decide +kernel
theorem dX7_atWord_46 : decode cX7_atWord 46 = .ok (.iconst 0, 1) := by decide +kernel
theorem dX7_atWord_47 : decode cX7_atWord 47 = .ok (.istore_n 3, 1) := by decide +kernel
theorem dX7_atWord_48 : decode cX7_atWord 48 = .ok (.iload_n 3, 1) := by decide +kernel
theorem dX7_atWord_49 : decode cX7_atWord 49 = .ok (.aload_n 1, 1) := by decide +kernel
theorem dX7_atWord_50 : decode cX7_atWord 50 = .ok (.invokevirtual 72, 3) := by decide +kernel
theorem dX7_atWord_53 : decode cX7_atWord 53 = .ok (.if_icmp .ge 29, 3) := by decide +kernel
theorem dX7_atWord_56 : decode cX7_atWord 56 = .ok (.aload_n 0, 1) := by decide +kernel
theorem dX7_atWord_57 : decode cX7_atWord 57 = .ok (.getfield 24, 3) := by decide +kernel
theorem dX7_atWord_60 : decode cX7_atWord 60 = .ok (.iload_n 2, 1) := by decide +kernel
theorem dX7_atWord_61 : decode cX7_atWord 61 = .ok (.iload_n 3, 1) := by decide +kernel
theorem dX7_atWord_62 : decode cX7_atWord 62 = .ok (.iadd, 1) := by decide +kernel
theorem dX7_atWord_63 : decode cX7_atWord 63 = .ok (.invokevirtual 46, 3) := by decide +kernel
theorem dX7_atWord_66 : decode cX7_atWord 66 = .ok (.aload_n 1, 1) := by decide +kernel
theorem dX7_atWord_67 : decode cX7_atWord 67 = .ok (.iload_n 3, 1) := by decide +kernel
theorem dX7_atWord_68 : decode cX7_atWord 68 = .ok (.invokevirtual 77, 3) := by decide +kernel
theorem dX7_atWord_71 : decode cX7_atWord 71 = .ok (.if_icmp .eq 5, 3) := by decide +kernel
theorem dX7_atWord_74 : decode cX7_atWord 74 = .ok (.iconst 0, 1) := by decide +kernel
theorem dX7_atWord_75 : decode cX7_atWord 75 = .ok (.ireturn, 1) := by decide +kernel
theorem dX7_atWord_76 : decode cX7_atWord 76 = .ok (.iinc 3 1, 3) := by decide +kernel
theorem dX7_atWord_79 : decode cX7_atWord 79 = .ok (.goto (-31), 3) := by decide +kernel
theorem dX7_atWord_82 : decode cX7_atWord 82 = .ok (.iconst 1, 1) := by decide +kernel
theorem dX7_atWord_83 : decode cX7_atWord 83 = .ok (.ireturn, 1) := by decide +kernel
def fX7_atWord_L48 (M : Mm) (j1 : Nat) (c2 : Int32) (K : Int32 → Option Int32) : Nat → Int32 → Option Int32
  | 0, _ => none
  | n + 1, v3 => if (slen j1) ≤ v3 then K v3 else (fX1_at M 0 (c2 + v3)).bind fun q9 => (sch j1 v3).bind fun q11 => if q9 = q11 then fX7_atWord_L48 M j1 c2 K n (v3 + (1 : Int32)) else some (0 : Int32)
def fX7_atWord (M : Mm) (j1 : Nat) : Option Int32 := (fX7_atKind M (1 : Int32)).bind fun q1 => if q1 = 0 then some (0 : Int32) else if (M.1 (3, 0, 0) 6) < 0 ∨ 801 ≤ (M.1 (3, 0, 0) 6).toNatClampNeg then none else if (M.1 (3, 0, 0) 6) < 0 ∨ 801 ≤ (M.1 (3, 0, 0) 6).toNatClampNeg then none else if ((M.1 (4, 2, 0) (M.1 (3, 0, 0) 6).toNatClampNeg) - (M.1 (4, 1, 0) (M.1 (3, 0, 0) 6).toNatClampNeg)) = (slen j1) then (if (M.1 (3, 0, 0) 6) < 0 ∨ 801 ≤ (M.1 (3, 0, 0) 6).toNatClampNeg then none else fX7_atWord_L48 M j1 (M.1 (4, 1, 0) (M.1 (3, 0, 0) 6).toNatClampNeg) (fun w14 => some (1 : Int32)) NF (0 : Int32)) else some (0 : Int32)
set_option maxRecDepth 20000 in
set_option maxHeartbeats 2000000 in
theorem sX7_atWord_L48 {wv : Nat} (M : Mm) (j1 : Nat) (c2 : Int32) (hj1 : j1 < 22) {res : Int32} {K : Int32 → Option Int32} : ∀ (n : Nat) (v3 : Int32), fX7_atWord_L48 M j1 c2 K n v3 = some res →
    (∀ (v3 : Int32), K v3 = some res → Z RX7 cX7_atWord 4 (some .boolean) [] "atWord" (rmD 7 0 0) (QM SH (allR wv) 0 0 (fun v M9 => v = some (.int res) ∧ M9 = M) (fun _ _ => False)) (allR wv) SH 0 0 82 [some (.inr (3, 0, 0)), some (.inr (30, j1, 0)), some (.inl (.int c2)), some (.inl (.int v3))] [] M) → Z RX7 cX7_atWord 4 (some .boolean) [] "atWord" (rmD 7 0 0) (QM SH (allR wv) 0 0 (fun v M9 => v = some (.int res) ∧ M9 = M) (fun _ _ => False)) (allR wv) SH 0 0 48 [some (.inr (3, 0, 0)), some (.inr (30, j1, 0)), some (.inl (.int c2)), some (.inl (.int v3))] [] M := by
  intro n
  induction n with
  | zero => intro v3 h; cases h
  | succ n ih =>
    intro v3 h hK
    rw [fX7_atWord_L48] at h
    refine z_iload_n (i := 3) dX7_atWord_48 rfl rfl ?_
    refine z_aload_n (i := 1) dX7_atWord_49 rfl rfl ?_
    refine z_fTi (S_length M j1 hj1) dX7_atWord_50 ml_X7_72 cd_J0_length_8abf5 hj1 rfl rfl rfl rfl rfl ?_
    refine z_icmp_ge (tgt := 82) dX7_atWord_53 rfl (fun hc8 => ?_) (fun hc8 => ?_)
    · have h := it_t h hc8
      exact hK _ h
    · have h := it_f h hc8
      refine z_aload_n (i := 0) dX7_atWord_56 rfl rfl ?_
      refine z_getR (r' := (1, 0, 0)) dX7_atWord_57 fl_X7_24 mk3 rfl rfl ?_
      refine z_iload_n (i := 2) dX7_atWord_60 rfl rfl ?_
      refine z_iload_n (i := 3) dX7_atWord_61 rfl rfl ?_
      refine z_iadd dX7_atWord_62 ?_
      obtain ⟨q9, hq10, h⟩ := bnd h
      refine z_fVi (sX1_at M 0 (c2 + v3) (Nat.le_of_ble_eq_true rfl) hq10) dX7_atWord_63 ml_X7_46 cd_X1_at (m1 _ (Nat.le_of_ble_eq_true rfl)) rfl rfl rfl rfl rfl rfl ?_
      refine z_aload_n (i := 1) dX7_atWord_66 rfl rfl ?_
      refine z_iload_n (i := 3) dX7_atWord_67 rfl rfl ?_
      obtain ⟨q11, hq12, h⟩ := bnd h
      refine z_fTi (S_charAt M j1 v3 hj1 hq12) dX7_atWord_68 ml_X7_77 cd_J0_charAt_5068e hj1 rfl rfl rfl rfl rfl ?_
      refine z_icmp_eq (tgt := 76) dX7_atWord_71 rfl (fun hc13 => ?_) (fun hc13 => ?_)
      · have h := it_t h hc13
        refine z_iinc (i := 3) (v := (v3 + (1 : Int32))) dX7_atWord_76 rfl (iinc_k kc_1) (Nat.le_of_ble_eq_true rfl) rfl ?_
        refine z_goto (tgt := 48) dX7_atWord_79 rfl ?_
        exact ih _ h hK
      · have h := it_f h hc13
        refine z_iconst (v := (0 : Int32)) dX7_atWord_74 kc_0 ?_
        cases h
        exact z_iret dX7_atWord_75 rfl rfl (Nat.le_refl _) (Nat.le_refl _) ⟨rfl, rfl⟩
set_option maxRecDepth 20000 in
set_option maxHeartbeats 2000000 in
theorem sX7_atWord {wv : Nat} (M : Mm) (j1 : Nat) (hj1 : j1 < 22) {res : Int32} (h : fX7_atWord M j1 = some res) : TF wv yX7_atWord cX7_atWord 4 (some .boolean) 7 [.inr (3, 0, 0), .inr (30, j1, 0)] M (some (.int res)) M := by
  rw [fX7_atWord] at h
  refine TF.go (n := 2) (ls := [some (.inr (3, 0, 0)), some (.inr (30, j1, 0)), none, none]) rfl rfl rfl rfl rfl ?_
  refine z_aload_n (i := 0) dX7_atWord_0 rfl rfl ?_
  refine z_iconst (v := (1 : Int32)) dX7_atWord_1 kc_1 ?_
  obtain ⟨q1, hq2, h⟩ := bnd h
  refine z_fVi (sX7_atKind M (1 : Int32) hq2) dX7_atWord_2 ml_X7_68 cd_X7_atKind mk3 rfl rfl rfl rfl rfl rfl ?_
  refine z_if_eq (tgt := 34) dX7_atWord_5 rfl (fun hc3 => ?_) (fun hc3 => ?_)
  · have h := it_t h hc3
    refine z_iconst (v := (0 : Int32)) dX7_atWord_34 kc_0 ?_
    cases h
    exact z_iret dX7_atWord_35 rfl rfl (Nat.le_refl _) (Nat.le_refl _) ⟨rfl, rfl⟩
  · have h := it_f h hc3
    refine z_aload_n (i := 0) dX7_atWord_8 rfl rfl ?_
    refine z_getR (r' := (4, 2, 0)) dX7_atWord_9 fl_X7_18 mk3 rfl rfl ?_
    refine z_aload_n (i := 0) dX7_atWord_12 rfl rfl ?_
    refine z_getI (x := (M.1 (3, 0, 0) 6)) dX7_atWord_13 fl_X7_38 mk3 rfl rfl ?_
    obtain ⟨hc4, h⟩ := chk h
    refine z_iald (x := (M.1 (4, 2, 0) (M.1 (3, 0, 0) 6).toNatClampNeg)) dX7_atWord_16 (m4 _ (Nat.le_of_ble_eq_true rfl)) rfl hc4 rfl ?_
    refine z_aload_n (i := 0) dX7_atWord_17 rfl rfl ?_
    refine z_getR (r' := (4, 1, 0)) dX7_atWord_18 fl_X7_15 mk3 rfl rfl ?_
    refine z_aload_n (i := 0) dX7_atWord_21 rfl rfl ?_
    refine z_getI (x := (M.1 (3, 0, 0) 6)) dX7_atWord_22 fl_X7_38 mk3 rfl rfl ?_
    obtain ⟨hc5, h⟩ := chk h
    refine z_iald (x := (M.1 (4, 1, 0) (M.1 (3, 0, 0) 6).toNatClampNeg)) dX7_atWord_25 (m4 _ (Nat.le_of_ble_eq_true rfl)) rfl hc5 rfl ?_
    refine z_isub dX7_atWord_26 ?_
    refine z_aload_n (i := 1) dX7_atWord_27 rfl rfl ?_
    refine z_fTi (S_length M j1 hj1) dX7_atWord_28 ml_X7_72 cd_J0_length_8abf5 hj1 rfl rfl rfl rfl rfl ?_
    refine z_icmp_eq (tgt := 36) dX7_atWord_31 rfl (fun hc6 => ?_) (fun hc6 => ?_)
    · have h := it_t h hc6
      refine z_aload_n (i := 0) dX7_atWord_36 rfl rfl ?_
      refine z_getR (r' := (4, 1, 0)) dX7_atWord_37 fl_X7_15 mk3 rfl rfl ?_
      refine z_aload_n (i := 0) dX7_atWord_40 rfl rfl ?_
      refine z_getI (x := (M.1 (3, 0, 0) 6)) dX7_atWord_41 fl_X7_38 mk3 rfl rfl ?_
      obtain ⟨hc7, h⟩ := chk h
      refine z_iald (x := (M.1 (4, 1, 0) (M.1 (3, 0, 0) 6).toNatClampNeg)) dX7_atWord_44 (m4 _ (Nat.le_of_ble_eq_true rfl)) rfl hc7 rfl ?_
      refine z_istore_n (i := 2) dX7_atWord_45 rfl (Nat.le_of_ble_eq_true rfl) rfl ?_
      refine z_iconst (v := (0 : Int32)) dX7_atWord_46 kc_0 ?_
      refine z_istore_n (i := 3) dX7_atWord_47 rfl (Nat.le_of_ble_eq_true rfl) rfl ?_
      refine sX7_atWord_L48 M j1 (M.1 (4, 1, 0) (M.1 (3, 0, 0) 6).toNatClampNeg) hj1 NF _ h (fun w14 h => ?_)
      refine z_iconst (v := (1 : Int32)) dX7_atWord_82 kc_1 ?_
      cases h
      exact z_iret dX7_atWord_83 rfl rfl (Nat.le_refl _) (Nat.le_refl _) ⟨rfl, rfl⟩
    · have h := it_f h hc6
      refine z_iconst (v := (0 : Int32)) dX7_atWord_34 kc_0 ?_
      cases h
      exact z_iret dX7_atWord_35 rfl rfl (Nat.le_refl _) (Nat.le_refl _) ⟨rfl, rfl⟩
theorem dX5_kindHere_0 : decode cX5_kindHere 0 = .ok (.aload_n 0, 1) := by decide +kernel
theorem dX5_kindHere_1 : decode cX5_kindHere 1 = .ok (.getfield 9, 3) := by decide +kernel
theorem dX5_kindHere_4 : decode cX5_kindHere 4 = .ok (.ldc 80, 2) := by decide +kernel
theorem dX5_kindHere_6 : decode cX5_kindHere 6 = .ok (.invokevirtual 82, 3) := by decide +kernel
theorem dX5_kindHere_9 : decode cX5_kindHere 9 = .ok (.ifCond .eq 5, 3) := by decide +kernel
theorem dX5_kindHere_12 : decode cX5_kindHere 12 = .ok (.iconst 0, 1) := by decide +kernel
theorem dX5_kindHere_13 : decode cX5_kindHere 13 = .ok (.ireturn, 1) := by decide +kernel
theorem dX5_kindHere_14 : decode cX5_kindHere 14 = .ok (.aload_n 0, 1) := by decide +kernel
theorem dX5_kindHere_15 : decode cX5_kindHere 15 = .ok (.getfield 9, 3) := by decide +kernel
theorem dX5_kindHere_18 : decode cX5_kindHere 18 = .ok (.ldc 86, 2) := by decide +kernel
theorem dX5_kindHere_20 : decode cX5_kindHere 20 = .ok (.invokevirtual 82, 3) := by decide +kernel
theorem dX5_kindHere_23 : decode cX5_kindHere 23 = .ok (.ifCond .eq 5, 3) := by decide +kernel
theorem dX5_kindHere_26 : decode cX5_kindHere 26 = .ok (.iconst 1, 1) := by decide +kernel
theorem dX5_kindHere_27 : decode cX5_kindHere 27 = .ok (.ireturn, 1) := by decide +kernel
theorem dX5_kindHere_28 : decode cX5_kindHere 28 = .ok (.aload_n 0, 1) := by decide +kernel
theorem dX5_kindHere_29 : decode cX5_kindHere 29 = .ok (.getfield 9, 3) := by decide +kernel
theorem dX5_kindHere_32 : decode cX5_kindHere 32 = .ok (.ldc 88, 2) := by decide +kernel
theorem dX5_kindHere_34 : decode cX5_kindHere 34 = .ok (.invokevirtual 82, 3) := by decide +kernel
theorem dX5_kindHere_37 : decode cX5_kindHere 37 = .ok (.ifCond .eq 5, 3) := by decide +kernel
theorem dX5_kindHere_40 : decode cX5_kindHere 40 = .ok (.iconst 2, 1) := by decide +kernel
theorem dX5_kindHere_41 : decode cX5_kindHere 41 = .ok (.ireturn, 1) := by decide +kernel
theorem dX5_kindHere_42 : decode cX5_kindHere 42 = .ok (.aload_n 0, 1) := by decide +kernel
theorem dX5_kindHere_43 : decode cX5_kindHere 43 = .ok (.getfield 9, 3) := by decide +kernel
theorem dX5_kindHere_46 : decode cX5_kindHere 46 = .ok (.ldc 90, 2) := by decide +kernel
theorem dX5_kindHere_48 : decode cX5_kindHere 48 = .ok (.invokevirtual 82, 3) := by decide +kernel
theorem dX5_kindHere_51 : decode cX5_kindHere 51 = .ok (.ifCond .eq 5, 3) := by decide +kernel
theorem dX5_kindHere_54 : decode cX5_kindHere 54 = .ok (.iconst 3, 1) := by decide +kernel
theorem dX5_kindHere_55 : decode cX5_kindHere 55 = .ok (.ireturn, 1) := by decide +kernel
theorem dX5_kindHere_56 : decode cX5_kindHere 56 = .ok (.aload_n 0, 1) := by decide +kernel
theorem dX5_kindHere_57 : decode cX5_kindHere 57 = .ok (.getfield 9, 3) := by decide +kernel
theorem dX5_kindHere_60 : decode cX5_kindHere 60 = .ok (.ldc 92, 2) := by decide +kernel
theorem dX5_kindHere_62 : decode cX5_kindHere 62 = .ok (.invokevirtual 82, 3) := by decide +kernel
theorem dX5_kindHere_65 : decode cX5_kindHere 65 = .ok (.ifCond .eq 5, 3) := by decide +kernel
theorem dX5_kindHere_68 : decode cX5_kindHere 68 = .ok (.iconst 4, 1) := by decide +kernel
theorem dX5_kindHere_69 : decode cX5_kindHere 69 = .ok (.ireturn, 1) := by decide +kernel
theorem dX5_kindHere_70 : decode cX5_kindHere 70 = .ok (.aload_n 0, 1) := by decide +kernel
theorem dX5_kindHere_71 : decode cX5_kindHere 71 = .ok (.getfield 9, 3) := by decide +kernel
theorem dX5_kindHere_74 : decode cX5_kindHere 74 = .ok (.ldc 94, 2) := by decide +kernel
theorem dX5_kindHere_76 : decode cX5_kindHere 76 = .ok (.invokevirtual 82, 3) := by decide +kernel
theorem dX5_kindHere_79 : decode cX5_kindHere 79 = .ok (.ifCond .eq 5, 3) := by decide +kernel
theorem dX5_kindHere_82 : decode cX5_kindHere 82 = .ok (.iconst 5, 1) := by decide +kernel
theorem dX5_kindHere_83 : decode cX5_kindHere 83 = .ok (.ireturn, 1) := by decide +kernel
theorem dX5_kindHere_84 : decode cX5_kindHere 84 = .ok (.aload_n 0, 1) := by decide +kernel
theorem dX5_kindHere_85 : decode cX5_kindHere 85 = .ok (.getfield 9, 3) := by decide +kernel
theorem dX5_kindHere_88 : decode cX5_kindHere 88 = .ok (.ldc 96, 2) := by decide +kernel
theorem dX5_kindHere_90 : decode cX5_kindHere 90 = .ok (.invokevirtual 82, 3) := by decide +kernel
theorem dX5_kindHere_93 : decode cX5_kindHere 93 = .ok (.ifCond .eq 6, 3) := by decide +kernel
theorem dX5_kindHere_96 : decode cX5_kindHere 96 = .ok (.bipush 6, 2) := by decide +kernel
theorem dX5_kindHere_98 : decode cX5_kindHere 98 = .ok (.ireturn, 1) := by decide +kernel
theorem dX5_kindHere_99 : decode cX5_kindHere 99 = .ok (.aload_n 0, 1) := by decide +kernel
theorem dX5_kindHere_100 : decode cX5_kindHere 100 = .ok (.getfield 9, 3) := by decide +kernel
theorem dX5_kindHere_103 : decode cX5_kindHere 103 = .ok (.ldc 98, 2) := by decide +kernel
theorem dX5_kindHere_105 : decode cX5_kindHere 105 = .ok (.invokevirtual 82, 3) := by decide +kernel
theorem dX5_kindHere_108 : decode cX5_kindHere 108 = .ok (.ifCond .eq 6, 3) := by decide +kernel
theorem dX5_kindHere_111 : decode cX5_kindHere 111 = .ok (.bipush 7, 2) := by decide +kernel
theorem dX5_kindHere_113 : decode cX5_kindHere 113 = .ok (.ireturn, 1) := by decide +kernel
theorem dX5_kindHere_114 : decode cX5_kindHere 114 = .ok (.aload_n 0, 1) := by decide +kernel
theorem dX5_kindHere_115 : decode cX5_kindHere 115 = .ok (.getfield 9, 3) := by decide +kernel
theorem dX5_kindHere_118 : decode cX5_kindHere 118 = .ok (.ldc 100, 2) := by decide +kernel
theorem dX5_kindHere_120 : decode cX5_kindHere 120 = .ok (.invokevirtual 82, 3) := by decide +kernel
theorem dX5_kindHere_123 : decode cX5_kindHere 123 = .ok (.ifCond .eq 6, 3) := by decide +kernel
theorem dX5_kindHere_126 : decode cX5_kindHere 126 = .ok (.bipush 8, 2) := by decide +kernel
theorem dX5_kindHere_128 : decode cX5_kindHere 128 = .ok (.ireturn, 1) := by decide +kernel
theorem dX5_kindHere_129 : decode cX5_kindHere 129 = .ok (.aload_n 0, 1) := by decide +kernel
theorem dX5_kindHere_130 : decode cX5_kindHere 130 = .ok (.getfield 9, 3) := by decide +kernel
theorem dX5_kindHere_133 : decode cX5_kindHere 133 = .ok (.ldc 102, 2) := by decide +kernel
theorem dX5_kindHere_135 : decode cX5_kindHere 135 = .ok (.invokevirtual 82, 3) := by decide +kernel
theorem dX5_kindHere_138 : decode cX5_kindHere 138 = .ok (.ifCond .eq 8, 3) := by decide +kernel
theorem dX5_kindHere_141 : decode cX5_kindHere 141 = .ok (.bipush 9, 2) := by decide +kernel
theorem dX5_kindHere_143 : decode cX5_kindHere 143 = .ok (.goto 4, 3) := by decide +kernel
theorem dX5_kindHere_146 : decode cX5_kindHere 146 = .ok (.iconst (-1), 1) := by decide +kernel
theorem dX5_kindHere_147 : decode cX5_kindHere 147 = .ok (.ireturn, 1) := by decide +kernel
def fX5_kindHere (M : Mm) : Option Int32 := (fX7_atWord M 3).bind fun q1 => if q1 = 0 then ((fX7_atWord M 4).bind fun q4 => if q4 = 0 then ((fX7_atWord M 5).bind fun q7 => if q7 = 0 then ((fX7_atWord M 6).bind fun q10 => if q10 = 0 then ((fX7_atWord M 7).bind fun q13 => if q13 = 0 then ((fX7_atWord M 8).bind fun q16 => if q16 = 0 then ((fX7_atWord M 9).bind fun q19 => if q19 = 0 then ((fX7_atWord M 10).bind fun q22 => if q22 = 0 then ((fX7_atWord M 11).bind fun q25 => if q25 = 0 then ((fX7_atWord M 12).bind fun q28 => if q28 = 0 then some (-1 : Int32) else some (9 : Int32)) else some (8 : Int32)) else some (7 : Int32)) else some (6 : Int32)) else some (5 : Int32)) else some (4 : Int32)) else some (3 : Int32)) else some (2 : Int32)) else some (1 : Int32)) else some (0 : Int32)
set_option maxRecDepth 20000 in
set_option maxHeartbeats 2000000 in
theorem sX5_kindHere {wv : Nat} (M : Mm) {res : Int32} (h : fX5_kindHere M  = some res) : TF wv yX5_kindHere cX5_kindHere 1 (some .int) 8 [.inr (6, 0, 0)] M (some (.int res)) M := by
  rw [fX5_kindHere] at h
  refine TF.go (n := 0) (ls := [some (.inr (6, 0, 0))]) rfl rfl rfl rfl rfl ?_
  refine z_aload_n (i := 0) dX5_kindHere_0 rfl rfl ?_
  refine z_getR (r' := (3, 0, 0)) dX5_kindHere_1 fl_X5_9 mk6 rfl rfl ?_
  refine z_ldcS (j := 3) dX5_kindHere_4 sw_RX5_80 ?_
  obtain ⟨q1, hq2, h⟩ := bnd h
  refine z_fVi (sX7_atWord M 3 (Nat.le_of_ble_eq_true rfl) hq2) dX5_kindHere_6 ml_X5_82 cd_X7_atWord mk3 rfl rfl rfl rfl rfl rfl ?_
  refine z_if_eq (tgt := 14) dX5_kindHere_9 rfl (fun hc3 => ?_) (fun hc3 => ?_)
  · have h := it_t h hc3
    refine z_aload_n (i := 0) dX5_kindHere_14 rfl rfl ?_
    refine z_getR (r' := (3, 0, 0)) dX5_kindHere_15 fl_X5_9 mk6 rfl rfl ?_
    refine z_ldcS (j := 4) dX5_kindHere_18 sw_RX5_86 ?_
    obtain ⟨q4, hq5, h⟩ := bnd h
    refine z_fVi (sX7_atWord M 4 (Nat.le_of_ble_eq_true rfl) hq5) dX5_kindHere_20 ml_X5_82 cd_X7_atWord mk3 rfl rfl rfl rfl rfl rfl ?_
    refine z_if_eq (tgt := 28) dX5_kindHere_23 rfl (fun hc6 => ?_) (fun hc6 => ?_)
    · have h := it_t h hc6
      refine z_aload_n (i := 0) dX5_kindHere_28 rfl rfl ?_
      refine z_getR (r' := (3, 0, 0)) dX5_kindHere_29 fl_X5_9 mk6 rfl rfl ?_
      refine z_ldcS (j := 5) dX5_kindHere_32 sw_RX5_88 ?_
      obtain ⟨q7, hq8, h⟩ := bnd h
      refine z_fVi (sX7_atWord M 5 (Nat.le_of_ble_eq_true rfl) hq8) dX5_kindHere_34 ml_X5_82 cd_X7_atWord mk3 rfl rfl rfl rfl rfl rfl ?_
      refine z_if_eq (tgt := 42) dX5_kindHere_37 rfl (fun hc9 => ?_) (fun hc9 => ?_)
      · have h := it_t h hc9
        refine z_aload_n (i := 0) dX5_kindHere_42 rfl rfl ?_
        refine z_getR (r' := (3, 0, 0)) dX5_kindHere_43 fl_X5_9 mk6 rfl rfl ?_
        refine z_ldcS (j := 6) dX5_kindHere_46 sw_RX5_90 ?_
        obtain ⟨q10, hq11, h⟩ := bnd h
        refine z_fVi (sX7_atWord M 6 (Nat.le_of_ble_eq_true rfl) hq11) dX5_kindHere_48 ml_X5_82 cd_X7_atWord mk3 rfl rfl rfl rfl rfl rfl ?_
        refine z_if_eq (tgt := 56) dX5_kindHere_51 rfl (fun hc12 => ?_) (fun hc12 => ?_)
        · have h := it_t h hc12
          refine z_aload_n (i := 0) dX5_kindHere_56 rfl rfl ?_
          refine z_getR (r' := (3, 0, 0)) dX5_kindHere_57 fl_X5_9 mk6 rfl rfl ?_
          refine z_ldcS (j := 7) dX5_kindHere_60 sw_RX5_92 ?_
          obtain ⟨q13, hq14, h⟩ := bnd h
          refine z_fVi (sX7_atWord M 7 (Nat.le_of_ble_eq_true rfl) hq14) dX5_kindHere_62 ml_X5_82 cd_X7_atWord mk3 rfl rfl rfl rfl rfl rfl ?_
          refine z_if_eq (tgt := 70) dX5_kindHere_65 rfl (fun hc15 => ?_) (fun hc15 => ?_)
          · have h := it_t h hc15
            refine z_aload_n (i := 0) dX5_kindHere_70 rfl rfl ?_
            refine z_getR (r' := (3, 0, 0)) dX5_kindHere_71 fl_X5_9 mk6 rfl rfl ?_
            refine z_ldcS (j := 8) dX5_kindHere_74 sw_RX5_94 ?_
            obtain ⟨q16, hq17, h⟩ := bnd h
            refine z_fVi (sX7_atWord M 8 (Nat.le_of_ble_eq_true rfl) hq17) dX5_kindHere_76 ml_X5_82 cd_X7_atWord mk3 rfl rfl rfl rfl rfl rfl ?_
            refine z_if_eq (tgt := 84) dX5_kindHere_79 rfl (fun hc18 => ?_) (fun hc18 => ?_)
            · have h := it_t h hc18
              refine z_aload_n (i := 0) dX5_kindHere_84 rfl rfl ?_
              refine z_getR (r' := (3, 0, 0)) dX5_kindHere_85 fl_X5_9 mk6 rfl rfl ?_
              refine z_ldcS (j := 9) dX5_kindHere_88 sw_RX5_96 ?_
              obtain ⟨q19, hq20, h⟩ := bnd h
              refine z_fVi (sX7_atWord M 9 (Nat.le_of_ble_eq_true rfl) hq20) dX5_kindHere_90 ml_X5_82 cd_X7_atWord mk3 rfl rfl rfl rfl rfl rfl ?_
              refine z_if_eq (tgt := 99) dX5_kindHere_93 rfl (fun hc21 => ?_) (fun hc21 => ?_)
              · have h := it_t h hc21
                refine z_aload_n (i := 0) dX5_kindHere_99 rfl rfl ?_
                refine z_getR (r' := (3, 0, 0)) dX5_kindHere_100 fl_X5_9 mk6 rfl rfl ?_
                refine z_ldcS (j := 10) dX5_kindHere_103 sw_RX5_98 ?_
                obtain ⟨q22, hq23, h⟩ := bnd h
                refine z_fVi (sX7_atWord M 10 (Nat.le_of_ble_eq_true rfl) hq23) dX5_kindHere_105 ml_X5_82 cd_X7_atWord mk3 rfl rfl rfl rfl rfl rfl ?_
                refine z_if_eq (tgt := 114) dX5_kindHere_108 rfl (fun hc24 => ?_) (fun hc24 => ?_)
                · have h := it_t h hc24
                  refine z_aload_n (i := 0) dX5_kindHere_114 rfl rfl ?_
                  refine z_getR (r' := (3, 0, 0)) dX5_kindHere_115 fl_X5_9 mk6 rfl rfl ?_
                  refine z_ldcS (j := 11) dX5_kindHere_118 sw_RX5_100 ?_
                  obtain ⟨q25, hq26, h⟩ := bnd h
                  refine z_fVi (sX7_atWord M 11 (Nat.le_of_ble_eq_true rfl) hq26) dX5_kindHere_120 ml_X5_82 cd_X7_atWord mk3 rfl rfl rfl rfl rfl rfl ?_
                  refine z_if_eq (tgt := 129) dX5_kindHere_123 rfl (fun hc27 => ?_) (fun hc27 => ?_)
                  · have h := it_t h hc27
                    refine z_aload_n (i := 0) dX5_kindHere_129 rfl rfl ?_
                    refine z_getR (r' := (3, 0, 0)) dX5_kindHere_130 fl_X5_9 mk6 rfl rfl ?_
                    refine z_ldcS (j := 12) dX5_kindHere_133 sw_RX5_102 ?_
                    obtain ⟨q28, hq29, h⟩ := bnd h
                    refine z_fVi (sX7_atWord M 12 (Nat.le_of_ble_eq_true rfl) hq29) dX5_kindHere_135 ml_X5_82 cd_X7_atWord mk3 rfl rfl rfl rfl rfl rfl ?_
                    refine z_if_eq (tgt := 146) dX5_kindHere_138 rfl (fun hc30 => ?_) (fun hc30 => ?_)
                    · have h := it_t h hc30
                      refine z_iconst (v := (-1 : Int32)) dX5_kindHere_146 kc_m1 ?_
                      cases h
                      exact z_iret dX5_kindHere_147 rfl rfl (Nat.le_refl _) (Nat.le_refl _) ⟨rfl, rfl⟩
                    · have h := it_f h hc30
                      refine z_bipush (v := (9 : Int32)) dX5_kindHere_141 kb_9 ?_
                      refine z_goto (tgt := 147) dX5_kindHere_143 rfl ?_
                      cases h
                      exact z_iret dX5_kindHere_147 rfl rfl (Nat.le_refl _) (Nat.le_refl _) ⟨rfl, rfl⟩
                  · have h := it_f h hc27
                    refine z_bipush (v := (8 : Int32)) dX5_kindHere_126 kb_8 ?_
                    cases h
                    exact z_iret dX5_kindHere_128 rfl rfl (Nat.le_refl _) (Nat.le_refl _) ⟨rfl, rfl⟩
                · have h := it_f h hc24
                  refine z_bipush (v := (7 : Int32)) dX5_kindHere_111 kb_7 ?_
                  cases h
                  exact z_iret dX5_kindHere_113 rfl rfl (Nat.le_refl _) (Nat.le_refl _) ⟨rfl, rfl⟩
              · have h := it_f h hc21
                refine z_bipush (v := (6 : Int32)) dX5_kindHere_96 kb_6 ?_
                cases h
                exact z_iret dX5_kindHere_98 rfl rfl (Nat.le_refl _) (Nat.le_refl _) ⟨rfl, rfl⟩
            · have h := it_f h hc18
              refine z_iconst (v := (5 : Int32)) dX5_kindHere_82 kc_5 ?_
              cases h
              exact z_iret dX5_kindHere_83 rfl rfl (Nat.le_refl _) (Nat.le_refl _) ⟨rfl, rfl⟩
          · have h := it_f h hc15
            refine z_iconst (v := (4 : Int32)) dX5_kindHere_68 kc_4 ?_
            cases h
            exact z_iret dX5_kindHere_69 rfl rfl (Nat.le_refl _) (Nat.le_refl _) ⟨rfl, rfl⟩
        · have h := it_f h hc12
          refine z_iconst (v := (3 : Int32)) dX5_kindHere_54 kc_3 ?_
          cases h
          exact z_iret dX5_kindHere_55 rfl rfl (Nat.le_refl _) (Nat.le_refl _) ⟨rfl, rfl⟩
      · have h := it_f h hc9
        refine z_iconst (v := (2 : Int32)) dX5_kindHere_40 kc_2 ?_
        cases h
        exact z_iret dX5_kindHere_41 rfl rfl (Nat.le_refl _) (Nat.le_refl _) ⟨rfl, rfl⟩
    · have h := it_f h hc6
      refine z_iconst (v := (1 : Int32)) dX5_kindHere_26 kc_1 ?_
      cases h
      exact z_iret dX5_kindHere_27 rfl rfl (Nat.le_refl _) (Nat.le_refl _) ⟨rfl, rfl⟩
  · have h := it_f h hc3
    refine z_iconst (v := (0 : Int32)) dX5_kindHere_12 kc_0 ?_
    cases h
    exact z_iret dX5_kindHere_13 rfl rfl (Nat.le_refl _) (Nat.le_refl _) ⟨rfl, rfl⟩
