theorem dX1_at_0 : decode cX1_at 0 = .ok (.iload_n 1, 1) := by decide +kernel
theorem dX1_at_1 : decode cX1_at 1 = .ok (.ifCond .lt 29, 3) := by decide +kernel
theorem dX1_at_4 : decode cX1_at 4 = .ok (.iload_n 1, 1) := by decide +kernel
theorem dX1_at_5 : decode cX1_at 5 = .ok (.aload_n 0, 1) := by decide +kernel
theorem dX1_at_6 : decode cX1_at 6 = .ok (.getfield 21, 3) := by decide +kernel
theorem dX1_at_9 : decode cX1_at 9 = .ok (.if_icmp .ge 21, 3) := by decide +kernel
theorem dX1_at_12 : decode cX1_at 12 = .ok (.iload_n 1, 1) := by decide +kernel
theorem dX1_at_13 : decode cX1_at 13 = .ok (.aload_n 0, 1) := by decide +kernel
theorem dX1_at_14 : decode cX1_at 14 = .ok (.getfield 15, 3) := by decide +kernel
theorem dX1_at_17 : decode cX1_at 17 = .ok (.arraylength, 1) := by decide +kernel
theorem dX1_at_18 : decode cX1_at 18 = .ok (.if_icmp .ge 12, 3) := by decide +kernel
theorem dX1_at_21 : decode cX1_at 21 = .ok (.aload_n 0, 1) := by decide +kernel
theorem dX1_at_22 : decode cX1_at 22 = .ok (.getfield 15, 3) := by decide +kernel
theorem dX1_at_25 : decode cX1_at 25 = .ok (.iload_n 1, 1) := by decide +kernel
theorem dX1_at_26 : decode cX1_at 26 = .ok (.iaload, 1) := by decide +kernel
theorem dX1_at_27 : decode cX1_at 27 = .ok (.goto 4, 3) := by decide +kernel
theorem dX1_at_30 : decode cX1_at 30 = .ok (.iconst (-1), 1) := by decide +kernel
theorem dX1_at_31 : decode cX1_at 31 = .ok (.ireturn, 1) := by decide +kernel
def fX1_at (M : Mm) (i : Nat) (x1 : Int32) : Option Int32 := if x1 < 0 then some (-1 : Int32) else if (M.1 (1, i, 0) 1) ≤ x1 then some (-1 : Int32) else if (Int32.ofNat (bl i)) ≤ x1 then some (-1 : Int32) else if x1 < 0 ∨ (bl i) ≤ x1.toNatClampNeg then none else some (M.1 (2, i, 0) x1.toNatClampNeg)
set_option maxRecDepth 20000 in
set_option maxHeartbeats 2000000 in
theorem sX1_at {wv : Wv} (M : Mm) (i : Nat) (x1 : Int32) (hi : i < 2) {res : Int32} (h : fX1_at M i x1 = some res) : TF wv yX1_at cX1_at 2 (some .int) 0 [.inr (1, i, 0), .inl (.int x1)] M (some (.int res)) M := by
  rw [fX1_at] at h
  refine TF.go (n := 0) (ls := [some (.inr (1, i, 0)), some (.inl (.int x1))]) rfl rfl rfl rfl rfl ?_
  refine z_iload_n (i := 1) dX1_at_0 rfl rfl ?_
  refine z_if_lt (tgt := 30) dX1_at_1 rfl (fun hc1 => ?_) (fun hc1 => ?_)
  · have h := it_t h hc1
    refine z_iconst (v := (-1 : Int32)) dX1_at_30 kc_m1 ?_
    cases h
    exact z_iret dX1_at_31 rfl rfl (Nat.le_refl _) (Nat.le_refl _) ⟨rfl, rfl⟩
  · have h := it_f h hc1
    refine z_iload_n (i := 1) dX1_at_4 rfl rfl ?_
    refine z_aload_n (i := 0) dX1_at_5 rfl rfl ?_
    refine z_getI (x := (M.1 (1, i, 0) 1)) dX1_at_6 fl_X1_21 (m1 _ hi) rfl rfl ?_
    refine z_icmp_ge (tgt := 30) dX1_at_9 rfl (fun hc2 => ?_) (fun hc2 => ?_)
    · have h := it_t h hc2
      refine z_iconst (v := (-1 : Int32)) dX1_at_30 kc_m1 ?_
      cases h
      exact z_iret dX1_at_31 rfl rfl (Nat.le_refl _) (Nat.le_refl _) ⟨rfl, rfl⟩
    · have h := it_f h hc2
      refine z_iload_n (i := 1) dX1_at_12 rfl rfl ?_
      refine z_aload_n (i := 0) dX1_at_13 rfl rfl ?_
      refine z_getR (r' := (2, i, 0)) dX1_at_14 fl_X1_15 (m1 _ hi) rfl rfl ?_
      refine z_alen (v := (Int32.ofNat (bl i))) dX1_at_17 (m2 _ hi) rfl (Nat.le_of_ble_eq_true rfl) rfl ?_
      refine z_icmp_ge (tgt := 30) dX1_at_18 rfl (fun hc3 => ?_) (fun hc3 => ?_)
      · have h := it_t h hc3
        refine z_iconst (v := (-1 : Int32)) dX1_at_30 kc_m1 ?_
        cases h
        exact z_iret dX1_at_31 rfl rfl (Nat.le_refl _) (Nat.le_refl _) ⟨rfl, rfl⟩
      · have h := it_f h hc3
        refine z_aload_n (i := 0) dX1_at_21 rfl rfl ?_
        refine z_getR (r' := (2, i, 0)) dX1_at_22 fl_X1_15 (m1 _ hi) rfl rfl ?_
        refine z_iload_n (i := 1) dX1_at_25 rfl rfl ?_
        obtain ⟨hc4, h⟩ := chk h
        refine z_iald (x := (M.1 (2, i, 0) x1.toNatClampNeg)) dX1_at_26 (m2 _ hi) rfl hc4 rfl ?_
        refine z_goto (tgt := 31) dX1_at_27 rfl ?_
        cases h
        exact z_iret dX1_at_31 rfl rfl (Nat.le_refl _) (Nat.le_refl _) ⟨rfl, rfl⟩
theorem dX2_forgetAll_0 : decode cX2_forgetAll 0 = .ok (.aload_n 0, 1) := by decide +kernel
theorem dX2_forgetAll_1 : decode cX2_forgetAll 1 = .ok (.iconst 0, 1) := by decide +kernel
theorem dX2_forgetAll_2 : decode cX2_forgetAll 2 = .ok (.putfield 16, 3) := by decide +kernel
theorem dX2_forgetAll_5 : decode cX2_forgetAll 5 = .ok (.return_, 1) := by decide +kernel
def fX2_forgetAll (M : Mm) : Mm := (putI M (14, 0, 0) 1 (0 : Int32))
set_option maxRecDepth 20000 in
set_option maxHeartbeats 2000000 in
theorem tX2_forgetAll {wv : Wv} (M : Mm) {res : Mm} (h : fX2_forgetAll M  = res) : TF wv yX2_forgetAll cX2_forgetAll 1 none 0 [.inr (14, 0, 0)] M (none) res := by
  rw [fX2_forgetAll] at h
  refine TF.go (n := 0) (ls := [some (.inr (14, 0, 0))]) rfl rfl rfl rfl rfl ?_
  refine z_aload_n (i := 0) dX2_forgetAll_0 rfl rfl ?_
  refine z_iconst (v := (0 : Int32)) dX2_forgetAll_1 kc_0 ?_
  refine z_putI allR_nd dX2_forgetAll_2 fl_X2_16 mk14 rfl rfl ?_
  subst h
  exact z_vret dX2_forgetAll_5 rfl (Nat.le_refl _) (Nat.le_refl _) ⟨rfl, rfl⟩
theorem sX2_forgetAll {wv : Wv} (M : Mm) : TF wv yX2_forgetAll cX2_forgetAll 1 none 0 [.inr (14, 0, 0)] M (none) (fX2_forgetAll M ) := tX2_forgetAll M   rfl
theorem dX2_remember_0 : decode cX2_remember 0 = .ok (.aload_n 0, 1) := by decide +kernel
theorem dX2_remember_1 : decode cX2_remember 1 = .ok (.getfield 20, 3) := by decide +kernel
theorem dX2_remember_4 : decode cX2_remember 4 = .ok (.ifCond .lt 25, 3) := by decide +kernel
theorem dX2_remember_7 : decode cX2_remember 7 = .ok (.aload_n 0, 1) := by decide +kernel
theorem dX2_remember_8 : decode cX2_remember 8 = .ok (.getfield 20, 3) := by decide +kernel
theorem dX2_remember_11 : decode cX2_remember 11 = .ok (.bipush 8, 2) := by decide +kernel
theorem dX2_remember_13 : decode cX2_remember 13 = .ok (.if_icmp .ge 16, 3) := by decide +kernel
theorem dX2_remember_16 : decode cX2_remember 16 = .ok (.aload_n 0, 1) := by decide +kernel
theorem dX2_remember_17 : decode cX2_remember 17 = .ok (.getfield 11, 3) := by decide +kernel
theorem dX2_remember_20 : decode cX2_remember 20 = .ok (.aload_n 0, 1) := by decide +kernel
theorem dX2_remember_21 : decode cX2_remember 21 = .ok (.getfield 20, 3) := by decide +kernel
theorem dX2_remember_24 : decode cX2_remember 24 = .ok (.aaload, 1) := by decide +kernel
theorem dX2_remember_25 : decode cX2_remember 25 = .ok (.aload_n 1, 1) := by decide +kernel
theorem dX2_remember_26 : decode cX2_remember 26 = .ok (.invokevirtual 23, 3) := by decide +kernel
theorem dX2_remember_29 : decode cX2_remember 29 = .ok (.aload_n 0, 1) := by decide +kernel
theorem dX2_remember_30 : decode cX2_remember 30 = .ok (.aload_n 0, 1) := by decide +kernel
theorem dX2_remember_31 : decode cX2_remember 31 = .ok (.getfield 20, 3) := by decide +kernel
theorem dX2_remember_34 : decode cX2_remember 34 = .ok (.bipush 7, 2) := by decide +kernel
theorem dX2_remember_36 : decode cX2_remember 36 = .ok (.if_icmp .ge 12, 3) := by decide +kernel
theorem dX2_remember_39 : decode cX2_remember 39 = .ok (.aload_n 0, 1) := by decide +kernel
theorem dX2_remember_40 : decode cX2_remember 40 = .ok (.getfield 20, 3) := by decide +kernel
theorem dX2_remember_43 : decode cX2_remember 43 = .ok (.iconst 1, 1) := by decide +kernel
theorem dX2_remember_44 : decode cX2_remember 44 = .ok (.iadd, 1) := by decide +kernel
theorem dX2_remember_45 : decode cX2_remember 45 = .ok (.goto 4, 3) := by decide +kernel
theorem dX2_remember_48 : decode cX2_remember 48 = .ok (.iconst 0, 1) := by decide +kernel
theorem dX2_remember_49 : decode cX2_remember 49 = .ok (.putfield 20, 3) := by decide +kernel
theorem dX2_remember_52 : decode cX2_remember 52 = .ok (.aload_n 0, 1) := by decide +kernel
theorem dX2_remember_53 : decode cX2_remember 53 = .ok (.bipush 8, 2) := by decide +kernel
theorem dX2_remember_55 : decode cX2_remember 55 = .ok (.aload_n 0, 1) := by decide +kernel
theorem dX2_remember_56 : decode cX2_remember 56 = .ok (.getfield 16, 3) := by decide +kernel
theorem dX2_remember_59 : decode cX2_remember 59 = .ok (.iconst 1, 1) := by decide +kernel
theorem dX2_remember_60 : decode cX2_remember 60 = .ok (.iadd, 1) := by decide +kernel
theorem dX2_remember_61 : decode cX2_remember 61 = .ok (.invokestatic 27, 3) := by decide +kernel
theorem dX2_remember_64 : decode cX2_remember 64 = .ok (.putfield 16, 3) := by decide +kernel
theorem dX2_remember_67 : decode cX2_remember 67 = .ok (.return_, 1) := by decide +kernel
def fX2_remember (M : Mm) (j1 : Nat) : Option Mm := if (M.1 (14, 0, 0) 2) < 0 then (if (7 : Int32) ≤ (M.1 (14, 0, 0) 2) then some (putI (putI M (14, 0, 0) 2 (0 : Int32)) (14, 0, 0) 1 (fJ9_min_7cf53 (putI M (14, 0, 0) 2 (0 : Int32)) (8 : Int32) ((M.1 (14, 0, 0) 1) + (1 : Int32)))) else some (putI (putI M (14, 0, 0) 2 ((M.1 (14, 0, 0) 2) + (1 : Int32))) (14, 0, 0) 1 (fJ9_min_7cf53 (putI M (14, 0, 0) 2 ((M.1 (14, 0, 0) 2) + (1 : Int32))) (8 : Int32) ((M.1 (14, 0, 0) 1) + (1 : Int32))))) else if (8 : Int32) ≤ (M.1 (14, 0, 0) 2) then (if (7 : Int32) ≤ (M.1 (14, 0, 0) 2) then some (putI (putI M (14, 0, 0) 2 (0 : Int32)) (14, 0, 0) 1 (fJ9_min_7cf53 (putI M (14, 0, 0) 2 (0 : Int32)) (8 : Int32) ((M.1 (14, 0, 0) 1) + (1 : Int32)))) else some (putI (putI M (14, 0, 0) 2 ((M.1 (14, 0, 0) 2) + (1 : Int32))) (14, 0, 0) 1 (fJ9_min_7cf53 (putI M (14, 0, 0) 2 ((M.1 (14, 0, 0) 2) + (1 : Int32))) (8 : Int32) ((M.1 (14, 0, 0) 1) + (1 : Int32))))) else if (M.1 (14, 0, 0) 2) < 0 ∨ 8 ≤ (M.1 (14, 0, 0) 2).toNatClampNeg then none else (fX0_copyFrom M (2 + (M.1 (14, 0, 0) 2).toNatClampNeg) j1).bind fun q6 => if (7 : Int32) ≤ (q6.1 (14, 0, 0) 2) then some (putI (putI q6 (14, 0, 0) 2 (0 : Int32)) (14, 0, 0) 1 (fJ9_min_7cf53 (putI q6 (14, 0, 0) 2 (0 : Int32)) (8 : Int32) ((q6.1 (14, 0, 0) 1) + (1 : Int32)))) else some (putI (putI q6 (14, 0, 0) 2 ((q6.1 (14, 0, 0) 2) + (1 : Int32))) (14, 0, 0) 1 (fJ9_min_7cf53 (putI q6 (14, 0, 0) 2 ((q6.1 (14, 0, 0) 2) + (1 : Int32))) (8 : Int32) ((q6.1 (14, 0, 0) 1) + (1 : Int32))))
set_option maxRecDepth 20000 in
set_option maxHeartbeats 2000000 in
theorem sX2_remember {wv : Wv} (M : Mm) (j1 : Nat) (hj1 : j1 < 12) {res : Mm} (h : fX2_remember M j1 = some res) : TF wv yX2_remember cX2_remember 2 none 3 [.inr (14, 0, 0), .inr (9, j1, 0)] M (none) res := by
  rw [fX2_remember] at h
  refine TF.go (n := 0) (ls := [some (.inr (14, 0, 0)), some (.inr (9, j1, 0))]) rfl rfl rfl rfl rfl ?_
  refine z_aload_n (i := 0) dX2_remember_0 rfl rfl ?_
  refine z_getI (x := (M.1 (14, 0, 0) 2)) dX2_remember_1 fl_X2_20 mk14 rfl rfl ?_
  refine z_if_lt (tgt := 29) dX2_remember_4 rfl (fun hc1 => ?_) (fun hc1 => ?_)
  · have h := it_t h hc1
    refine z_aload_n (i := 0) dX2_remember_29 rfl rfl ?_
    refine z_aload_n (i := 0) dX2_remember_30 rfl rfl ?_
    refine z_getI (x := (M.1 (14, 0, 0) 2)) dX2_remember_31 fl_X2_20 mk14 rfl rfl ?_
    refine z_bipush (v := (7 : Int32)) dX2_remember_34 kb_7 ?_
    refine z_icmp_ge (tgt := 48) dX2_remember_36 rfl (fun hc2 => ?_) (fun hc2 => ?_)
    · have h := it_t h hc2
      refine z_iconst (v := (0 : Int32)) dX2_remember_48 kc_0 ?_
      refine z_putI allR_nd dX2_remember_49 fl_X2_20 mk14 rfl rfl ?_
      refine z_aload_n (i := 0) dX2_remember_52 rfl rfl ?_
      refine z_bipush (v := (8 : Int32)) dX2_remember_53 kb_8 ?_
      refine z_aload_n (i := 0) dX2_remember_55 rfl rfl ?_
      refine z_getI (x := (M.1 (14, 0, 0) 1)) dX2_remember_56 fl_X2_16 mk14 rfl rfl ?_
      refine z_iconst (v := (1 : Int32)) dX2_remember_59 kc_1 ?_
      refine z_iadd dX2_remember_60 ?_
      refine z_fSi (sJ9_min_7cf53 (putI M (14, 0, 0) 2 (0 : Int32)) (8 : Int32) ((M.1 (14, 0, 0) 1) + (1 : Int32))) dX2_remember_61 ml_X2_27 cd_J9_min_7cf53 rfl rfl rfl rfl rfl ?_
      refine z_putI allR_nd dX2_remember_64 fl_X2_16 mk14 rfl rfl ?_
      cases h
      exact z_vret dX2_remember_67 rfl (Nat.le_refl _) (Nat.le_refl _) ⟨rfl, rfl⟩
    · have h := it_f h hc2
      refine z_aload_n (i := 0) dX2_remember_39 rfl rfl ?_
      refine z_getI (x := (M.1 (14, 0, 0) 2)) dX2_remember_40 fl_X2_20 mk14 rfl rfl ?_
      refine z_iconst (v := (1 : Int32)) dX2_remember_43 kc_1 ?_
      refine z_iadd dX2_remember_44 ?_
      refine z_goto (tgt := 49) dX2_remember_45 rfl ?_
      refine z_putI allR_nd dX2_remember_49 fl_X2_20 mk14 rfl rfl ?_
      refine z_aload_n (i := 0) dX2_remember_52 rfl rfl ?_
      refine z_bipush (v := (8 : Int32)) dX2_remember_53 kb_8 ?_
      refine z_aload_n (i := 0) dX2_remember_55 rfl rfl ?_
      refine z_getI (x := (M.1 (14, 0, 0) 1)) dX2_remember_56 fl_X2_16 mk14 rfl rfl ?_
      refine z_iconst (v := (1 : Int32)) dX2_remember_59 kc_1 ?_
      refine z_iadd dX2_remember_60 ?_
      refine z_fSi (sJ9_min_7cf53 (putI M (14, 0, 0) 2 ((M.1 (14, 0, 0) 2) + (1 : Int32))) (8 : Int32) ((M.1 (14, 0, 0) 1) + (1 : Int32))) dX2_remember_61 ml_X2_27 cd_J9_min_7cf53 rfl rfl rfl rfl rfl ?_
      refine z_putI allR_nd dX2_remember_64 fl_X2_16 mk14 rfl rfl ?_
      cases h
      exact z_vret dX2_remember_67 rfl (Nat.le_refl _) (Nat.le_refl _) ⟨rfl, rfl⟩
  · have h := it_f h hc1
    refine z_aload_n (i := 0) dX2_remember_7 rfl rfl ?_
    refine z_getI (x := (M.1 (14, 0, 0) 2)) dX2_remember_8 fl_X2_20 mk14 rfl rfl ?_
    refine z_bipush (v := (8 : Int32)) dX2_remember_11 kb_8 ?_
    refine z_icmp_ge (tgt := 29) dX2_remember_13 rfl (fun hc3 => ?_) (fun hc3 => ?_)
    · have h := it_t h hc3
      refine z_aload_n (i := 0) dX2_remember_29 rfl rfl ?_
      refine z_aload_n (i := 0) dX2_remember_30 rfl rfl ?_
      refine z_getI (x := (M.1 (14, 0, 0) 2)) dX2_remember_31 fl_X2_20 mk14 rfl rfl ?_
      refine z_bipush (v := (7 : Int32)) dX2_remember_34 kb_7 ?_
      refine z_icmp_ge (tgt := 48) dX2_remember_36 rfl (fun hc4 => ?_) (fun hc4 => ?_)
      · have h := it_t h hc4
        refine z_iconst (v := (0 : Int32)) dX2_remember_48 kc_0 ?_
        refine z_putI allR_nd dX2_remember_49 fl_X2_20 mk14 rfl rfl ?_
        refine z_aload_n (i := 0) dX2_remember_52 rfl rfl ?_
        refine z_bipush (v := (8 : Int32)) dX2_remember_53 kb_8 ?_
        refine z_aload_n (i := 0) dX2_remember_55 rfl rfl ?_
        refine z_getI (x := (M.1 (14, 0, 0) 1)) dX2_remember_56 fl_X2_16 mk14 rfl rfl ?_
        refine z_iconst (v := (1 : Int32)) dX2_remember_59 kc_1 ?_
        refine z_iadd dX2_remember_60 ?_
        refine z_fSi (sJ9_min_7cf53 (putI M (14, 0, 0) 2 (0 : Int32)) (8 : Int32) ((M.1 (14, 0, 0) 1) + (1 : Int32))) dX2_remember_61 ml_X2_27 cd_J9_min_7cf53 rfl rfl rfl rfl rfl ?_
        refine z_putI allR_nd dX2_remember_64 fl_X2_16 mk14 rfl rfl ?_
        cases h
        exact z_vret dX2_remember_67 rfl (Nat.le_refl _) (Nat.le_refl _) ⟨rfl, rfl⟩
      · have h := it_f h hc4
        refine z_aload_n (i := 0) dX2_remember_39 rfl rfl ?_
        refine z_getI (x := (M.1 (14, 0, 0) 2)) dX2_remember_40 fl_X2_20 mk14 rfl rfl ?_
        refine z_iconst (v := (1 : Int32)) dX2_remember_43 kc_1 ?_
        refine z_iadd dX2_remember_44 ?_
        refine z_goto (tgt := 49) dX2_remember_45 rfl ?_
        refine z_putI allR_nd dX2_remember_49 fl_X2_20 mk14 rfl rfl ?_
        refine z_aload_n (i := 0) dX2_remember_52 rfl rfl ?_
        refine z_bipush (v := (8 : Int32)) dX2_remember_53 kb_8 ?_
        refine z_aload_n (i := 0) dX2_remember_55 rfl rfl ?_
        refine z_getI (x := (M.1 (14, 0, 0) 1)) dX2_remember_56 fl_X2_16 mk14 rfl rfl ?_
        refine z_iconst (v := (1 : Int32)) dX2_remember_59 kc_1 ?_
        refine z_iadd dX2_remember_60 ?_
        refine z_fSi (sJ9_min_7cf53 (putI M (14, 0, 0) 2 ((M.1 (14, 0, 0) 2) + (1 : Int32))) (8 : Int32) ((M.1 (14, 0, 0) 1) + (1 : Int32))) dX2_remember_61 ml_X2_27 cd_J9_min_7cf53 rfl rfl rfl rfl rfl ?_
        refine z_putI allR_nd dX2_remember_64 fl_X2_16 mk14 rfl rfl ?_
        cases h
        exact z_vret dX2_remember_67 rfl (Nat.le_refl _) (Nat.le_refl _) ⟨rfl, rfl⟩
    · have h := it_f h hc3
      refine z_aload_n (i := 0) dX2_remember_16 rfl rfl ?_
      refine z_getR (r' := (15, 0, 0)) dX2_remember_17 fl_X2_11 mk14 rfl rfl ?_
      refine z_aload_n (i := 0) dX2_remember_20 rfl rfl ?_
      refine z_getI (x := (M.1 (14, 0, 0) 2)) dX2_remember_21 fl_X2_20 mk14 rfl rfl ?_
      obtain ⟨hc5, h⟩ := chk h
      refine z_aald (t := 1) (r' := (9, (2 + (M.1 (14, 0, 0) 2).toNatClampNeg), 0)) dX2_remember_24 mk15 rfl (Nat.le_of_ble_eq_true rfl) hc5 rfl ?_
      refine z_aload_n (i := 1) dX2_remember_25 rfl rfl ?_
      obtain ⟨q6, hq7, h⟩ := bnd h
      refine z_fVv (sX0_copyFrom M (2 + (M.1 (14, 0, 0) 2).toNatClampNeg) j1 (ltA hc5 rfl) hj1 hq7) dX2_remember_26 ml_X2_23 cd_X0_copyFrom (m9 _ (ltA hc5 rfl)) rfl rfl rfl rfl rfl rfl ?_
      refine z_aload_n (i := 0) dX2_remember_29 rfl rfl ?_
      refine z_aload_n (i := 0) dX2_remember_30 rfl rfl ?_
      refine z_getI (x := (q6.1 (14, 0, 0) 2)) dX2_remember_31 fl_X2_20 mk14 rfl rfl ?_
      refine z_bipush (v := (7 : Int32)) dX2_remember_34 kb_7 ?_
      refine z_icmp_ge (tgt := 48) dX2_remember_36 rfl (fun hc8 => ?_) (fun hc8 => ?_)
      · have h := it_t h hc8
        refine z_iconst (v := (0 : Int32)) dX2_remember_48 kc_0 ?_
        refine z_putI allR_nd dX2_remember_49 fl_X2_20 mk14 rfl rfl ?_
        refine z_aload_n (i := 0) dX2_remember_52 rfl rfl ?_
        refine z_bipush (v := (8 : Int32)) dX2_remember_53 kb_8 ?_
        refine z_aload_n (i := 0) dX2_remember_55 rfl rfl ?_
        refine z_getI (x := (q6.1 (14, 0, 0) 1)) dX2_remember_56 fl_X2_16 mk14 rfl rfl ?_
        refine z_iconst (v := (1 : Int32)) dX2_remember_59 kc_1 ?_
        refine z_iadd dX2_remember_60 ?_
        refine z_fSi (sJ9_min_7cf53 (putI q6 (14, 0, 0) 2 (0 : Int32)) (8 : Int32) ((q6.1 (14, 0, 0) 1) + (1 : Int32))) dX2_remember_61 ml_X2_27 cd_J9_min_7cf53 rfl rfl rfl rfl rfl ?_
        refine z_putI allR_nd dX2_remember_64 fl_X2_16 mk14 rfl rfl ?_
        cases h
        exact z_vret dX2_remember_67 rfl (Nat.le_refl _) (Nat.le_refl _) ⟨rfl, rfl⟩
      · have h := it_f h hc8
        refine z_aload_n (i := 0) dX2_remember_39 rfl rfl ?_
        refine z_getI (x := (q6.1 (14, 0, 0) 2)) dX2_remember_40 fl_X2_20 mk14 rfl rfl ?_
        refine z_iconst (v := (1 : Int32)) dX2_remember_43 kc_1 ?_
        refine z_iadd dX2_remember_44 ?_
        refine z_goto (tgt := 49) dX2_remember_45 rfl ?_
        refine z_putI allR_nd dX2_remember_49 fl_X2_20 mk14 rfl rfl ?_
        refine z_aload_n (i := 0) dX2_remember_52 rfl rfl ?_
        refine z_bipush (v := (8 : Int32)) dX2_remember_53 kb_8 ?_
        refine z_aload_n (i := 0) dX2_remember_55 rfl rfl ?_
        refine z_getI (x := (q6.1 (14, 0, 0) 1)) dX2_remember_56 fl_X2_16 mk14 rfl rfl ?_
        refine z_iconst (v := (1 : Int32)) dX2_remember_59 kc_1 ?_
        refine z_iadd dX2_remember_60 ?_
        refine z_fSi (sJ9_min_7cf53 (putI q6 (14, 0, 0) 2 ((q6.1 (14, 0, 0) 2) + (1 : Int32))) (8 : Int32) ((q6.1 (14, 0, 0) 1) + (1 : Int32))) dX2_remember_61 ml_X2_27 cd_J9_min_7cf53 rfl rfl rfl rfl rfl ?_
        refine z_putI allR_nd dX2_remember_64 fl_X2_16 mk14 rfl rfl ?_
        cases h
        exact z_vret dX2_remember_67 rfl (Nat.le_refl _) (Nat.le_refl _) ⟨rfl, rfl⟩
theorem dX2_takeBack_0 : decode cX2_takeBack 0 = .ok (.aload_n 0, 1) := by decide +kernel
theorem dX2_takeBack_1 : decode cX2_takeBack 1 = .ok (.getfield 16, 3) := by decide +kernel
theorem dX2_takeBack_4 : decode cX2_takeBack 4 = .ok (.ifCond .gt 4, 3) := by decide +kernel
theorem dX2_takeBack_7 : decode cX2_takeBack 7 = .ok (.return_, 1) := by decide +kernel
theorem dX2_takeBack_8 : decode cX2_takeBack 8 = .ok (.aload_n 0, 1) := by decide +kernel
theorem dX2_takeBack_9 : decode cX2_takeBack 9 = .ok (.aload_n 0, 1) := by decide +kernel
theorem dX2_takeBack_10 : decode cX2_takeBack 10 = .ok (.getfield 20, 3) := by decide +kernel
theorem dX2_takeBack_13 : decode cX2_takeBack 13 = .ok (.ifCond .le 12, 3) := by decide +kernel
theorem dX2_takeBack_16 : decode cX2_takeBack 16 = .ok (.aload_n 0, 1) := by decide +kernel
theorem dX2_takeBack_17 : decode cX2_takeBack 17 = .ok (.getfield 20, 3) := by decide +kernel
theorem dX2_takeBack_20 : decode cX2_takeBack 20 = .ok (.iconst 1, 1) := by decide +kernel
theorem dX2_takeBack_21 : decode cX2_takeBack 21 = .ok (.isub, 1) := by decide +kernel
theorem dX2_takeBack_22 : decode cX2_takeBack 22 = .ok (.goto 5, 3) := by decide +kernel
theorem dX2_takeBack_25 : decode cX2_takeBack 25 = .ok (.bipush 7, 2) := by decide +kernel
theorem dX2_takeBack_27 : decode cX2_takeBack 27 = .ok (.putfield 20, 3) := by decide +kernel
theorem dX2_takeBack_30 : decode cX2_takeBack 30 = .ok (.aload_n 0, 1) := by decide +kernel
theorem dX2_takeBack_31 : decode cX2_takeBack 31 = .ok (.getfield 20, 3) := by decide +kernel
theorem dX2_takeBack_34 : decode cX2_takeBack 34 = .ok (.ifCond .lt 25, 3) := by decide +kernel
theorem dX2_takeBack_37 : decode cX2_takeBack 37 = .ok (.aload_n 0, 1) := by decide +kernel
theorem dX2_takeBack_38 : decode cX2_takeBack 38 = .ok (.getfield 20, 3) := by decide +kernel
theorem dX2_takeBack_41 : decode cX2_takeBack 41 = .ok (.bipush 8, 2) := by decide +kernel
theorem dX2_takeBack_43 : decode cX2_takeBack 43 = .ok (.if_icmp .ge 16, 3) := by decide +kernel
theorem dX2_takeBack_46 : decode cX2_takeBack 46 = .ok (.aload_n 1, 1) := by decide +kernel
theorem dX2_takeBack_47 : decode cX2_takeBack 47 = .ok (.aload_n 0, 1) := by decide +kernel
theorem dX2_takeBack_48 : decode cX2_takeBack 48 = .ok (.getfield 11, 3) := by decide +kernel
theorem dX2_takeBack_51 : decode cX2_takeBack 51 = .ok (.aload_n 0, 1) := by decide +kernel
theorem dX2_takeBack_52 : decode cX2_takeBack 52 = .ok (.getfield 20, 3) := by decide +kernel
theorem dX2_takeBack_55 : decode cX2_takeBack 55 = .ok (.aaload, 1) := by decide +kernel
theorem dX2_takeBack_56 : decode cX2_takeBack 56 = .ok (.invokevirtual 23, 3) := by decide +kernel
theorem dX2_takeBack_59 : decode cX2_takeBack 59 = .ok (.aload_n 0, 1) := by decide +kernel
theorem dX2_takeBack_60 : decode cX2_takeBack 60 = .ok (.dup, 1) := by decide +kernel
theorem dX2_takeBack_61 : decode cX2_takeBack 61 = .ok (.getfield 16, 3) := by decide +kernel
theorem dX2_takeBack_64 : decode cX2_takeBack 64 = .ok (.iconst 1, 1) := by decide +kernel
theorem dX2_takeBack_65 : decode cX2_takeBack 65 = .ok (.isub, 1) := by decide +kernel
theorem dX2_takeBack_66 : decode cX2_takeBack 66 = .ok (.putfield 16, 3) := by decide +kernel
theorem dX2_takeBack_69 : decode cX2_takeBack 69 = .ok (.return_, 1) := by decide +kernel
def fX2_takeBack (M : Mm) (j1 : Nat) : Option Mm := if 0 < (M.1 (14, 0, 0) 1) then (if (M.1 (14, 0, 0) 2) ≤ 0 then (if (7 : Int32) < 0 then some (putI (putI M (14, 0, 0) 2 (7 : Int32)) (14, 0, 0) 1 ((M.1 (14, 0, 0) 1) - (1 : Int32))) else if (8 : Int32) ≤ (7 : Int32) then some (putI (putI M (14, 0, 0) 2 (7 : Int32)) (14, 0, 0) 1 ((M.1 (14, 0, 0) 1) - (1 : Int32))) else (fX0_copyFrom (putI M (14, 0, 0) 2 (7 : Int32)) j1 (2 + (7 : Int32).toNatClampNeg)).bind fun q5 => some (putI q5 (14, 0, 0) 1 ((q5.1 (14, 0, 0) 1) - (1 : Int32)))) else if ((M.1 (14, 0, 0) 2) - (1 : Int32)) < 0 then some (putI (putI M (14, 0, 0) 2 ((M.1 (14, 0, 0) 2) - (1 : Int32))) (14, 0, 0) 1 ((M.1 (14, 0, 0) 1) - (1 : Int32))) else if (8 : Int32) ≤ ((M.1 (14, 0, 0) 2) - (1 : Int32)) then some (putI (putI M (14, 0, 0) 2 ((M.1 (14, 0, 0) 2) - (1 : Int32))) (14, 0, 0) 1 ((M.1 (14, 0, 0) 1) - (1 : Int32))) else if ((M.1 (14, 0, 0) 2) - (1 : Int32)) < 0 ∨ 8 ≤ ((M.1 (14, 0, 0) 2) - (1 : Int32)).toNatClampNeg then none else (fX0_copyFrom (putI M (14, 0, 0) 2 ((M.1 (14, 0, 0) 2) - (1 : Int32))) j1 (2 + ((M.1 (14, 0, 0) 2) - (1 : Int32)).toNatClampNeg)).bind fun q10 => some (putI q10 (14, 0, 0) 1 ((q10.1 (14, 0, 0) 1) - (1 : Int32)))) else some M
set_option maxRecDepth 20000 in
set_option maxHeartbeats 2000000 in
theorem sX2_takeBack {wv : Wv} (M : Mm) (j1 : Nat) (hj1 : j1 < 12) {res : Mm} (h : fX2_takeBack M j1 = some res) : TF wv yX2_takeBack cX2_takeBack 2 none 3 [.inr (14, 0, 0), .inr (9, j1, 0)] M (none) res := by
  rw [fX2_takeBack] at h
  refine TF.go (n := 0) (ls := [some (.inr (14, 0, 0)), some (.inr (9, j1, 0))]) rfl rfl rfl rfl rfl ?_
  refine z_aload_n (i := 0) dX2_takeBack_0 rfl rfl ?_
  refine z_getI (x := (M.1 (14, 0, 0) 1)) dX2_takeBack_1 fl_X2_16 mk14 rfl rfl ?_
  refine z_if_gt (tgt := 8) dX2_takeBack_4 rfl (fun hc1 => ?_) (fun hc1 => ?_)
  · have h := it_t h hc1
    refine z_aload_n (i := 0) dX2_takeBack_8 rfl rfl ?_
    refine z_aload_n (i := 0) dX2_takeBack_9 rfl rfl ?_
    refine z_getI (x := (M.1 (14, 0, 0) 2)) dX2_takeBack_10 fl_X2_20 mk14 rfl rfl ?_
    refine z_if_le (tgt := 25) dX2_takeBack_13 rfl (fun hc2 => ?_) (fun hc2 => ?_)
    · have h := it_t h hc2
      refine z_bipush (v := (7 : Int32)) dX2_takeBack_25 kb_7 ?_
      refine z_putI allR_nd dX2_takeBack_27 fl_X2_20 mk14 rfl rfl ?_
      refine z_aload_n (i := 0) dX2_takeBack_30 rfl rfl ?_
      refine z_getI (x := (7 : Int32)) dX2_takeBack_31 fl_X2_20 mk14 rfl (gp1 (M := M) (r := (14, 0, 0)) (j := 2) (v := (7 : Int32))) ?_
      refine z_if_lt (tgt := 59) dX2_takeBack_34 rfl (fun hc3 => ?_) (fun hc3 => ?_)
      · have h := it_t h hc3
        refine z_aload_n (i := 0) dX2_takeBack_59 rfl rfl ?_
        refine z_dup dX2_takeBack_60 rfl ?_
        refine z_getI (x := (M.1 (14, 0, 0) 1)) dX2_takeBack_61 fl_X2_16 mk14 rfl rfl ?_
        refine z_iconst (v := (1 : Int32)) dX2_takeBack_64 kc_1 ?_
        refine z_isub dX2_takeBack_65 ?_
        refine z_putI allR_nd dX2_takeBack_66 fl_X2_16 mk14 rfl rfl ?_
        cases h
        exact z_vret dX2_takeBack_69 rfl (Nat.le_refl _) (Nat.le_refl _) ⟨rfl, rfl⟩
      · have h := it_f h hc3
        refine z_aload_n (i := 0) dX2_takeBack_37 rfl rfl ?_
        refine z_getI (x := (7 : Int32)) dX2_takeBack_38 fl_X2_20 mk14 rfl (gp1 (M := M) (r := (14, 0, 0)) (j := 2) (v := (7 : Int32))) ?_
        refine z_bipush (v := (8 : Int32)) dX2_takeBack_41 kb_8 ?_
        refine z_icmp_ge (tgt := 59) dX2_takeBack_43 rfl (fun hc4 => ?_) (fun hc4 => ?_)
        · have h := it_t h hc4
          refine z_aload_n (i := 0) dX2_takeBack_59 rfl rfl ?_
          refine z_dup dX2_takeBack_60 rfl ?_
          refine z_getI (x := (M.1 (14, 0, 0) 1)) dX2_takeBack_61 fl_X2_16 mk14 rfl rfl ?_
          refine z_iconst (v := (1 : Int32)) dX2_takeBack_64 kc_1 ?_
          refine z_isub dX2_takeBack_65 ?_
          refine z_putI allR_nd dX2_takeBack_66 fl_X2_16 mk14 rfl rfl ?_
          cases h
          exact z_vret dX2_takeBack_69 rfl (Nat.le_refl _) (Nat.le_refl _) ⟨rfl, rfl⟩
        · have h := it_f h hc4
          refine z_aload_n (i := 1) dX2_takeBack_46 rfl rfl ?_
          refine z_aload_n (i := 0) dX2_takeBack_47 rfl rfl ?_
          refine z_getR (r' := (15, 0, 0)) dX2_takeBack_48 fl_X2_11 mk14 rfl rfl ?_
          refine z_aload_n (i := 0) dX2_takeBack_51 rfl rfl ?_
          refine z_getI (x := (7 : Int32)) dX2_takeBack_52 fl_X2_20 mk14 rfl (gp1 (M := M) (r := (14, 0, 0)) (j := 2) (v := (7 : Int32))) ?_
          refine z_aald (t := 1) (r' := (9, (2 + (7 : Int32).toNatClampNeg), 0)) dX2_takeBack_55 mk15 rfl (Nat.le_of_ble_eq_true rfl) (by decide) rfl ?_
          obtain ⟨q5, hq6, h⟩ := bnd h
          refine z_fVv (sX0_copyFrom (putI M (14, 0, 0) 2 (7 : Int32)) j1 (2 + (7 : Int32).toNatClampNeg) hj1 (ltA (show ¬ ((7 : Int32) < 0 ∨ 8 ≤ (7 : Int32).toNatClampNeg) by decide) rfl) hq6) dX2_takeBack_56 ml_X2_23 cd_X0_copyFrom (m9 _ hj1) rfl rfl rfl rfl rfl rfl ?_
          refine z_aload_n (i := 0) dX2_takeBack_59 rfl rfl ?_
          refine z_dup dX2_takeBack_60 rfl ?_
          refine z_getI (x := (q5.1 (14, 0, 0) 1)) dX2_takeBack_61 fl_X2_16 mk14 rfl rfl ?_
          refine z_iconst (v := (1 : Int32)) dX2_takeBack_64 kc_1 ?_
          refine z_isub dX2_takeBack_65 ?_
          refine z_putI allR_nd dX2_takeBack_66 fl_X2_16 mk14 rfl rfl ?_
          cases h
          exact z_vret dX2_takeBack_69 rfl (Nat.le_refl _) (Nat.le_refl _) ⟨rfl, rfl⟩
    · have h := it_f h hc2
      refine z_aload_n (i := 0) dX2_takeBack_16 rfl rfl ?_
      refine z_getI (x := (M.1 (14, 0, 0) 2)) dX2_takeBack_17 fl_X2_20 mk14 rfl rfl ?_
      refine z_iconst (v := (1 : Int32)) dX2_takeBack_20 kc_1 ?_
      refine z_isub dX2_takeBack_21 ?_
      refine z_goto (tgt := 27) dX2_takeBack_22 rfl ?_
      refine z_putI allR_nd dX2_takeBack_27 fl_X2_20 mk14 rfl rfl ?_
      refine z_aload_n (i := 0) dX2_takeBack_30 rfl rfl ?_
      refine z_getI (x := ((M.1 (14, 0, 0) 2) - (1 : Int32))) dX2_takeBack_31 fl_X2_20 mk14 rfl (gp1 (M := M) (r := (14, 0, 0)) (j := 2) (v := ((M.1 (14, 0, 0) 2) - (1 : Int32)))) ?_
      refine z_if_lt (tgt := 59) dX2_takeBack_34 rfl (fun hc7 => ?_) (fun hc7 => ?_)
      · have h := it_t h hc7
        refine z_aload_n (i := 0) dX2_takeBack_59 rfl rfl ?_
        refine z_dup dX2_takeBack_60 rfl ?_
        refine z_getI (x := (M.1 (14, 0, 0) 1)) dX2_takeBack_61 fl_X2_16 mk14 rfl rfl ?_
        refine z_iconst (v := (1 : Int32)) dX2_takeBack_64 kc_1 ?_
        refine z_isub dX2_takeBack_65 ?_
        refine z_putI allR_nd dX2_takeBack_66 fl_X2_16 mk14 rfl rfl ?_
        cases h
        exact z_vret dX2_takeBack_69 rfl (Nat.le_refl _) (Nat.le_refl _) ⟨rfl, rfl⟩
      · have h := it_f h hc7
        refine z_aload_n (i := 0) dX2_takeBack_37 rfl rfl ?_
        refine z_getI (x := ((M.1 (14, 0, 0) 2) - (1 : Int32))) dX2_takeBack_38 fl_X2_20 mk14 rfl (gp1 (M := M) (r := (14, 0, 0)) (j := 2) (v := ((M.1 (14, 0, 0) 2) - (1 : Int32)))) ?_
        refine z_bipush (v := (8 : Int32)) dX2_takeBack_41 kb_8 ?_
        refine z_icmp_ge (tgt := 59) dX2_takeBack_43 rfl (fun hc8 => ?_) (fun hc8 => ?_)
        · have h := it_t h hc8
          refine z_aload_n (i := 0) dX2_takeBack_59 rfl rfl ?_
          refine z_dup dX2_takeBack_60 rfl ?_
          refine z_getI (x := (M.1 (14, 0, 0) 1)) dX2_takeBack_61 fl_X2_16 mk14 rfl rfl ?_
          refine z_iconst (v := (1 : Int32)) dX2_takeBack_64 kc_1 ?_
          refine z_isub dX2_takeBack_65 ?_
          refine z_putI allR_nd dX2_takeBack_66 fl_X2_16 mk14 rfl rfl ?_
          cases h
          exact z_vret dX2_takeBack_69 rfl (Nat.le_refl _) (Nat.le_refl _) ⟨rfl, rfl⟩
        · have h := it_f h hc8
          refine z_aload_n (i := 1) dX2_takeBack_46 rfl rfl ?_
          refine z_aload_n (i := 0) dX2_takeBack_47 rfl rfl ?_
          refine z_getR (r' := (15, 0, 0)) dX2_takeBack_48 fl_X2_11 mk14 rfl rfl ?_
          refine z_aload_n (i := 0) dX2_takeBack_51 rfl rfl ?_
          refine z_getI (x := ((M.1 (14, 0, 0) 2) - (1 : Int32))) dX2_takeBack_52 fl_X2_20 mk14 rfl (gp1 (M := M) (r := (14, 0, 0)) (j := 2) (v := ((M.1 (14, 0, 0) 2) - (1 : Int32)))) ?_
          obtain ⟨hc9, h⟩ := chk h
          refine z_aald (t := 1) (r' := (9, (2 + ((M.1 (14, 0, 0) 2) - (1 : Int32)).toNatClampNeg), 0)) dX2_takeBack_55 mk15 rfl (Nat.le_of_ble_eq_true rfl) hc9 rfl ?_
          obtain ⟨q10, hq11, h⟩ := bnd h
          refine z_fVv (sX0_copyFrom (putI M (14, 0, 0) 2 ((M.1 (14, 0, 0) 2) - (1 : Int32))) j1 (2 + ((M.1 (14, 0, 0) 2) - (1 : Int32)).toNatClampNeg) hj1 (ltA hc9 rfl) hq11) dX2_takeBack_56 ml_X2_23 cd_X0_copyFrom (m9 _ hj1) rfl rfl rfl rfl rfl rfl ?_
          refine z_aload_n (i := 0) dX2_takeBack_59 rfl rfl ?_
          refine z_dup dX2_takeBack_60 rfl ?_
          refine z_getI (x := (q10.1 (14, 0, 0) 1)) dX2_takeBack_61 fl_X2_16 mk14 rfl rfl ?_
          refine z_iconst (v := (1 : Int32)) dX2_takeBack_64 kc_1 ?_
          refine z_isub dX2_takeBack_65 ?_
          refine z_putI allR_nd dX2_takeBack_66 fl_X2_16 mk14 rfl rfl ?_
          cases h
          exact z_vret dX2_takeBack_69 rfl (Nat.le_refl _) (Nat.le_refl _) ⟨rfl, rfl⟩
  · have h := it_f h hc1
    cases h
    exact z_vret dX2_takeBack_7 rfl (Nat.le_refl _) (Nat.le_refl _) ⟨rfl, rfl⟩
theorem dX3_setRow_0 : decode cX3_setRow 0 = .ok (.iload_n 1, 1) := by decide +kernel
theorem dX3_setRow_1 : decode cX3_setRow 1 = .ok (.iload_n 2, 1) := by decide +kernel
theorem dX3_setRow_2 : decode cX3_setRow 2 = .ok (.invokestatic 37, 3) := by decide +kernel
theorem dX3_setRow_5 : decode cX3_setRow 5 = .ok (.ifCond .eq 15, 3) := by decide +kernel
theorem dX3_setRow_8 : decode cX3_setRow 8 = .ok (.aload_n 0, 1) := by decide +kernel
theorem dX3_setRow_9 : decode cX3_setRow 9 = .ok (.getfield 9, 3) := by decide +kernel
theorem dX3_setRow_12 : decode cX3_setRow 12 = .ok (.iload_n 1, 1) := by decide +kernel
theorem dX3_setRow_13 : decode cX3_setRow 13 = .ok (.bipush 12, 2) := by decide +kernel
theorem dX3_setRow_15 : decode cX3_setRow 15 = .ok (.imul, 1) := by decide +kernel
theorem dX3_setRow_16 : decode cX3_setRow 16 = .ok (.iload_n 2, 1) := by decide +kernel
theorem dX3_setRow_17 : decode cX3_setRow 17 = .ok (.iadd, 1) := by decide +kernel
theorem dX3_setRow_18 : decode cX3_setRow 18 = .ok (.lload_n 3, 1) := by decide +kernel
theorem dX3_setRow_19 : decode cX3_setRow 19 = .ok (.lastore, 1) := by decide +kernel
theorem dX3_setRow_20 : decode cX3_setRow 20 = .ok (.return_, 1) := by decide +kernel
def fX3_setRow (M : Mm) (i : Nat) (x1 : Int32) (x2 : Int32) (x3 : Int64) : Option Mm := if (fX3_holds M x1 x2) = 0 then some M else if ((x1 * (12 : Int32)) + x2) < 0 ∨ 36 ≤ ((x1 * (12 : Int32)) + x2).toNatClampNeg then none else some (putL M (11, i, 0) ((x1 * (12 : Int32)) + x2).toNatClampNeg x3)
set_option maxRecDepth 20000 in
set_option maxHeartbeats 2000000 in
theorem sX3_setRow {wv : Wv} (M : Mm) (i : Nat) (x1 : Int32) (x2 : Int32) (x3 : Int64) (hi : i < 12) {res : Mm} (h : fX3_setRow M i x1 x2 x3 = some res) : TF wv yX3_setRow cX3_setRow 5 none 1 [.inr (10, i, 0), .inl (.int x1), .inl (.int x2), .inl (.long x3)] M (none) res := by
  rw [fX3_setRow] at h
  refine TF.go (n := 0) (ls := [some (.inr (10, i, 0)), some (.inl (.int x1)), some (.inl (.int x2)), some (.inl (.long x3)), none]) rfl rfl rfl rfl rfl ?_
  refine z_iload_n (i := 1) dX3_setRow_0 rfl rfl ?_
  refine z_iload_n (i := 2) dX3_setRow_1 rfl rfl ?_
  refine z_fSi (sX3_holds M x1 x2) dX3_setRow_2 ml_X3_37 cd_X3_holds rfl rfl rfl rfl rfl ?_
  refine z_if_eq (tgt := 20) dX3_setRow_5 rfl (fun hc1 => ?_) (fun hc1 => ?_)
  · have h := it_t h hc1
    cases h
    exact z_vret dX3_setRow_20 rfl (Nat.le_refl _) (Nat.le_refl _) ⟨rfl, rfl⟩
  · have h := it_f h hc1
    refine z_aload_n (i := 0) dX3_setRow_8 rfl rfl ?_
    refine z_getR (r' := (11, i, 0)) dX3_setRow_9 fl_X3_9 (m10 _ hi) rfl rfl ?_
    refine z_iload_n (i := 1) dX3_setRow_12 rfl rfl ?_
    refine z_bipush (v := (12 : Int32)) dX3_setRow_13 kb_12 ?_
    refine z_imul dX3_setRow_15 ?_
    refine z_iload_n (i := 2) dX3_setRow_16 rfl rfl ?_
    refine z_iadd dX3_setRow_17 ?_
    refine z_lload_n (i := 3) dX3_setRow_18 rfl rfl ?_
    obtain ⟨hc2, h⟩ := chk h
    refine z_last (j := ((x1 * (12 : Int32)) + x2).toNatClampNeg) allR_nd dX3_setRow_19 (m11 _ hi) rfl hc2 rfl ?_
    cases h
    exact z_vret dX3_setRow_20 rfl (Nat.le_refl _) (Nat.le_refl _) ⟨rfl, rfl⟩
theorem dX3_putPin_0 : decode cX3_putPin 0 = .ok (.aload_n 0, 1) := by decide +kernel
theorem dX3_putPin_1 : decode cX3_putPin 1 = .ok (.iload_n 1, 1) := by decide +kernel
theorem dX3_putPin_2 : decode cX3_putPin 2 = .ok (.iload_n 2, 1) := by decide +kernel
theorem dX3_putPin_3 : decode cX3_putPin 3 = .ok (.aload_n 0, 1) := by decide +kernel
theorem dX3_putPin_4 : decode cX3_putPin 4 = .ok (.iload_n 1, 1) := by decide +kernel
theorem dX3_putPin_5 : decode cX3_putPin 5 = .ok (.iload_n 2, 1) := by decide +kernel
theorem dX3_putPin_6 : decode cX3_putPin 6 = .ok (.invokevirtual 41, 3) := by decide +kernel
theorem dX3_putPin_9 : decode cX3_putPin 9 = .ok (.lconst 1, 1) := by decide +kernel
theorem dX3_putPin_10 : decode cX3_putPin 10 = .ok (.iload_n 3, 1) := by decide +kernel
theorem dX3_putPin_11 : decode cX3_putPin 11 = .ok (.lshl, 1) := by decide +kernel
theorem dX3_putPin_12 : decode cX3_putPin 12 = .ok (.lor, 1) := by decide +kernel
theorem dX3_putPin_13 : decode cX3_putPin 13 = .ok (.invokevirtual 45, 3) := by decide +kernel
theorem dX3_putPin_16 : decode cX3_putPin 16 = .ok (.return_, 1) := by decide +kernel
def fX3_putPin (M : Mm) (i : Nat) (x1 : Int32) (x2 : Int32) (x3 : Int32) : Option Mm := (fX3_row M i x1 x2).bind fun q1 => (fX3_setRow M i x1 x2 (q1 ||| ((1 : Int64) <<< (x3.toInt64 &&& 63)))).bind fun q3 => some q3
set_option maxRecDepth 20000 in
set_option maxHeartbeats 2000000 in
theorem sX3_putPin {wv : Wv} (M : Mm) (i : Nat) (x1 : Int32) (x2 : Int32) (x3 : Int32) (hi : i < 12) {res : Mm} (h : fX3_putPin M i x1 x2 x3 = some res) : TF wv yX3_putPin cX3_putPin 4 none 2 [.inr (10, i, 0), .inl (.int x1), .inl (.int x2), .inl (.int x3)] M (none) res := by
  rw [fX3_putPin] at h
  refine TF.go (n := 0) (ls := [some (.inr (10, i, 0)), some (.inl (.int x1)), some (.inl (.int x2)), some (.inl (.int x3))]) rfl rfl rfl rfl rfl ?_
  refine z_aload_n (i := 0) dX3_putPin_0 rfl rfl ?_
  refine z_iload_n (i := 1) dX3_putPin_1 rfl rfl ?_
  refine z_iload_n (i := 2) dX3_putPin_2 rfl rfl ?_
  refine z_aload_n (i := 0) dX3_putPin_3 rfl rfl ?_
  refine z_iload_n (i := 1) dX3_putPin_4 rfl rfl ?_
  refine z_iload_n (i := 2) dX3_putPin_5 rfl rfl ?_
  obtain ⟨q1, hq2, h⟩ := bnd h
  refine z_fVl (sX3_row M i x1 x2 hi hq2) dX3_putPin_6 ml_X3_41 cd_X3_row (m10 _ hi) rfl rfl rfl rfl rfl rfl ?_
  refine z_lconst (v := (1 : Int64)) dX3_putPin_9 (by decide) ?_
  refine z_iload_n (i := 3) dX3_putPin_10 rfl rfl ?_
  refine z_lshl dX3_putPin_11 ?_
  refine z_lor dX3_putPin_12 ?_
  obtain ⟨q3, hq4, h⟩ := bnd h
  refine z_fVv (sX3_setRow M i x1 x2 (q1 ||| ((1 : Int64) <<< (x3.toInt64 &&& 63))) hi hq4) dX3_putPin_13 ml_X3_45 cd_X3_setRow (m10 _ hi) rfl rfl rfl rfl rfl rfl ?_
  cases h
  exact z_vret dX3_putPin_16 rfl (Nat.le_refl _) (Nat.le_refl _) ⟨rfl, rfl⟩
theorem dX3_takePin_0 : decode cX3_takePin 0 = .ok (.aload_n 0, 1) := by decide +kernel
theorem dX3_takePin_1 : decode cX3_takePin 1 = .ok (.iload_n 1, 1) := by decide +kernel
theorem dX3_takePin_2 : decode cX3_takePin 2 = .ok (.iload_n 2, 1) := by decide +kernel
theorem dX3_takePin_3 : decode cX3_takePin 3 = .ok (.aload_n 0, 1) := by decide +kernel
theorem dX3_takePin_4 : decode cX3_takePin 4 = .ok (.iload_n 1, 1) := by decide +kernel
theorem dX3_takePin_5 : decode cX3_takePin 5 = .ok (.iload_n 2, 1) := by decide +kernel
theorem dX3_takePin_6 : decode cX3_takePin 6 = .ok (.invokevirtual 41, 3) := by decide +kernel
theorem dX3_takePin_9 : decode cX3_takePin 9 = .ok (.lconst 1, 1) := by decide +kernel
theorem dX3_takePin_10 : decode cX3_takePin 10 = .ok (.iload_n 3, 1) := by decide +kernel
theorem dX3_takePin_11 : decode cX3_takePin 11 = .ok (.lshl, 1) := by decide +kernel
theorem dX3_takePin_12 : decode cX3_takePin 12 = .ok (.ldc2_w 49, 3) := by decide +kernel
theorem dX3_takePin_15 : decode cX3_takePin 15 = .ok (.lxor, 1) := by decide +kernel
theorem dX3_takePin_16 : decode cX3_takePin 16 = .ok (.land, 1) := by decide +kernel
theorem dX3_takePin_17 : decode cX3_takePin 17 = .ok (.invokevirtual 45, 3) := by decide +kernel
theorem dX3_takePin_20 : decode cX3_takePin 20 = .ok (.return_, 1) := by decide +kernel
def fX3_takePin (M : Mm) (i : Nat) (x1 : Int32) (x2 : Int32) (x3 : Int32) : Option Mm := (fX3_row M i x1 x2).bind fun q1 => (fX3_setRow M i x1 x2 (q1 &&& (((1 : Int64) <<< (x3.toInt64 &&& 63)) ^^^ (-1 : Int64)))).bind fun q3 => some q3
set_option maxRecDepth 20000 in
set_option maxHeartbeats 2000000 in
theorem sX3_takePin {wv : Wv} (M : Mm) (i : Nat) (x1 : Int32) (x2 : Int32) (x3 : Int32) (hi : i < 12) {res : Mm} (h : fX3_takePin M i x1 x2 x3 = some res) : TF wv yX3_takePin cX3_takePin 4 none 2 [.inr (10, i, 0), .inl (.int x1), .inl (.int x2), .inl (.int x3)] M (none) res := by
  rw [fX3_takePin] at h
  refine TF.go (n := 0) (ls := [some (.inr (10, i, 0)), some (.inl (.int x1)), some (.inl (.int x2)), some (.inl (.int x3))]) rfl rfl rfl rfl rfl ?_
  refine z_aload_n (i := 0) dX3_takePin_0 rfl rfl ?_
  refine z_iload_n (i := 1) dX3_takePin_1 rfl rfl ?_
  refine z_iload_n (i := 2) dX3_takePin_2 rfl rfl ?_
  refine z_aload_n (i := 0) dX3_takePin_3 rfl rfl ?_
  refine z_iload_n (i := 1) dX3_takePin_4 rfl rfl ?_
  refine z_iload_n (i := 2) dX3_takePin_5 rfl rfl ?_
  obtain ⟨q1, hq2, h⟩ := bnd h
  refine z_fVl (sX3_row M i x1 x2 hi hq2) dX3_takePin_6 ml_X3_41 cd_X3_row (m10 _ hi) rfl rfl rfl rfl rfl rfl ?_
  refine z_lconst (v := (1 : Int64)) dX3_takePin_9 (by decide) ?_
  refine z_iload_n (i := 3) dX3_takePin_10 rfl rfl ?_
  refine z_lshl dX3_takePin_11 ?_
  refine z_ldc2 (v := (-1 : Int64)) dX3_takePin_12 (al_mem 1364 (by decide +kernel) rfl) ?_
  refine z_lxor dX3_takePin_15 ?_
  refine z_land dX3_takePin_16 ?_
  obtain ⟨q3, hq4, h⟩ := bnd h
  refine z_fVv (sX3_setRow M i x1 x2 (q1 &&& (((1 : Int64) <<< (x3.toInt64 &&& 63)) ^^^ (-1 : Int64))) hi hq4) dX3_takePin_17 ml_X3_45 cd_X3_setRow (m10 _ hi) rfl rfl rfl rfl rfl rfl ?_
  cases h
  exact z_vret dX3_takePin_20 rfl (Nat.le_refl _) (Nat.le_refl _) ⟨rfl, rfl⟩
theorem dX3_pinsOf_0 : decode cX3_pinsOf 0 = .ok (.iconst 0, 1) := by decide +kernel
theorem dX3_pinsOf_1 : decode cX3_pinsOf 1 = .ok (.istore_n 2, 1) := by decide +kernel
theorem dX3_pinsOf_2 : decode cX3_pinsOf 2 = .ok (.iconst 0, 1) := by decide +kernel
theorem dX3_pinsOf_3 : decode cX3_pinsOf 3 = .ok (.istore_n 3, 1) := by decide +kernel
theorem dX3_pinsOf_4 : decode cX3_pinsOf 4 = .ok (.iload_n 3, 1) := by decide +kernel
theorem dX3_pinsOf_5 : decode cX3_pinsOf 5 = .ok (.bipush 12, 2) := by decide +kernel
theorem dX3_pinsOf_7 : decode cX3_pinsOf 7 = .ok (.if_icmp .ge 21, 3) := by decide +kernel
theorem dX3_pinsOf_10 : decode cX3_pinsOf 10 = .ok (.iload_n 2, 1) := by decide +kernel
theorem dX3_pinsOf_11 : decode cX3_pinsOf 11 = .ok (.aload_n 0, 1) := by decide +kernel
theorem dX3_pinsOf_12 : decode cX3_pinsOf 12 = .ok (.iload_n 1, 1) := by decide +kernel
theorem dX3_pinsOf_13 : decode cX3_pinsOf 13 = .ok (.iload_n 3, 1) := by decide +kernel
theorem dX3_pinsOf_14 : decode cX3_pinsOf 14 = .ok (.invokevirtual 41, 3) := by decide +kernel
theorem dX3_pinsOf_17 : decode cX3_pinsOf 17 = .ok (.invokestatic 51, 3) := by decide +kernel
theorem dX3_pinsOf_20 : decode cX3_pinsOf 20 = .ok (.iadd, 1) := by decide +kernel
theorem dX3_pinsOf_21 : decode cX3_pinsOf 21 = .ok (.istore_n 2, 1) := by decide +kernel
theorem dX3_pinsOf_22 : decode cX3_pinsOf 22 = .ok (.iinc 3 1, 3) := by decide +kernel
theorem dX3_pinsOf_25 : decode cX3_pinsOf 25 = .ok (.goto (-21), 3) := by decide +kernel
theorem dX3_pinsOf_28 : decode cX3_pinsOf 28 = .ok (.iload_n 2, 1) := by decide +kernel
theorem dX3_pinsOf_29 : decode cX3_pinsOf 29 = .ok (.ireturn, 1) := by decide +kernel
def fX3_pinsOf_L4 (M : Mm) (i : Nat) (c1 : Int32) (K : Int32 → Int32 → Option Int32) : Nat → Int32 → Int32 → Option Int32
  | 0, _, _ => none
  | n + 1, v2, v3 => if (12 : Int32) ≤ v3 then K v2 v3 else (fX3_row M i c1 v3).bind fun q2 => fX3_pinsOf_L4 M i c1 K n (v2 + (fJ13_bitCount_95d88 M q2)) (v3 + (1 : Int32))
def fX3_pinsOf (M : Mm) (i : Nat) (x1 : Int32) : Option Int32 := fX3_pinsOf_L4 M i x1 (fun w4 w5 => some w4) NF (0 : Int32) (0 : Int32)
set_option maxRecDepth 20000 in
set_option maxHeartbeats 2000000 in
theorem sX3_pinsOf_L4 {wv : Wv} (M : Mm) (i : Nat) (c1 : Int32) (hi : i < 12) {res : Int32} {K : Int32 → Int32 → Option Int32} : ∀ (n : Nat) (v2 : Int32) (v3 : Int32), fX3_pinsOf_L4 M i c1 K n v2 v3 = some res →
    (∀ (v2 : Int32) (v3 : Int32), K v2 v3 = some res → Z RX3 cX3_pinsOf 4 (some .int) [] "pinsOf" (rmD 2 0 0) (QM SH (allR wv) 0 0 (fun v M9 => v = some (.int res) ∧ M9 = M) (fun _ _ => False)) (allR wv) SH 0 0 28 [some (.inr (10, i, 0)), some (.inl (.int c1)), some (.inl (.int v2)), some (.inl (.int v3))] [] M) → Z RX3 cX3_pinsOf 4 (some .int) [] "pinsOf" (rmD 2 0 0) (QM SH (allR wv) 0 0 (fun v M9 => v = some (.int res) ∧ M9 = M) (fun _ _ => False)) (allR wv) SH 0 0 4 [some (.inr (10, i, 0)), some (.inl (.int c1)), some (.inl (.int v2)), some (.inl (.int v3))] [] M := by
  intro n
  induction n with
  | zero => intro v2 v3 h; cases h
  | succ n ih =>
    intro v2 v3 h hK
    rw [fX3_pinsOf_L4] at h
    refine z_iload_n (i := 3) dX3_pinsOf_4 rfl rfl ?_
    refine z_bipush (v := (12 : Int32)) dX3_pinsOf_5 kb_12 ?_
    refine z_icmp_ge (tgt := 28) dX3_pinsOf_7 rfl (fun hc1 => ?_) (fun hc1 => ?_)
    · have h := it_t h hc1
      exact hK _ _ h
    · have h := it_f h hc1
      refine z_iload_n (i := 2) dX3_pinsOf_10 rfl rfl ?_
      refine z_aload_n (i := 0) dX3_pinsOf_11 rfl rfl ?_
      refine z_iload_n (i := 1) dX3_pinsOf_12 rfl rfl ?_
      refine z_iload_n (i := 3) dX3_pinsOf_13 rfl rfl ?_
      obtain ⟨q2, hq3, h⟩ := bnd h
      refine z_fVl (sX3_row M i c1 v3 hi hq3) dX3_pinsOf_14 ml_X3_41 cd_X3_row (m10 _ hi) rfl rfl rfl rfl rfl rfl ?_
      refine z_fSi (sJ13_bitCount_95d88 M q2) dX3_pinsOf_17 ml_X3_51 cd_J13_bitCount_95d88 rfl rfl rfl rfl rfl ?_
      refine z_iadd dX3_pinsOf_20 ?_
      refine z_istore_n (i := 2) dX3_pinsOf_21 rfl (Nat.le_of_ble_eq_true rfl) rfl ?_
      refine z_iinc (i := 3) (v := (v3 + (1 : Int32))) dX3_pinsOf_22 rfl (iinc_k kc_1) (Nat.le_of_ble_eq_true rfl) rfl ?_
      refine z_goto (tgt := 4) dX3_pinsOf_25 rfl ?_
      exact ih _ _ h hK
set_option maxRecDepth 20000 in
set_option maxHeartbeats 2000000 in
theorem sX3_pinsOf {wv : Wv} (M : Mm) (i : Nat) (x1 : Int32) (hi : i < 12) {res : Int32} (h : fX3_pinsOf M i x1 = some res) : TF wv yX3_pinsOf cX3_pinsOf 4 (some .int) 2 [.inr (10, i, 0), .inl (.int x1)] M (some (.int res)) M := by
  rw [fX3_pinsOf] at h
  refine TF.go (n := 2) (ls := [some (.inr (10, i, 0)), some (.inl (.int x1)), none, none]) rfl rfl rfl rfl rfl ?_
  refine z_iconst (v := (0 : Int32)) dX3_pinsOf_0 kc_0 ?_
  refine z_istore_n (i := 2) dX3_pinsOf_1 rfl (Nat.le_of_ble_eq_true rfl) rfl ?_
  refine z_iconst (v := (0 : Int32)) dX3_pinsOf_2 kc_0 ?_
  refine z_istore_n (i := 3) dX3_pinsOf_3 rfl (Nat.le_of_ble_eq_true rfl) rfl ?_
  refine sX3_pinsOf_L4 M i x1 hi NF _ _ h (fun w4 w5 h => ?_)
  refine z_iload_n (i := 2) dX3_pinsOf_28 rfl rfl ?_
  cases h
  exact z_iret dX3_pinsOf_29 rfl rfl (Nat.le_refl _) (Nat.le_refl _) ⟨rfl, rfl⟩
theorem dX3_teethAt_0 : decode cX3_teethAt 0 = .ok (.iconst 0, 1) := by decide +kernel
theorem dX3_teethAt_1 : decode cX3_teethAt 1 = .ok (.istore_n 3, 1) := by decide +kernel
theorem dX3_teethAt_2 : decode cX3_teethAt 2 = .ok (.iconst 0, 1) := by decide +kernel
theorem dX3_teethAt_3 : decode cX3_teethAt 3 = .ok (.istore 4, 2) := by decide +kernel
theorem dX3_teethAt_5 : decode cX3_teethAt 5 = .ok (.iload 4, 2) := by decide +kernel
theorem dX3_teethAt_7 : decode cX3_teethAt 7 = .ok (.bipush 12, 2) := by decide +kernel
theorem dX3_teethAt_9 : decode cX3_teethAt 9 = .ok (.if_icmp .ge 27, 3) := by decide +kernel
theorem dX3_teethAt_12 : decode cX3_teethAt 12 = .ok (.aload_n 0, 1) := by decide +kernel
theorem dX3_teethAt_13 : decode cX3_teethAt 13 = .ok (.iload_n 1, 1) := by decide +kernel
theorem dX3_teethAt_14 : decode cX3_teethAt 14 = .ok (.iload 4, 2) := by decide +kernel
theorem dX3_teethAt_16 : decode cX3_teethAt 16 = .ok (.iload_n 2, 1) := by decide +kernel
theorem dX3_teethAt_17 : decode cX3_teethAt 17 = .ok (.invokevirtual 57, 3) := by decide +kernel
theorem dX3_teethAt_20 : decode cX3_teethAt 20 = .ok (.ifCond .eq 10, 3) := by decide +kernel
theorem dX3_teethAt_23 : decode cX3_teethAt 23 = .ok (.iload_n 3, 1) := by decide +kernel
theorem dX3_teethAt_24 : decode cX3_teethAt 24 = .ok (.iconst 1, 1) := by decide +kernel
theorem dX3_teethAt_25 : decode cX3_teethAt 25 = .ok (.iload 4, 2) := by decide +kernel
theorem dX3_teethAt_27 : decode cX3_teethAt 27 = .ok (.ishl, 1) := by decide +kernel
theorem dX3_teethAt_28 : decode cX3_teethAt 28 = .ok (.ior, 1) := by decide +kernel
theorem dX3_teethAt_29 : decode cX3_teethAt 29 = .ok (.istore_n 3, 1) := by decide +kernel
theorem dX3_teethAt_30 : decode cX3_teethAt 30 = .ok (.iinc 4 1, 3) := by decide +kernel
theorem dX3_teethAt_33 : decode cX3_teethAt 33 = .ok (.goto (-28), 3) := by decide +kernel
theorem dX3_teethAt_36 : decode cX3_teethAt 36 = .ok (.iload_n 3, 1) := by decide +kernel
theorem dX3_teethAt_37 : decode cX3_teethAt 37 = .ok (.ireturn, 1) := by decide +kernel
def fX3_teethAt_L5 (M : Mm) (i : Nat) (c1 : Int32) (c2 : Int32) (K : Int32 → Int32 → Option Int32) : Nat → Int32 → Int32 → Option Int32
  | 0, _, _ => none
  | n + 1, v3, v4 => if (12 : Int32) ≤ v4 then K v3 v4 else (fX3_hasPin M i c1 v4 c2).bind fun q2 => if q2 = 0 then fX3_teethAt_L5 M i c1 c2 K n v3 (v4 + (1 : Int32)) else fX3_teethAt_L5 M i c1 c2 K n (v3 ||| ((1 : Int32) <<< (v4 &&& 31))) (v4 + (1 : Int32))
def fX3_teethAt (M : Mm) (i : Nat) (x1 : Int32) (x2 : Int32) : Option Int32 := fX3_teethAt_L5 M i x1 x2 (fun w5 w6 => some w5) NF (0 : Int32) (0 : Int32)
set_option maxRecDepth 20000 in
set_option maxHeartbeats 2000000 in
theorem sX3_teethAt_L5 {wv : Wv} (M : Mm) (i : Nat) (c1 : Int32) (c2 : Int32) (hi : i < 12) {res : Int32} {K : Int32 → Int32 → Option Int32} : ∀ (n : Nat) (v3 : Int32) (v4 : Int32), fX3_teethAt_L5 M i c1 c2 K n v3 v4 = some res →
    (∀ (v3 : Int32) (v4 : Int32), K v3 v4 = some res → Z RX3 cX3_teethAt 5 (some .int) [] "teethAt" (rmD 1 0 0) (QM SH (allR wv) 0 0 (fun v M9 => v = some (.int res) ∧ M9 = M) (fun _ _ => False)) (allR wv) SH 0 0 36 [some (.inr (10, i, 0)), some (.inl (.int c1)), some (.inl (.int c2)), some (.inl (.int v3)), some (.inl (.int v4))] [] M) → Z RX3 cX3_teethAt 5 (some .int) [] "teethAt" (rmD 1 0 0) (QM SH (allR wv) 0 0 (fun v M9 => v = some (.int res) ∧ M9 = M) (fun _ _ => False)) (allR wv) SH 0 0 5 [some (.inr (10, i, 0)), some (.inl (.int c1)), some (.inl (.int c2)), some (.inl (.int v3)), some (.inl (.int v4))] [] M := by
  intro n
  induction n with
  | zero => intro v3 v4 h; cases h
  | succ n ih =>
    intro v3 v4 h hK
    rw [fX3_teethAt_L5] at h
    refine z_iload (i := 4) dX3_teethAt_5 rfl ?_
    refine z_bipush (v := (12 : Int32)) dX3_teethAt_7 kb_12 ?_
    refine z_icmp_ge (tgt := 36) dX3_teethAt_9 rfl (fun hc1 => ?_) (fun hc1 => ?_)
    · have h := it_t h hc1
      exact hK _ _ h
    · have h := it_f h hc1
      refine z_aload_n (i := 0) dX3_teethAt_12 rfl rfl ?_
      refine z_iload_n (i := 1) dX3_teethAt_13 rfl rfl ?_
      refine z_iload (i := 4) dX3_teethAt_14 rfl ?_
      refine z_iload_n (i := 2) dX3_teethAt_16 rfl rfl ?_
      obtain ⟨q2, hq3, h⟩ := bnd h
      refine z_fVi (sX3_hasPin M i c1 v4 c2 hi hq3) dX3_teethAt_17 ml_X3_57 cd_X3_hasPin (m10 _ hi) rfl rfl rfl rfl rfl rfl ?_
      refine z_if_eq (tgt := 30) dX3_teethAt_20 rfl (fun hc4 => ?_) (fun hc4 => ?_)
      · have h := it_t h hc4
        refine z_iinc (i := 4) (v := (v4 + (1 : Int32))) dX3_teethAt_30 rfl (iinc_k kc_1) (Nat.le_of_ble_eq_true rfl) rfl ?_
        refine z_goto (tgt := 5) dX3_teethAt_33 rfl ?_
        exact ih _ _ h hK
      · have h := it_f h hc4
        refine z_iload_n (i := 3) dX3_teethAt_23 rfl rfl ?_
        refine z_iconst (v := (1 : Int32)) dX3_teethAt_24 kc_1 ?_
        refine z_iload (i := 4) dX3_teethAt_25 rfl ?_
        refine z_ishl dX3_teethAt_27 ?_
        refine z_ior dX3_teethAt_28 ?_
        refine z_istore_n (i := 3) dX3_teethAt_29 rfl (Nat.le_of_ble_eq_true rfl) rfl ?_
        refine z_iinc (i := 4) (v := (v4 + (1 : Int32))) dX3_teethAt_30 rfl (iinc_k kc_1) (Nat.le_of_ble_eq_true rfl) rfl ?_
        refine z_goto (tgt := 5) dX3_teethAt_33 rfl ?_
        exact ih _ _ h hK
set_option maxRecDepth 20000 in
set_option maxHeartbeats 2000000 in
theorem sX3_teethAt {wv : Wv} (M : Mm) (i : Nat) (x1 : Int32) (x2 : Int32) (hi : i < 12) {res : Int32} (h : fX3_teethAt M i x1 x2 = some res) : TF wv yX3_teethAt cX3_teethAt 5 (some .int) 1 [.inr (10, i, 0), .inl (.int x1), .inl (.int x2)] M (some (.int res)) M := by
  rw [fX3_teethAt] at h
  refine TF.go (n := 2) (ls := [some (.inr (10, i, 0)), some (.inl (.int x1)), some (.inl (.int x2)), none, none]) rfl rfl rfl rfl rfl ?_
  refine z_iconst (v := (0 : Int32)) dX3_teethAt_0 kc_0 ?_
  refine z_istore_n (i := 3) dX3_teethAt_1 rfl (Nat.le_of_ble_eq_true rfl) rfl ?_
  refine z_iconst (v := (0 : Int32)) dX3_teethAt_2 kc_0 ?_
  refine z_istore (i := 4) dX3_teethAt_3 (Nat.le_of_ble_eq_true rfl) rfl ?_
  refine sX3_teethAt_L5 M i x1 x2 hi NF _ _ h (fun w5 w6 h => ?_)
  refine z_iload_n (i := 3) dX3_teethAt_36 rfl rfl ?_
  cases h
  exact z_iret dX3_teethAt_37 rfl rfl (Nat.le_refl _) (Nat.le_refl _) ⟨rfl, rfl⟩
theorem dX3_longestRestOf_0 : decode cX3_longestRestOf 0 = .ok (.iconst 0, 1) := by decide +kernel
theorem dX3_longestRestOf_1 : decode cX3_longestRestOf 1 = .ok (.istore_n 2, 1) := by decide +kernel
theorem dX3_longestRestOf_2 : decode cX3_longestRestOf 2 = .ok (.iconst 0, 1) := by decide +kernel
theorem dX3_longestRestOf_3 : decode cX3_longestRestOf 3 = .ok (.istore_n 3, 1) := by decide +kernel
theorem dX3_longestRestOf_4 : decode cX3_longestRestOf 4 = .ok (.iconst 0, 1) := by decide +kernel
theorem dX3_longestRestOf_5 : decode cX3_longestRestOf 5 = .ok (.istore 4, 2) := by decide +kernel
theorem dX3_longestRestOf_7 : decode cX3_longestRestOf 7 = .ok (.iload 4, 2) := by decide +kernel
theorem dX3_longestRestOf_9 : decode cX3_longestRestOf 9 = .ok (.iconst 2, 1) := by decide +kernel
theorem dX3_longestRestOf_10 : decode cX3_longestRestOf 10 = .ok (.aload_n 0, 1) := by decide +kernel
theorem dX3_longestRestOf_11 : decode cX3_longestRestOf 11 = .ok (.getfield 15, 3) := by decide +kernel
theorem dX3_longestRestOf_14 : decode cX3_longestRestOf 14 = .ok (.imul, 1) := by decide +kernel
theorem dX3_longestRestOf_15 : decode cX3_longestRestOf 15 = .ok (.if_icmp .ge 56, 3) := by decide +kernel
theorem dX3_longestRestOf_18 : decode cX3_longestRestOf 18 = .ok (.iload 4, 2) := by decide +kernel
theorem dX3_longestRestOf_20 : decode cX3_longestRestOf 20 = .ok (.aload_n 0, 1) := by decide +kernel
theorem dX3_longestRestOf_21 : decode cX3_longestRestOf 21 = .ok (.getfield 15, 3) := by decide +kernel
theorem dX3_longestRestOf_24 : decode cX3_longestRestOf 24 = .ok (.if_icmp .ge 8, 3) := by decide +kernel
theorem dX3_longestRestOf_27 : decode cX3_longestRestOf 27 = .ok (.iload 4, 2) := by decide +kernel
theorem dX3_longestRestOf_29 : decode cX3_longestRestOf 29 = .ok (.goto 10, 3) := by decide +kernel
theorem dX3_longestRestOf_32 : decode cX3_longestRestOf 32 = .ok (.iload 4, 2) := by decide +kernel
theorem dX3_longestRestOf_34 : decode cX3_longestRestOf 34 = .ok (.aload_n 0, 1) := by decide +kernel
theorem dX3_longestRestOf_35 : decode cX3_longestRestOf 35 = .ok (.getfield 15, 3) := by decide +kernel
theorem dX3_longestRestOf_38 : decode cX3_longestRestOf 38 = .ok (.isub, 1) := by decide +kernel
theorem dX3_longestRestOf_39 : decode cX3_longestRestOf 39 = .ok (.istore 5, 2) := by decide +kernel
theorem dX3_longestRestOf_41 : decode cX3_longestRestOf 41 = .ok (.aload_n 0, 1) := by decide +kernel
theorem dX3_longestRestOf_42 : decode cX3_longestRestOf 42 = .ok (.iload_n 1, 1) := by decide +kernel
theorem dX3_longestRestOf_43 : decode cX3_longestRestOf 43 = .ok (.iload 5, 2) := by decide +kernel
theorem dX3_longestRestOf_45 : decode cX3_longestRestOf 45 = .ok (.invokevirtual 61, 3) := by decide +kernel
theorem dX3_longestRestOf_48 : decode cX3_longestRestOf 48 = .ok (.ifCond .ne 9, 3) := by decide +kernel
theorem dX3_longestRestOf_51 : decode cX3_longestRestOf 51 = .ok (.iload_n 3, 1) := by decide +kernel
theorem dX3_longestRestOf_52 : decode cX3_longestRestOf 52 = .ok (.iconst 1, 1) := by decide +kernel
theorem dX3_longestRestOf_53 : decode cX3_longestRestOf 53 = .ok (.iadd, 1) := by decide +kernel
theorem dX3_longestRestOf_54 : decode cX3_longestRestOf 54 = .ok (.goto 4, 3) := by decide +kernel
theorem dX3_longestRestOf_57 : decode cX3_longestRestOf 57 = .ok (.iconst 0, 1) := by decide +kernel
theorem dX3_longestRestOf_58 : decode cX3_longestRestOf 58 = .ok (.istore_n 3, 1) := by decide +kernel
theorem dX3_longestRestOf_59 : decode cX3_longestRestOf 59 = .ok (.iload_n 2, 1) := by decide +kernel
theorem dX3_longestRestOf_60 : decode cX3_longestRestOf 60 = .ok (.iload_n 3, 1) := by decide +kernel
theorem dX3_longestRestOf_61 : decode cX3_longestRestOf 61 = .ok (.invokestatic 65, 3) := by decide +kernel
theorem dX3_longestRestOf_64 : decode cX3_longestRestOf 64 = .ok (.istore_n 2, 1) := by decide +kernel
theorem dX3_longestRestOf_65 : decode cX3_longestRestOf 65 = .ok (.iinc 4 1, 3) := by decide +kernel
theorem dX3_longestRestOf_68 : decode cX3_longestRestOf 68 = .ok (.goto (-61), 3) := by decide +kernel
theorem dX3_longestRestOf_71 : decode cX3_longestRestOf 71 = .ok (.iload_n 2, 1) := by decide +kernel
theorem dX3_longestRestOf_72 : decode cX3_longestRestOf 72 = .ok (.aload_n 0, 1) := by decide +kernel
theorem dX3_longestRestOf_73 : decode cX3_longestRestOf 73 = .ok (.getfield 15, 3) := by decide +kernel
theorem dX3_longestRestOf_76 : decode cX3_longestRestOf 76 = .ok (.invokestatic 70, 3) := by decide +kernel
theorem dX3_longestRestOf_79 : decode cX3_longestRestOf 79 = .ok (.ireturn, 1) := by decide +kernel
def fX3_longestRestOf_L7 (M : Mm) (i : Nat) (c1 : Int32) (K : Int32 → Int32 → Int32 → Option Int32) : Nat → Int32 → Int32 → Int32 → Option Int32
  | 0, _, _, _ => none
  | n + 1, v2, v3, v4 => if ((2 : Int32) * (M.1 (10, i, 0) 1)) ≤ v4 then K v2 v3 v4 else if (M.1 (10, i, 0) 1) ≤ v4 then ((fX3_teethAt M i c1 (v4 - (M.1 (10, i, 0) 1))).bind fun q3 => if q3 = 0 then fX3_longestRestOf_L7 M i c1 K n (fJ9_max_7cf53 M v2 (v3 + (1 : Int32))) (v3 + (1 : Int32)) (v4 + (1 : Int32)) else fX3_longestRestOf_L7 M i c1 K n (fJ9_max_7cf53 M v2 (0 : Int32)) (0 : Int32) (v4 + (1 : Int32))) else (fX3_teethAt M i c1 v4).bind fun q6 => if q6 = 0 then fX3_longestRestOf_L7 M i c1 K n (fJ9_max_7cf53 M v2 (v3 + (1 : Int32))) (v3 + (1 : Int32)) (v4 + (1 : Int32)) else fX3_longestRestOf_L7 M i c1 K n (fJ9_max_7cf53 M v2 (0 : Int32)) (0 : Int32) (v4 + (1 : Int32))
def fX3_longestRestOf (M : Mm) (i : Nat) (x1 : Int32) : Option Int32 := fX3_longestRestOf_L7 M i x1 (fun w9 w10 w11 => some (fJ9_min_7cf53 M w9 (M.1 (10, i, 0) 1))) NF (0 : Int32) (0 : Int32) (0 : Int32)
set_option maxRecDepth 20000 in
set_option maxHeartbeats 2000000 in
theorem sX3_longestRestOf_L7 {wv : Wv} (M : Mm) (i : Nat) (c1 : Int32) (hi : i < 12) {res : Int32} {K : Int32 → Int32 → Int32 → Option Int32} : ∀ (n : Nat) (v2 : Int32) (v3 : Int32) (v4 : Int32), fX3_longestRestOf_L7 M i c1 K n v2 v3 v4 = some res →
    (∀ (v2 : Int32) (v3 : Int32) (v4 : Int32), K v2 v3 v4 = some res → Z RX3 cX3_longestRestOf 6 (some .int) [] "longestRestOf" (rmD 2 0 0) (QM SH (allR wv) 0 0 (fun v M9 => v = some (.int res) ∧ M9 = M) (fun _ _ => False)) (allR wv) SH 0 0 71 [some (.inr (10, i, 0)), some (.inl (.int c1)), some (.inl (.int v2)), some (.inl (.int v3)), some (.inl (.int v4)), none] [] M) → Z RX3 cX3_longestRestOf 6 (some .int) [] "longestRestOf" (rmD 2 0 0) (QM SH (allR wv) 0 0 (fun v M9 => v = some (.int res) ∧ M9 = M) (fun _ _ => False)) (allR wv) SH 0 0 7 [some (.inr (10, i, 0)), some (.inl (.int c1)), some (.inl (.int v2)), some (.inl (.int v3)), some (.inl (.int v4)), none] [] M := by
  intro n
  induction n with
  | zero => intro v2 v3 v4 h; cases h
  | succ n ih =>
    intro v2 v3 v4 h hK
    rw [fX3_longestRestOf_L7] at h
    refine z_iload (i := 4) dX3_longestRestOf_7 rfl ?_
    refine z_iconst (v := (2 : Int32)) dX3_longestRestOf_9 kc_2 ?_
    refine z_aload_n (i := 0) dX3_longestRestOf_10 rfl rfl ?_
    refine z_getI (x := (M.1 (10, i, 0) 1)) dX3_longestRestOf_11 fl_X3_15 (m10 _ hi) rfl rfl ?_
    refine z_imul dX3_longestRestOf_14 ?_
    refine z_icmp_ge (tgt := 71) dX3_longestRestOf_15 rfl (fun hc1 => ?_) (fun hc1 => ?_)
    · have h := it_t h hc1
      exact hK _ _ _ h
    · have h := it_f h hc1
      refine z_iload (i := 4) dX3_longestRestOf_18 rfl ?_
      refine z_aload_n (i := 0) dX3_longestRestOf_20 rfl rfl ?_
      refine z_getI (x := (M.1 (10, i, 0) 1)) dX3_longestRestOf_21 fl_X3_15 (m10 _ hi) rfl rfl ?_
      refine z_icmp_ge (tgt := 32) dX3_longestRestOf_24 rfl (fun hc2 => ?_) (fun hc2 => ?_)
      · have h := it_t h hc2
        refine z_iload (i := 4) dX3_longestRestOf_32 rfl ?_
        refine z_aload_n (i := 0) dX3_longestRestOf_34 rfl rfl ?_
        refine z_getI (x := (M.1 (10, i, 0) 1)) dX3_longestRestOf_35 fl_X3_15 (m10 _ hi) rfl rfl ?_
        refine z_isub dX3_longestRestOf_38 ?_
        refine z_istore (i := 5) dX3_longestRestOf_39 (Nat.le_of_ble_eq_true rfl) rfl ?_
        refine z_aload_n (i := 0) dX3_longestRestOf_41 rfl rfl ?_
        refine z_iload_n (i := 1) dX3_longestRestOf_42 rfl rfl ?_
        refine z_iload (i := 5) dX3_longestRestOf_43 rfl ?_
        obtain ⟨q3, hq4, h⟩ := bnd h
        refine z_fVi (sX3_teethAt M i c1 (v4 - (M.1 (10, i, 0) 1)) hi hq4) dX3_longestRestOf_45 ml_X3_61 cd_X3_teethAt (m10 _ hi) rfl rfl rfl rfl rfl rfl ?_
        refine z_if_ne (tgt := 57) dX3_longestRestOf_48 rfl (fun hc5 => ?_) (fun hc5 => ?_)
        · have h := it_f h hc5
          refine z_iconst (v := (0 : Int32)) dX3_longestRestOf_57 kc_0 ?_
          refine z_istore_n (i := 3) dX3_longestRestOf_58 rfl (Nat.le_of_ble_eq_true rfl) rfl ?_
          refine z_iload_n (i := 2) dX3_longestRestOf_59 rfl rfl ?_
          refine z_iload_n (i := 3) dX3_longestRestOf_60 rfl rfl ?_
          refine z_fSi (sJ9_max_7cf53 M v2 (0 : Int32)) dX3_longestRestOf_61 ml_X3_65 cd_J9_max_7cf53 rfl rfl rfl rfl rfl ?_
          refine z_istore_n (i := 2) dX3_longestRestOf_64 rfl (Nat.le_of_ble_eq_true rfl) rfl ?_
          refine z_iinc (i := 4) (v := (v4 + (1 : Int32))) dX3_longestRestOf_65 rfl (iinc_k kc_1) (Nat.le_of_ble_eq_true rfl) rfl ?_
          refine z_goto (tgt := 7) dX3_longestRestOf_68 rfl ?_
          refine z_fgt (i := 5) ?_
          exact ih _ _ _ h hK
        · have h := it_t h hc5
          refine z_iload_n (i := 3) dX3_longestRestOf_51 rfl rfl ?_
          refine z_iconst (v := (1 : Int32)) dX3_longestRestOf_52 kc_1 ?_
          refine z_iadd dX3_longestRestOf_53 ?_
          refine z_goto (tgt := 58) dX3_longestRestOf_54 rfl ?_
          refine z_istore_n (i := 3) dX3_longestRestOf_58 rfl (Nat.le_of_ble_eq_true rfl) rfl ?_
          refine z_iload_n (i := 2) dX3_longestRestOf_59 rfl rfl ?_
          refine z_iload_n (i := 3) dX3_longestRestOf_60 rfl rfl ?_
          refine z_fSi (sJ9_max_7cf53 M v2 (v3 + (1 : Int32))) dX3_longestRestOf_61 ml_X3_65 cd_J9_max_7cf53 rfl rfl rfl rfl rfl ?_
          refine z_istore_n (i := 2) dX3_longestRestOf_64 rfl (Nat.le_of_ble_eq_true rfl) rfl ?_
          refine z_iinc (i := 4) (v := (v4 + (1 : Int32))) dX3_longestRestOf_65 rfl (iinc_k kc_1) (Nat.le_of_ble_eq_true rfl) rfl ?_
          refine z_goto (tgt := 7) dX3_longestRestOf_68 rfl ?_
          refine z_fgt (i := 5) ?_
          exact ih _ _ _ h hK
      · have h := it_f h hc2
        refine z_iload (i := 4) dX3_longestRestOf_27 rfl ?_
        refine z_goto (tgt := 39) dX3_longestRestOf_29 rfl ?_
        refine z_istore (i := 5) dX3_longestRestOf_39 (Nat.le_of_ble_eq_true rfl) rfl ?_
        refine z_aload_n (i := 0) dX3_longestRestOf_41 rfl rfl ?_
        refine z_iload_n (i := 1) dX3_longestRestOf_42 rfl rfl ?_
        refine z_iload (i := 5) dX3_longestRestOf_43 rfl ?_
        obtain ⟨q6, hq7, h⟩ := bnd h
        refine z_fVi (sX3_teethAt M i c1 v4 hi hq7) dX3_longestRestOf_45 ml_X3_61 cd_X3_teethAt (m10 _ hi) rfl rfl rfl rfl rfl rfl ?_
        refine z_if_ne (tgt := 57) dX3_longestRestOf_48 rfl (fun hc8 => ?_) (fun hc8 => ?_)
        · have h := it_f h hc8
          refine z_iconst (v := (0 : Int32)) dX3_longestRestOf_57 kc_0 ?_
          refine z_istore_n (i := 3) dX3_longestRestOf_58 rfl (Nat.le_of_ble_eq_true rfl) rfl ?_
          refine z_iload_n (i := 2) dX3_longestRestOf_59 rfl rfl ?_
          refine z_iload_n (i := 3) dX3_longestRestOf_60 rfl rfl ?_
          refine z_fSi (sJ9_max_7cf53 M v2 (0 : Int32)) dX3_longestRestOf_61 ml_X3_65 cd_J9_max_7cf53 rfl rfl rfl rfl rfl ?_
          refine z_istore_n (i := 2) dX3_longestRestOf_64 rfl (Nat.le_of_ble_eq_true rfl) rfl ?_
          refine z_iinc (i := 4) (v := (v4 + (1 : Int32))) dX3_longestRestOf_65 rfl (iinc_k kc_1) (Nat.le_of_ble_eq_true rfl) rfl ?_
          refine z_goto (tgt := 7) dX3_longestRestOf_68 rfl ?_
          refine z_fgt (i := 5) ?_
          exact ih _ _ _ h hK
        · have h := it_t h hc8
          refine z_iload_n (i := 3) dX3_longestRestOf_51 rfl rfl ?_
          refine z_iconst (v := (1 : Int32)) dX3_longestRestOf_52 kc_1 ?_
          refine z_iadd dX3_longestRestOf_53 ?_
          refine z_goto (tgt := 58) dX3_longestRestOf_54 rfl ?_
          refine z_istore_n (i := 3) dX3_longestRestOf_58 rfl (Nat.le_of_ble_eq_true rfl) rfl ?_
          refine z_iload_n (i := 2) dX3_longestRestOf_59 rfl rfl ?_
          refine z_iload_n (i := 3) dX3_longestRestOf_60 rfl rfl ?_
          refine z_fSi (sJ9_max_7cf53 M v2 (v3 + (1 : Int32))) dX3_longestRestOf_61 ml_X3_65 cd_J9_max_7cf53 rfl rfl rfl rfl rfl ?_
          refine z_istore_n (i := 2) dX3_longestRestOf_64 rfl (Nat.le_of_ble_eq_true rfl) rfl ?_
          refine z_iinc (i := 4) (v := (v4 + (1 : Int32))) dX3_longestRestOf_65 rfl (iinc_k kc_1) (Nat.le_of_ble_eq_true rfl) rfl ?_
          refine z_goto (tgt := 7) dX3_longestRestOf_68 rfl ?_
          refine z_fgt (i := 5) ?_
          exact ih _ _ _ h hK
set_option maxRecDepth 20000 in
set_option maxHeartbeats 2000000 in
theorem sX3_longestRestOf {wv : Wv} (M : Mm) (i : Nat) (x1 : Int32) (hi : i < 12) {res : Int32} (h : fX3_longestRestOf M i x1 = some res) : TF wv yX3_longestRestOf cX3_longestRestOf 6 (some .int) 2 [.inr (10, i, 0), .inl (.int x1)] M (some (.int res)) M := by
  rw [fX3_longestRestOf] at h
  refine TF.go (n := 4) (ls := [some (.inr (10, i, 0)), some (.inl (.int x1)), none, none, none, none]) rfl rfl rfl rfl rfl ?_
  refine z_iconst (v := (0 : Int32)) dX3_longestRestOf_0 kc_0 ?_
  refine z_istore_n (i := 2) dX3_longestRestOf_1 rfl (Nat.le_of_ble_eq_true rfl) rfl ?_
  refine z_iconst (v := (0 : Int32)) dX3_longestRestOf_2 kc_0 ?_
  refine z_istore_n (i := 3) dX3_longestRestOf_3 rfl (Nat.le_of_ble_eq_true rfl) rfl ?_
  refine z_iconst (v := (0 : Int32)) dX3_longestRestOf_4 kc_0 ?_
  refine z_istore (i := 4) dX3_longestRestOf_5 (Nat.le_of_ble_eq_true rfl) rfl ?_
  refine sX3_longestRestOf_L7 M i x1 hi NF _ _ _ h (fun w9 w10 w11 h => ?_)
  refine z_iload_n (i := 2) dX3_longestRestOf_71 rfl rfl ?_
  refine z_aload_n (i := 0) dX3_longestRestOf_72 rfl rfl ?_
  refine z_getI (x := (M.1 (10, i, 0) 1)) dX3_longestRestOf_73 fl_X3_15 (m10 _ hi) rfl rfl ?_
  refine z_fSi (sJ9_min_7cf53 M w9 (M.1 (10, i, 0) 1)) dX3_longestRestOf_76 ml_X3_70 cd_J9_min_7cf53 rfl rfl rfl rfl rfl ?_
  cases h
  exact z_iret dX3_longestRestOf_79 rfl rfl (Nat.le_refl _) (Nat.le_refl _) ⟨rfl, rfl⟩
theorem dJ9_floorMod_7cf53_0 : decode cJ9_floorMod_7cf53 0 = .ok (.iload_n 0, 1) := by decide +kernel
theorem dJ9_floorMod_7cf53_1 : decode cJ9_floorMod_7cf53 1 = .ok (.iload_n 1, 1) := by decide +kernel
theorem dJ9_floorMod_7cf53_2 : decode cJ9_floorMod_7cf53 2 = .ok (.irem, 1) := by decide +kernel
theorem dJ9_floorMod_7cf53_3 : decode cJ9_floorMod_7cf53 3 = .ok (.istore_n 2, 1) := by decide +kernel
theorem dJ9_floorMod_7cf53_4 : decode cJ9_floorMod_7cf53 4 = .ok (.iload_n 0, 1) := by decide +kernel
theorem dJ9_floorMod_7cf53_5 : decode cJ9_floorMod_7cf53 5 = .ok (.iload_n 1, 1) := by decide +kernel
theorem dJ9_floorMod_7cf53_6 : decode cJ9_floorMod_7cf53 6 = .ok (.ixor, 1) := by decide +kernel
theorem dJ9_floorMod_7cf53_7 : decode cJ9_floorMod_7cf53 7 = .ok (.ifCond .ge 11, 3) := by decide +kernel
theorem dJ9_floorMod_7cf53_10 : decode cJ9_floorMod_7cf53 10 = .ok (.iload_n 2, 1) := by decide +kernel
theorem dJ9_floorMod_7cf53_11 : decode cJ9_floorMod_7cf53 11 = .ok (.ifCond .eq 7, 3) := by decide +kernel
theorem dJ9_floorMod_7cf53_14 : decode cJ9_floorMod_7cf53 14 = .ok (.iload_n 2, 1) := by decide +kernel
theorem dJ9_floorMod_7cf53_15 : decode cJ9_floorMod_7cf53 15 = .ok (.iload_n 1, 1) := by decide +kernel
theorem dJ9_floorMod_7cf53_16 : decode cJ9_floorMod_7cf53 16 = .ok (.iadd, 1) := by decide +kernel
theorem dJ9_floorMod_7cf53_17 : decode cJ9_floorMod_7cf53 17 = .ok (.ireturn, 1) := by decide +kernel
theorem dJ9_floorMod_7cf53_18 : decode cJ9_floorMod_7cf53 18 = .ok (.iload_n 2, 1) := by decide +kernel
theorem dJ9_floorMod_7cf53_19 : decode cJ9_floorMod_7cf53 19 = .ok (.ireturn, 1) := by decide +kernel
def fJ9_floorMod_7cf53 (M : Mm) (x1 : Int32) (x2 : Int32) : Option Int32 := if x2 = 0 then none else if 0 ≤ (x1 ^^^ x2) then some (x1 - x1 / x2 * x2) else if (x1 - x1 / x2 * x2) = 0 then some (x1 - x1 / x2 * x2) else some ((x1 - x1 / x2 * x2) + x2)
set_option maxRecDepth 20000 in
set_option maxHeartbeats 2000000 in
theorem sJ9_floorMod_7cf53 {wv : Wv} (M : Mm) (x1 : Int32) (x2 : Int32) {res : Int32} (h : fJ9_floorMod_7cf53 M x1 x2 = some res) : TF wv yJ9_floorMod_7cf53 cJ9_floorMod_7cf53 3 (some .int) 0 [.inl (.int x1), .inl (.int x2)] M (some (.int res)) M := by
  rw [fJ9_floorMod_7cf53] at h
  refine TF.go (n := 1) (ls := [some (.inl (.int x1)), some (.inl (.int x2)), none]) (by decide +kernel) rfl rfl rfl rfl ?_
  refine z_iload_n (i := 0) dJ9_floorMod_7cf53_0 rfl rfl ?_
  refine z_iload_n (i := 1) dJ9_floorMod_7cf53_1 rfl rfl ?_
  obtain ⟨hc1, h⟩ := chk h
  refine z_irem dJ9_floorMod_7cf53_2 hc1 ?_
  refine z_istore_n (i := 2) dJ9_floorMod_7cf53_3 rfl (Nat.le_of_ble_eq_true rfl) rfl ?_
  refine z_iload_n (i := 0) dJ9_floorMod_7cf53_4 rfl rfl ?_
  refine z_iload_n (i := 1) dJ9_floorMod_7cf53_5 rfl rfl ?_
  refine z_ixor dJ9_floorMod_7cf53_6 ?_
  refine z_if_ge (tgt := 18) dJ9_floorMod_7cf53_7 rfl (fun hc2 => ?_) (fun hc2 => ?_)
  · have h := it_t h hc2
    refine z_iload_n (i := 2) dJ9_floorMod_7cf53_18 rfl rfl ?_
    cases h
    exact z_iret dJ9_floorMod_7cf53_19 rfl rfl (Nat.le_refl _) (Nat.le_refl _) ⟨rfl, rfl⟩
  · have h := it_f h hc2
    refine z_iload_n (i := 2) dJ9_floorMod_7cf53_10 rfl rfl ?_
    refine z_if_eq (tgt := 18) dJ9_floorMod_7cf53_11 rfl (fun hc3 => ?_) (fun hc3 => ?_)
    · have h := it_t h hc3
      refine z_iload_n (i := 2) dJ9_floorMod_7cf53_18 rfl rfl ?_
      cases h
      exact z_iret dJ9_floorMod_7cf53_19 rfl rfl (Nat.le_refl _) (Nat.le_refl _) ⟨rfl, rfl⟩
    · have h := it_f h hc3
      refine z_iload_n (i := 2) dJ9_floorMod_7cf53_14 rfl rfl ?_
      refine z_iload_n (i := 1) dJ9_floorMod_7cf53_15 rfl rfl ?_
      refine z_iadd dJ9_floorMod_7cf53_16 ?_
      cases h
      exact z_iret dJ9_floorMod_7cf53_17 rfl rfl (Nat.le_refl _) (Nat.le_refl _) ⟨rfl, rfl⟩
