theorem dJ9_min_7cf53_0 : decode cJ9_min_7cf53 0 = .ok (.iload_n 0, 1) := by decide +kernel
theorem dJ9_min_7cf53_1 : decode cJ9_min_7cf53 1 = .ok (.iload_n 1, 1) := by decide +kernel
theorem dJ9_min_7cf53_2 : decode cJ9_min_7cf53 2 = .ok (.if_icmp .gt 7, 3) := by decide +kernel
theorem dJ9_min_7cf53_5 : decode cJ9_min_7cf53 5 = .ok (.iload_n 0, 1) := by decide +kernel
theorem dJ9_min_7cf53_6 : decode cJ9_min_7cf53 6 = .ok (.goto 4, 3) := by decide +kernel
theorem dJ9_min_7cf53_9 : decode cJ9_min_7cf53 9 = .ok (.iload_n 1, 1) := by decide +kernel
theorem dJ9_min_7cf53_10 : decode cJ9_min_7cf53 10 = .ok (.ireturn, 1) := by decide +kernel
def fJ9_min_7cf53 (M : Mm) (x1 : Int32) (x2 : Int32) : Int32 := if x2 < x1 then x2 else x1
set_option maxRecDepth 20000 in
set_option maxHeartbeats 2000000 in
theorem tJ9_min_7cf53 {wv : Wv} (M : Mm) (x1 : Int32) (x2 : Int32) {res : Int32} (h : fJ9_min_7cf53 M x1 x2 = res) : TF wv yJ9_min_7cf53 cJ9_min_7cf53 2 (some .int) 0 [.inl (.int x1), .inl (.int x2)] M (some (.int res)) M := by
  rw [fJ9_min_7cf53] at h
  refine TF.go (n := 0) (ls := [some (.inl (.int x1)), some (.inl (.int x2))]) (by decide +kernel) rfl rfl rfl rfl ?_
  refine z_iload_n (i := 0) dJ9_min_7cf53_0 rfl rfl ?_
  refine z_iload_n (i := 1) dJ9_min_7cf53_1 rfl rfl ?_
  refine z_icmp_gt (tgt := 9) dJ9_min_7cf53_2 rfl (fun hc1 => ?_) (fun hc1 => ?_)
  · have h := it_t h hc1
    refine z_iload_n (i := 1) dJ9_min_7cf53_9 rfl rfl ?_
    subst h
    exact z_iret dJ9_min_7cf53_10 rfl rfl (Nat.le_refl _) (Nat.le_refl _) ⟨rfl, rfl⟩
  · have h := it_f h hc1
    refine z_iload_n (i := 0) dJ9_min_7cf53_5 rfl rfl ?_
    refine z_goto (tgt := 10) dJ9_min_7cf53_6 rfl ?_
    subst h
    exact z_iret dJ9_min_7cf53_10 rfl rfl (Nat.le_refl _) (Nat.le_refl _) ⟨rfl, rfl⟩
theorem sJ9_min_7cf53 {wv : Wv} (M : Mm) (x1 : Int32) (x2 : Int32) : TF wv yJ9_min_7cf53 cJ9_min_7cf53 2 (some .int) 0 [.inl (.int x1), .inl (.int x2)] M (some (.int (fJ9_min_7cf53 M x1 x2))) M := tJ9_min_7cf53 M x1 x2  rfl
theorem dX8_passStep_0 : decode cX8_passStep 0 = .ok (.aload_n 0, 1) := by decide +kernel
theorem dX8_passStep_1 : decode cX8_passStep 1 = .ok (.bipush 99, 2) := by decide +kernel
theorem dX8_passStep_3 : decode cX8_passStep 3 = .ok (.aload_n 0, 1) := by decide +kernel
theorem dX8_passStep_4 : decode cX8_passStep 4 = .ok (.getfield 30, 3) := by decide +kernel
theorem dX8_passStep_7 : decode cX8_passStep 7 = .ok (.iconst 1, 1) := by decide +kernel
theorem dX8_passStep_8 : decode cX8_passStep 8 = .ok (.iadd, 1) := by decide +kernel
theorem dX8_passStep_9 : decode cX8_passStep 9 = .ok (.invokestatic 33, 3) := by decide +kernel
theorem dX8_passStep_12 : decode cX8_passStep 12 = .ok (.putfield 30, 3) := by decide +kernel
theorem dX8_passStep_15 : decode cX8_passStep 15 = .ok (.return_, 1) := by decide +kernel
def fX8_passStep (M : Mm) (i : Nat) (t : Nat) : Mm := (putI M (13, i, t) 5 (fJ9_min_7cf53 M (99 : Int32) ((M.1 (13, i, t) 5) + (1 : Int32))))
set_option maxRecDepth 20000 in
set_option maxHeartbeats 2000000 in
theorem tX8_passStep {wv : Wv} (M : Mm) (i : Nat) (t : Nat) (hi : i < 12) (ht : t < 12) {res : Mm} (h : fX8_passStep M i t = res) : TF wv yX8_passStep cX8_passStep 1 none 1 [.inr (13, i, t)] M (none) res := by
  rw [fX8_passStep] at h
  refine TF.go (n := 0) (ls := [some (.inr (13, i, t))]) rfl rfl rfl rfl rfl ?_
  refine z_aload_n (i := 0) dX8_passStep_0 rfl rfl ?_
  refine z_bipush (v := (99 : Int32)) dX8_passStep_1 kb_99 ?_
  refine z_aload_n (i := 0) dX8_passStep_3 rfl rfl ?_
  refine z_getI (x := (M.1 (13, i, t) 5)) dX8_passStep_4 fl_X8_30 (m13 _ hi _ ht) rfl rfl ?_
  refine z_iconst (v := (1 : Int32)) dX8_passStep_7 kc_1 ?_
  refine z_iadd dX8_passStep_8 ?_
  refine z_fSi (sJ9_min_7cf53 M (99 : Int32) ((M.1 (13, i, t) 5) + (1 : Int32))) dX8_passStep_9 ml_X8_33 cd_J9_min_7cf53 rfl rfl rfl rfl rfl ?_
  refine z_putI allR_nd dX8_passStep_12 fl_X8_30 (m13 _ hi _ ht) rfl rfl ?_
  subst h
  exact z_vret dX8_passStep_15 rfl (Nat.le_refl _) (Nat.le_refl _) ⟨rfl, rfl⟩
theorem sX8_passStep {wv : Wv} (M : Mm) (i : Nat) (t : Nat) (hi : i < 12) (ht : t < 12) : TF wv yX8_passStep cX8_passStep 1 none 1 [.inr (13, i, t)] M (none) (fX8_passStep M i t) := tX8_passStep M i t hi ht rfl
theorem dX3_goOn_0 : decode cX3_goOn 0 = .ok (.aload_n 0, 1) := by decide +kernel
theorem dX3_goOn_1 : decode cX3_goOn 1 = .ok (.dup, 1) := by decide +kernel
theorem dX3_goOn_2 : decode cX3_goOn 2 = .ok (.getfield 19, 3) := by decide +kernel
theorem dX3_goOn_5 : decode cX3_goOn 5 = .ok (.iconst 1, 1) := by decide +kernel
theorem dX3_goOn_6 : decode cX3_goOn 6 = .ok (.iadd, 1) := by decide +kernel
theorem dX3_goOn_7 : decode cX3_goOn 7 = .ok (.putfield 19, 3) := by decide +kernel
theorem dX3_goOn_10 : decode cX3_goOn 10 = .ok (.aload_n 0, 1) := by decide +kernel
theorem dX3_goOn_11 : decode cX3_goOn 11 = .ok (.getfield 19, 3) := by decide +kernel
theorem dX3_goOn_14 : decode cX3_goOn 14 = .ok (.aload_n 0, 1) := by decide +kernel
theorem dX3_goOn_15 : decode cX3_goOn 15 = .ok (.getfield 15, 3) := by decide +kernel
theorem dX3_goOn_18 : decode cX3_goOn 18 = .ok (.if_icmp .ge 5, 3) := by decide +kernel
theorem dX3_goOn_21 : decode cX3_goOn 21 = .ok (.iconst 0, 1) := by decide +kernel
theorem dX3_goOn_22 : decode cX3_goOn 22 = .ok (.ireturn, 1) := by decide +kernel
theorem dX3_goOn_23 : decode cX3_goOn 23 = .ok (.aload_n 0, 1) := by decide +kernel
theorem dX3_goOn_24 : decode cX3_goOn 24 = .ok (.iconst 0, 1) := by decide +kernel
theorem dX3_goOn_25 : decode cX3_goOn 25 = .ok (.putfield 19, 3) := by decide +kernel
theorem dX3_goOn_28 : decode cX3_goOn 28 = .ok (.iconst 1, 1) := by decide +kernel
theorem dX3_goOn_29 : decode cX3_goOn 29 = .ok (.ireturn, 1) := by decide +kernel
def fX3_goOn (M : Mm) (i : Nat) : Option (Int32 × Mm) := if (M.1 (10, i, 0) 1) ≤ ((M.1 (10, i, 0) 2) + (1 : Int32)) then some ((1 : Int32), (putI (putI M (10, i, 0) 2 ((M.1 (10, i, 0) 2) + (1 : Int32))) (10, i, 0) 2 (0 : Int32))) else some ((0 : Int32), (putI M (10, i, 0) 2 ((M.1 (10, i, 0) 2) + (1 : Int32))))
set_option maxRecDepth 20000 in
set_option maxHeartbeats 2000000 in
theorem sX3_goOn {wv : Wv} (M : Mm) (i : Nat) (hi : i < 12) {res : (Int32 × Mm)} (h : fX3_goOn M i = some res) : TF wv yX3_goOn cX3_goOn 1 (some .boolean) 0 [.inr (10, i, 0)] M (some (.int res.1)) res.2 := by
  rw [fX3_goOn] at h
  refine TF.go (n := 0) (ls := [some (.inr (10, i, 0))]) rfl rfl rfl rfl rfl ?_
  refine z_aload_n (i := 0) dX3_goOn_0 rfl rfl ?_
  refine z_dup dX3_goOn_1 rfl ?_
  refine z_getI (x := (M.1 (10, i, 0) 2)) dX3_goOn_2 fl_X3_19 (m10 _ hi) rfl rfl ?_
  refine z_iconst (v := (1 : Int32)) dX3_goOn_5 kc_1 ?_
  refine z_iadd dX3_goOn_6 ?_
  refine z_putI allR_nd dX3_goOn_7 fl_X3_19 (m10 _ hi) rfl rfl ?_
  refine z_aload_n (i := 0) dX3_goOn_10 rfl rfl ?_
  refine z_getI (x := ((M.1 (10, i, 0) 2) + (1 : Int32))) dX3_goOn_11 fl_X3_19 (m10 _ hi) rfl (gp1 (M := M) (r := (10, i, 0)) (j := 2) (v := ((M.1 (10, i, 0) 2) + (1 : Int32)))) ?_
  refine z_aload_n (i := 0) dX3_goOn_14 rfl rfl ?_
  refine z_getI (x := (M.1 (10, i, 0) 1)) dX3_goOn_15 fl_X3_15 (m10 _ hi) rfl rfl ?_
  refine z_icmp_ge (tgt := 23) dX3_goOn_18 rfl (fun hc1 => ?_) (fun hc1 => ?_)
  · have h := it_t h hc1
    refine z_aload_n (i := 0) dX3_goOn_23 rfl rfl ?_
    refine z_iconst (v := (0 : Int32)) dX3_goOn_24 kc_0 ?_
    refine z_putI allR_nd dX3_goOn_25 fl_X3_19 (m10 _ hi) rfl rfl ?_
    refine z_iconst (v := (1 : Int32)) dX3_goOn_28 kc_1 ?_
    cases h
    exact z_iret dX3_goOn_29 rfl rfl (Nat.le_refl _) (Nat.le_refl _) ⟨rfl, rfl⟩
  · have h := it_f h hc1
    refine z_iconst (v := (0 : Int32)) dX3_goOn_21 kc_0 ?_
    cases h
    exact z_iret dX3_goOn_22 rfl rfl (Nat.le_refl _) (Nat.le_refl _) ⟨rfl, rfl⟩
theorem dX0_playStep_0 : decode cX0_playStep 0 = .ok (.iconst 0, 1) := by decide +kernel
theorem dX0_playStep_1 : decode cX0_playStep 1 = .ok (.istore_n 1, 1) := by decide +kernel
theorem dX0_playStep_2 : decode cX0_playStep 2 = .ok (.iload_n 1, 1) := by decide +kernel
theorem dX0_playStep_3 : decode cX0_playStep 3 = .ok (.aload_n 0, 1) := by decide +kernel
theorem dX0_playStep_4 : decode cX0_playStep 4 = .ok (.getfield 29, 3) := by decide +kernel
theorem dX0_playStep_7 : decode cX0_playStep 7 = .ok (.if_icmp .ge 74, 3) := by decide +kernel
theorem dX0_playStep_10 : decode cX0_playStep 10 = .ok (.iload_n 1, 1) := by decide +kernel
theorem dX0_playStep_11 : decode cX0_playStep 11 = .ok (.bipush 12, 2) := by decide +kernel
theorem dX0_playStep_13 : decode cX0_playStep 13 = .ok (.if_icmp .ge 68, 3) := by decide +kernel
theorem dX0_playStep_16 : decode cX0_playStep 16 = .ok (.aload_n 0, 1) := by decide +kernel
theorem dX0_playStep_17 : decode cX0_playStep 17 = .ok (.iload_n 1, 1) := by decide +kernel
theorem dX0_playStep_18 : decode cX0_playStep 18 = .ok (.invokevirtual 114, 3) := by decide +kernel
theorem dX0_playStep_21 : decode cX0_playStep 21 = .ok (.istore_n 2, 1) := by decide +kernel
theorem dX0_playStep_22 : decode cX0_playStep 22 = .ok (.iload_n 2, 1) := by decide +kernel
theorem dX0_playStep_23 : decode cX0_playStep 23 = .ok (.iconst 2, 1) := by decide +kernel
theorem dX0_playStep_24 : decode cX0_playStep 24 = .ok (.if_icmp .ne 26, 3) := by decide +kernel
theorem dX0_playStep_27 : decode cX0_playStep 27 = .ok (.aload_n 0, 1) := by decide +kernel
theorem dX0_playStep_28 : decode cX0_playStep 28 = .ok (.dup, 1) := by decide +kernel
theorem dX0_playStep_29 : decode cX0_playStep 29 = .ok (.getfield 39, 3) := by decide +kernel
theorem dX0_playStep_32 : decode cX0_playStep 32 = .ok (.iconst 1, 1) := by decide +kernel
theorem dX0_playStep_33 : decode cX0_playStep 33 = .ok (.iadd, 1) := by decide +kernel
theorem dX0_playStep_34 : decode cX0_playStep 34 = .ok (.putfield 39, 3) := by decide +kernel
theorem dX0_playStep_37 : decode cX0_playStep 37 = .ok (.aload_n 0, 1) := by decide +kernel
theorem dX0_playStep_38 : decode cX0_playStep 38 = .ok (.getfield 20, 3) := by decide +kernel
theorem dX0_playStep_41 : decode cX0_playStep 41 = .ok (.iload_n 1, 1) := by decide +kernel
theorem dX0_playStep_42 : decode cX0_playStep 42 = .ok (.aaload, 1) := by decide +kernel
theorem dX0_playStep_43 : decode cX0_playStep 43 = .ok (.iconst 1, 1) := by decide +kernel
theorem dX0_playStep_44 : decode cX0_playStep 44 = .ok (.invokevirtual 117, 3) := by decide +kernel
theorem dX0_playStep_47 : decode cX0_playStep 47 = .ok (.goto 28, 3) := by decide +kernel
theorem dX0_playStep_50 : decode cX0_playStep 50 = .ok (.iload_n 2, 1) := by decide +kernel
theorem dX0_playStep_51 : decode cX0_playStep 51 = .ok (.iconst 3, 1) := by decide +kernel
theorem dX0_playStep_52 : decode cX0_playStep 52 = .ok (.if_icmp .ne 23, 3) := by decide +kernel
theorem dX0_playStep_55 : decode cX0_playStep 55 = .ok (.aload_n 0, 1) := by decide +kernel
theorem dX0_playStep_56 : decode cX0_playStep 56 = .ok (.dup, 1) := by decide +kernel
theorem dX0_playStep_57 : decode cX0_playStep 57 = .ok (.getfield 42, 3) := by decide +kernel
theorem dX0_playStep_60 : decode cX0_playStep 60 = .ok (.iconst 1, 1) := by decide +kernel
theorem dX0_playStep_61 : decode cX0_playStep 61 = .ok (.iadd, 1) := by decide +kernel
theorem dX0_playStep_62 : decode cX0_playStep 62 = .ok (.putfield 42, 3) := by decide +kernel
theorem dX0_playStep_65 : decode cX0_playStep 65 = .ok (.aload_n 0, 1) := by decide +kernel
theorem dX0_playStep_66 : decode cX0_playStep 66 = .ok (.getfield 20, 3) := by decide +kernel
theorem dX0_playStep_69 : decode cX0_playStep 69 = .ok (.iload_n 1, 1) := by decide +kernel
theorem dX0_playStep_70 : decode cX0_playStep 70 = .ok (.aaload, 1) := by decide +kernel
theorem dX0_playStep_71 : decode cX0_playStep 71 = .ok (.iconst 5, 1) := by decide +kernel
theorem dX0_playStep_72 : decode cX0_playStep 72 = .ok (.invokevirtual 117, 3) := by decide +kernel
theorem dX0_playStep_75 : decode cX0_playStep 75 = .ok (.iinc 1 1, 3) := by decide +kernel
theorem dX0_playStep_78 : decode cX0_playStep 78 = .ok (.goto (-76), 3) := by decide +kernel
theorem dX0_playStep_81 : decode cX0_playStep 81 = .ok (.iconst 0, 1) := by decide +kernel
theorem dX0_playStep_82 : decode cX0_playStep 82 = .ok (.istore_n 1, 1) := by decide +kernel
theorem dX0_playStep_83 : decode cX0_playStep 83 = .ok (.iload_n 1, 1) := by decide +kernel
theorem dX0_playStep_84 : decode cX0_playStep 84 = .ok (.aload_n 0, 1) := by decide +kernel
theorem dX0_playStep_85 : decode cX0_playStep 85 = .ok (.getfield 29, 3) := by decide +kernel
theorem dX0_playStep_88 : decode cX0_playStep 88 = .ok (.if_icmp .ge 24, 3) := by decide +kernel
theorem dX0_playStep_91 : decode cX0_playStep 91 = .ok (.iload_n 1, 1) := by decide +kernel
theorem dX0_playStep_92 : decode cX0_playStep 92 = .ok (.bipush 12, 2) := by decide +kernel
theorem dX0_playStep_94 : decode cX0_playStep 94 = .ok (.if_icmp .ge 18, 3) := by decide +kernel
theorem dX0_playStep_97 : decode cX0_playStep 97 = .ok (.aload_n 0, 1) := by decide +kernel
theorem dX0_playStep_98 : decode cX0_playStep 98 = .ok (.getfield 20, 3) := by decide +kernel
theorem dX0_playStep_101 : decode cX0_playStep 101 = .ok (.iload_n 1, 1) := by decide +kernel
theorem dX0_playStep_102 : decode cX0_playStep 102 = .ok (.aaload, 1) := by decide +kernel
theorem dX0_playStep_103 : decode cX0_playStep 103 = .ok (.invokevirtual 120, 3) := by decide +kernel
theorem dX0_playStep_106 : decode cX0_playStep 106 = .ok (.iinc 1 1, 3) := by decide +kernel
theorem dX0_playStep_109 : decode cX0_playStep 109 = .ok (.goto (-26), 3) := by decide +kernel
theorem dX0_playStep_112 : decode cX0_playStep 112 = .ok (.aload_n 0, 1) := by decide +kernel
theorem dX0_playStep_113 : decode cX0_playStep 113 = .ok (.getfield 12, 3) := by decide +kernel
theorem dX0_playStep_116 : decode cX0_playStep 116 = .ok (.invokevirtual 123, 3) := by decide +kernel
theorem dX0_playStep_119 : decode cX0_playStep 119 = .ok (.ifCond .eq 13, 3) := by decide +kernel
theorem dX0_playStep_122 : decode cX0_playStep 122 = .ok (.aload_n 0, 1) := by decide +kernel
theorem dX0_playStep_123 : decode cX0_playStep 123 = .ok (.dup, 1) := by decide +kernel
theorem dX0_playStep_124 : decode cX0_playStep 124 = .ok (.getfield 33, 3) := by decide +kernel
theorem dX0_playStep_127 : decode cX0_playStep 127 = .ok (.iconst 1, 1) := by decide +kernel
theorem dX0_playStep_128 : decode cX0_playStep 128 = .ok (.isub, 1) := by decide +kernel
theorem dX0_playStep_129 : decode cX0_playStep 129 = .ok (.putfield 33, 3) := by decide +kernel
theorem dX0_playStep_132 : decode cX0_playStep 132 = .ok (.aload_n 0, 1) := by decide +kernel
theorem dX0_playStep_133 : decode cX0_playStep 133 = .ok (.dup, 1) := by decide +kernel
theorem dX0_playStep_134 : decode cX0_playStep 134 = .ok (.getfield 45, 3) := by decide +kernel
theorem dX0_playStep_137 : decode cX0_playStep 137 = .ok (.iconst 1, 1) := by decide +kernel
theorem dX0_playStep_138 : decode cX0_playStep 138 = .ok (.iadd, 1) := by decide +kernel
theorem dX0_playStep_139 : decode cX0_playStep 139 = .ok (.putfield 45, 3) := by decide +kernel
theorem dX0_playStep_142 : decode cX0_playStep 142 = .ok (.return_, 1) := by decide +kernel
def fX0_playStep_L2 (i : Nat) (K : Int32 → Mm → Option Mm) : Nat → Int32 → Mm → Option Mm
  | 0, _, _ => none
  | n + 1, v1, M => if (M.1 (9, i, 0) 2) ≤ v1 then K v1 M else if (12 : Int32) ≤ v1 then K v1 M else (fX0_soundOf M i v1).bind fun q3 => if q3 = (2 : Int32) then (if v1 < 0 ∨ 12 ≤ v1.toNatClampNeg then none else fX0_playStep_L2 i K n (v1 + (1 : Int32)) (fX8_pluck (putI M (9, i, 0) 5 ((M.1 (9, i, 0) 5) + (1 : Int32))) i v1.toNatClampNeg (1 : Int32))) else if q3 = (3 : Int32) then (if v1 < 0 ∨ 12 ≤ v1.toNatClampNeg then none else fX0_playStep_L2 i K n (v1 + (1 : Int32)) (fX8_pluck (putI M (9, i, 0) 6 ((M.1 (9, i, 0) 6) + (1 : Int32))) i v1.toNatClampNeg (5 : Int32))) else fX0_playStep_L2 i K n (v1 + (1 : Int32)) M
def fX0_playStep_L83 (i : Nat) (K : Int32 → Mm → Option Mm) : Nat → Int32 → Mm → Option Mm
  | 0, _, _ => none
  | n + 1, v1, M => if (M.1 (9, i, 0) 2) ≤ v1 then K v1 M else if (12 : Int32) ≤ v1 then K v1 M else if v1 < 0 ∨ 12 ≤ v1.toNatClampNeg then none else fX0_playStep_L83 i K n (v1 + (1 : Int32)) (fX8_passStep M i v1.toNatClampNeg)
def fX0_playStep (M : Mm) (i : Nat) : Option Mm := fX0_playStep_L2 i (fun w9 M10 => fX0_playStep_L83 i (fun w14 M15 => (fX3_goOn M15 i).bind fun q16 => if q16.1 = 0 then some (putI q16.2 (9, i, 0) 7 ((q16.2.1 (9, i, 0) 7) + (1 : Int32))) else some (putI (putI q16.2 (9, i, 0) 3 ((q16.2.1 (9, i, 0) 3) - (1 : Int32))) (9, i, 0) 7 ((q16.2.1 (9, i, 0) 7) + (1 : Int32)))) NF (0 : Int32) M10) NF (0 : Int32) M
set_option maxRecDepth 20000 in
set_option maxHeartbeats 2000000 in
theorem sX0_playStep_L2 {wv : Wv} (i : Nat) (hi : i < 12) {res : Mm} {K : Int32 → Mm → Option Mm} : ∀ (n : Nat) (v1 : Int32) (M : Mm), fX0_playStep_L2 i K n v1 M = some res →
    (∀ (v1 : Int32) (M : Mm), K v1 M = some res → Z RX0 cX0_playStep 3 none [] "playStep" (rmD 2 0 0) (QM SH (allR wv) 0 0 (fun v M9 => v = none ∧ M9 = res) (fun _ _ => False)) (allR wv) SH 0 0 81 [some (.inr (9, i, 0)), some (.inl (.int v1)), none] [] M) → Z RX0 cX0_playStep 3 none [] "playStep" (rmD 2 0 0) (QM SH (allR wv) 0 0 (fun v M9 => v = none ∧ M9 = res) (fun _ _ => False)) (allR wv) SH 0 0 2 [some (.inr (9, i, 0)), some (.inl (.int v1)), none] [] M := by
  intro n
  induction n with
  | zero => intro v1 M h; cases h
  | succ n ih =>
    intro v1 M h hK
    rw [fX0_playStep_L2] at h
    refine z_iload_n (i := 1) dX0_playStep_2 rfl rfl ?_
    refine z_aload_n (i := 0) dX0_playStep_3 rfl rfl ?_
    refine z_getI (x := (M.1 (9, i, 0) 2)) dX0_playStep_4 fl_X0_29 (m9 _ hi) rfl rfl ?_
    refine z_icmp_ge (tgt := 81) dX0_playStep_7 rfl (fun hc1 => ?_) (fun hc1 => ?_)
    · have h := it_t h hc1
      exact hK _ _ h
    · have h := it_f h hc1
      refine z_iload_n (i := 1) dX0_playStep_10 rfl rfl ?_
      refine z_bipush (v := (12 : Int32)) dX0_playStep_11 kb_12 ?_
      refine z_icmp_ge (tgt := 81) dX0_playStep_13 rfl (fun hc2 => ?_) (fun hc2 => ?_)
      · have h := it_t h hc2
        exact hK _ _ h
      · have h := it_f h hc2
        refine z_aload_n (i := 0) dX0_playStep_16 rfl rfl ?_
        refine z_iload_n (i := 1) dX0_playStep_17 rfl rfl ?_
        obtain ⟨q3, hq4, h⟩ := bnd h
        refine z_fVi (sX0_soundOf M i v1 hi hq4) dX0_playStep_18 ml_X0_114 cd_X0_soundOf (m9 _ hi) rfl rfl rfl rfl rfl rfl ?_
        refine z_istore_n (i := 2) dX0_playStep_21 rfl (Nat.le_of_ble_eq_true rfl) rfl ?_
        refine z_iload_n (i := 2) dX0_playStep_22 rfl rfl ?_
        refine z_iconst (v := (2 : Int32)) dX0_playStep_23 kc_2 ?_
        refine z_icmp_ne (tgt := 50) dX0_playStep_24 rfl (fun hc5 => ?_) (fun hc5 => ?_)
        · have h := it_f h hc5
          refine z_iload_n (i := 2) dX0_playStep_50 rfl rfl ?_
          refine z_iconst (v := (3 : Int32)) dX0_playStep_51 kc_3 ?_
          refine z_icmp_ne (tgt := 75) dX0_playStep_52 rfl (fun hc6 => ?_) (fun hc6 => ?_)
          · have h := it_f h hc6
            refine z_iinc (i := 1) (v := (v1 + (1 : Int32))) dX0_playStep_75 rfl (iinc_k kc_1) (Nat.le_of_ble_eq_true rfl) rfl ?_
            refine z_goto (tgt := 2) dX0_playStep_78 rfl ?_
            refine z_fgt (i := 2) ?_
            exact ih _ _ h hK
          · have h := it_t h hc6
            refine z_aload_n (i := 0) dX0_playStep_55 rfl rfl ?_
            refine z_dup dX0_playStep_56 rfl ?_
            refine z_getI (x := (M.1 (9, i, 0) 6)) dX0_playStep_57 fl_X0_42 (m9 _ hi) rfl rfl ?_
            refine z_iconst (v := (1 : Int32)) dX0_playStep_60 kc_1 ?_
            refine z_iadd dX0_playStep_61 ?_
            refine z_putI allR_nd dX0_playStep_62 fl_X0_42 (m9 _ hi) rfl rfl ?_
            refine z_aload_n (i := 0) dX0_playStep_65 rfl rfl ?_
            refine z_getR (r' := (12, i, 0)) dX0_playStep_66 fl_X0_20 (m9 _ hi) rfl rfl ?_
            refine z_iload_n (i := 1) dX0_playStep_69 rfl rfl ?_
            obtain ⟨hc7, h⟩ := chk h
            refine z_aald (t := 0) (r' := (13, i, v1.toNatClampNeg)) dX0_playStep_70 (m12 _ hi) rfl (Nat.le_of_ble_eq_true rfl) hc7 rfl ?_
            refine z_iconst (v := (5 : Int32)) dX0_playStep_71 kc_5 ?_
            refine z_fVv (sX8_pluck (putI M (9, i, 0) 6 ((M.1 (9, i, 0) 6) + (1 : Int32))) i v1.toNatClampNeg (5 : Int32) hi (ltN hc7)) dX0_playStep_72 ml_X0_117 cd_X8_pluck (m13 _ hi _ (ltN hc7)) rfl rfl rfl rfl rfl rfl ?_
            refine z_iinc (i := 1) (v := (v1 + (1 : Int32))) dX0_playStep_75 rfl (iinc_k kc_1) (Nat.le_of_ble_eq_true rfl) rfl ?_
            refine z_goto (tgt := 2) dX0_playStep_78 rfl ?_
            refine z_fgt (i := 2) ?_
            exact ih _ _ h hK
        · have h := it_t h hc5
          refine z_aload_n (i := 0) dX0_playStep_27 rfl rfl ?_
          refine z_dup dX0_playStep_28 rfl ?_
          refine z_getI (x := (M.1 (9, i, 0) 5)) dX0_playStep_29 fl_X0_39 (m9 _ hi) rfl rfl ?_
          refine z_iconst (v := (1 : Int32)) dX0_playStep_32 kc_1 ?_
          refine z_iadd dX0_playStep_33 ?_
          refine z_putI allR_nd dX0_playStep_34 fl_X0_39 (m9 _ hi) rfl rfl ?_
          refine z_aload_n (i := 0) dX0_playStep_37 rfl rfl ?_
          refine z_getR (r' := (12, i, 0)) dX0_playStep_38 fl_X0_20 (m9 _ hi) rfl rfl ?_
          refine z_iload_n (i := 1) dX0_playStep_41 rfl rfl ?_
          obtain ⟨hc8, h⟩ := chk h
          refine z_aald (t := 0) (r' := (13, i, v1.toNatClampNeg)) dX0_playStep_42 (m12 _ hi) rfl (Nat.le_of_ble_eq_true rfl) hc8 rfl ?_
          refine z_iconst (v := (1 : Int32)) dX0_playStep_43 kc_1 ?_
          refine z_fVv (sX8_pluck (putI M (9, i, 0) 5 ((M.1 (9, i, 0) 5) + (1 : Int32))) i v1.toNatClampNeg (1 : Int32) hi (ltN hc8)) dX0_playStep_44 ml_X0_117 cd_X8_pluck (m13 _ hi _ (ltN hc8)) rfl rfl rfl rfl rfl rfl ?_
          refine z_goto (tgt := 75) dX0_playStep_47 rfl ?_
          refine z_iinc (i := 1) (v := (v1 + (1 : Int32))) dX0_playStep_75 rfl (iinc_k kc_1) (Nat.le_of_ble_eq_true rfl) rfl ?_
          refine z_goto (tgt := 2) dX0_playStep_78 rfl ?_
          refine z_fgt (i := 2) ?_
          exact ih _ _ h hK
set_option maxRecDepth 20000 in
set_option maxHeartbeats 2000000 in
theorem sX0_playStep_L83 {wv : Wv} (i : Nat) (hi : i < 12) {res : Mm} {K : Int32 → Mm → Option Mm} : ∀ (n : Nat) (v1 : Int32) (M : Mm), fX0_playStep_L83 i K n v1 M = some res →
    (∀ (v1 : Int32) (M : Mm), K v1 M = some res → Z RX0 cX0_playStep 3 none [] "playStep" (rmD 2 0 0) (QM SH (allR wv) 0 0 (fun v M9 => v = none ∧ M9 = res) (fun _ _ => False)) (allR wv) SH 0 0 112 [some (.inr (9, i, 0)), some (.inl (.int v1)), none] [] M) → Z RX0 cX0_playStep 3 none [] "playStep" (rmD 2 0 0) (QM SH (allR wv) 0 0 (fun v M9 => v = none ∧ M9 = res) (fun _ _ => False)) (allR wv) SH 0 0 83 [some (.inr (9, i, 0)), some (.inl (.int v1)), none] [] M := by
  intro n
  induction n with
  | zero => intro v1 M h; cases h
  | succ n ih =>
    intro v1 M h hK
    rw [fX0_playStep_L83] at h
    refine z_iload_n (i := 1) dX0_playStep_83 rfl rfl ?_
    refine z_aload_n (i := 0) dX0_playStep_84 rfl rfl ?_
    refine z_getI (x := (M.1 (9, i, 0) 2)) dX0_playStep_85 fl_X0_29 (m9 _ hi) rfl rfl ?_
    refine z_icmp_ge (tgt := 112) dX0_playStep_88 rfl (fun hc11 => ?_) (fun hc11 => ?_)
    · have h := it_t h hc11
      exact hK _ _ h
    · have h := it_f h hc11
      refine z_iload_n (i := 1) dX0_playStep_91 rfl rfl ?_
      refine z_bipush (v := (12 : Int32)) dX0_playStep_92 kb_12 ?_
      refine z_icmp_ge (tgt := 112) dX0_playStep_94 rfl (fun hc12 => ?_) (fun hc12 => ?_)
      · have h := it_t h hc12
        exact hK _ _ h
      · have h := it_f h hc12
        refine z_aload_n (i := 0) dX0_playStep_97 rfl rfl ?_
        refine z_getR (r' := (12, i, 0)) dX0_playStep_98 fl_X0_20 (m9 _ hi) rfl rfl ?_
        refine z_iload_n (i := 1) dX0_playStep_101 rfl rfl ?_
        obtain ⟨hc13, h⟩ := chk h
        refine z_aald (t := 0) (r' := (13, i, v1.toNatClampNeg)) dX0_playStep_102 (m12 _ hi) rfl (Nat.le_of_ble_eq_true rfl) hc13 rfl ?_
        refine z_fVv (sX8_passStep M i v1.toNatClampNeg hi (ltN hc13)) dX0_playStep_103 ml_X0_120 cd_X8_passStep (m13 _ hi _ (ltN hc13)) rfl rfl rfl rfl rfl rfl ?_
        refine z_iinc (i := 1) (v := (v1 + (1 : Int32))) dX0_playStep_106 rfl (iinc_k kc_1) (Nat.le_of_ble_eq_true rfl) rfl ?_
        refine z_goto (tgt := 83) dX0_playStep_109 rfl ?_
        exact ih _ _ h hK
set_option maxRecDepth 20000 in
set_option maxHeartbeats 2000000 in
theorem sX0_playStep {wv : Wv} (M : Mm) (i : Nat) (hi : i < 12) {res : Mm} (h : fX0_playStep M i = some res) : TF wv yX0_playStep cX0_playStep 3 none 2 [.inr (9, i, 0)] M (none) res := by
  rw [fX0_playStep] at h
  refine TF.go (n := 2) (ls := [some (.inr (9, i, 0)), none, none]) rfl rfl rfl rfl rfl ?_
  refine z_iconst (v := (0 : Int32)) dX0_playStep_0 kc_0 ?_
  refine z_istore_n (i := 1) dX0_playStep_1 rfl (Nat.le_of_ble_eq_true rfl) rfl ?_
  refine sX0_playStep_L2 i hi NF _ _ h (fun w9 M10 h => ?_)
  refine z_iconst (v := (0 : Int32)) dX0_playStep_81 kc_0 ?_
  refine z_istore_n (i := 1) dX0_playStep_82 rfl (Nat.le_of_ble_eq_true rfl) rfl ?_
  refine sX0_playStep_L83 i hi NF _ _ h (fun w14 M15 h => ?_)
  refine z_aload_n (i := 0) dX0_playStep_112 rfl rfl ?_
  refine z_getR (r' := (10, i, 0)) dX0_playStep_113 fl_X0_12 (m9 _ hi) rfl rfl ?_
  obtain ⟨q16, hq17, h⟩ := bnd h
  refine z_fVi (sX3_goOn M15 i hi hq17) dX0_playStep_116 ml_X0_123 cd_X3_goOn (m10 _ hi) rfl rfl rfl rfl rfl rfl ?_
  refine z_if_eq (tgt := 132) dX0_playStep_119 rfl (fun hc18 => ?_) (fun hc18 => ?_)
  · have h := it_t h hc18
    refine z_aload_n (i := 0) dX0_playStep_132 rfl rfl ?_
    refine z_dup dX0_playStep_133 rfl ?_
    refine z_getI (x := (q16.2.1 (9, i, 0) 7)) dX0_playStep_134 fl_X0_45 (m9 _ hi) rfl rfl ?_
    refine z_iconst (v := (1 : Int32)) dX0_playStep_137 kc_1 ?_
    refine z_iadd dX0_playStep_138 ?_
    refine z_putI allR_nd dX0_playStep_139 fl_X0_45 (m9 _ hi) rfl rfl ?_
    cases h
    exact z_vret dX0_playStep_142 rfl (Nat.le_refl _) (Nat.le_refl _) ⟨rfl, rfl⟩
  · have h := it_f h hc18
    refine z_aload_n (i := 0) dX0_playStep_122 rfl rfl ?_
    refine z_dup dX0_playStep_123 rfl ?_
    refine z_getI (x := (q16.2.1 (9, i, 0) 3)) dX0_playStep_124 fl_X0_33 (m9 _ hi) rfl rfl ?_
    refine z_iconst (v := (1 : Int32)) dX0_playStep_127 kc_1 ?_
    refine z_isub dX0_playStep_128 ?_
    refine z_putI allR_nd dX0_playStep_129 fl_X0_33 (m9 _ hi) rfl rfl ?_
    refine z_aload_n (i := 0) dX0_playStep_132 rfl rfl ?_
    refine z_dup dX0_playStep_133 rfl ?_
    refine z_getI (x := (q16.2.1 (9, i, 0) 7)) dX0_playStep_134 fl_X0_45 (m9 _ hi) rfl rfl ?_
    refine z_iconst (v := (1 : Int32)) dX0_playStep_137 kc_1 ?_
    refine z_iadd dX0_playStep_138 ?_
    refine z_putI allR_nd dX0_playStep_139 fl_X0_45 (m9 _ hi) rfl rfl ?_
    cases h
    exact z_vret dX0_playStep_142 rfl (Nat.le_refl _) (Nat.le_refl _) ⟨rfl, rfl⟩
theorem dX0_playSteps_0 : decode cX0_playSteps 0 = .ok (.iconst 0, 1) := by decide +kernel
theorem dX0_playSteps_1 : decode cX0_playSteps 1 = .ok (.istore_n 2, 1) := by decide +kernel
theorem dX0_playSteps_2 : decode cX0_playSteps 2 = .ok (.iload_n 2, 1) := by decide +kernel
theorem dX0_playSteps_3 : decode cX0_playSteps 3 = .ok (.iload_n 1, 1) := by decide +kernel
theorem dX0_playSteps_4 : decode cX0_playSteps 4 = .ok (.if_icmp .ge 20, 3) := by decide +kernel
theorem dX0_playSteps_7 : decode cX0_playSteps 7 = .ok (.aload_n 0, 1) := by decide +kernel
theorem dX0_playSteps_8 : decode cX0_playSteps 8 = .ok (.getfield 33, 3) := by decide +kernel
theorem dX0_playSteps_11 : decode cX0_playSteps 11 = .ok (.ifCond .le 13, 3) := by decide +kernel
theorem dX0_playSteps_14 : decode cX0_playSteps 14 = .ok (.aload_n 0, 1) := by decide +kernel
theorem dX0_playSteps_15 : decode cX0_playSteps 15 = .ok (.invokevirtual 111, 3) := by decide +kernel
theorem dX0_playSteps_18 : decode cX0_playSteps 18 = .ok (.iinc 2 1, 3) := by decide +kernel
theorem dX0_playSteps_21 : decode cX0_playSteps 21 = .ok (.goto (-19), 3) := by decide +kernel
theorem dX0_playSteps_24 : decode cX0_playSteps 24 = .ok (.iload_n 2, 1) := by decide +kernel
theorem dX0_playSteps_25 : decode cX0_playSteps 25 = .ok (.ireturn, 1) := by decide +kernel
def fX0_playSteps_L2 (i : Nat) (c1 : Int32) (K : Int32 → Mm → Option (Int32 × Mm)) : Nat → Int32 → Mm → Option (Int32 × Mm)
  | 0, _, _ => none
  | n + 1, v2, M => if c1 ≤ v2 then K v2 M else if (M.1 (9, i, 0) 3) ≤ 0 then K v2 M else (fX0_playStep M i).bind fun q3 => fX0_playSteps_L2 i c1 K n (v2 + (1 : Int32)) q3
def fX0_playSteps (M : Mm) (i : Nat) (x1 : Int32) : Option (Int32 × Mm) := fX0_playSteps_L2 i x1 (fun w5 M6 => some (w5, M6)) NF (0 : Int32) M
set_option maxRecDepth 20000 in
set_option maxHeartbeats 2000000 in
theorem sX0_playSteps_L2 {wv : Wv} (i : Nat) (c1 : Int32) (hi : i < 12) {res : (Int32 × Mm)} {K : Int32 → Mm → Option (Int32 × Mm)} : ∀ (n : Nat) (v2 : Int32) (M : Mm), fX0_playSteps_L2 i c1 K n v2 M = some res →
    (∀ (v2 : Int32) (M : Mm), K v2 M = some res → Z RX0 cX0_playSteps 3 (some .int) [] "playSteps" (rmD 3 0 0) (QM SH (allR wv) 0 0 (fun v M9 => v = some (.int res.1) ∧ M9 = res.2) (fun _ _ => False)) (allR wv) SH 0 0 24 [some (.inr (9, i, 0)), some (.inl (.int c1)), some (.inl (.int v2))] [] M) → Z RX0 cX0_playSteps 3 (some .int) [] "playSteps" (rmD 3 0 0) (QM SH (allR wv) 0 0 (fun v M9 => v = some (.int res.1) ∧ M9 = res.2) (fun _ _ => False)) (allR wv) SH 0 0 2 [some (.inr (9, i, 0)), some (.inl (.int c1)), some (.inl (.int v2))] [] M := by
  intro n
  induction n with
  | zero => intro v2 M h; cases h
  | succ n ih =>
    intro v2 M h hK
    rw [fX0_playSteps_L2] at h
    refine z_iload_n (i := 2) dX0_playSteps_2 rfl rfl ?_
    refine z_iload_n (i := 1) dX0_playSteps_3 rfl rfl ?_
    refine z_icmp_ge (tgt := 24) dX0_playSteps_4 rfl (fun hc1 => ?_) (fun hc1 => ?_)
    · have h := it_t h hc1
      exact hK _ _ h
    · have h := it_f h hc1
      refine z_aload_n (i := 0) dX0_playSteps_7 rfl rfl ?_
      refine z_getI (x := (M.1 (9, i, 0) 3)) dX0_playSteps_8 fl_X0_33 (m9 _ hi) rfl rfl ?_
      refine z_if_le (tgt := 24) dX0_playSteps_11 rfl (fun hc2 => ?_) (fun hc2 => ?_)
      · have h := it_t h hc2
        exact hK _ _ h
      · have h := it_f h hc2
        refine z_aload_n (i := 0) dX0_playSteps_14 rfl rfl ?_
        obtain ⟨q3, hq4, h⟩ := bnd h
        refine z_fVv (sX0_playStep M i hi hq4) dX0_playSteps_15 ml_X0_111 cd_X0_playStep (m9 _ hi) rfl rfl rfl rfl rfl rfl ?_
        refine z_iinc (i := 2) (v := (v2 + (1 : Int32))) dX0_playSteps_18 rfl (iinc_k kc_1) (Nat.le_of_ble_eq_true rfl) rfl ?_
        refine z_goto (tgt := 2) dX0_playSteps_21 rfl ?_
        exact ih _ _ h hK
set_option maxRecDepth 20000 in
set_option maxHeartbeats 2000000 in
theorem sX0_playSteps {wv : Wv} (M : Mm) (i : Nat) (x1 : Int32) (hi : i < 12) {res : (Int32 × Mm)} (h : fX0_playSteps M i x1 = some res) : TF wv yX0_playSteps cX0_playSteps 3 (some .int) 3 [.inr (9, i, 0), .inl (.int x1)] M (some (.int res.1)) res.2 := by
  rw [fX0_playSteps] at h
  refine TF.go (n := 1) (ls := [some (.inr (9, i, 0)), some (.inl (.int x1)), none]) rfl rfl rfl rfl rfl ?_
  refine z_iconst (v := (0 : Int32)) dX0_playSteps_0 kc_0 ?_
  refine z_istore_n (i := 2) dX0_playSteps_1 rfl (Nat.le_of_ble_eq_true rfl) rfl ?_
  refine sX0_playSteps_L2 i x1 hi NF _ _ h (fun w5 M6 h => ?_)
  refine z_iload_n (i := 2) dX0_playSteps_24 rfl rfl ?_
  cases h
  exact z_iret dX0_playSteps_25 rfl rfl (Nat.le_refl _) (Nat.le_refl _) ⟨rfl, rfl⟩
theorem dX0_playableSteps_0 : decode cX0_playableSteps 0 = .ok (.aload_n 0, 1) := by decide +kernel
theorem dX0_playableSteps_1 : decode cX0_playableSteps 1 = .ok (.getfield 33, 3) := by decide +kernel
theorem dX0_playableSteps_4 : decode cX0_playableSteps 4 = .ok (.ifCond .ne 7, 3) := by decide +kernel
theorem dX0_playableSteps_7 : decode cX0_playableSteps 7 = .ok (.iconst 0, 1) := by decide +kernel
theorem dX0_playableSteps_8 : decode cX0_playableSteps 8 = .ok (.goto 23, 3) := by decide +kernel
theorem dX0_playableSteps_11 : decode cX0_playableSteps 11 = .ok (.aload_n 0, 1) := by decide +kernel
theorem dX0_playableSteps_12 : decode cX0_playableSteps 12 = .ok (.getfield 33, 3) := by decide +kernel
theorem dX0_playableSteps_15 : decode cX0_playableSteps 15 = .ok (.aload_n 0, 1) := by decide +kernel
theorem dX0_playableSteps_16 : decode cX0_playableSteps 16 = .ok (.getfield 12, 3) := by decide +kernel
theorem dX0_playableSteps_19 : decode cX0_playableSteps 19 = .ok (.getfield 64, 3) := by decide +kernel
theorem dX0_playableSteps_22 : decode cX0_playableSteps 22 = .ok (.imul, 1) := by decide +kernel
theorem dX0_playableSteps_23 : decode cX0_playableSteps 23 = .ok (.aload_n 0, 1) := by decide +kernel
theorem dX0_playableSteps_24 : decode cX0_playableSteps 24 = .ok (.getfield 12, 3) := by decide +kernel
theorem dX0_playableSteps_27 : decode cX0_playableSteps 27 = .ok (.getfield 129, 3) := by decide +kernel
theorem dX0_playableSteps_30 : decode cX0_playableSteps 30 = .ok (.isub, 1) := by decide +kernel
theorem dX0_playableSteps_31 : decode cX0_playableSteps 31 = .ok (.ireturn, 1) := by decide +kernel
def fX0_playableSteps (M : Mm) (i : Nat) : Int32 := if (M.1 (9, i, 0) 3) = 0 then (0 : Int32) else (((M.1 (9, i, 0) 3) * (M.1 (10, i, 0) 1)) - (M.1 (10, i, 0) 2))
set_option maxRecDepth 20000 in
set_option maxHeartbeats 2000000 in
theorem tX0_playableSteps {wv : Wv} (M : Mm) (i : Nat) (hi : i < 12) {res : Int32} (h : fX0_playableSteps M i = res) : TF wv yX0_playableSteps cX0_playableSteps 1 (some .int) 0 [.inr (9, i, 0)] M (some (.int res)) M := by
  rw [fX0_playableSteps] at h
  refine TF.go (n := 0) (ls := [some (.inr (9, i, 0))]) rfl rfl rfl rfl rfl ?_
  refine z_aload_n (i := 0) dX0_playableSteps_0 rfl rfl ?_
  refine z_getI (x := (M.1 (9, i, 0) 3)) dX0_playableSteps_1 fl_X0_33 (m9 _ hi) rfl rfl ?_
  refine z_if_ne (tgt := 11) dX0_playableSteps_4 rfl (fun hc1 => ?_) (fun hc1 => ?_)
  · have h := it_f h hc1
    refine z_aload_n (i := 0) dX0_playableSteps_11 rfl rfl ?_
    refine z_getI (x := (M.1 (9, i, 0) 3)) dX0_playableSteps_12 fl_X0_33 (m9 _ hi) rfl rfl ?_
    refine z_aload_n (i := 0) dX0_playableSteps_15 rfl rfl ?_
    refine z_getR (r' := (10, i, 0)) dX0_playableSteps_16 fl_X0_12 (m9 _ hi) rfl rfl ?_
    refine z_getI (x := (M.1 (10, i, 0) 1)) dX0_playableSteps_19 fl_X0_64 (m10 _ hi) rfl rfl ?_
    refine z_imul dX0_playableSteps_22 ?_
    refine z_aload_n (i := 0) dX0_playableSteps_23 rfl rfl ?_
    refine z_getR (r' := (10, i, 0)) dX0_playableSteps_24 fl_X0_12 (m9 _ hi) rfl rfl ?_
    refine z_getI (x := (M.1 (10, i, 0) 2)) dX0_playableSteps_27 fl_X0_129 (m10 _ hi) rfl rfl ?_
    refine z_isub dX0_playableSteps_30 ?_
    subst h
    exact z_iret dX0_playableSteps_31 rfl rfl (Nat.le_refl _) (Nat.le_refl _) ⟨rfl, rfl⟩
  · have h := it_t h hc1
    refine z_iconst (v := (0 : Int32)) dX0_playableSteps_7 kc_0 ?_
    refine z_goto (tgt := 31) dX0_playableSteps_8 rfl ?_
    subst h
    exact z_iret dX0_playableSteps_31 rfl rfl (Nat.le_refl _) (Nat.le_refl _) ⟨rfl, rfl⟩
theorem sX0_playableSteps {wv : Wv} (M : Mm) (i : Nat) (hi : i < 12) : TF wv yX0_playableSteps cX0_playableSteps 1 (some .int) 0 [.inr (9, i, 0)] M (some (.int (fX0_playableSteps M i))) M := tX0_playableSteps M i hi rfl
theorem dX0_stepsPerMinute_0 : decode cX0_stepsPerMinute 0 = .ok (.bipush 60, 2) := by decide +kernel
theorem dX0_stepsPerMinute_2 : decode cX0_stepsPerMinute 2 = .ok (.iconst 4, 1) := by decide +kernel
theorem dX0_stepsPerMinute_3 : decode cX0_stepsPerMinute 3 = .ok (.aload_n 0, 1) := by decide +kernel
theorem dX0_stepsPerMinute_4 : decode cX0_stepsPerMinute 4 = .ok (.getfield 33, 3) := by decide +kernel
theorem dX0_stepsPerMinute_7 : decode cX0_stepsPerMinute 7 = .ok (.imul, 1) := by decide +kernel
theorem dX0_stepsPerMinute_8 : decode cX0_stepsPerMinute 8 = .ok (.iadd, 1) := by decide +kernel
theorem dX0_stepsPerMinute_9 : decode cX0_stepsPerMinute 9 = .ok (.bipush 100, 2) := by decide +kernel
theorem dX0_stepsPerMinute_11 : decode cX0_stepsPerMinute 11 = .ok (.aload_n 0, 1) := by decide +kernel
theorem dX0_stepsPerMinute_12 : decode cX0_stepsPerMinute 12 = .ok (.getfield 36, 3) := by decide +kernel
theorem dX0_stepsPerMinute_15 : decode cX0_stepsPerMinute 15 = .ok (.isub, 1) := by decide +kernel
theorem dX0_stepsPerMinute_16 : decode cX0_stepsPerMinute 16 = .ok (.imul, 1) := by decide +kernel
theorem dX0_stepsPerMinute_17 : decode cX0_stepsPerMinute 17 = .ok (.bipush 100, 2) := by decide +kernel
theorem dX0_stepsPerMinute_19 : decode cX0_stepsPerMinute 19 = .ok (.idiv, 1) := by decide +kernel
theorem dX0_stepsPerMinute_20 : decode cX0_stepsPerMinute 20 = .ok (.ireturn, 1) := by decide +kernel
def fX0_stepsPerMinute (M : Mm) (i : Nat) : Int32 := ((((60 : Int32) + ((4 : Int32) * (M.1 (9, i, 0) 3))) * ((100 : Int32) - (M.1 (9, i, 0) 4))) / (100 : Int32))
set_option maxRecDepth 20000 in
set_option maxHeartbeats 2000000 in
theorem tX0_stepsPerMinute {wv : Wv} (M : Mm) (i : Nat) (hi : i < 12) {res : Int32} (h : fX0_stepsPerMinute M i = res) : TF wv yX0_stepsPerMinute cX0_stepsPerMinute 1 (some .int) 0 [.inr (9, i, 0)] M (some (.int res)) M := by
  rw [fX0_stepsPerMinute] at h
  refine TF.go (n := 0) (ls := [some (.inr (9, i, 0))]) rfl rfl rfl rfl rfl ?_
  refine z_bipush (v := (60 : Int32)) dX0_stepsPerMinute_0 kb_60 ?_
  refine z_iconst (v := (4 : Int32)) dX0_stepsPerMinute_2 kc_4 ?_
  refine z_aload_n (i := 0) dX0_stepsPerMinute_3 rfl rfl ?_
  refine z_getI (x := (M.1 (9, i, 0) 3)) dX0_stepsPerMinute_4 fl_X0_33 (m9 _ hi) rfl rfl ?_
  refine z_imul dX0_stepsPerMinute_7 ?_
  refine z_iadd dX0_stepsPerMinute_8 ?_
  refine z_bipush (v := (100 : Int32)) dX0_stepsPerMinute_9 kb_100 ?_
  refine z_aload_n (i := 0) dX0_stepsPerMinute_11 rfl rfl ?_
  refine z_getI (x := (M.1 (9, i, 0) 4)) dX0_stepsPerMinute_12 fl_X0_36 (m9 _ hi) rfl rfl ?_
  refine z_isub dX0_stepsPerMinute_15 ?_
  refine z_imul dX0_stepsPerMinute_16 ?_
  refine z_bipush (v := (100 : Int32)) dX0_stepsPerMinute_17 kb_100 ?_
  refine z_idiv dX0_stepsPerMinute_19 (by decide) ?_
  subst h
  exact z_iret dX0_stepsPerMinute_20 rfl rfl (Nat.le_refl _) (Nat.le_refl _) ⟨rfl, rfl⟩
theorem sX0_stepsPerMinute {wv : Wv} (M : Mm) (i : Nat) (hi : i < 12) : TF wv yX0_stepsPerMinute cX0_stepsPerMinute 1 (some .int) 0 [.inr (9, i, 0)] M (some (.int (fX0_stepsPerMinute M i))) M := tX0_stepsPerMinute M i hi rfl
theorem dX3_stepsBack_0 : decode cX3_stepsBack 0 = .ok (.iconst 1, 1) := by decide +kernel
theorem dX3_stepsBack_1 : decode cX3_stepsBack 1 = .ok (.istore 4, 2) := by decide +kernel
theorem dX3_stepsBack_3 : decode cX3_stepsBack 3 = .ok (.iload 4, 2) := by decide +kernel
theorem dX3_stepsBack_5 : decode cX3_stepsBack 5 = .ok (.aload_n 0, 1) := by decide +kernel
theorem dX3_stepsBack_6 : decode cX3_stepsBack 6 = .ok (.getfield 15, 3) := by decide +kernel
theorem dX3_stepsBack_9 : decode cX3_stepsBack 9 = .ok (.if_icmp .ge 47, 3) := by decide +kernel
theorem dX3_stepsBack_12 : decode cX3_stepsBack 12 = .ok (.iload_n 3, 1) := by decide +kernel
theorem dX3_stepsBack_13 : decode cX3_stepsBack 13 = .ok (.iload 4, 2) := by decide +kernel
theorem dX3_stepsBack_15 : decode cX3_stepsBack 15 = .ok (.if_icmp .lt 10, 3) := by decide +kernel
theorem dX3_stepsBack_18 : decode cX3_stepsBack 18 = .ok (.iload_n 3, 1) := by decide +kernel
theorem dX3_stepsBack_19 : decode cX3_stepsBack 19 = .ok (.iload 4, 2) := by decide +kernel
theorem dX3_stepsBack_21 : decode cX3_stepsBack 21 = .ok (.isub, 1) := by decide +kernel
theorem dX3_stepsBack_22 : decode cX3_stepsBack 22 = .ok (.goto 12, 3) := by decide +kernel
theorem dX3_stepsBack_25 : decode cX3_stepsBack 25 = .ok (.iload_n 3, 1) := by decide +kernel
theorem dX3_stepsBack_26 : decode cX3_stepsBack 26 = .ok (.iload 4, 2) := by decide +kernel
theorem dX3_stepsBack_28 : decode cX3_stepsBack 28 = .ok (.isub, 1) := by decide +kernel
theorem dX3_stepsBack_29 : decode cX3_stepsBack 29 = .ok (.aload_n 0, 1) := by decide +kernel
theorem dX3_stepsBack_30 : decode cX3_stepsBack 30 = .ok (.getfield 15, 3) := by decide +kernel
theorem dX3_stepsBack_33 : decode cX3_stepsBack 33 = .ok (.iadd, 1) := by decide +kernel
theorem dX3_stepsBack_34 : decode cX3_stepsBack 34 = .ok (.istore 5, 2) := by decide +kernel
theorem dX3_stepsBack_36 : decode cX3_stepsBack 36 = .ok (.aload_n 0, 1) := by decide +kernel
theorem dX3_stepsBack_37 : decode cX3_stepsBack 37 = .ok (.iload_n 1, 1) := by decide +kernel
theorem dX3_stepsBack_38 : decode cX3_stepsBack 38 = .ok (.iload_n 2, 1) := by decide +kernel
theorem dX3_stepsBack_39 : decode cX3_stepsBack 39 = .ok (.iload 5, 2) := by decide +kernel
theorem dX3_stepsBack_41 : decode cX3_stepsBack 41 = .ok (.invokevirtual 57, 3) := by decide +kernel
theorem dX3_stepsBack_44 : decode cX3_stepsBack 44 = .ok (.ifCond .eq 6, 3) := by decide +kernel
theorem dX3_stepsBack_47 : decode cX3_stepsBack 47 = .ok (.iload 4, 2) := by decide +kernel
theorem dX3_stepsBack_49 : decode cX3_stepsBack 49 = .ok (.ireturn, 1) := by decide +kernel
theorem dX3_stepsBack_50 : decode cX3_stepsBack 50 = .ok (.iinc 4 1, 3) := by decide +kernel
theorem dX3_stepsBack_53 : decode cX3_stepsBack 53 = .ok (.goto (-50), 3) := by decide +kernel
theorem dX3_stepsBack_56 : decode cX3_stepsBack 56 = .ok (.aload_n 0, 1) := by decide +kernel
theorem dX3_stepsBack_57 : decode cX3_stepsBack 57 = .ok (.getfield 15, 3) := by decide +kernel
theorem dX3_stepsBack_60 : decode cX3_stepsBack 60 = .ok (.ireturn, 1) := by decide +kernel
def fX3_stepsBack_L3 (M : Mm) (i : Nat) (c1 : Int32) (c2 : Int32) (c3 : Int32) (K : Int32 → Option Int32) : Nat → Int32 → Option Int32
  | 0, _ => none
  | n + 1, v4 => if (M.1 (10, i, 0) 1) ≤ v4 then K v4 else if c3 < v4 then ((fX3_hasPin M i c1 c2 ((c3 - v4) + (M.1 (10, i, 0) 1))).bind fun q3 => if q3 = 0 then fX3_stepsBack_L3 M i c1 c2 c3 K n (v4 + (1 : Int32)) else some v4) else (fX3_hasPin M i c1 c2 (c3 - v4)).bind fun q6 => if q6 = 0 then fX3_stepsBack_L3 M i c1 c2 c3 K n (v4 + (1 : Int32)) else some v4
def fX3_stepsBack (M : Mm) (i : Nat) (x1 : Int32) (x2 : Int32) (x3 : Int32) : Option Int32 := fX3_stepsBack_L3 M i x1 x2 x3 (fun w9 => some (M.1 (10, i, 0) 1)) NF (1 : Int32)
set_option maxRecDepth 20000 in
set_option maxHeartbeats 2000000 in
theorem sX3_stepsBack_L3 {wv : Wv} (M : Mm) (i : Nat) (c1 : Int32) (c2 : Int32) (c3 : Int32) (hi : i < 12) {res : Int32} {K : Int32 → Option Int32} : ∀ (n : Nat) (v4 : Int32), fX3_stepsBack_L3 M i c1 c2 c3 K n v4 = some res →
    (∀ (v4 : Int32), K v4 = some res → Z RX3 cX3_stepsBack 6 (some .int) [] "stepsBack" (rmD 1 0 0) (QM SH (allR wv) 0 0 (fun v M9 => v = some (.int res) ∧ M9 = M) (fun _ _ => False)) (allR wv) SH 0 0 56 [some (.inr (10, i, 0)), some (.inl (.int c1)), some (.inl (.int c2)), some (.inl (.int c3)), some (.inl (.int v4)), none] [] M) → Z RX3 cX3_stepsBack 6 (some .int) [] "stepsBack" (rmD 1 0 0) (QM SH (allR wv) 0 0 (fun v M9 => v = some (.int res) ∧ M9 = M) (fun _ _ => False)) (allR wv) SH 0 0 3 [some (.inr (10, i, 0)), some (.inl (.int c1)), some (.inl (.int c2)), some (.inl (.int c3)), some (.inl (.int v4)), none] [] M := by
  intro n
  induction n with
  | zero => intro v4 h; cases h
  | succ n ih =>
    intro v4 h hK
    rw [fX3_stepsBack_L3] at h
    refine z_iload (i := 4) dX3_stepsBack_3 rfl ?_
    refine z_aload_n (i := 0) dX3_stepsBack_5 rfl rfl ?_
    refine z_getI (x := (M.1 (10, i, 0) 1)) dX3_stepsBack_6 fl_X3_15 (m10 _ hi) rfl rfl ?_
    refine z_icmp_ge (tgt := 56) dX3_stepsBack_9 rfl (fun hc1 => ?_) (fun hc1 => ?_)
    · have h := it_t h hc1
      exact hK _ h
    · have h := it_f h hc1
      refine z_iload_n (i := 3) dX3_stepsBack_12 rfl rfl ?_
      refine z_iload (i := 4) dX3_stepsBack_13 rfl ?_
      refine z_icmp_lt (tgt := 25) dX3_stepsBack_15 rfl (fun hc2 => ?_) (fun hc2 => ?_)
      · have h := it_t h hc2
        refine z_iload_n (i := 3) dX3_stepsBack_25 rfl rfl ?_
        refine z_iload (i := 4) dX3_stepsBack_26 rfl ?_
        refine z_isub dX3_stepsBack_28 ?_
        refine z_aload_n (i := 0) dX3_stepsBack_29 rfl rfl ?_
        refine z_getI (x := (M.1 (10, i, 0) 1)) dX3_stepsBack_30 fl_X3_15 (m10 _ hi) rfl rfl ?_
        refine z_iadd dX3_stepsBack_33 ?_
        refine z_istore (i := 5) dX3_stepsBack_34 (Nat.le_of_ble_eq_true rfl) rfl ?_
        refine z_aload_n (i := 0) dX3_stepsBack_36 rfl rfl ?_
        refine z_iload_n (i := 1) dX3_stepsBack_37 rfl rfl ?_
        refine z_iload_n (i := 2) dX3_stepsBack_38 rfl rfl ?_
        refine z_iload (i := 5) dX3_stepsBack_39 rfl ?_
        obtain ⟨q3, hq4, h⟩ := bnd h
        refine z_fVi (sX3_hasPin M i c1 c2 ((c3 - v4) + (M.1 (10, i, 0) 1)) hi hq4) dX3_stepsBack_41 ml_X3_57 cd_X3_hasPin (m10 _ hi) rfl rfl rfl rfl rfl rfl ?_
        refine z_if_eq (tgt := 50) dX3_stepsBack_44 rfl (fun hc5 => ?_) (fun hc5 => ?_)
        · have h := it_t h hc5
          refine z_iinc (i := 4) (v := (v4 + (1 : Int32))) dX3_stepsBack_50 rfl (iinc_k kc_1) (Nat.le_of_ble_eq_true rfl) rfl ?_
          refine z_goto (tgt := 3) dX3_stepsBack_53 rfl ?_
          refine z_fgt (i := 5) ?_
          exact ih _ h hK
        · have h := it_f h hc5
          refine z_iload (i := 4) dX3_stepsBack_47 rfl ?_
          cases h
          exact z_iret dX3_stepsBack_49 rfl rfl (Nat.le_refl _) (Nat.le_refl _) ⟨rfl, rfl⟩
      · have h := it_f h hc2
        refine z_iload_n (i := 3) dX3_stepsBack_18 rfl rfl ?_
        refine z_iload (i := 4) dX3_stepsBack_19 rfl ?_
        refine z_isub dX3_stepsBack_21 ?_
        refine z_goto (tgt := 34) dX3_stepsBack_22 rfl ?_
        refine z_istore (i := 5) dX3_stepsBack_34 (Nat.le_of_ble_eq_true rfl) rfl ?_
        refine z_aload_n (i := 0) dX3_stepsBack_36 rfl rfl ?_
        refine z_iload_n (i := 1) dX3_stepsBack_37 rfl rfl ?_
        refine z_iload_n (i := 2) dX3_stepsBack_38 rfl rfl ?_
        refine z_iload (i := 5) dX3_stepsBack_39 rfl ?_
        obtain ⟨q6, hq7, h⟩ := bnd h
        refine z_fVi (sX3_hasPin M i c1 c2 (c3 - v4) hi hq7) dX3_stepsBack_41 ml_X3_57 cd_X3_hasPin (m10 _ hi) rfl rfl rfl rfl rfl rfl ?_
        refine z_if_eq (tgt := 50) dX3_stepsBack_44 rfl (fun hc8 => ?_) (fun hc8 => ?_)
        · have h := it_t h hc8
          refine z_iinc (i := 4) (v := (v4 + (1 : Int32))) dX3_stepsBack_50 rfl (iinc_k kc_1) (Nat.le_of_ble_eq_true rfl) rfl ?_
          refine z_goto (tgt := 3) dX3_stepsBack_53 rfl ?_
          refine z_fgt (i := 5) ?_
          exact ih _ h hK
        · have h := it_f h hc8
          refine z_iload (i := 4) dX3_stepsBack_47 rfl ?_
          cases h
          exact z_iret dX3_stepsBack_49 rfl rfl (Nat.le_refl _) (Nat.le_refl _) ⟨rfl, rfl⟩
set_option maxRecDepth 20000 in
set_option maxHeartbeats 2000000 in
theorem sX3_stepsBack {wv : Wv} (M : Mm) (i : Nat) (x1 : Int32) (x2 : Int32) (x3 : Int32) (hi : i < 12) {res : Int32} (h : fX3_stepsBack M i x1 x2 x3 = some res) : TF wv yX3_stepsBack cX3_stepsBack 6 (some .int) 1 [.inr (10, i, 0), .inl (.int x1), .inl (.int x2), .inl (.int x3)] M (some (.int res)) M := by
  rw [fX3_stepsBack] at h
  refine TF.go (n := 2) (ls := [some (.inr (10, i, 0)), some (.inl (.int x1)), some (.inl (.int x2)), some (.inl (.int x3)), none, none]) rfl rfl rfl rfl rfl ?_
  refine z_iconst (v := (1 : Int32)) dX3_stepsBack_0 kc_1 ?_
  refine z_istore (i := 4) dX3_stepsBack_1 (Nat.le_of_ble_eq_true rfl) rfl ?_
  refine sX3_stepsBack_L3 M i x1 x2 x3 hi NF _ h (fun w9 h => ?_)
  refine z_aload_n (i := 0) dX3_stepsBack_56 rfl rfl ?_
  refine z_getI (x := (M.1 (10, i, 0) 1)) dX3_stepsBack_57 fl_X3_15 (m10 _ hi) rfl rfl ?_
  cases h
  exact z_iret dX3_stepsBack_60 rfl rfl (Nat.le_refl _) (Nat.le_refl _) ⟨rfl, rfl⟩
theorem dX0_closePinAt_0 : decode cX0_closePinAt 0 = .ok (.aload_n 0, 1) := by decide +kernel
theorem dX0_closePinAt_1 : decode cX0_closePinAt 1 = .ok (.getfield 12, 3) := by decide +kernel
theorem dX0_closePinAt_4 : decode cX0_closePinAt 4 = .ok (.iload_n 1, 1) := by decide +kernel
theorem dX0_closePinAt_5 : decode cX0_closePinAt 5 = .ok (.iload_n 2, 1) := by decide +kernel
theorem dX0_closePinAt_6 : decode cX0_closePinAt 6 = .ok (.iload_n 3, 1) := by decide +kernel
theorem dX0_closePinAt_7 : decode cX0_closePinAt 7 = .ok (.invokevirtual 87, 3) := by decide +kernel
theorem dX0_closePinAt_10 : decode cX0_closePinAt 10 = .ok (.ifCond .eq 29, 3) := by decide +kernel
theorem dX0_closePinAt_13 : decode cX0_closePinAt 13 = .ok (.aload_n 0, 1) := by decide +kernel
theorem dX0_closePinAt_14 : decode cX0_closePinAt 14 = .ok (.getfield 12, 3) := by decide +kernel
theorem dX0_closePinAt_17 : decode cX0_closePinAt 17 = .ok (.iload_n 1, 1) := by decide +kernel
theorem dX0_closePinAt_18 : decode cX0_closePinAt 18 = .ok (.iload_n 2, 1) := by decide +kernel
theorem dX0_closePinAt_19 : decode cX0_closePinAt 19 = .ok (.iload_n 3, 1) := by decide +kernel
theorem dX0_closePinAt_20 : decode cX0_closePinAt 20 = .ok (.invokevirtual 135, 3) := by decide +kernel
theorem dX0_closePinAt_23 : decode cX0_closePinAt 23 = .ok (.aload_n 0, 1) := by decide +kernel
theorem dX0_closePinAt_24 : decode cX0_closePinAt 24 = .ok (.getfield 20, 3) := by decide +kernel
theorem dX0_closePinAt_27 : decode cX0_closePinAt 27 = .ok (.iload_n 2, 1) := by decide +kernel
theorem dX0_closePinAt_28 : decode cX0_closePinAt 28 = .ok (.aaload, 1) := by decide +kernel
theorem dX0_closePinAt_29 : decode cX0_closePinAt 29 = .ok (.getfield 138, 3) := by decide +kernel
theorem dX0_closePinAt_32 : decode cX0_closePinAt 32 = .ok (.if_icmp .ge 7, 3) := by decide +kernel
theorem dX0_closePinAt_35 : decode cX0_closePinAt 35 = .ok (.iconst 1, 1) := by decide +kernel
theorem dX0_closePinAt_36 : decode cX0_closePinAt 36 = .ok (.goto 4, 3) := by decide +kernel
theorem dX0_closePinAt_39 : decode cX0_closePinAt 39 = .ok (.iconst 0, 1) := by decide +kernel
theorem dX0_closePinAt_40 : decode cX0_closePinAt 40 = .ok (.ireturn, 1) := by decide +kernel
def fX0_closePinAt (M : Mm) (i : Nat) (x1 : Int32) (x2 : Int32) (x3 : Int32) : Option Int32 := (fX3_hasPin M i x1 x2 x3).bind fun q1 => if q1 = 0 then some (0 : Int32) else (fX3_stepsBack M i x1 x2 x3).bind fun q4 => if x2 < 0 ∨ 12 ≤ x2.toNatClampNeg then none else if (M.1 (13, i, x2.toNatClampNeg) 2) ≤ q4 then some (0 : Int32) else some (1 : Int32)
set_option maxRecDepth 20000 in
set_option maxHeartbeats 2000000 in
theorem sX0_closePinAt {wv : Wv} (M : Mm) (i : Nat) (x1 : Int32) (x2 : Int32) (x3 : Int32) (hi : i < 12) {res : Int32} (h : fX0_closePinAt M i x1 x2 x3 = some res) : TF wv yX0_closePinAt cX0_closePinAt 4 (some .boolean) 2 [.inr (9, i, 0), .inl (.int x1), .inl (.int x2), .inl (.int x3)] M (some (.int res)) M := by
  rw [fX0_closePinAt] at h
  refine TF.go (n := 0) (ls := [some (.inr (9, i, 0)), some (.inl (.int x1)), some (.inl (.int x2)), some (.inl (.int x3))]) rfl rfl rfl rfl rfl ?_
  refine z_aload_n (i := 0) dX0_closePinAt_0 rfl rfl ?_
  refine z_getR (r' := (10, i, 0)) dX0_closePinAt_1 fl_X0_12 (m9 _ hi) rfl rfl ?_
  refine z_iload_n (i := 1) dX0_closePinAt_4 rfl rfl ?_
  refine z_iload_n (i := 2) dX0_closePinAt_5 rfl rfl ?_
  refine z_iload_n (i := 3) dX0_closePinAt_6 rfl rfl ?_
  obtain ⟨q1, hq2, h⟩ := bnd h
  refine z_fVi (sX3_hasPin M i x1 x2 x3 hi hq2) dX0_closePinAt_7 ml_X0_87 cd_X3_hasPin (m10 _ hi) rfl rfl rfl rfl rfl rfl ?_
  refine z_if_eq (tgt := 39) dX0_closePinAt_10 rfl (fun hc3 => ?_) (fun hc3 => ?_)
  · have h := it_t h hc3
    refine z_iconst (v := (0 : Int32)) dX0_closePinAt_39 kc_0 ?_
    cases h
    exact z_iret dX0_closePinAt_40 rfl rfl (Nat.le_refl _) (Nat.le_refl _) ⟨rfl, rfl⟩
  · have h := it_f h hc3
    refine z_aload_n (i := 0) dX0_closePinAt_13 rfl rfl ?_
    refine z_getR (r' := (10, i, 0)) dX0_closePinAt_14 fl_X0_12 (m9 _ hi) rfl rfl ?_
    refine z_iload_n (i := 1) dX0_closePinAt_17 rfl rfl ?_
    refine z_iload_n (i := 2) dX0_closePinAt_18 rfl rfl ?_
    refine z_iload_n (i := 3) dX0_closePinAt_19 rfl rfl ?_
    obtain ⟨q4, hq5, h⟩ := bnd h
    refine z_fVi (sX3_stepsBack M i x1 x2 x3 hi hq5) dX0_closePinAt_20 ml_X0_135 cd_X3_stepsBack (m10 _ hi) rfl rfl rfl rfl rfl rfl ?_
    refine z_aload_n (i := 0) dX0_closePinAt_23 rfl rfl ?_
    refine z_getR (r' := (12, i, 0)) dX0_closePinAt_24 fl_X0_20 (m9 _ hi) rfl rfl ?_
    refine z_iload_n (i := 2) dX0_closePinAt_27 rfl rfl ?_
    obtain ⟨hc6, h⟩ := chk h
    refine z_aald (t := 0) (r' := (13, i, x2.toNatClampNeg)) dX0_closePinAt_28 (m12 _ hi) rfl (Nat.le_of_ble_eq_true rfl) hc6 rfl ?_
    refine z_getI (x := (M.1 (13, i, x2.toNatClampNeg) 2)) dX0_closePinAt_29 fl_X0_138 (m13 _ hi _ (ltN hc6)) rfl rfl ?_
    refine z_icmp_ge (tgt := 39) dX0_closePinAt_32 rfl (fun hc7 => ?_) (fun hc7 => ?_)
    · have h := it_t h hc7
      refine z_iconst (v := (0 : Int32)) dX0_closePinAt_39 kc_0 ?_
      cases h
      exact z_iret dX0_closePinAt_40 rfl rfl (Nat.le_refl _) (Nat.le_refl _) ⟨rfl, rfl⟩
    · have h := it_f h hc7
      refine z_iconst (v := (1 : Int32)) dX0_closePinAt_35 kc_1 ?_
      refine z_goto (tgt := 40) dX0_closePinAt_36 rfl ?_
      cases h
      exact z_iret dX0_closePinAt_40 rfl rfl (Nat.le_refl _) (Nat.le_refl _) ⟨rfl, rfl⟩
theorem dX0_closePinsOf_0 : decode cX0_closePinsOf 0 = .ok (.iconst 0, 1) := by decide +kernel
theorem dX0_closePinsOf_1 : decode cX0_closePinsOf 1 = .ok (.istore_n 2, 1) := by decide +kernel
theorem dX0_closePinsOf_2 : decode cX0_closePinsOf 2 = .ok (.iconst 0, 1) := by decide +kernel
theorem dX0_closePinsOf_3 : decode cX0_closePinsOf 3 = .ok (.istore_n 3, 1) := by decide +kernel
theorem dX0_closePinsOf_4 : decode cX0_closePinsOf 4 = .ok (.iload_n 3, 1) := by decide +kernel
theorem dX0_closePinsOf_5 : decode cX0_closePinsOf 5 = .ok (.aload_n 0, 1) := by decide +kernel
theorem dX0_closePinsOf_6 : decode cX0_closePinsOf 6 = .ok (.getfield 29, 3) := by decide +kernel
theorem dX0_closePinsOf_9 : decode cX0_closePinsOf 9 = .ok (.if_icmp .ge 50, 3) := by decide +kernel
theorem dX0_closePinsOf_12 : decode cX0_closePinsOf 12 = .ok (.iload_n 3, 1) := by decide +kernel
theorem dX0_closePinsOf_13 : decode cX0_closePinsOf 13 = .ok (.bipush 12, 2) := by decide +kernel
theorem dX0_closePinsOf_15 : decode cX0_closePinsOf 15 = .ok (.if_icmp .ge 44, 3) := by decide +kernel
theorem dX0_closePinsOf_18 : decode cX0_closePinsOf 18 = .ok (.iconst 0, 1) := by decide +kernel
theorem dX0_closePinsOf_19 : decode cX0_closePinsOf 19 = .ok (.istore 4, 2) := by decide +kernel
theorem dX0_closePinsOf_21 : decode cX0_closePinsOf 21 = .ok (.iload 4, 2) := by decide +kernel
theorem dX0_closePinsOf_23 : decode cX0_closePinsOf 23 = .ok (.aload_n 0, 1) := by decide +kernel
theorem dX0_closePinsOf_24 : decode cX0_closePinsOf 24 = .ok (.getfield 12, 3) := by decide +kernel
theorem dX0_closePinsOf_27 : decode cX0_closePinsOf 27 = .ok (.getfield 64, 3) := by decide +kernel
theorem dX0_closePinsOf_30 : decode cX0_closePinsOf 30 = .ok (.if_icmp .ge 23, 3) := by decide +kernel
theorem dX0_closePinsOf_33 : decode cX0_closePinsOf 33 = .ok (.aload_n 0, 1) := by decide +kernel
theorem dX0_closePinsOf_34 : decode cX0_closePinsOf 34 = .ok (.iload_n 1, 1) := by decide +kernel
theorem dX0_closePinsOf_35 : decode cX0_closePinsOf 35 = .ok (.iload_n 3, 1) := by decide +kernel
theorem dX0_closePinsOf_36 : decode cX0_closePinsOf 36 = .ok (.iload 4, 2) := by decide +kernel
theorem dX0_closePinsOf_38 : decode cX0_closePinsOf 38 = .ok (.invokevirtual 141, 3) := by decide +kernel
theorem dX0_closePinsOf_41 : decode cX0_closePinsOf 41 = .ok (.ifCond .eq 6, 3) := by decide +kernel
theorem dX0_closePinsOf_44 : decode cX0_closePinsOf 44 = .ok (.iinc 2 1, 3) := by decide +kernel
theorem dX0_closePinsOf_47 : decode cX0_closePinsOf 47 = .ok (.iinc 4 1, 3) := by decide +kernel
theorem dX0_closePinsOf_50 : decode cX0_closePinsOf 50 = .ok (.goto (-29), 3) := by decide +kernel
theorem dX0_closePinsOf_53 : decode cX0_closePinsOf 53 = .ok (.iinc 3 1, 3) := by decide +kernel
theorem dX0_closePinsOf_56 : decode cX0_closePinsOf 56 = .ok (.goto (-52), 3) := by decide +kernel
theorem dX0_closePinsOf_59 : decode cX0_closePinsOf 59 = .ok (.iload_n 2, 1) := by decide +kernel
theorem dX0_closePinsOf_60 : decode cX0_closePinsOf 60 = .ok (.ireturn, 1) := by decide +kernel
def fX0_closePinsOf_L21 (M : Mm) (i : Nat) (c1 : Int32) (c3 : Int32) (K : Int32 → Int32 → Option Int32) : Nat → Int32 → Int32 → Option Int32
  | 0, _, _ => none
  | n + 1, v2, v4 => if (M.1 (10, i, 0) 1) ≤ v4 then K v2 v4 else (fX0_closePinAt M i c1 c3 v4).bind fun q4 => if q4 = 0 then fX0_closePinsOf_L21 M i c1 c3 K n v2 (v4 + (1 : Int32)) else fX0_closePinsOf_L21 M i c1 c3 K n (v2 + (1 : Int32)) (v4 + (1 : Int32))
def fX0_closePinsOf_L4 (M : Mm) (i : Nat) (c1 : Int32) (K : Int32 → Int32 → Option Int32) : Nat → Int32 → Int32 → Option Int32
  | 0, _, _ => none
  | n + 1, v2, v3 => if (M.1 (9, i, 0) 2) ≤ v3 then K v2 v3 else if (12 : Int32) ≤ v3 then K v2 v3 else fX0_closePinsOf_L21 M i c1 v3 (fun w7 w8 => fX0_closePinsOf_L4 M i c1 K n w7 (v3 + (1 : Int32))) NF v2 (0 : Int32)
def fX0_closePinsOf (M : Mm) (i : Nat) (x1 : Int32) : Option Int32 := fX0_closePinsOf_L4 M i x1 (fun w9 w10 => some w9) NF (0 : Int32) (0 : Int32)
set_option maxRecDepth 20000 in
set_option maxHeartbeats 2000000 in
theorem sX0_closePinsOf_L21 {wv : Wv} (M : Mm) (i : Nat) (c1 : Int32) (c3 : Int32) (hi : i < 12) {res : Int32} {K : Int32 → Int32 → Option Int32} : ∀ (n : Nat) (v2 : Int32) (v4 : Int32), fX0_closePinsOf_L21 M i c1 c3 K n v2 v4 = some res →
    (∀ (v2 : Int32) (v4 : Int32), K v2 v4 = some res → Z RX0 cX0_closePinsOf 5 (some .int) [] "closePinsOf" (rmD 3 0 0) (QM SH (allR wv) 0 0 (fun v M9 => v = some (.int res) ∧ M9 = M) (fun _ _ => False)) (allR wv) SH 0 0 53 [some (.inr (9, i, 0)), some (.inl (.int c1)), some (.inl (.int v2)), some (.inl (.int c3)), some (.inl (.int v4))] [] M) → Z RX0 cX0_closePinsOf 5 (some .int) [] "closePinsOf" (rmD 3 0 0) (QM SH (allR wv) 0 0 (fun v M9 => v = some (.int res) ∧ M9 = M) (fun _ _ => False)) (allR wv) SH 0 0 21 [some (.inr (9, i, 0)), some (.inl (.int c1)), some (.inl (.int v2)), some (.inl (.int c3)), some (.inl (.int v4))] [] M := by
  intro n
  induction n with
  | zero => intro v2 v4 h; cases h
  | succ n ih =>
    intro v2 v4 h hK
    rw [fX0_closePinsOf_L21] at h
    refine z_iload (i := 4) dX0_closePinsOf_21 rfl ?_
    refine z_aload_n (i := 0) dX0_closePinsOf_23 rfl rfl ?_
    refine z_getR (r' := (10, i, 0)) dX0_closePinsOf_24 fl_X0_12 (m9 _ hi) rfl rfl ?_
    refine z_getI (x := (M.1 (10, i, 0) 1)) dX0_closePinsOf_27 fl_X0_64 (m10 _ hi) rfl rfl ?_
    refine z_icmp_ge (tgt := 53) dX0_closePinsOf_30 rfl (fun hc3 => ?_) (fun hc3 => ?_)
    · have h := it_t h hc3
      exact hK _ _ h
    · have h := it_f h hc3
      refine z_aload_n (i := 0) dX0_closePinsOf_33 rfl rfl ?_
      refine z_iload_n (i := 1) dX0_closePinsOf_34 rfl rfl ?_
      refine z_iload_n (i := 3) dX0_closePinsOf_35 rfl rfl ?_
      refine z_iload (i := 4) dX0_closePinsOf_36 rfl ?_
      obtain ⟨q4, hq5, h⟩ := bnd h
      refine z_fVi (sX0_closePinAt M i c1 c3 v4 hi hq5) dX0_closePinsOf_38 ml_X0_141 cd_X0_closePinAt (m9 _ hi) rfl rfl rfl rfl rfl rfl ?_
      refine z_if_eq (tgt := 47) dX0_closePinsOf_41 rfl (fun hc6 => ?_) (fun hc6 => ?_)
      · have h := it_t h hc6
        refine z_iinc (i := 4) (v := (v4 + (1 : Int32))) dX0_closePinsOf_47 rfl (iinc_k kc_1) (Nat.le_of_ble_eq_true rfl) rfl ?_
        refine z_goto (tgt := 21) dX0_closePinsOf_50 rfl ?_
        exact ih _ _ h hK
      · have h := it_f h hc6
        refine z_iinc (i := 2) (v := (v2 + (1 : Int32))) dX0_closePinsOf_44 rfl (iinc_k kc_1) (Nat.le_of_ble_eq_true rfl) rfl ?_
        refine z_iinc (i := 4) (v := (v4 + (1 : Int32))) dX0_closePinsOf_47 rfl (iinc_k kc_1) (Nat.le_of_ble_eq_true rfl) rfl ?_
        refine z_goto (tgt := 21) dX0_closePinsOf_50 rfl ?_
        exact ih _ _ h hK
set_option maxRecDepth 20000 in
set_option maxHeartbeats 2000000 in
theorem sX0_closePinsOf_L4 {wv : Wv} (M : Mm) (i : Nat) (c1 : Int32) (hi : i < 12) {res : Int32} {K : Int32 → Int32 → Option Int32} : ∀ (n : Nat) (v2 : Int32) (v3 : Int32), fX0_closePinsOf_L4 M i c1 K n v2 v3 = some res →
    (∀ (v2 : Int32) (v3 : Int32), K v2 v3 = some res → Z RX0 cX0_closePinsOf 5 (some .int) [] "closePinsOf" (rmD 3 0 0) (QM SH (allR wv) 0 0 (fun v M9 => v = some (.int res) ∧ M9 = M) (fun _ _ => False)) (allR wv) SH 0 0 59 [some (.inr (9, i, 0)), some (.inl (.int c1)), some (.inl (.int v2)), some (.inl (.int v3)), none] [] M) → Z RX0 cX0_closePinsOf 5 (some .int) [] "closePinsOf" (rmD 3 0 0) (QM SH (allR wv) 0 0 (fun v M9 => v = some (.int res) ∧ M9 = M) (fun _ _ => False)) (allR wv) SH 0 0 4 [some (.inr (9, i, 0)), some (.inl (.int c1)), some (.inl (.int v2)), some (.inl (.int v3)), none] [] M := by
  intro n
  induction n with
  | zero => intro v2 v3 h; cases h
  | succ n ih =>
    intro v2 v3 h hK
    rw [fX0_closePinsOf_L4] at h
    refine z_iload_n (i := 3) dX0_closePinsOf_4 rfl rfl ?_
    refine z_aload_n (i := 0) dX0_closePinsOf_5 rfl rfl ?_
    refine z_getI (x := (M.1 (9, i, 0) 2)) dX0_closePinsOf_6 fl_X0_29 (m9 _ hi) rfl rfl ?_
    refine z_icmp_ge (tgt := 59) dX0_closePinsOf_9 rfl (fun hc1 => ?_) (fun hc1 => ?_)
    · have h := it_t h hc1
      exact hK _ _ h
    · have h := it_f h hc1
      refine z_iload_n (i := 3) dX0_closePinsOf_12 rfl rfl ?_
      refine z_bipush (v := (12 : Int32)) dX0_closePinsOf_13 kb_12 ?_
      refine z_icmp_ge (tgt := 59) dX0_closePinsOf_15 rfl (fun hc2 => ?_) (fun hc2 => ?_)
      · have h := it_t h hc2
        exact hK _ _ h
      · have h := it_f h hc2
        refine z_iconst (v := (0 : Int32)) dX0_closePinsOf_18 kc_0 ?_
        refine z_istore (i := 4) dX0_closePinsOf_19 (Nat.le_of_ble_eq_true rfl) rfl ?_
        refine sX0_closePinsOf_L21 M i c1 v3 hi NF _ _ h (fun w7 w8 h => ?_)
        refine z_iinc (i := 3) (v := (v3 + (1 : Int32))) dX0_closePinsOf_53 rfl (iinc_k kc_1) (Nat.le_of_ble_eq_true rfl) rfl ?_
        refine z_goto (tgt := 4) dX0_closePinsOf_56 rfl ?_
        refine z_fgt (i := 4) ?_
        exact ih _ _ h hK
set_option maxRecDepth 20000 in
set_option maxHeartbeats 2000000 in
theorem sX0_closePinsOf {wv : Wv} (M : Mm) (i : Nat) (x1 : Int32) (hi : i < 12) {res : Int32} (h : fX0_closePinsOf M i x1 = some res) : TF wv yX0_closePinsOf cX0_closePinsOf 5 (some .int) 3 [.inr (9, i, 0), .inl (.int x1)] M (some (.int res)) M := by
  rw [fX0_closePinsOf] at h
  refine TF.go (n := 3) (ls := [some (.inr (9, i, 0)), some (.inl (.int x1)), none, none, none]) rfl rfl rfl rfl rfl ?_
  refine z_iconst (v := (0 : Int32)) dX0_closePinsOf_0 kc_0 ?_
  refine z_istore_n (i := 2) dX0_closePinsOf_1 rfl (Nat.le_of_ble_eq_true rfl) rfl ?_
  refine z_iconst (v := (0 : Int32)) dX0_closePinsOf_2 kc_0 ?_
  refine z_istore_n (i := 3) dX0_closePinsOf_3 rfl (Nat.le_of_ble_eq_true rfl) rfl ?_
  refine sX0_closePinsOf_L4 M i x1 hi NF _ _ h (fun w9 w10 h => ?_)
  refine z_iload_n (i := 2) dX0_closePinsOf_59 rfl rfl ?_
  cases h
  exact z_iret dX0_closePinsOf_60 rfl rfl (Nat.le_refl _) (Nat.le_refl _) ⟨rfl, rfl⟩
theorem dX0_brokenCount_0 : decode cX0_brokenCount 0 = .ok (.iconst 0, 1) := by decide +kernel
theorem dX0_brokenCount_1 : decode cX0_brokenCount 1 = .ok (.istore_n 1, 1) := by decide +kernel
theorem dX0_brokenCount_2 : decode cX0_brokenCount 2 = .ok (.iconst 0, 1) := by decide +kernel
theorem dX0_brokenCount_3 : decode cX0_brokenCount 3 = .ok (.istore_n 2, 1) := by decide +kernel
theorem dX0_brokenCount_4 : decode cX0_brokenCount 4 = .ok (.iload_n 2, 1) := by decide +kernel
theorem dX0_brokenCount_5 : decode cX0_brokenCount 5 = .ok (.aload_n 0, 1) := by decide +kernel
theorem dX0_brokenCount_6 : decode cX0_brokenCount 6 = .ok (.getfield 29, 3) := by decide +kernel
theorem dX0_brokenCount_9 : decode cX0_brokenCount 9 = .ok (.if_icmp .ge 30, 3) := by decide +kernel
theorem dX0_brokenCount_12 : decode cX0_brokenCount 12 = .ok (.iload_n 2, 1) := by decide +kernel
theorem dX0_brokenCount_13 : decode cX0_brokenCount 13 = .ok (.bipush 12, 2) := by decide +kernel
theorem dX0_brokenCount_15 : decode cX0_brokenCount 15 = .ok (.if_icmp .ge 24, 3) := by decide +kernel
theorem dX0_brokenCount_18 : decode cX0_brokenCount 18 = .ok (.aload_n 0, 1) := by decide +kernel
theorem dX0_brokenCount_19 : decode cX0_brokenCount 19 = .ok (.getfield 20, 3) := by decide +kernel
theorem dX0_brokenCount_22 : decode cX0_brokenCount 22 = .ok (.iload_n 2, 1) := by decide +kernel
theorem dX0_brokenCount_23 : decode cX0_brokenCount 23 = .ok (.aaload, 1) := by decide +kernel
theorem dX0_brokenCount_24 : decode cX0_brokenCount 24 = .ok (.invokevirtual 101, 3) := by decide +kernel
theorem dX0_brokenCount_27 : decode cX0_brokenCount 27 = .ok (.ifCond .eq 6, 3) := by decide +kernel
theorem dX0_brokenCount_30 : decode cX0_brokenCount 30 = .ok (.iinc 1 1, 3) := by decide +kernel
theorem dX0_brokenCount_33 : decode cX0_brokenCount 33 = .ok (.iinc 2 1, 3) := by decide +kernel
theorem dX0_brokenCount_36 : decode cX0_brokenCount 36 = .ok (.goto (-32), 3) := by decide +kernel
theorem dX0_brokenCount_39 : decode cX0_brokenCount 39 = .ok (.iload_n 1, 1) := by decide +kernel
theorem dX0_brokenCount_40 : decode cX0_brokenCount 40 = .ok (.ireturn, 1) := by decide +kernel
def fX0_brokenCount_L4 (M : Mm) (i : Nat) (K : Int32 → Int32 → Option Int32) : Nat → Int32 → Int32 → Option Int32
  | 0, _, _ => none
  | n + 1, v1, v2 => if (M.1 (9, i, 0) 2) ≤ v2 then K v1 v2 else if (12 : Int32) ≤ v2 then K v1 v2 else if v2 < 0 ∨ 12 ≤ v2.toNatClampNeg then none else if (fX8_brokenNow M i v2.toNatClampNeg) = 0 then fX0_brokenCount_L4 M i K n v1 (v2 + (1 : Int32)) else fX0_brokenCount_L4 M i K n (v1 + (1 : Int32)) (v2 + (1 : Int32))
def fX0_brokenCount (M : Mm) (i : Nat) : Option Int32 := fX0_brokenCount_L4 M i (fun w5 w6 => some w5) NF (0 : Int32) (0 : Int32)
set_option maxRecDepth 20000 in
set_option maxHeartbeats 2000000 in
theorem sX0_brokenCount_L4 {wv : Wv} (M : Mm) (i : Nat) (hi : i < 12) {res : Int32} {K : Int32 → Int32 → Option Int32} : ∀ (n : Nat) (v1 : Int32) (v2 : Int32), fX0_brokenCount_L4 M i K n v1 v2 = some res →
    (∀ (v1 : Int32) (v2 : Int32), K v1 v2 = some res → Z RX0 cX0_brokenCount 3 (some .int) [] "brokenCount" (rmD 1 0 0) (QM SH (allR wv) 0 0 (fun v M9 => v = some (.int res) ∧ M9 = M) (fun _ _ => False)) (allR wv) SH 0 0 39 [some (.inr (9, i, 0)), some (.inl (.int v1)), some (.inl (.int v2))] [] M) → Z RX0 cX0_brokenCount 3 (some .int) [] "brokenCount" (rmD 1 0 0) (QM SH (allR wv) 0 0 (fun v M9 => v = some (.int res) ∧ M9 = M) (fun _ _ => False)) (allR wv) SH 0 0 4 [some (.inr (9, i, 0)), some (.inl (.int v1)), some (.inl (.int v2))] [] M := by
  intro n
  induction n with
  | zero => intro v1 v2 h; cases h
  | succ n ih =>
    intro v1 v2 h hK
    rw [fX0_brokenCount_L4] at h
    refine z_iload_n (i := 2) dX0_brokenCount_4 rfl rfl ?_
    refine z_aload_n (i := 0) dX0_brokenCount_5 rfl rfl ?_
    refine z_getI (x := (M.1 (9, i, 0) 2)) dX0_brokenCount_6 fl_X0_29 (m9 _ hi) rfl rfl ?_
    refine z_icmp_ge (tgt := 39) dX0_brokenCount_9 rfl (fun hc1 => ?_) (fun hc1 => ?_)
    · have h := it_t h hc1
      exact hK _ _ h
    · have h := it_f h hc1
      refine z_iload_n (i := 2) dX0_brokenCount_12 rfl rfl ?_
      refine z_bipush (v := (12 : Int32)) dX0_brokenCount_13 kb_12 ?_
      refine z_icmp_ge (tgt := 39) dX0_brokenCount_15 rfl (fun hc2 => ?_) (fun hc2 => ?_)
      · have h := it_t h hc2
        exact hK _ _ h
      · have h := it_f h hc2
        refine z_aload_n (i := 0) dX0_brokenCount_18 rfl rfl ?_
        refine z_getR (r' := (12, i, 0)) dX0_brokenCount_19 fl_X0_20 (m9 _ hi) rfl rfl ?_
        refine z_iload_n (i := 2) dX0_brokenCount_22 rfl rfl ?_
        obtain ⟨hc3, h⟩ := chk h
        refine z_aald (t := 0) (r' := (13, i, v2.toNatClampNeg)) dX0_brokenCount_23 (m12 _ hi) rfl (Nat.le_of_ble_eq_true rfl) hc3 rfl ?_
        refine z_fVi (sX8_brokenNow M i v2.toNatClampNeg hi (ltN hc3)) dX0_brokenCount_24 ml_X0_101 cd_X8_brokenNow (m13 _ hi _ (ltN hc3)) rfl rfl rfl rfl rfl rfl ?_
        refine z_if_eq (tgt := 33) dX0_brokenCount_27 rfl (fun hc4 => ?_) (fun hc4 => ?_)
        · have h := it_t h hc4
          refine z_iinc (i := 2) (v := (v2 + (1 : Int32))) dX0_brokenCount_33 rfl (iinc_k kc_1) (Nat.le_of_ble_eq_true rfl) rfl ?_
          refine z_goto (tgt := 4) dX0_brokenCount_36 rfl ?_
          exact ih _ _ h hK
        · have h := it_f h hc4
          refine z_iinc (i := 1) (v := (v1 + (1 : Int32))) dX0_brokenCount_30 rfl (iinc_k kc_1) (Nat.le_of_ble_eq_true rfl) rfl ?_
          refine z_iinc (i := 2) (v := (v2 + (1 : Int32))) dX0_brokenCount_33 rfl (iinc_k kc_1) (Nat.le_of_ble_eq_true rfl) rfl ?_
          refine z_goto (tgt := 4) dX0_brokenCount_36 rfl ?_
          exact ih _ _ h hK
set_option maxRecDepth 20000 in
set_option maxHeartbeats 2000000 in
theorem sX0_brokenCount {wv : Wv} (M : Mm) (i : Nat) (hi : i < 12) {res : Int32} (h : fX0_brokenCount M i = some res) : TF wv yX0_brokenCount cX0_brokenCount 3 (some .int) 1 [.inr (9, i, 0)] M (some (.int res)) M := by
  rw [fX0_brokenCount] at h
  refine TF.go (n := 2) (ls := [some (.inr (9, i, 0)), none, none]) rfl rfl rfl rfl rfl ?_
  refine z_iconst (v := (0 : Int32)) dX0_brokenCount_0 kc_0 ?_
  refine z_istore_n (i := 1) dX0_brokenCount_1 rfl (Nat.le_of_ble_eq_true rfl) rfl ?_
  refine z_iconst (v := (0 : Int32)) dX0_brokenCount_2 kc_0 ?_
  refine z_istore_n (i := 2) dX0_brokenCount_3 rfl (Nat.le_of_ble_eq_true rfl) rfl ?_
  refine sX0_brokenCount_L4 M i hi NF _ _ h (fun w5 w6 h => ?_)
  refine z_iload_n (i := 1) dX0_brokenCount_39 rfl rfl ?_
  cases h
  exact z_iret dX0_brokenCount_40 rfl rfl (Nat.le_refl _) (Nat.le_refl _) ⟨rfl, rfl⟩
