theorem dX10_contradictions_0 : decode cX10_contradictions 0 = .ok (.aload_n 0, 1) := by decide +kernel
theorem dX10_contradictions_1 : decode cX10_contradictions 1 = .ok (.iconst 0, 1) := by decide +kernel
theorem dX10_contradictions_2 : decode cX10_contradictions 2 = .ok (.putfield 79, 3) := by decide +kernel
theorem dX10_contradictions_5 : decode cX10_contradictions 5 = .ok (.aload_n 0, 1) := by decide +kernel
theorem dX10_contradictions_6 : decode cX10_contradictions 6 = .ok (.getfield 7, 3) := by decide +kernel
theorem dX10_contradictions_9 : decode cX10_contradictions 9 = .ok (.bipush 10, 2) := by decide +kernel
theorem dX10_contradictions_11 : decode cX10_contradictions 11 = .ok (.iaload, 1) := by decide +kernel
theorem dX10_contradictions_12 : decode cX10_contradictions 12 = .ok (.aload_n 0, 1) := by decide +kernel
theorem dX10_contradictions_13 : decode cX10_contradictions 13 = .ok (.getfield 7, 3) := by decide +kernel
theorem dX10_contradictions_16 : decode cX10_contradictions 16 = .ok (.bipush 6, 2) := by decide +kernel
theorem dX10_contradictions_18 : decode cX10_contradictions 18 = .ok (.iaload, 1) := by decide +kernel
theorem dX10_contradictions_19 : decode cX10_contradictions 19 = .ok (.isub, 1) := by decide +kernel
theorem dX10_contradictions_20 : decode cX10_contradictions 20 = .ok (.iconst 5, 1) := by decide +kernel
theorem dX10_contradictions_21 : decode cX10_contradictions 21 = .ok (.aload_n 0, 1) := by decide +kernel
theorem dX10_contradictions_22 : decode cX10_contradictions 22 = .ok (.getfield 7, 3) := by decide +kernel
theorem dX10_contradictions_25 : decode cX10_contradictions 25 = .ok (.bipush 7, 2) := by decide +kernel
theorem dX10_contradictions_27 : decode cX10_contradictions 27 = .ok (.iaload, 1) := by decide +kernel
theorem dX10_contradictions_28 : decode cX10_contradictions 28 = .ok (.imul, 1) := by decide +kernel
theorem dX10_contradictions_29 : decode cX10_contradictions 29 = .ok (.isub, 1) := by decide +kernel
theorem dX10_contradictions_30 : decode cX10_contradictions 30 = .ok (.iconst 3, 1) := by decide +kernel
theorem dX10_contradictions_31 : decode cX10_contradictions 31 = .ok (.aload_n 0, 1) := by decide +kernel
theorem dX10_contradictions_32 : decode cX10_contradictions 32 = .ok (.getfield 7, 3) := by decide +kernel
theorem dX10_contradictions_35 : decode cX10_contradictions 35 = .ok (.bipush 9, 2) := by decide +kernel
theorem dX10_contradictions_37 : decode cX10_contradictions 37 = .ok (.iaload, 1) := by decide +kernel
theorem dX10_contradictions_38 : decode cX10_contradictions 38 = .ok (.imul, 1) := by decide +kernel
theorem dX10_contradictions_39 : decode cX10_contradictions 39 = .ok (.isub, 1) := by decide +kernel
theorem dX10_contradictions_40 : decode cX10_contradictions 40 = .ok (.istore_n 1, 1) := by decide +kernel
theorem dX10_contradictions_41 : decode cX10_contradictions 41 = .ok (.iconst 0, 1) := by decide +kernel
theorem dX10_contradictions_42 : decode cX10_contradictions 42 = .ok (.istore_n 2, 1) := by decide +kernel
theorem dX10_contradictions_43 : decode cX10_contradictions 43 = .ok (.iload_n 2, 1) := by decide +kernel
theorem dX10_contradictions_44 : decode cX10_contradictions 44 = .ok (.aload_n 0, 1) := by decide +kernel
theorem dX10_contradictions_45 : decode cX10_contradictions 45 = .ok (.getfield 7, 3) := by decide +kernel
theorem dX10_contradictions_48 : decode cX10_contradictions 48 = .ok (.iconst 3, 1) := by decide +kernel
theorem dX10_contradictions_49 : decode cX10_contradictions 49 = .ok (.iaload, 1) := by decide +kernel
theorem dX10_contradictions_50 : decode cX10_contradictions 50 = .ok (.if_icmp .ge 18, 3) := by decide +kernel
theorem dX10_contradictions_53 : decode cX10_contradictions 53 = .ok (.iload_n 1, 1) := by decide +kernel
theorem dX10_contradictions_54 : decode cX10_contradictions 54 = .ok (.aload_n 0, 1) := by decide +kernel
theorem dX10_contradictions_55 : decode cX10_contradictions 55 = .ok (.iload_n 2, 1) := by decide +kernel
theorem dX10_contradictions_56 : decode cX10_contradictions 56 = .ok (.iconst 4, 1) := by decide +kernel
theorem dX10_contradictions_57 : decode cX10_contradictions 57 = .ok (.invokevirtual 90, 3) := by decide +kernel
theorem dX10_contradictions_60 : decode cX10_contradictions 60 = .ok (.iadd, 1) := by decide +kernel
theorem dX10_contradictions_61 : decode cX10_contradictions 61 = .ok (.istore_n 1, 1) := by decide +kernel
theorem dX10_contradictions_62 : decode cX10_contradictions 62 = .ok (.iinc 2 1, 3) := by decide +kernel
theorem dX10_contradictions_65 : decode cX10_contradictions 65 = .ok (.goto (-22), 3) := by decide +kernel
theorem dX10_contradictions_68 : decode cX10_contradictions 68 = .ok (.iload_n 1, 1) := by decide +kernel
theorem dX10_contradictions_69 : decode cX10_contradictions 69 = .ok (.invokestatic 329, 3) := by decide +kernel
theorem dX10_contradictions_72 : decode cX10_contradictions 72 = .ok (.ireturn, 1) := by decide +kernel
def fX10_contradictions_L43 (M : Mm) (K : Int32 → Int32 → Option (Int32 × Mm)) : Nat → Int32 → Int32 → Option (Int32 × Mm)
  | 0, _, _ => none
  | n + 1, v1, v2 => if (M.1 (19, 0, 0) 3) ≤ v2 then K v1 v2 else (fX10_of M v2 (4 : Int32)).bind fun q2 => fX10_contradictions_L43 M K n (v1 + q2) (v2 + (1 : Int32))
def fX10_contradictions (M : Mm) : Option (Int32 × Mm) := fX10_contradictions_L43 (putI M (18, 0, 0) 8 (0 : Int32)) (fun w4 w5 => some ((fJ9_abs_0f7a4 (putI M (18, 0, 0) 8 (0 : Int32)) w4), (putI M (18, 0, 0) 8 (0 : Int32)))) NF ((((M.1 (19, 0, 0) 10) - (M.1 (19, 0, 0) 6)) - ((5 : Int32) * (M.1 (19, 0, 0) 7))) - ((3 : Int32) * (M.1 (19, 0, 0) 9))) (0 : Int32)
set_option maxRecDepth 20000 in
set_option maxHeartbeats 2000000 in
theorem sX10_contradictions_L43 {wv : Nat} (M : Mm) {res : (Int32 × Mm)} {K : Int32 → Int32 → Option (Int32 × Mm)} : ∀ (n : Nat) (v1 : Int32) (v2 : Int32), fX10_contradictions_L43 M K n v1 v2 = some res →
    (∀ (v1 : Int32) (v2 : Int32), K v1 v2 = some res → Z RX10 cX10_contradictions 3 (some .int) [] "contradictions" (rmD 1 0 0) (QM SH (allR (wv + 1)) 0 0 (fun v M9 => v = some (.int res.1) ∧ M9 = res.2) (fun _ _ => False)) (allR (wv + 1)) SH 0 0 68 [some (.inr (18, 0, 0)), some (.inl (.int v1)), some (.inl (.int v2))] [] M) → Z RX10 cX10_contradictions 3 (some .int) [] "contradictions" (rmD 1 0 0) (QM SH (allR (wv + 1)) 0 0 (fun v M9 => v = some (.int res.1) ∧ M9 = res.2) (fun _ _ => False)) (allR (wv + 1)) SH 0 0 43 [some (.inr (18, 0, 0)), some (.inl (.int v1)), some (.inl (.int v2))] [] M := by
  intro n
  induction n with
  | zero => intro v1 v2 h; cases h
  | succ n ih =>
    intro v1 v2 h hK
    rw [fX10_contradictions_L43] at h
    refine z_iload_n (i := 2) dX10_contradictions_43 rfl rfl ?_
    refine z_aload_n (i := 0) dX10_contradictions_44 rfl rfl ?_
    refine z_getR (r' := (19, 0, 0)) dX10_contradictions_45 fl_X10_7 mk18 rfl rfl ?_
    refine z_iconst (v := (3 : Int32)) dX10_contradictions_48 kc_3 ?_
    refine z_iald (x := (M.1 (19, 0, 0) 3)) dX10_contradictions_49 (m19 _ (Nat.le_of_ble_eq_true rfl)) rfl (by decide) rfl ?_
    refine z_icmp_ge (tgt := 68) dX10_contradictions_50 rfl (fun hc1 => ?_) (fun hc1 => ?_)
    · have h := it_t h hc1
      exact hK _ _ h
    · have h := it_f h hc1
      refine z_iload_n (i := 1) dX10_contradictions_53 rfl rfl ?_
      refine z_aload_n (i := 0) dX10_contradictions_54 rfl rfl ?_
      refine z_iload_n (i := 2) dX10_contradictions_55 rfl rfl ?_
      refine z_iconst (v := (4 : Int32)) dX10_contradictions_56 kc_4 ?_
      obtain ⟨q2, hq3, h⟩ := bnd h
      refine z_fVi (sX10_of M v2 (4 : Int32) hq3) dX10_contradictions_57 ml_X10_90 cd_X10_of mk18 rfl rfl rfl rfl rfl rfl ?_
      refine z_iadd dX10_contradictions_60 ?_
      refine z_istore_n (i := 1) dX10_contradictions_61 rfl (Nat.le_of_ble_eq_true rfl) rfl ?_
      refine z_iinc (i := 2) (v := (v2 + (1 : Int32))) dX10_contradictions_62 rfl (iinc_k kc_1) (Nat.le_of_ble_eq_true rfl) rfl ?_
      refine z_goto (tgt := 43) dX10_contradictions_65 rfl ?_
      exact ih _ _ h hK
set_option maxRecDepth 20000 in
set_option maxHeartbeats 2000000 in
theorem sX10_contradictions {wv : Nat} (M : Mm) {res : (Int32 × Mm)} (h : fX10_contradictions M  = some res) : TF (wv + 1) yX10_contradictions cX10_contradictions 3 (some .int) 1 [.inr (18, 0, 0)] M (some (.int res.1)) res.2 := by
  rw [fX10_contradictions] at h
  refine TF.go (n := 2) (ls := [some (.inr (18, 0, 0)), none, none]) rfl rfl rfl rfl rfl ?_
  refine z_aload_n (i := 0) dX10_contradictions_0 rfl rfl ?_
  refine z_iconst (v := (0 : Int32)) dX10_contradictions_1 kc_0 ?_
  refine z_putI allR_nd dX10_contradictions_2 fl_X10_79 mk18 rfl rfl ?_
  refine z_aload_n (i := 0) dX10_contradictions_5 rfl rfl ?_
  refine z_getR (r' := (19, 0, 0)) dX10_contradictions_6 fl_X10_7 mk18 rfl rfl ?_
  refine z_bipush (v := (10 : Int32)) dX10_contradictions_9 kb_10 ?_
  refine z_iald (x := (M.1 (19, 0, 0) 10)) dX10_contradictions_11 (m19 _ (Nat.le_of_ble_eq_true rfl)) rfl (by decide) rfl ?_
  refine z_aload_n (i := 0) dX10_contradictions_12 rfl rfl ?_
  refine z_getR (r' := (19, 0, 0)) dX10_contradictions_13 fl_X10_7 mk18 rfl rfl ?_
  refine z_bipush (v := (6 : Int32)) dX10_contradictions_16 kb_6 ?_
  refine z_iald (x := (M.1 (19, 0, 0) 6)) dX10_contradictions_18 (m19 _ (Nat.le_of_ble_eq_true rfl)) rfl (by decide) rfl ?_
  refine z_isub dX10_contradictions_19 ?_
  refine z_iconst (v := (5 : Int32)) dX10_contradictions_20 kc_5 ?_
  refine z_aload_n (i := 0) dX10_contradictions_21 rfl rfl ?_
  refine z_getR (r' := (19, 0, 0)) dX10_contradictions_22 fl_X10_7 mk18 rfl rfl ?_
  refine z_bipush (v := (7 : Int32)) dX10_contradictions_25 kb_7 ?_
  refine z_iald (x := (M.1 (19, 0, 0) 7)) dX10_contradictions_27 (m19 _ (Nat.le_of_ble_eq_true rfl)) rfl (by decide) rfl ?_
  refine z_imul dX10_contradictions_28 ?_
  refine z_isub dX10_contradictions_29 ?_
  refine z_iconst (v := (3 : Int32)) dX10_contradictions_30 kc_3 ?_
  refine z_aload_n (i := 0) dX10_contradictions_31 rfl rfl ?_
  refine z_getR (r' := (19, 0, 0)) dX10_contradictions_32 fl_X10_7 mk18 rfl rfl ?_
  refine z_bipush (v := (9 : Int32)) dX10_contradictions_35 kb_9 ?_
  refine z_iald (x := (M.1 (19, 0, 0) 9)) dX10_contradictions_37 (m19 _ (Nat.le_of_ble_eq_true rfl)) rfl (by decide) rfl ?_
  refine z_imul dX10_contradictions_38 ?_
  refine z_isub dX10_contradictions_39 ?_
  refine z_istore_n (i := 1) dX10_contradictions_40 rfl (Nat.le_of_ble_eq_true rfl) rfl ?_
  refine z_iconst (v := (0 : Int32)) dX10_contradictions_41 kc_0 ?_
  refine z_istore_n (i := 2) dX10_contradictions_42 rfl (Nat.le_of_ble_eq_true rfl) rfl ?_
  refine sX10_contradictions_L43 (putI M (18, 0, 0) 8 (0 : Int32)) NF _ _ h (fun w4 w5 h => ?_)
  refine z_iload_n (i := 1) dX10_contradictions_68 rfl rfl ?_
  refine z_fSi (sJ9_abs_0f7a4 (putI M (18, 0, 0) 8 (0 : Int32)) w4) dX10_contradictions_69 ml_X10_329 cd_J9_abs_0f7a4 rfl rfl rfl rfl rfl ?_
  cases h
  exact z_iret dX10_contradictions_72 rfl rfl (Nat.le_refl _) (Nat.le_refl _) ⟨rfl, rfl⟩
theorem dX10_stepsLeft_0 : decode cX10_stepsLeft 0 = .ok (.aload_n 0, 1) := by decide +kernel
theorem dX10_stepsLeft_1 : decode cX10_stepsLeft 1 = .ok (.iconst 0, 1) := by decide +kernel
theorem dX10_stepsLeft_2 : decode cX10_stepsLeft 2 = .ok (.putfield 79, 3) := by decide +kernel
theorem dX10_stepsLeft_5 : decode cX10_stepsLeft 5 = .ok (.aload_n 0, 1) := by decide +kernel
theorem dX10_stepsLeft_6 : decode cX10_stepsLeft 6 = .ok (.getfield 7, 3) := by decide +kernel
theorem dX10_stepsLeft_9 : decode cX10_stepsLeft 9 = .ok (.iconst 1, 1) := by decide +kernel
theorem dX10_stepsLeft_10 : decode cX10_stepsLeft 10 = .ok (.iaload, 1) := by decide +kernel
theorem dX10_stepsLeft_11 : decode cX10_stepsLeft 11 = .ok (.ifCond .ne 7, 3) := by decide +kernel
theorem dX10_stepsLeft_14 : decode cX10_stepsLeft 14 = .ok (.iconst 0, 1) := by decide +kernel
theorem dX10_stepsLeft_15 : decode cX10_stepsLeft 15 = .ok (.goto 23, 3) := by decide +kernel
theorem dX10_stepsLeft_18 : decode cX10_stepsLeft 18 = .ok (.aload_n 0, 1) := by decide +kernel
theorem dX10_stepsLeft_19 : decode cX10_stepsLeft 19 = .ok (.getfield 7, 3) := by decide +kernel
theorem dX10_stepsLeft_22 : decode cX10_stepsLeft 22 = .ok (.iconst 1, 1) := by decide +kernel
theorem dX10_stepsLeft_23 : decode cX10_stepsLeft 23 = .ok (.iaload, 1) := by decide +kernel
theorem dX10_stepsLeft_24 : decode cX10_stepsLeft 24 = .ok (.aload_n 0, 1) := by decide +kernel
theorem dX10_stepsLeft_25 : decode cX10_stepsLeft 25 = .ok (.getfield 7, 3) := by decide +kernel
theorem dX10_stepsLeft_28 : decode cX10_stepsLeft 28 = .ok (.iconst 0, 1) := by decide +kernel
theorem dX10_stepsLeft_29 : decode cX10_stepsLeft 29 = .ok (.iaload, 1) := by decide +kernel
theorem dX10_stepsLeft_30 : decode cX10_stepsLeft 30 = .ok (.imul, 1) := by decide +kernel
theorem dX10_stepsLeft_31 : decode cX10_stepsLeft 31 = .ok (.aload_n 0, 1) := by decide +kernel
theorem dX10_stepsLeft_32 : decode cX10_stepsLeft 32 = .ok (.getfield 7, 3) := by decide +kernel
theorem dX10_stepsLeft_35 : decode cX10_stepsLeft 35 = .ok (.iconst 5, 1) := by decide +kernel
theorem dX10_stepsLeft_36 : decode cX10_stepsLeft 36 = .ok (.iaload, 1) := by decide +kernel
theorem dX10_stepsLeft_37 : decode cX10_stepsLeft 37 = .ok (.isub, 1) := by decide +kernel
theorem dX10_stepsLeft_38 : decode cX10_stepsLeft 38 = .ok (.ireturn, 1) := by decide +kernel
def fX10_stepsLeft (M : Mm) : Option (Int32 × Mm) := if (M.1 (19, 0, 0) 1) = 0 then some ((0 : Int32), (putI M (18, 0, 0) 8 (0 : Int32))) else some ((((M.1 (19, 0, 0) 1) * (M.1 (19, 0, 0) 0)) - (M.1 (19, 0, 0) 5)), (putI M (18, 0, 0) 8 (0 : Int32)))
set_option maxRecDepth 20000 in
set_option maxHeartbeats 2000000 in
theorem sX10_stepsLeft {wv : Nat} (M : Mm) {res : (Int32 × Mm)} (h : fX10_stepsLeft M  = some res) : TF (wv + 1) yX10_stepsLeft cX10_stepsLeft 1 (some .int) 0 [.inr (18, 0, 0)] M (some (.int res.1)) res.2 := by
  rw [fX10_stepsLeft] at h
  refine TF.go (n := 0) (ls := [some (.inr (18, 0, 0))]) rfl rfl rfl rfl rfl ?_
  refine z_aload_n (i := 0) dX10_stepsLeft_0 rfl rfl ?_
  refine z_iconst (v := (0 : Int32)) dX10_stepsLeft_1 kc_0 ?_
  refine z_putI allR_nd dX10_stepsLeft_2 fl_X10_79 mk18 rfl rfl ?_
  refine z_aload_n (i := 0) dX10_stepsLeft_5 rfl rfl ?_
  refine z_getR (r' := (19, 0, 0)) dX10_stepsLeft_6 fl_X10_7 mk18 rfl rfl ?_
  refine z_iconst (v := (1 : Int32)) dX10_stepsLeft_9 kc_1 ?_
  refine z_iald (x := (M.1 (19, 0, 0) 1)) dX10_stepsLeft_10 (m19 _ (Nat.le_of_ble_eq_true rfl)) rfl (by decide) rfl ?_
  refine z_if_ne (tgt := 18) dX10_stepsLeft_11 rfl (fun hc1 => ?_) (fun hc1 => ?_)
  · have h := it_f h hc1
    refine z_aload_n (i := 0) dX10_stepsLeft_18 rfl rfl ?_
    refine z_getR (r' := (19, 0, 0)) dX10_stepsLeft_19 fl_X10_7 mk18 rfl rfl ?_
    refine z_iconst (v := (1 : Int32)) dX10_stepsLeft_22 kc_1 ?_
    refine z_iald (x := (M.1 (19, 0, 0) 1)) dX10_stepsLeft_23 (m19 _ (Nat.le_of_ble_eq_true rfl)) rfl (by decide) rfl ?_
    refine z_aload_n (i := 0) dX10_stepsLeft_24 rfl rfl ?_
    refine z_getR (r' := (19, 0, 0)) dX10_stepsLeft_25 fl_X10_7 mk18 rfl rfl ?_
    refine z_iconst (v := (0 : Int32)) dX10_stepsLeft_28 kc_0 ?_
    refine z_iald (x := (M.1 (19, 0, 0) 0)) dX10_stepsLeft_29 (m19 _ (Nat.le_of_ble_eq_true rfl)) rfl (by decide) rfl ?_
    refine z_imul dX10_stepsLeft_30 ?_
    refine z_aload_n (i := 0) dX10_stepsLeft_31 rfl rfl ?_
    refine z_getR (r' := (19, 0, 0)) dX10_stepsLeft_32 fl_X10_7 mk18 rfl rfl ?_
    refine z_iconst (v := (5 : Int32)) dX10_stepsLeft_35 kc_5 ?_
    refine z_iald (x := (M.1 (19, 0, 0) 5)) dX10_stepsLeft_36 (m19 _ (Nat.le_of_ble_eq_true rfl)) rfl (by decide) rfl ?_
    refine z_isub dX10_stepsLeft_37 ?_
    cases h
    exact z_iret dX10_stepsLeft_38 rfl rfl (Nat.le_refl _) (Nat.le_refl _) ⟨rfl, rfl⟩
  · have h := it_t h hc1
    refine z_iconst (v := (0 : Int32)) dX10_stepsLeft_14 kc_0 ?_
    refine z_goto (tgt := 38) dX10_stepsLeft_15 rfl ?_
    cases h
    exact z_iret dX10_stepsLeft_38 rfl rfl (Nat.le_refl _) (Nat.le_refl _) ⟨rfl, rfl⟩
theorem dX10_stepsUntilBroken_0 : decode cX10_stepsUntilBroken 0 = .ok (.aload_n 0, 1) := by decide +kernel
theorem dX10_stepsUntilBroken_1 : decode cX10_stepsUntilBroken 1 = .ok (.iload_n 1, 1) := by decide +kernel
theorem dX10_stepsUntilBroken_2 : decode cX10_stepsUntilBroken 2 = .ok (.invokevirtual 315, 3) := by decide +kernel
theorem dX10_stepsUntilBroken_5 : decode cX10_stepsUntilBroken 5 = .ok (.ifCond .ne 5, 3) := by decide +kernel
theorem dX10_stepsUntilBroken_8 : decode cX10_stepsUntilBroken 8 = .ok (.iconst 0, 1) := by decide +kernel
theorem dX10_stepsUntilBroken_9 : decode cX10_stepsUntilBroken 9 = .ok (.ireturn, 1) := by decide +kernel
theorem dX10_stepsUntilBroken_10 : decode cX10_stepsUntilBroken 10 = .ok (.aload_n 0, 1) := by decide +kernel
theorem dX10_stepsUntilBroken_11 : decode cX10_stepsUntilBroken 11 = .ok (.invokevirtual 332, 3) := by decide +kernel
theorem dX10_stepsUntilBroken_14 : decode cX10_stepsUntilBroken 14 = .ok (.iconst 0, 1) := by decide +kernel
theorem dX10_stepsUntilBroken_15 : decode cX10_stepsUntilBroken 15 = .ok (.istore_n 2, 1) := by decide +kernel
theorem dX10_stepsUntilBroken_16 : decode cX10_stepsUntilBroken 16 = .ok (.aload_n 0, 1) := by decide +kernel
theorem dX10_stepsUntilBroken_17 : decode cX10_stepsUntilBroken 17 = .ok (.iload_n 1, 1) := by decide +kernel
theorem dX10_stepsUntilBroken_18 : decode cX10_stepsUntilBroken 18 = .ok (.invokevirtual 100, 3) := by decide +kernel
theorem dX10_stepsUntilBroken_21 : decode cX10_stepsUntilBroken 21 = .ok (.ifCond .ne 28, 3) := by decide +kernel
theorem dX10_stepsUntilBroken_24 : decode cX10_stepsUntilBroken 24 = .ok (.aload_n 0, 1) := by decide +kernel
theorem dX10_stepsUntilBroken_25 : decode cX10_stepsUntilBroken 25 = .ok (.getfield 7, 3) := by decide +kernel
theorem dX10_stepsUntilBroken_28 : decode cX10_stepsUntilBroken 28 = .ok (.iconst 1, 1) := by decide +kernel
theorem dX10_stepsUntilBroken_29 : decode cX10_stepsUntilBroken 29 = .ok (.iaload, 1) := by decide +kernel
theorem dX10_stepsUntilBroken_30 : decode cX10_stepsUntilBroken 30 = .ok (.ifCond .ne 9, 3) := by decide +kernel
theorem dX10_stepsUntilBroken_33 : decode cX10_stepsUntilBroken 33 = .ok (.aload_n 0, 1) := by decide +kernel
theorem dX10_stepsUntilBroken_34 : decode cX10_stepsUntilBroken 34 = .ok (.iconst (-1), 1) := by decide +kernel
theorem dX10_stepsUntilBroken_35 : decode cX10_stepsUntilBroken 35 = .ok (.invokevirtual 335, 3) := by decide +kernel
theorem dX10_stepsUntilBroken_38 : decode cX10_stepsUntilBroken 38 = .ok (.ireturn, 1) := by decide +kernel
theorem dX10_stepsUntilBroken_39 : decode cX10_stepsUntilBroken 39 = .ok (.aload_n 0, 1) := by decide +kernel
theorem dX10_stepsUntilBroken_40 : decode cX10_stepsUntilBroken 40 = .ok (.invokevirtual 121, 3) := by decide +kernel
theorem dX10_stepsUntilBroken_43 : decode cX10_stepsUntilBroken 43 = .ok (.iinc 2 1, 3) := by decide +kernel
theorem dX10_stepsUntilBroken_46 : decode cX10_stepsUntilBroken 46 = .ok (.goto (-30), 3) := by decide +kernel
theorem dX10_stepsUntilBroken_49 : decode cX10_stepsUntilBroken 49 = .ok (.aload_n 0, 1) := by decide +kernel
theorem dX10_stepsUntilBroken_50 : decode cX10_stepsUntilBroken 50 = .ok (.iload_n 2, 1) := by decide +kernel
theorem dX10_stepsUntilBroken_51 : decode cX10_stepsUntilBroken 51 = .ok (.invokevirtual 335, 3) := by decide +kernel
theorem dX10_stepsUntilBroken_54 : decode cX10_stepsUntilBroken 54 = .ok (.ireturn, 1) := by decide +kernel
def fX10_stepsUntilBroken_L16 (c1 : Int32) (K : Int32 → Mm → Option (Int32 × Mm)) : Nat → Int32 → Mm → Option (Int32 × Mm)
  | 0, _, _ => none
  | n + 1, v2, M => (fX10_isBad M c1).bind fun q6 => if q6 = 0 then (if (M.1 (19, 0, 0) 1) = 0 then ((fX10_back M (-1 : Int32)).bind fun q12 => some (q12.1, q12.2)) else (fX10_step M).bind fun q10 => fX10_stepsUntilBroken_L16 c1 K n (v2 + (1 : Int32)) q10) else K v2 M
def fX10_stepsUntilBroken (M : Mm) (x1 : Int32) : Option (Int32 × Mm) := (fX10_findsTooth M x1).bind fun q1 => if q1.1 = 0 then some ((0 : Int32), q1.2) else (fX10_tries q1.2).bind fun q4 => fX10_stepsUntilBroken_L16 x1 (fun w14 M15 => (fX10_back M15 w14).bind fun q16 => some (q16.1, q16.2)) NF (0 : Int32) q4
set_option maxRecDepth 20000 in
set_option maxHeartbeats 2000000 in
theorem sX10_stepsUntilBroken_L16 {wv : Nat} (c1 : Int32) {res : (Int32 × Mm)} {K : Int32 → Mm → Option (Int32 × Mm)} : ∀ (n : Nat) (v2 : Int32) (M : Mm), fX10_stepsUntilBroken_L16 c1 K n v2 M = some res →
    (∀ (v2 : Int32) (M : Mm), K v2 M = some res → Z RX10 cX10_stepsUntilBroken 3 (some .int) [] "stepsUntilBroken" (rmD 5 0 0) (QM SH (allR (wv + 1)) 0 0 (fun v M9 => v = some (.int res.1) ∧ M9 = res.2) (fun _ _ => False)) (allR (wv + 1)) SH 0 0 49 [some (.inr (18, 0, 0)), some (.inl (.int c1)), some (.inl (.int v2))] [] M) → Z RX10 cX10_stepsUntilBroken 3 (some .int) [] "stepsUntilBroken" (rmD 5 0 0) (QM SH (allR (wv + 1)) 0 0 (fun v M9 => v = some (.int res.1) ∧ M9 = res.2) (fun _ _ => False)) (allR (wv + 1)) SH 0 0 16 [some (.inr (18, 0, 0)), some (.inl (.int c1)), some (.inl (.int v2))] [] M := by
  intro n
  induction n with
  | zero => intro v2 M h; cases h
  | succ n ih =>
    intro v2 M h hK
    rw [fX10_stepsUntilBroken_L16] at h
    refine z_aload_n (i := 0) dX10_stepsUntilBroken_16 rfl rfl ?_
    refine z_iload_n (i := 1) dX10_stepsUntilBroken_17 rfl rfl ?_
    obtain ⟨q6, hq7, h⟩ := bnd h
    refine z_fVi (sX10_isBad M c1 hq7) dX10_stepsUntilBroken_18 ml_X10_100 cd_X10_isBad mk18 rfl rfl rfl rfl rfl rfl ?_
    refine z_if_ne (tgt := 49) dX10_stepsUntilBroken_21 rfl (fun hc8 => ?_) (fun hc8 => ?_)
    · have h := it_f h hc8
      exact hK _ _ h
    · have h := it_t h hc8
      refine z_aload_n (i := 0) dX10_stepsUntilBroken_24 rfl rfl ?_
      refine z_getR (r' := (19, 0, 0)) dX10_stepsUntilBroken_25 fl_X10_7 mk18 rfl rfl ?_
      refine z_iconst (v := (1 : Int32)) dX10_stepsUntilBroken_28 kc_1 ?_
      refine z_iald (x := (M.1 (19, 0, 0) 1)) dX10_stepsUntilBroken_29 (m19 _ (Nat.le_of_ble_eq_true rfl)) rfl (by decide) rfl ?_
      refine z_if_ne (tgt := 39) dX10_stepsUntilBroken_30 rfl (fun hc9 => ?_) (fun hc9 => ?_)
      · have h := it_f h hc9
        refine z_aload_n (i := 0) dX10_stepsUntilBroken_39 rfl rfl ?_
        obtain ⟨q10, hq11, h⟩ := bnd h
        refine z_fVv (sX10_step M hq11) dX10_stepsUntilBroken_40 ml_X10_121 cd_X10_step mk18 rfl rfl rfl rfl rfl rfl ?_
        refine z_iinc (i := 2) (v := (v2 + (1 : Int32))) dX10_stepsUntilBroken_43 rfl (iinc_k kc_1) (Nat.le_of_ble_eq_true rfl) rfl ?_
        refine z_goto (tgt := 16) dX10_stepsUntilBroken_46 rfl ?_
        exact ih _ _ h hK
      · have h := it_t h hc9
        refine z_aload_n (i := 0) dX10_stepsUntilBroken_33 rfl rfl ?_
        refine z_iconst (v := (-1 : Int32)) dX10_stepsUntilBroken_34 kc_m1 ?_
        obtain ⟨q12, hq13, h⟩ := bnd h
        refine z_fVi (sX10_back M (-1 : Int32) hq13) dX10_stepsUntilBroken_35 ml_X10_335 cd_X10_back mk18 rfl rfl rfl rfl rfl rfl ?_
        cases h
        exact z_iret dX10_stepsUntilBroken_38 rfl rfl (Nat.le_refl _) (Nat.le_refl _) ⟨rfl, rfl⟩
set_option maxRecDepth 20000 in
set_option maxHeartbeats 2000000 in
theorem sX10_stepsUntilBroken {wv : Nat} (M : Mm) (x1 : Int32) {res : (Int32 × Mm)} (h : fX10_stepsUntilBroken M x1 = some res) : TF (wv + 1) yX10_stepsUntilBroken cX10_stepsUntilBroken 3 (some .int) 5 [.inr (18, 0, 0), .inl (.int x1)] M (some (.int res.1)) res.2 := by
  rw [fX10_stepsUntilBroken] at h
  refine TF.go (n := 1) (ls := [some (.inr (18, 0, 0)), some (.inl (.int x1)), none]) rfl rfl rfl rfl rfl ?_
  refine z_aload_n (i := 0) dX10_stepsUntilBroken_0 rfl rfl ?_
  refine z_iload_n (i := 1) dX10_stepsUntilBroken_1 rfl rfl ?_
  obtain ⟨q1, hq2, h⟩ := bnd h
  refine z_fVi (sX10_findsTooth M x1 hq2) dX10_stepsUntilBroken_2 ml_X10_315 cd_X10_findsTooth mk18 rfl rfl rfl rfl rfl rfl ?_
  refine z_if_ne (tgt := 10) dX10_stepsUntilBroken_5 rfl (fun hc3 => ?_) (fun hc3 => ?_)
  · have h := it_f h hc3
    refine z_aload_n (i := 0) dX10_stepsUntilBroken_10 rfl rfl ?_
    obtain ⟨q4, hq5, h⟩ := bnd h
    refine z_fVv (sX10_tries q1.2 hq5) dX10_stepsUntilBroken_11 ml_X10_332 cd_X10_tries mk18 rfl rfl rfl rfl rfl rfl ?_
    refine z_iconst (v := (0 : Int32)) dX10_stepsUntilBroken_14 kc_0 ?_
    refine z_istore_n (i := 2) dX10_stepsUntilBroken_15 rfl (Nat.le_of_ble_eq_true rfl) rfl ?_
    refine sX10_stepsUntilBroken_L16 x1 NF _ _ h (fun w14 M15 h => ?_)
    refine z_aload_n (i := 0) dX10_stepsUntilBroken_49 rfl rfl ?_
    refine z_iload_n (i := 2) dX10_stepsUntilBroken_50 rfl rfl ?_
    obtain ⟨q16, hq17, h⟩ := bnd h
    refine z_fVi (sX10_back M15 w14 hq17) dX10_stepsUntilBroken_51 ml_X10_335 cd_X10_back mk18 rfl rfl rfl rfl rfl rfl ?_
    cases h
    exact z_iret dX10_stepsUntilBroken_54 rfl rfl (Nat.le_refl _) (Nat.le_refl _) ⟨rfl, rfl⟩
  · have h := it_t h hc3
    refine z_iconst (v := (0 : Int32)) dX10_stepsUntilBroken_8 kc_0 ?_
    cases h
    exact z_iret dX10_stepsUntilBroken_9 rfl rfl (Nat.le_refl _) (Nat.le_refl _) ⟨rfl, rfl⟩
theorem dX10_after_0 : decode cX10_after 0 = .ok (.aload_n 0, 1) := by decide +kernel
theorem dX10_after_1 : decode cX10_after 1 = .ok (.iconst 0, 1) := by decide +kernel
theorem dX10_after_2 : decode cX10_after 2 = .ok (.putfield 79, 3) := by decide +kernel
theorem dX10_after_5 : decode cX10_after 5 = .ok (.aload_n 0, 1) := by decide +kernel
theorem dX10_after_6 : decode cX10_after 6 = .ok (.iload_n 1, 1) := by decide +kernel
theorem dX10_after_7 : decode cX10_after 7 = .ok (.iconst 0, 1) := by decide +kernel
theorem dX10_after_8 : decode cX10_after 8 = .ok (.sipush 300, 3) := by decide +kernel
theorem dX10_after_11 : decode cX10_after 11 = .ok (.invokestatic 82, 3) := by decide +kernel
theorem dX10_after_14 : decode cX10_after 14 = .ok (.iconst 1, 1) := by decide +kernel
theorem dX10_after_15 : decode cX10_after 15 = .ok (.invokevirtual 127, 3) := by decide +kernel
theorem dX10_after_18 : decode cX10_after 18 = .ok (.ifCond .ne 5, 3) := by decide +kernel
theorem dX10_after_21 : decode cX10_after 21 = .ok (.iconst 0, 1) := by decide +kernel
theorem dX10_after_22 : decode cX10_after 22 = .ok (.ireturn, 1) := by decide +kernel
theorem dX10_after_23 : decode cX10_after 23 = .ok (.aload_n 0, 1) := by decide +kernel
theorem dX10_after_24 : decode cX10_after 24 = .ok (.invokevirtual 332, 3) := by decide +kernel
theorem dX10_after_27 : decode cX10_after 27 = .ok (.aload_n 0, 1) := by decide +kernel
theorem dX10_after_28 : decode cX10_after 28 = .ok (.getfield 7, 3) := by decide +kernel
theorem dX10_after_31 : decode cX10_after 31 = .ok (.iload_n 2, 1) := by decide +kernel
theorem dX10_after_32 : decode cX10_after 32 = .ok (.iaload, 1) := by decide +kernel
theorem dX10_after_33 : decode cX10_after 33 = .ok (.istore_n 3, 1) := by decide +kernel
theorem dX10_after_34 : decode cX10_after 34 = .ok (.aload_n 0, 1) := by decide +kernel
theorem dX10_after_35 : decode cX10_after 35 = .ok (.iload_n 1, 1) := by decide +kernel
theorem dX10_after_36 : decode cX10_after 36 = .ok (.invokevirtual 338, 3) := by decide +kernel
theorem dX10_after_39 : decode cX10_after 39 = .ok (.istore 4, 2) := by decide +kernel
theorem dX10_after_41 : decode cX10_after 41 = .ok (.aload_n 0, 1) := by decide +kernel
theorem dX10_after_42 : decode cX10_after 42 = .ok (.aload_n 0, 1) := by decide +kernel
theorem dX10_after_43 : decode cX10_after 43 = .ok (.getfield 7, 3) := by decide +kernel
theorem dX10_after_46 : decode cX10_after 46 = .ok (.iload_n 2, 1) := by decide +kernel
theorem dX10_after_47 : decode cX10_after 47 = .ok (.iaload, 1) := by decide +kernel
theorem dX10_after_48 : decode cX10_after 48 = .ok (.iload_n 3, 1) := by decide +kernel
theorem dX10_after_49 : decode cX10_after 49 = .ok (.isub, 1) := by decide +kernel
theorem dX10_after_50 : decode cX10_after 50 = .ok (.invokevirtual 335, 3) := by decide +kernel
theorem dX10_after_53 : decode cX10_after 53 = .ok (.ireturn, 1) := by decide +kernel
def fX10_after (M : Mm) (x1 : Int32) (x2 : Int32) : Option (Int32 × Mm) := (fX10_right (putI M (18, 0, 0) 8 (0 : Int32)) (fX10_in (putI M (18, 0, 0) 8 (0 : Int32)) x1 (0 : Int32) (300 : Int32)) (1 : Int32)).bind fun q1 => if q1.1 = 0 then some ((0 : Int32), q1.2) else (fX10_tries q1.2).bind fun q4 => if x2 < 0 ∨ 280 ≤ x2.toNatClampNeg then none else (fX10_steps q4 x1).bind fun q7 => if x2 < 0 ∨ 280 ≤ x2.toNatClampNeg then none else (fX10_back q7.2 ((q7.2.1 (19, 0, 0) x2.toNatClampNeg) - (q4.1 (19, 0, 0) x2.toNatClampNeg))).bind fun q10 => some (q10.1, q10.2)
set_option maxRecDepth 20000 in
set_option maxHeartbeats 2000000 in
theorem sX10_after {wv : Nat} (M : Mm) (x1 : Int32) (x2 : Int32) {res : (Int32 × Mm)} (h : fX10_after M x1 x2 = some res) : TF (wv + 1) yX10_after cX10_after 5 (some .int) 6 [.inr (18, 0, 0), .inl (.int x1), .inl (.int x2)] M (some (.int res.1)) res.2 := by
  rw [fX10_after] at h
  refine TF.go (n := 2) (ls := [some (.inr (18, 0, 0)), some (.inl (.int x1)), some (.inl (.int x2)), none, none]) rfl rfl rfl rfl rfl ?_
  refine z_aload_n (i := 0) dX10_after_0 rfl rfl ?_
  refine z_iconst (v := (0 : Int32)) dX10_after_1 kc_0 ?_
  refine z_putI allR_nd dX10_after_2 fl_X10_79 mk18 rfl rfl ?_
  refine z_aload_n (i := 0) dX10_after_5 rfl rfl ?_
  refine z_iload_n (i := 1) dX10_after_6 rfl rfl ?_
  refine z_iconst (v := (0 : Int32)) dX10_after_7 kc_0 ?_
  refine z_sipush (v := (300 : Int32)) dX10_after_8 ks_300 ?_
  refine z_fSi (sX10_in (putI M (18, 0, 0) 8 (0 : Int32)) x1 (0 : Int32) (300 : Int32)) dX10_after_11 ml_X10_82 cd_X10_in rfl rfl rfl rfl rfl ?_
  refine z_iconst (v := (1 : Int32)) dX10_after_14 kc_1 ?_
  obtain ⟨q1, hq2, h⟩ := bnd h
  refine z_fVi (sX10_right (putI M (18, 0, 0) 8 (0 : Int32)) (fX10_in (putI M (18, 0, 0) 8 (0 : Int32)) x1 (0 : Int32) (300 : Int32)) (1 : Int32) hq2) dX10_after_15 ml_X10_127 cd_X10_right mk18 rfl rfl rfl rfl rfl rfl ?_
  refine z_if_ne (tgt := 23) dX10_after_18 rfl (fun hc3 => ?_) (fun hc3 => ?_)
  · have h := it_f h hc3
    refine z_aload_n (i := 0) dX10_after_23 rfl rfl ?_
    obtain ⟨q4, hq5, h⟩ := bnd h
    refine z_fVv (sX10_tries q1.2 hq5) dX10_after_24 ml_X10_332 cd_X10_tries mk18 rfl rfl rfl rfl rfl rfl ?_
    refine z_aload_n (i := 0) dX10_after_27 rfl rfl ?_
    refine z_getR (r' := (19, 0, 0)) dX10_after_28 fl_X10_7 mk18 rfl rfl ?_
    refine z_iload_n (i := 2) dX10_after_31 rfl rfl ?_
    obtain ⟨hc6, h⟩ := chk h
    refine z_iald (x := (q4.1 (19, 0, 0) x2.toNatClampNeg)) dX10_after_32 (m19 _ (Nat.le_of_ble_eq_true rfl)) rfl hc6 rfl ?_
    refine z_istore_n (i := 3) dX10_after_33 rfl (Nat.le_of_ble_eq_true rfl) rfl ?_
    refine z_aload_n (i := 0) dX10_after_34 rfl rfl ?_
    refine z_iload_n (i := 1) dX10_after_35 rfl rfl ?_
    obtain ⟨q7, hq8, h⟩ := bnd h
    refine z_fVi (sX10_steps q4 x1 hq8) dX10_after_36 ml_X10_338 cd_X10_steps mk18 rfl rfl rfl rfl rfl rfl ?_
    refine z_istore (i := 4) dX10_after_39 (Nat.le_of_ble_eq_true rfl) rfl ?_
    refine z_aload_n (i := 0) dX10_after_41 rfl rfl ?_
    refine z_aload_n (i := 0) dX10_after_42 rfl rfl ?_
    refine z_getR (r' := (19, 0, 0)) dX10_after_43 fl_X10_7 mk18 rfl rfl ?_
    refine z_iload_n (i := 2) dX10_after_46 rfl rfl ?_
    obtain ⟨hc9, h⟩ := chk h
    refine z_iald (x := (q7.2.1 (19, 0, 0) x2.toNatClampNeg)) dX10_after_47 (m19 _ (Nat.le_of_ble_eq_true rfl)) rfl hc9 rfl ?_
    refine z_iload_n (i := 3) dX10_after_48 rfl rfl ?_
    refine z_isub dX10_after_49 ?_
    obtain ⟨q10, hq11, h⟩ := bnd h
    refine z_fVi (sX10_back q7.2 ((q7.2.1 (19, 0, 0) x2.toNatClampNeg) - (q4.1 (19, 0, 0) x2.toNatClampNeg)) hq11) dX10_after_50 ml_X10_335 cd_X10_back mk18 rfl rfl rfl rfl rfl rfl ?_
    cases h
    exact z_iret dX10_after_53 rfl rfl (Nat.le_refl _) (Nat.le_refl _) ⟨rfl, rfl⟩
  · have h := it_t h hc3
    refine z_iconst (v := (0 : Int32)) dX10_after_21 kc_0 ?_
    cases h
    exact z_iret dX10_after_22 rfl rfl (Nat.le_refl _) (Nat.le_refl _) ⟨rfl, rfl⟩
theorem dX10_notesIn_0 : decode cX10_notesIn 0 = .ok (.aload_n 0, 1) := by decide +kernel
theorem dX10_notesIn_1 : decode cX10_notesIn 1 = .ok (.iload_n 1, 1) := by decide +kernel
theorem dX10_notesIn_2 : decode cX10_notesIn 2 = .ok (.bipush 6, 2) := by decide +kernel
theorem dX10_notesIn_4 : decode cX10_notesIn 4 = .ok (.invokevirtual 341, 3) := by decide +kernel
theorem dX10_notesIn_7 : decode cX10_notesIn 7 = .ok (.ireturn, 1) := by decide +kernel
def fX10_notesIn (M : Mm) (x1 : Int32) : Option (Int32 × Mm) := (fX10_after M x1 (6 : Int32)).bind fun q1 => some (q1.1, q1.2)
set_option maxRecDepth 20000 in
set_option maxHeartbeats 2000000 in
theorem sX10_notesIn {wv : Nat} (M : Mm) (x1 : Int32) {res : (Int32 × Mm)} (h : fX10_notesIn M x1 = some res) : TF (wv + 1) yX10_notesIn cX10_notesIn 2 (some .int) 7 [.inr (18, 0, 0), .inl (.int x1)] M (some (.int res.1)) res.2 := by
  rw [fX10_notesIn] at h
  refine TF.go (n := 0) (ls := [some (.inr (18, 0, 0)), some (.inl (.int x1))]) rfl rfl rfl rfl rfl ?_
  refine z_aload_n (i := 0) dX10_notesIn_0 rfl rfl ?_
  refine z_iload_n (i := 1) dX10_notesIn_1 rfl rfl ?_
  refine z_bipush (v := (6 : Int32)) dX10_notesIn_2 kb_6 ?_
  obtain ⟨q1, hq2, h⟩ := bnd h
  refine z_fVi (sX10_after M x1 (6 : Int32) hq2) dX10_notesIn_4 ml_X10_341 cd_X10_after mk18 rfl rfl rfl rfl rfl rfl ?_
  cases h
  exact z_iret dX10_notesIn_7 rfl rfl (Nat.le_refl _) (Nat.le_refl _) ⟨rfl, rfl⟩
theorem dX10_squeaksIn_0 : decode cX10_squeaksIn 0 = .ok (.aload_n 0, 1) := by decide +kernel
theorem dX10_squeaksIn_1 : decode cX10_squeaksIn 1 = .ok (.iload_n 1, 1) := by decide +kernel
theorem dX10_squeaksIn_2 : decode cX10_squeaksIn 2 = .ok (.bipush 7, 2) := by decide +kernel
theorem dX10_squeaksIn_4 : decode cX10_squeaksIn 4 = .ok (.invokevirtual 341, 3) := by decide +kernel
theorem dX10_squeaksIn_7 : decode cX10_squeaksIn 7 = .ok (.ireturn, 1) := by decide +kernel
def fX10_squeaksIn (M : Mm) (x1 : Int32) : Option (Int32 × Mm) := (fX10_after M x1 (7 : Int32)).bind fun q1 => some (q1.1, q1.2)
set_option maxRecDepth 20000 in
set_option maxHeartbeats 2000000 in
theorem sX10_squeaksIn {wv : Nat} (M : Mm) (x1 : Int32) {res : (Int32 × Mm)} (h : fX10_squeaksIn M x1 = some res) : TF (wv + 1) yX10_squeaksIn cX10_squeaksIn 2 (some .int) 7 [.inr (18, 0, 0), .inl (.int x1)] M (some (.int res.1)) res.2 := by
  rw [fX10_squeaksIn] at h
  refine TF.go (n := 0) (ls := [some (.inr (18, 0, 0)), some (.inl (.int x1))]) rfl rfl rfl rfl rfl ?_
  refine z_aload_n (i := 0) dX10_squeaksIn_0 rfl rfl ?_
  refine z_iload_n (i := 1) dX10_squeaksIn_1 rfl rfl ?_
  refine z_bipush (v := (7 : Int32)) dX10_squeaksIn_2 kb_7 ?_
  obtain ⟨q1, hq2, h⟩ := bnd h
  refine z_fVi (sX10_after M x1 (7 : Int32) hq2) dX10_squeaksIn_4 ml_X10_341 cd_X10_after mk18 rfl rfl rfl rfl rfl rfl ?_
  cases h
  exact z_iret dX10_squeaksIn_7 rfl rfl (Nat.le_refl _) (Nat.le_refl _) ⟨rfl, rfl⟩
theorem dX10_addPin_0 : decode cX10_addPin 0 = .ok (.aload_n 0, 1) := by decide +kernel
theorem dX10_addPin_1 : decode cX10_addPin 1 = .ok (.iconst 0, 1) := by decide +kernel
theorem dX10_addPin_2 : decode cX10_addPin 2 = .ok (.putfield 79, 3) := by decide +kernel
theorem dX10_addPin_5 : decode cX10_addPin 5 = .ok (.aload_n 0, 1) := by decide +kernel
theorem dX10_addPin_6 : decode cX10_addPin 6 = .ok (.iload_n 1, 1) := by decide +kernel
theorem dX10_addPin_7 : decode cX10_addPin 7 = .ok (.iload_n 2, 1) := by decide +kernel
theorem dX10_addPin_8 : decode cX10_addPin 8 = .ok (.iload_n 3, 1) := by decide +kernel
theorem dX10_addPin_9 : decode cX10_addPin 9 = .ok (.iconst 1, 1) := by decide +kernel
theorem dX10_addPin_10 : decode cX10_addPin 10 = .ok (.invokevirtual 247, 3) := by decide +kernel
theorem dX10_addPin_13 : decode cX10_addPin 13 = .ok (.ireturn, 1) := by decide +kernel
def fX10_addPin (M : Mm) (x1 : Int32) (x2 : Int32) (x3 : Int32) : Option (Int32 × Mm) := (fX10_pinning (putI M (18, 0, 0) 8 (0 : Int32)) x1 x2 x3 (1 : Int32)).bind fun q1 => some (q1.1, q1.2)
set_option maxRecDepth 20000 in
set_option maxHeartbeats 2000000 in
theorem sX10_addPin {wv : Nat} (M : Mm) (x1 : Int32) (x2 : Int32) (x3 : Int32) {res : (Int32 × Mm)} (h : fX10_addPin M x1 x2 x3 = some res) : TF (wv + 1) yX10_addPin cX10_addPin 4 (some .int) 4 [.inr (18, 0, 0), .inl (.int x1), .inl (.int x2), .inl (.int x3)] M (some (.int res.1)) res.2 := by
  rw [fX10_addPin] at h
  refine TF.go (n := 0) (ls := [some (.inr (18, 0, 0)), some (.inl (.int x1)), some (.inl (.int x2)), some (.inl (.int x3))]) rfl rfl rfl rfl rfl ?_
  refine z_aload_n (i := 0) dX10_addPin_0 rfl rfl ?_
  refine z_iconst (v := (0 : Int32)) dX10_addPin_1 kc_0 ?_
  refine z_putI allR_nd dX10_addPin_2 fl_X10_79 mk18 rfl rfl ?_
  refine z_aload_n (i := 0) dX10_addPin_5 rfl rfl ?_
  refine z_iload_n (i := 1) dX10_addPin_6 rfl rfl ?_
  refine z_iload_n (i := 2) dX10_addPin_7 rfl rfl ?_
  refine z_iload_n (i := 3) dX10_addPin_8 rfl rfl ?_
  refine z_iconst (v := (1 : Int32)) dX10_addPin_9 kc_1 ?_
  obtain ⟨q1, hq2, h⟩ := bnd h
  refine z_fVi (sX10_pinning (putI M (18, 0, 0) 8 (0 : Int32)) x1 x2 x3 (1 : Int32) hq2) dX10_addPin_10 ml_X10_247 cd_X10_pinning mk18 rfl rfl rfl rfl rfl rfl ?_
  cases h
  exact z_iret dX10_addPin_13 rfl rfl (Nat.le_refl _) (Nat.le_refl _) ⟨rfl, rfl⟩
theorem dX10_removePin_0 : decode cX10_removePin 0 = .ok (.aload_n 0, 1) := by decide +kernel
theorem dX10_removePin_1 : decode cX10_removePin 1 = .ok (.iconst 0, 1) := by decide +kernel
theorem dX10_removePin_2 : decode cX10_removePin 2 = .ok (.putfield 79, 3) := by decide +kernel
theorem dX10_removePin_5 : decode cX10_removePin 5 = .ok (.aload_n 0, 1) := by decide +kernel
theorem dX10_removePin_6 : decode cX10_removePin 6 = .ok (.iload_n 1, 1) := by decide +kernel
theorem dX10_removePin_7 : decode cX10_removePin 7 = .ok (.iload_n 2, 1) := by decide +kernel
theorem dX10_removePin_8 : decode cX10_removePin 8 = .ok (.iload_n 3, 1) := by decide +kernel
theorem dX10_removePin_9 : decode cX10_removePin 9 = .ok (.iconst 0, 1) := by decide +kernel
theorem dX10_removePin_10 : decode cX10_removePin 10 = .ok (.invokevirtual 247, 3) := by decide +kernel
theorem dX10_removePin_13 : decode cX10_removePin 13 = .ok (.ireturn, 1) := by decide +kernel
def fX10_removePin (M : Mm) (x1 : Int32) (x2 : Int32) (x3 : Int32) : Option (Int32 × Mm) := (fX10_pinning (putI M (18, 0, 0) 8 (0 : Int32)) x1 x2 x3 (0 : Int32)).bind fun q1 => some (q1.1, q1.2)
set_option maxRecDepth 20000 in
set_option maxHeartbeats 2000000 in
theorem sX10_removePin {wv : Nat} (M : Mm) (x1 : Int32) (x2 : Int32) (x3 : Int32) {res : (Int32 × Mm)} (h : fX10_removePin M x1 x2 x3 = some res) : TF (wv + 1) yX10_removePin cX10_removePin 4 (some .int) 4 [.inr (18, 0, 0), .inl (.int x1), .inl (.int x2), .inl (.int x3)] M (some (.int res.1)) res.2 := by
  rw [fX10_removePin] at h
  refine TF.go (n := 0) (ls := [some (.inr (18, 0, 0)), some (.inl (.int x1)), some (.inl (.int x2)), some (.inl (.int x3))]) rfl rfl rfl rfl rfl ?_
  refine z_aload_n (i := 0) dX10_removePin_0 rfl rfl ?_
  refine z_iconst (v := (0 : Int32)) dX10_removePin_1 kc_0 ?_
  refine z_putI allR_nd dX10_removePin_2 fl_X10_79 mk18 rfl rfl ?_
  refine z_aload_n (i := 0) dX10_removePin_5 rfl rfl ?_
  refine z_iload_n (i := 1) dX10_removePin_6 rfl rfl ?_
  refine z_iload_n (i := 2) dX10_removePin_7 rfl rfl ?_
  refine z_iload_n (i := 3) dX10_removePin_8 rfl rfl ?_
  refine z_iconst (v := (0 : Int32)) dX10_removePin_9 kc_0 ?_
  obtain ⟨q1, hq2, h⟩ := bnd h
  refine z_fVi (sX10_pinning (putI M (18, 0, 0) 8 (0 : Int32)) x1 x2 x3 (0 : Int32) hq2) dX10_removePin_10 ml_X10_247 cd_X10_pinning mk18 rfl rfl rfl rfl rfl rfl ?_
  cases h
  exact z_iret dX10_removePin_13 rfl rfl (Nat.le_refl _) (Nat.le_refl _) ⟨rfl, rfl⟩
theorem dX10_shift_0 : decode cX10_shift 0 = .ok (.aload_n 0, 1) := by decide +kernel
theorem dX10_shift_1 : decode cX10_shift 1 = .ok (.iload_n 1, 1) := by decide +kernel
theorem dX10_shift_2 : decode cX10_shift 2 = .ok (.invokevirtual 303, 3) := by decide +kernel
theorem dX10_shift_5 : decode cX10_shift 5 = .ok (.ifCond .eq 18, 3) := by decide +kernel
theorem dX10_shift_8 : decode cX10_shift 8 = .ok (.aload_n 0, 1) := by decide +kernel
theorem dX10_shift_9 : decode cX10_shift 9 = .ok (.iload_n 2, 1) := by decide +kernel
theorem dX10_shift_10 : decode cX10_shift 10 = .ok (.iconst 0, 1) := by decide +kernel
theorem dX10_shift_11 : decode cX10_shift 11 = .ok (.bipush 63, 2) := by decide +kernel
theorem dX10_shift_13 : decode cX10_shift 13 = .ok (.invokestatic 82, 3) := by decide +kernel
theorem dX10_shift_16 : decode cX10_shift 16 = .ok (.iconst 2, 1) := by decide +kernel
theorem dX10_shift_17 : decode cX10_shift 17 = .ok (.invokevirtual 127, 3) := by decide +kernel
theorem dX10_shift_20 : decode cX10_shift 20 = .ok (.ifCond .ne 5, 3) := by decide +kernel
theorem dX10_shift_23 : decode cX10_shift 23 = .ok (.iconst 0, 1) := by decide +kernel
theorem dX10_shift_24 : decode cX10_shift 24 = .ok (.ireturn, 1) := by decide +kernel
theorem dX10_shift_25 : decode cX10_shift 25 = .ok (.aload_n 0, 1) := by decide +kernel
theorem dX10_shift_26 : decode cX10_shift 26 = .ok (.invokevirtual 344, 3) := by decide +kernel
theorem dX10_shift_29 : decode cX10_shift 29 = .ok (.iconst 0, 1) := by decide +kernel
theorem dX10_shift_30 : decode cX10_shift 30 = .ok (.istore_n 3, 1) := by decide +kernel
theorem dX10_shift_31 : decode cX10_shift 31 = .ok (.iload_n 3, 1) := by decide +kernel
theorem dX10_shift_32 : decode cX10_shift 32 = .ok (.aload_n 0, 1) := by decide +kernel
theorem dX10_shift_33 : decode cX10_shift 33 = .ok (.getfield 7, 3) := by decide +kernel
theorem dX10_shift_36 : decode cX10_shift 36 = .ok (.iconst 0, 1) := by decide +kernel
theorem dX10_shift_37 : decode cX10_shift 37 = .ok (.iaload, 1) := by decide +kernel
theorem dX10_shift_38 : decode cX10_shift 38 = .ok (.if_icmp .ge 30, 3) := by decide +kernel
theorem dX10_shift_41 : decode cX10_shift 41 = .ok (.aload_n 0, 1) := by decide +kernel
theorem dX10_shift_42 : decode cX10_shift 42 = .ok (.getfield 25, 3) := by decide +kernel
theorem dX10_shift_45 : decode cX10_shift 45 = .ok (.iload_n 3, 1) := by decide +kernel
theorem dX10_shift_46 : decode cX10_shift 46 = .ok (.iload_n 2, 1) := by decide +kernel
theorem dX10_shift_47 : decode cX10_shift 47 = .ok (.iadd, 1) := by decide +kernel
theorem dX10_shift_48 : decode cX10_shift 48 = .ok (.aload_n 0, 1) := by decide +kernel
theorem dX10_shift_49 : decode cX10_shift 49 = .ok (.getfield 7, 3) := by decide +kernel
theorem dX10_shift_52 : decode cX10_shift 52 = .ok (.iconst 0, 1) := by decide +kernel
theorem dX10_shift_53 : decode cX10_shift 53 = .ok (.iaload, 1) := by decide +kernel
theorem dX10_shift_54 : decode cX10_shift 54 = .ok (.irem, 1) := by decide +kernel
theorem dX10_shift_55 : decode cX10_shift 55 = .ok (.aload_n 0, 1) := by decide +kernel
theorem dX10_shift_56 : decode cX10_shift 56 = .ok (.iload_n 1, 1) := by decide +kernel
theorem dX10_shift_57 : decode cX10_shift 57 = .ok (.iload_n 3, 1) := by decide +kernel
theorem dX10_shift_58 : decode cX10_shift 58 = .ok (.invokevirtual 86, 3) := by decide +kernel
theorem dX10_shift_61 : decode cX10_shift 61 = .ok (.iastore, 1) := by decide +kernel
theorem dX10_shift_62 : decode cX10_shift 62 = .ok (.iinc 3 1, 3) := by decide +kernel
theorem dX10_shift_65 : decode cX10_shift 65 = .ok (.goto (-34), 3) := by decide +kernel
theorem dX10_shift_68 : decode cX10_shift 68 = .ok (.iconst 0, 1) := by decide +kernel
theorem dX10_shift_69 : decode cX10_shift 69 = .ok (.istore_n 3, 1) := by decide +kernel
theorem dX10_shift_70 : decode cX10_shift 70 = .ok (.iload_n 3, 1) := by decide +kernel
theorem dX10_shift_71 : decode cX10_shift 71 = .ok (.aload_n 0, 1) := by decide +kernel
theorem dX10_shift_72 : decode cX10_shift 72 = .ok (.getfield 7, 3) := by decide +kernel
theorem dX10_shift_75 : decode cX10_shift 75 = .ok (.iconst 0, 1) := by decide +kernel
theorem dX10_shift_76 : decode cX10_shift 76 = .ok (.iaload, 1) := by decide +kernel
theorem dX10_shift_77 : decode cX10_shift 77 = .ok (.if_icmp .ge 21, 3) := by decide +kernel
theorem dX10_shift_80 : decode cX10_shift 80 = .ok (.aload_n 0, 1) := by decide +kernel
theorem dX10_shift_81 : decode cX10_shift 81 = .ok (.iload_n 1, 1) := by decide +kernel
theorem dX10_shift_82 : decode cX10_shift 82 = .ok (.iload_n 3, 1) := by decide +kernel
theorem dX10_shift_83 : decode cX10_shift 83 = .ok (.aload_n 0, 1) := by decide +kernel
theorem dX10_shift_84 : decode cX10_shift 84 = .ok (.getfield 25, 3) := by decide +kernel
theorem dX10_shift_87 : decode cX10_shift 87 = .ok (.iload_n 3, 1) := by decide +kernel
theorem dX10_shift_88 : decode cX10_shift 88 = .ok (.iaload, 1) := by decide +kernel
theorem dX10_shift_89 : decode cX10_shift 89 = .ok (.invokevirtual 185, 3) := by decide +kernel
theorem dX10_shift_92 : decode cX10_shift 92 = .ok (.iinc 3 1, 3) := by decide +kernel
theorem dX10_shift_95 : decode cX10_shift 95 = .ok (.goto (-25), 3) := by decide +kernel
theorem dX10_shift_98 : decode cX10_shift 98 = .ok (.aload_n 0, 1) := by decide +kernel
theorem dX10_shift_99 : decode cX10_shift 99 = .ok (.iload_n 1, 1) := by decide +kernel
theorem dX10_shift_100 : decode cX10_shift 100 = .ok (.invokevirtual 306, 3) := by decide +kernel
theorem dX10_shift_103 : decode cX10_shift 103 = .ok (.ireturn, 1) := by decide +kernel
def fX10_shift_L31 (c1 : Int32) (c2 : Int32) (K : Int32 → Mm → Option (Int32 × Mm)) : Nat → Int32 → Mm → Option (Int32 × Mm)
  | 0, _, _ => none
  | n + 1, v3, M => if (M.1 (19, 0, 0) 0) ≤ v3 then K v3 M else if (M.1 (19, 0, 0) 0) = 0 then none else (fX10_set M c1 v3).bind fun q11 => if ((v3 + c2) - (v3 + c2) / (M.1 (19, 0, 0) 0) * (M.1 (19, 0, 0) 0)) < 0 ∨ 64 ≤ ((v3 + c2) - (v3 + c2) / (M.1 (19, 0, 0) 0) * (M.1 (19, 0, 0) 0)).toNatClampNeg then none else fX10_shift_L31 c1 c2 K n (v3 + (1 : Int32)) (putI M (19, 5, 0) ((v3 + c2) - (v3 + c2) / (M.1 (19, 0, 0) 0) * (M.1 (19, 0, 0) 0)).toNatClampNeg q11)
def fX10_shift_L70 (c1 : Int32) (K : Int32 → Mm → Option (Int32 × Mm)) : Nat → Int32 → Mm → Option (Int32 × Mm)
  | 0, _, _ => none
  | n + 1, v3, M => if (M.1 (19, 0, 0) 0) ≤ v3 then K v3 M else if v3 < 0 ∨ 64 ≤ v3.toNatClampNeg then none else (fX10_putSet M c1 v3 (M.1 (19, 5, 0) v3.toNatClampNeg)).bind fun q18 => fX10_shift_L70 c1 K n (v3 + (1 : Int32)) q18
def fX10_shift (M : Mm) (x1 : Int32) (x2 : Int32) : Option (Int32 × Mm) := (fX10_findsTune M x1).bind fun q1 => if q1.1 = 0 then some ((0 : Int32), q1.2) else (fX10_right q1.2 (fX10_in q1.2 x2 (0 : Int32) (63 : Int32)) (2 : Int32)).bind fun q4 => if q4.1 = 0 then some ((0 : Int32), q4.2) else (fX10_changes q4.2).bind fun q7 => fX10_shift_L31 x1 x2 (fun w14 M15 => fX10_shift_L70 x1 (fun w20 M21 => (fX10_pins M21 x1).bind fun q22 => some (q22, M21)) NF (0 : Int32) M15) NF (0 : Int32) q7
set_option maxRecDepth 20000 in
set_option maxHeartbeats 2000000 in
theorem sX10_shift_L31 {wv : Nat} (c1 : Int32) (c2 : Int32) {res : (Int32 × Mm)} {K : Int32 → Mm → Option (Int32 × Mm)} : ∀ (n : Nat) (v3 : Int32) (M : Mm), fX10_shift_L31 c1 c2 K n v3 M = some res →
    (∀ (v3 : Int32) (M : Mm), K v3 M = some res → Z RX10 cX10_shift 4 (some .int) [] "shift" (rmD 3 0 0) (QM SH (allR (wv + 1)) 0 0 (fun v M9 => v = some (.int res.1) ∧ M9 = res.2) (fun _ _ => False)) (allR (wv + 1)) SH 0 0 68 [some (.inr (18, 0, 0)), some (.inl (.int c1)), some (.inl (.int c2)), some (.inl (.int v3))] [] M) → Z RX10 cX10_shift 4 (some .int) [] "shift" (rmD 3 0 0) (QM SH (allR (wv + 1)) 0 0 (fun v M9 => v = some (.int res.1) ∧ M9 = res.2) (fun _ _ => False)) (allR (wv + 1)) SH 0 0 31 [some (.inr (18, 0, 0)), some (.inl (.int c1)), some (.inl (.int c2)), some (.inl (.int v3))] [] M := by
  intro n
  induction n with
  | zero => intro v3 M h; cases h
  | succ n ih =>
    intro v3 M h hK
    rw [fX10_shift_L31] at h
    refine z_iload_n (i := 3) dX10_shift_31 rfl rfl ?_
    refine z_aload_n (i := 0) dX10_shift_32 rfl rfl ?_
    refine z_getR (r' := (19, 0, 0)) dX10_shift_33 fl_X10_7 mk18 rfl rfl ?_
    refine z_iconst (v := (0 : Int32)) dX10_shift_36 kc_0 ?_
    refine z_iald (x := (M.1 (19, 0, 0) 0)) dX10_shift_37 (m19 _ (Nat.le_of_ble_eq_true rfl)) rfl (by decide) rfl ?_
    refine z_icmp_ge (tgt := 68) dX10_shift_38 rfl (fun hc9 => ?_) (fun hc9 => ?_)
    · have h := it_t h hc9
      exact hK _ _ h
    · have h := it_f h hc9
      refine z_aload_n (i := 0) dX10_shift_41 rfl rfl ?_
      refine z_getR (r' := (19, 5, 0)) dX10_shift_42 fl_X10_25 mk18 rfl rfl ?_
      refine z_iload_n (i := 3) dX10_shift_45 rfl rfl ?_
      refine z_iload_n (i := 2) dX10_shift_46 rfl rfl ?_
      refine z_iadd dX10_shift_47 ?_
      refine z_aload_n (i := 0) dX10_shift_48 rfl rfl ?_
      refine z_getR (r' := (19, 0, 0)) dX10_shift_49 fl_X10_7 mk18 rfl rfl ?_
      refine z_iconst (v := (0 : Int32)) dX10_shift_52 kc_0 ?_
      refine z_iald (x := (M.1 (19, 0, 0) 0)) dX10_shift_53 (m19 _ (Nat.le_of_ble_eq_true rfl)) rfl (by decide) rfl ?_
      obtain ⟨hc10, h⟩ := chk h
      refine z_irem dX10_shift_54 hc10 ?_
      refine z_aload_n (i := 0) dX10_shift_55 rfl rfl ?_
      refine z_iload_n (i := 1) dX10_shift_56 rfl rfl ?_
      refine z_iload_n (i := 3) dX10_shift_57 rfl rfl ?_
      obtain ⟨q11, hq12, h⟩ := bnd h
      refine z_fVi (sX10_set M c1 v3 hq12) dX10_shift_58 ml_X10_86 cd_X10_set mk18 rfl rfl rfl rfl rfl rfl ?_
      obtain ⟨hc13, h⟩ := chk h
      refine z_iast (j := ((v3 + c2) - (v3 + c2) / (M.1 (19, 0, 0) 0) * (M.1 (19, 0, 0) 0)).toNatClampNeg) allR_nd dX10_shift_61 (m19 _ (Nat.le_of_ble_eq_true rfl)) rfl hc13 rfl ?_
      refine z_iinc (i := 3) (v := (v3 + (1 : Int32))) dX10_shift_62 rfl (iinc_k kc_1) (Nat.le_of_ble_eq_true rfl) rfl ?_
      refine z_goto (tgt := 31) dX10_shift_65 rfl ?_
      exact ih _ _ h hK
set_option maxRecDepth 20000 in
set_option maxHeartbeats 2000000 in
theorem sX10_shift_L70 {wv : Nat} (c1 : Int32) {res : (Int32 × Mm)} {K : Int32 → Mm → Option (Int32 × Mm)} : ∀ (n : Nat) (v3 : Int32) (M : Mm), fX10_shift_L70 c1 K n v3 M = some res →
    (∀ (v3 : Int32) (M : Mm), K v3 M = some res → Z RX10 cX10_shift 4 (some .int) [] "shift" (rmD 3 0 0) (QM SH (allR (wv + 1)) 0 0 (fun v M9 => v = some (.int res.1) ∧ M9 = res.2) (fun _ _ => False)) (allR (wv + 1)) SH 0 0 98 [some (.inr (18, 0, 0)), some (.inl (.int c1)), none, some (.inl (.int v3))] [] M) → Z RX10 cX10_shift 4 (some .int) [] "shift" (rmD 3 0 0) (QM SH (allR (wv + 1)) 0 0 (fun v M9 => v = some (.int res.1) ∧ M9 = res.2) (fun _ _ => False)) (allR (wv + 1)) SH 0 0 70 [some (.inr (18, 0, 0)), some (.inl (.int c1)), none, some (.inl (.int v3))] [] M := by
  intro n
  induction n with
  | zero => intro v3 M h; cases h
  | succ n ih =>
    intro v3 M h hK
    rw [fX10_shift_L70] at h
    refine z_iload_n (i := 3) dX10_shift_70 rfl rfl ?_
    refine z_aload_n (i := 0) dX10_shift_71 rfl rfl ?_
    refine z_getR (r' := (19, 0, 0)) dX10_shift_72 fl_X10_7 mk18 rfl rfl ?_
    refine z_iconst (v := (0 : Int32)) dX10_shift_75 kc_0 ?_
    refine z_iald (x := (M.1 (19, 0, 0) 0)) dX10_shift_76 (m19 _ (Nat.le_of_ble_eq_true rfl)) rfl (by decide) rfl ?_
    refine z_icmp_ge (tgt := 98) dX10_shift_77 rfl (fun hc16 => ?_) (fun hc16 => ?_)
    · have h := it_t h hc16
      exact hK _ _ h
    · have h := it_f h hc16
      refine z_aload_n (i := 0) dX10_shift_80 rfl rfl ?_
      refine z_iload_n (i := 1) dX10_shift_81 rfl rfl ?_
      refine z_iload_n (i := 3) dX10_shift_82 rfl rfl ?_
      refine z_aload_n (i := 0) dX10_shift_83 rfl rfl ?_
      refine z_getR (r' := (19, 5, 0)) dX10_shift_84 fl_X10_25 mk18 rfl rfl ?_
      refine z_iload_n (i := 3) dX10_shift_87 rfl rfl ?_
      obtain ⟨hc17, h⟩ := chk h
      refine z_iald (x := (M.1 (19, 5, 0) v3.toNatClampNeg)) dX10_shift_88 (m19 _ (Nat.le_of_ble_eq_true rfl)) rfl hc17 rfl ?_
      obtain ⟨q18, hq19, h⟩ := bnd h
      refine z_fVv (sX10_putSet M c1 v3 (M.1 (19, 5, 0) v3.toNatClampNeg) hq19) dX10_shift_89 ml_X10_185 cd_X10_putSet mk18 rfl rfl rfl rfl rfl rfl ?_
      refine z_iinc (i := 3) (v := (v3 + (1 : Int32))) dX10_shift_92 rfl (iinc_k kc_1) (Nat.le_of_ble_eq_true rfl) rfl ?_
      refine z_goto (tgt := 70) dX10_shift_95 rfl ?_
      exact ih _ _ h hK
set_option maxRecDepth 20000 in
set_option maxHeartbeats 2000000 in
theorem sX10_shift {wv : Nat} (M : Mm) (x1 : Int32) (x2 : Int32) {res : (Int32 × Mm)} (h : fX10_shift M x1 x2 = some res) : TF (wv + 1) yX10_shift cX10_shift 4 (some .int) 3 [.inr (18, 0, 0), .inl (.int x1), .inl (.int x2)] M (some (.int res.1)) res.2 := by
  rw [fX10_shift] at h
  refine TF.go (n := 1) (ls := [some (.inr (18, 0, 0)), some (.inl (.int x1)), some (.inl (.int x2)), none]) rfl rfl rfl rfl rfl ?_
  refine z_aload_n (i := 0) dX10_shift_0 rfl rfl ?_
  refine z_iload_n (i := 1) dX10_shift_1 rfl rfl ?_
  obtain ⟨q1, hq2, h⟩ := bnd h
  refine z_fVi (sX10_findsTune M x1 hq2) dX10_shift_2 ml_X10_303 cd_X10_findsTune mk18 rfl rfl rfl rfl rfl rfl ?_
  refine z_if_eq (tgt := 23) dX10_shift_5 rfl (fun hc3 => ?_) (fun hc3 => ?_)
  · have h := it_t h hc3
    refine z_iconst (v := (0 : Int32)) dX10_shift_23 kc_0 ?_
    cases h
    exact z_iret dX10_shift_24 rfl rfl (Nat.le_refl _) (Nat.le_refl _) ⟨rfl, rfl⟩
  · have h := it_f h hc3
    refine z_aload_n (i := 0) dX10_shift_8 rfl rfl ?_
    refine z_iload_n (i := 2) dX10_shift_9 rfl rfl ?_
    refine z_iconst (v := (0 : Int32)) dX10_shift_10 kc_0 ?_
    refine z_bipush (v := (63 : Int32)) dX10_shift_11 kb_63 ?_
    refine z_fSi (sX10_in q1.2 x2 (0 : Int32) (63 : Int32)) dX10_shift_13 ml_X10_82 cd_X10_in rfl rfl rfl rfl rfl ?_
    refine z_iconst (v := (2 : Int32)) dX10_shift_16 kc_2 ?_
    obtain ⟨q4, hq5, h⟩ := bnd h
    refine z_fVi (sX10_right q1.2 (fX10_in q1.2 x2 (0 : Int32) (63 : Int32)) (2 : Int32) hq5) dX10_shift_17 ml_X10_127 cd_X10_right mk18 rfl rfl rfl rfl rfl rfl ?_
    refine z_if_ne (tgt := 25) dX10_shift_20 rfl (fun hc6 => ?_) (fun hc6 => ?_)
    · have h := it_f h hc6
      refine z_aload_n (i := 0) dX10_shift_25 rfl rfl ?_
      obtain ⟨q7, hq8, h⟩ := bnd h
      refine z_fVv (sX10_changes q4.2 hq8) dX10_shift_26 ml_X10_344 cd_X10_changes mk18 rfl rfl rfl rfl rfl rfl ?_
      refine z_iconst (v := (0 : Int32)) dX10_shift_29 kc_0 ?_
      refine z_istore_n (i := 3) dX10_shift_30 rfl (Nat.le_of_ble_eq_true rfl) rfl ?_
      refine sX10_shift_L31 x1 x2 NF _ _ h (fun w14 M15 h => ?_)
      refine z_iconst (v := (0 : Int32)) dX10_shift_68 kc_0 ?_
      refine z_istore_n (i := 3) dX10_shift_69 rfl (Nat.le_of_ble_eq_true rfl) rfl ?_
      refine z_fgt (i := 2) ?_
      refine sX10_shift_L70 x1 NF _ _ h (fun w20 M21 h => ?_)
      refine z_aload_n (i := 0) dX10_shift_98 rfl rfl ?_
      refine z_iload_n (i := 1) dX10_shift_99 rfl rfl ?_
      obtain ⟨q22, hq23, h⟩ := bnd h
      refine z_fVi (sX10_pins M21 x1 hq23) dX10_shift_100 ml_X10_306 cd_X10_pins mk18 rfl rfl rfl rfl rfl rfl ?_
      cases h
      exact z_iret dX10_shift_103 rfl rfl (Nat.le_refl _) (Nat.le_refl _) ⟨rfl, rfl⟩
    · have h := it_t h hc6
      refine z_iconst (v := (0 : Int32)) dX10_shift_23 kc_0 ?_
      cases h
      exact z_iret dX10_shift_24 rfl rfl (Nat.le_refl _) (Nat.le_refl _) ⟨rfl, rfl⟩
theorem dX10_fits_0 : decode cX10_fits 0 = .ok (.iconst 0, 1) := by decide +kernel
theorem dX10_fits_1 : decode cX10_fits 1 = .ok (.istore_n 3, 1) := by decide +kernel
theorem dX10_fits_2 : decode cX10_fits 2 = .ok (.iload_n 3, 1) := by decide +kernel
theorem dX10_fits_3 : decode cX10_fits 3 = .ok (.aload_n 0, 1) := by decide +kernel
theorem dX10_fits_4 : decode cX10_fits 4 = .ok (.getfield 7, 3) := by decide +kernel
theorem dX10_fits_7 : decode cX10_fits 7 = .ok (.iconst 0, 1) := by decide +kernel
theorem dX10_fits_8 : decode cX10_fits 8 = .ok (.iaload, 1) := by decide +kernel
theorem dX10_fits_9 : decode cX10_fits 9 = .ok (.if_icmp .ge 53, 3) := by decide +kernel
theorem dX10_fits_12 : decode cX10_fits 12 = .ok (.iconst 0, 1) := by decide +kernel
theorem dX10_fits_13 : decode cX10_fits 13 = .ok (.istore 4, 2) := by decide +kernel
theorem dX10_fits_15 : decode cX10_fits 15 = .ok (.iload 4, 2) := by decide +kernel
theorem dX10_fits_17 : decode cX10_fits 17 = .ok (.aload_n 0, 1) := by decide +kernel
theorem dX10_fits_18 : decode cX10_fits 18 = .ok (.getfield 7, 3) := by decide +kernel
theorem dX10_fits_21 : decode cX10_fits 21 = .ok (.iconst 3, 1) := by decide +kernel
theorem dX10_fits_22 : decode cX10_fits 22 = .ok (.iaload, 1) := by decide +kernel
theorem dX10_fits_23 : decode cX10_fits 23 = .ok (.if_icmp .ge 33, 3) := by decide +kernel
theorem dX10_fits_26 : decode cX10_fits 26 = .ok (.aload_n 0, 1) := by decide +kernel
theorem dX10_fits_27 : decode cX10_fits 27 = .ok (.iload_n 1, 1) := by decide +kernel
theorem dX10_fits_28 : decode cX10_fits 28 = .ok (.iload 4, 2) := by decide +kernel
theorem dX10_fits_30 : decode cX10_fits 30 = .ok (.iload_n 3, 1) := by decide +kernel
theorem dX10_fits_31 : decode cX10_fits 31 = .ok (.invokevirtual 93, 3) := by decide +kernel
theorem dX10_fits_34 : decode cX10_fits 34 = .ok (.ifCond .eq 16, 3) := by decide +kernel
theorem dX10_fits_37 : decode cX10_fits 37 = .ok (.aload_n 0, 1) := by decide +kernel
theorem dX10_fits_38 : decode cX10_fits 38 = .ok (.iload 4, 2) := by decide +kernel
theorem dX10_fits_40 : decode cX10_fits 40 = .ok (.iload_n 2, 1) := by decide +kernel
theorem dX10_fits_41 : decode cX10_fits 41 = .ok (.iadd, 1) := by decide +kernel
theorem dX10_fits_42 : decode cX10_fits 42 = .ok (.invokevirtual 291, 3) := by decide +kernel
theorem dX10_fits_45 : decode cX10_fits 45 = .ok (.ifCond .ne 5, 3) := by decide +kernel
theorem dX10_fits_48 : decode cX10_fits 48 = .ok (.iconst 0, 1) := by decide +kernel
theorem dX10_fits_49 : decode cX10_fits 49 = .ok (.ireturn, 1) := by decide +kernel
theorem dX10_fits_50 : decode cX10_fits 50 = .ok (.iinc 4 1, 3) := by decide +kernel
theorem dX10_fits_53 : decode cX10_fits 53 = .ok (.goto (-38), 3) := by decide +kernel
theorem dX10_fits_56 : decode cX10_fits 56 = .ok (.iinc 3 1, 3) := by decide +kernel
theorem dX10_fits_59 : decode cX10_fits 59 = .ok (.goto (-57), 3) := by decide +kernel
theorem dX10_fits_62 : decode cX10_fits 62 = .ok (.iconst 1, 1) := by decide +kernel
theorem dX10_fits_63 : decode cX10_fits 63 = .ok (.ireturn, 1) := by decide +kernel
def fX10_fits_L15 (M : Mm) (c1 : Int32) (c2 : Int32) (c3 : Int32) (K : Int32 → Option Int32) : Nat → Int32 → Option Int32
  | 0, _ => none
  | n + 1, v4 => if (M.1 (19, 0, 0) 3) ≤ v4 then K v4 else (fX10_has M c1 v4 c3).bind fun q3 => if q3 = 0 then fX10_fits_L15 M c1 c2 c3 K n (v4 + (1 : Int32)) else if (fX10_isTooth M (v4 + c2)) = 0 then some (0 : Int32) else fX10_fits_L15 M c1 c2 c3 K n (v4 + (1 : Int32))
def fX10_fits_L2 (M : Mm) (c1 : Int32) (c2 : Int32) (K : Int32 → Option Int32) : Nat → Int32 → Option Int32
  | 0, _ => none
  | n + 1, v3 => if (M.1 (19, 0, 0) 0) ≤ v3 then K v3 else fX10_fits_L15 M c1 c2 v3 (fun w7 => fX10_fits_L2 M c1 c2 K n (v3 + (1 : Int32))) NF (0 : Int32)
def fX10_fits (M : Mm) (x1 : Int32) (x2 : Int32) : Option Int32 := fX10_fits_L2 M x1 x2 (fun w8 => some (1 : Int32)) NF (0 : Int32)
set_option maxRecDepth 20000 in
set_option maxHeartbeats 2000000 in
theorem sX10_fits_L15 {wv : Nat} (M : Mm) (c1 : Int32) (c2 : Int32) (c3 : Int32) {res : Int32} {K : Int32 → Option Int32} : ∀ (n : Nat) (v4 : Int32), fX10_fits_L15 M c1 c2 c3 K n v4 = some res →
    (∀ (v4 : Int32), K v4 = some res → Z RX10 cX10_fits 5 (some .boolean) [] "fits" (rmD 2 0 0) (QM SH (allR (wv + 1)) 0 0 (fun v M9 => v = some (.int res) ∧ M9 = M) (fun _ _ => False)) (allR (wv + 1)) SH 0 0 56 [some (.inr (18, 0, 0)), some (.inl (.int c1)), some (.inl (.int c2)), some (.inl (.int c3)), some (.inl (.int v4))] [] M) → Z RX10 cX10_fits 5 (some .boolean) [] "fits" (rmD 2 0 0) (QM SH (allR (wv + 1)) 0 0 (fun v M9 => v = some (.int res) ∧ M9 = M) (fun _ _ => False)) (allR (wv + 1)) SH 0 0 15 [some (.inr (18, 0, 0)), some (.inl (.int c1)), some (.inl (.int c2)), some (.inl (.int c3)), some (.inl (.int v4))] [] M := by
  intro n
  induction n with
  | zero => intro v4 h; cases h
  | succ n ih =>
    intro v4 h hK
    rw [fX10_fits_L15] at h
    refine z_iload (i := 4) dX10_fits_15 rfl ?_
    refine z_aload_n (i := 0) dX10_fits_17 rfl rfl ?_
    refine z_getR (r' := (19, 0, 0)) dX10_fits_18 fl_X10_7 mk18 rfl rfl ?_
    refine z_iconst (v := (3 : Int32)) dX10_fits_21 kc_3 ?_
    refine z_iald (x := (M.1 (19, 0, 0) 3)) dX10_fits_22 (m19 _ (Nat.le_of_ble_eq_true rfl)) rfl (by decide) rfl ?_
    refine z_icmp_ge (tgt := 56) dX10_fits_23 rfl (fun hc2 => ?_) (fun hc2 => ?_)
    · have h := it_t h hc2
      exact hK _ h
    · have h := it_f h hc2
      refine z_aload_n (i := 0) dX10_fits_26 rfl rfl ?_
      refine z_iload_n (i := 1) dX10_fits_27 rfl rfl ?_
      refine z_iload (i := 4) dX10_fits_28 rfl ?_
      refine z_iload_n (i := 3) dX10_fits_30 rfl rfl ?_
      obtain ⟨q3, hq4, h⟩ := bnd h
      refine z_fVi (sX10_has M c1 v4 c3 hq4) dX10_fits_31 ml_X10_93 cd_X10_has mk18 rfl rfl rfl rfl rfl rfl ?_
      refine z_if_eq (tgt := 50) dX10_fits_34 rfl (fun hc5 => ?_) (fun hc5 => ?_)
      · have h := it_t h hc5
        refine z_iinc (i := 4) (v := (v4 + (1 : Int32))) dX10_fits_50 rfl (iinc_k kc_1) (Nat.le_of_ble_eq_true rfl) rfl ?_
        refine z_goto (tgt := 15) dX10_fits_53 rfl ?_
        exact ih _ h hK
      · have h := it_f h hc5
        refine z_aload_n (i := 0) dX10_fits_37 rfl rfl ?_
        refine z_iload (i := 4) dX10_fits_38 rfl ?_
        refine z_iload_n (i := 2) dX10_fits_40 rfl rfl ?_
        refine z_iadd dX10_fits_41 ?_
        refine z_fVi (sX10_isTooth M (v4 + c2)) dX10_fits_42 ml_X10_291 cd_X10_isTooth mk18 rfl rfl rfl rfl rfl rfl ?_
        refine z_if_ne (tgt := 50) dX10_fits_45 rfl (fun hc6 => ?_) (fun hc6 => ?_)
        · have h := it_f h hc6
          refine z_iinc (i := 4) (v := (v4 + (1 : Int32))) dX10_fits_50 rfl (iinc_k kc_1) (Nat.le_of_ble_eq_true rfl) rfl ?_
          refine z_goto (tgt := 15) dX10_fits_53 rfl ?_
          exact ih _ h hK
        · have h := it_t h hc6
          refine z_iconst (v := (0 : Int32)) dX10_fits_48 kc_0 ?_
          cases h
          exact z_iret dX10_fits_49 rfl rfl (Nat.le_refl _) (Nat.le_refl _) ⟨rfl, rfl⟩
set_option maxRecDepth 20000 in
set_option maxHeartbeats 2000000 in
theorem sX10_fits_L2 {wv : Nat} (M : Mm) (c1 : Int32) (c2 : Int32) {res : Int32} {K : Int32 → Option Int32} : ∀ (n : Nat) (v3 : Int32), fX10_fits_L2 M c1 c2 K n v3 = some res →
    (∀ (v3 : Int32), K v3 = some res → Z RX10 cX10_fits 5 (some .boolean) [] "fits" (rmD 2 0 0) (QM SH (allR (wv + 1)) 0 0 (fun v M9 => v = some (.int res) ∧ M9 = M) (fun _ _ => False)) (allR (wv + 1)) SH 0 0 62 [some (.inr (18, 0, 0)), some (.inl (.int c1)), some (.inl (.int c2)), some (.inl (.int v3)), none] [] M) → Z RX10 cX10_fits 5 (some .boolean) [] "fits" (rmD 2 0 0) (QM SH (allR (wv + 1)) 0 0 (fun v M9 => v = some (.int res) ∧ M9 = M) (fun _ _ => False)) (allR (wv + 1)) SH 0 0 2 [some (.inr (18, 0, 0)), some (.inl (.int c1)), some (.inl (.int c2)), some (.inl (.int v3)), none] [] M := by
  intro n
  induction n with
  | zero => intro v3 h; cases h
  | succ n ih =>
    intro v3 h hK
    rw [fX10_fits_L2] at h
    refine z_iload_n (i := 3) dX10_fits_2 rfl rfl ?_
    refine z_aload_n (i := 0) dX10_fits_3 rfl rfl ?_
    refine z_getR (r' := (19, 0, 0)) dX10_fits_4 fl_X10_7 mk18 rfl rfl ?_
    refine z_iconst (v := (0 : Int32)) dX10_fits_7 kc_0 ?_
    refine z_iald (x := (M.1 (19, 0, 0) 0)) dX10_fits_8 (m19 _ (Nat.le_of_ble_eq_true rfl)) rfl (by decide) rfl ?_
    refine z_icmp_ge (tgt := 62) dX10_fits_9 rfl (fun hc1 => ?_) (fun hc1 => ?_)
    · have h := it_t h hc1
      exact hK _ h
    · have h := it_f h hc1
      refine z_iconst (v := (0 : Int32)) dX10_fits_12 kc_0 ?_
      refine z_istore (i := 4) dX10_fits_13 (Nat.le_of_ble_eq_true rfl) rfl ?_
      refine sX10_fits_L15 M c1 c2 v3 NF _ h (fun w7 h => ?_)
      refine z_iinc (i := 3) (v := (v3 + (1 : Int32))) dX10_fits_56 rfl (iinc_k kc_1) (Nat.le_of_ble_eq_true rfl) rfl ?_
      refine z_goto (tgt := 2) dX10_fits_59 rfl ?_
      refine z_fgt (i := 4) ?_
      exact ih _ h hK
set_option maxRecDepth 20000 in
set_option maxHeartbeats 2000000 in
theorem sX10_fits {wv : Nat} (M : Mm) (x1 : Int32) (x2 : Int32) {res : Int32} (h : fX10_fits M x1 x2 = some res) : TF (wv + 1) yX10_fits cX10_fits 5 (some .boolean) 2 [.inr (18, 0, 0), .inl (.int x1), .inl (.int x2)] M (some (.int res)) M := by
  rw [fX10_fits] at h
  refine TF.go (n := 2) (ls := [some (.inr (18, 0, 0)), some (.inl (.int x1)), some (.inl (.int x2)), none, none]) rfl rfl rfl rfl rfl ?_
  refine z_iconst (v := (0 : Int32)) dX10_fits_0 kc_0 ?_
  refine z_istore_n (i := 3) dX10_fits_1 rfl (Nat.le_of_ble_eq_true rfl) rfl ?_
  refine sX10_fits_L2 M x1 x2 NF _ h (fun w8 h => ?_)
  refine z_iconst (v := (1 : Int32)) dX10_fits_62 kc_1 ?_
  cases h
  exact z_iret dX10_fits_63 rfl rfl (Nat.le_refl _) (Nat.le_refl _) ⟨rfl, rfl⟩
