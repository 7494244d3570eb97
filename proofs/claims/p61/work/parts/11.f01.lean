theorem dX0_putPinFault_0 : decode cX0_putPinFault 0 = .ok (.aload_n 0, 1) := by decide +kernel
theorem dX0_putPinFault_1 : decode cX0_putPinFault 1 = .ok (.iload_n 1, 1) := by decide +kernel
theorem dX0_putPinFault_2 : decode cX0_putPinFault 2 = .ok (.iload_n 2, 1) := by decide +kernel
theorem dX0_putPinFault_3 : decode cX0_putPinFault 3 = .ok (.iload_n 3, 1) := by decide +kernel
theorem dX0_putPinFault_4 : decode cX0_putPinFault 4 = .ok (.invokevirtual 83, 3) := by decide +kernel
theorem dX0_putPinFault_7 : decode cX0_putPinFault 7 = .ok (.ifCond .eq 5, 3) := by decide +kernel
theorem dX0_putPinFault_10 : decode cX0_putPinFault 10 = .ok (.iconst 1, 1) := by decide +kernel
theorem dX0_putPinFault_11 : decode cX0_putPinFault 11 = .ok (.ireturn, 1) := by decide +kernel
theorem dX0_putPinFault_12 : decode cX0_putPinFault 12 = .ok (.aload_n 0, 1) := by decide +kernel
theorem dX0_putPinFault_13 : decode cX0_putPinFault 13 = .ok (.getfield 12, 3) := by decide +kernel
theorem dX0_putPinFault_16 : decode cX0_putPinFault 16 = .ok (.iload_n 1, 1) := by decide +kernel
theorem dX0_putPinFault_17 : decode cX0_putPinFault 17 = .ok (.iload_n 2, 1) := by decide +kernel
theorem dX0_putPinFault_18 : decode cX0_putPinFault 18 = .ok (.iload_n 3, 1) := by decide +kernel
theorem dX0_putPinFault_19 : decode cX0_putPinFault 19 = .ok (.invokevirtual 87, 3) := by decide +kernel
theorem dX0_putPinFault_22 : decode cX0_putPinFault 22 = .ok (.ifCond .eq 7, 3) := by decide +kernel
theorem dX0_putPinFault_25 : decode cX0_putPinFault 25 = .ok (.iconst 3, 1) := by decide +kernel
theorem dX0_putPinFault_26 : decode cX0_putPinFault 26 = .ok (.goto 4, 3) := by decide +kernel
theorem dX0_putPinFault_29 : decode cX0_putPinFault 29 = .ok (.iconst 0, 1) := by decide +kernel
theorem dX0_putPinFault_30 : decode cX0_putPinFault 30 = .ok (.ireturn, 1) := by decide +kernel
def fX0_putPinFault (M : Mm) (i : Nat) (x1 : Int32) (x2 : Int32) (x3 : Int32) : Option Int32 := if (fX0_placeFault M i x1 x2 x3) = 0 then ((fX3_hasPin M i x1 x2 x3).bind fun q2 => if q2 = 0 then some (0 : Int32) else some (3 : Int32)) else some (1 : Int32)
set_option maxRecDepth 20000 in
set_option maxHeartbeats 2000000 in
theorem sX0_putPinFault {wv : Wv} (M : Mm) (i : Nat) (x1 : Int32) (x2 : Int32) (x3 : Int32) (hi : i < 12) {res : Int32} (h : fX0_putPinFault M i x1 x2 x3 = some res) : TF wv yX0_putPinFault cX0_putPinFault 4 (some .int) 2 [.inr (9, i, 0), .inl (.int x1), .inl (.int x2), .inl (.int x3)] M (some (.int res)) M := by
  rw [fX0_putPinFault] at h
  refine TF.go (n := 0) (ls := [some (.inr (9, i, 0)), some (.inl (.int x1)), some (.inl (.int x2)), some (.inl (.int x3))]) rfl rfl rfl rfl rfl ?_
  refine z_aload_n (i := 0) dX0_putPinFault_0 rfl rfl ?_
  refine z_iload_n (i := 1) dX0_putPinFault_1 rfl rfl ?_
  refine z_iload_n (i := 2) dX0_putPinFault_2 rfl rfl ?_
  refine z_iload_n (i := 3) dX0_putPinFault_3 rfl rfl ?_
  refine z_fVi (sX0_placeFault M i x1 x2 x3 hi) dX0_putPinFault_4 ml_X0_83 cd_X0_placeFault (m9 _ hi) rfl rfl rfl rfl rfl rfl ?_
  refine z_if_eq (tgt := 12) dX0_putPinFault_7 rfl (fun hc1 => ?_) (fun hc1 => ?_)
  · have h := it_t h hc1
    refine z_aload_n (i := 0) dX0_putPinFault_12 rfl rfl ?_
    refine z_getR (r' := (10, i, 0)) dX0_putPinFault_13 fl_X0_12 (m9 _ hi) rfl rfl ?_
    refine z_iload_n (i := 1) dX0_putPinFault_16 rfl rfl ?_
    refine z_iload_n (i := 2) dX0_putPinFault_17 rfl rfl ?_
    refine z_iload_n (i := 3) dX0_putPinFault_18 rfl rfl ?_
    obtain ⟨q2, hq3, h⟩ := bnd h
    refine z_fVi (sX3_hasPin M i x1 x2 x3 hi hq3) dX0_putPinFault_19 ml_X0_87 cd_X3_hasPin (m10 _ hi) rfl rfl rfl rfl rfl rfl ?_
    refine z_if_eq (tgt := 29) dX0_putPinFault_22 rfl (fun hc4 => ?_) (fun hc4 => ?_)
    · have h := it_t h hc4
      refine z_iconst (v := (0 : Int32)) dX0_putPinFault_29 kc_0 ?_
      cases h
      exact z_iret dX0_putPinFault_30 rfl rfl (Nat.le_refl _) (Nat.le_refl _) ⟨rfl, rfl⟩
    · have h := it_f h hc4
      refine z_iconst (v := (3 : Int32)) dX0_putPinFault_25 kc_3 ?_
      refine z_goto (tgt := 30) dX0_putPinFault_26 rfl ?_
      cases h
      exact z_iret dX0_putPinFault_30 rfl rfl (Nat.le_refl _) (Nat.le_refl _) ⟨rfl, rfl⟩
  · have h := it_f h hc1
    refine z_iconst (v := (1 : Int32)) dX0_putPinFault_10 kc_1 ?_
    cases h
    exact z_iret dX0_putPinFault_11 rfl rfl (Nat.le_refl _) (Nat.le_refl _) ⟨rfl, rfl⟩
theorem dX0_takePinFault_0 : decode cX0_takePinFault 0 = .ok (.aload_n 0, 1) := by decide +kernel
theorem dX0_takePinFault_1 : decode cX0_takePinFault 1 = .ok (.iload_n 1, 1) := by decide +kernel
theorem dX0_takePinFault_2 : decode cX0_takePinFault 2 = .ok (.iload_n 2, 1) := by decide +kernel
theorem dX0_takePinFault_3 : decode cX0_takePinFault 3 = .ok (.iload_n 3, 1) := by decide +kernel
theorem dX0_takePinFault_4 : decode cX0_takePinFault 4 = .ok (.invokevirtual 83, 3) := by decide +kernel
theorem dX0_takePinFault_7 : decode cX0_takePinFault 7 = .ok (.ifCond .eq 5, 3) := by decide +kernel
theorem dX0_takePinFault_10 : decode cX0_takePinFault 10 = .ok (.iconst 1, 1) := by decide +kernel
theorem dX0_takePinFault_11 : decode cX0_takePinFault 11 = .ok (.ireturn, 1) := by decide +kernel
theorem dX0_takePinFault_12 : decode cX0_takePinFault 12 = .ok (.aload_n 0, 1) := by decide +kernel
theorem dX0_takePinFault_13 : decode cX0_takePinFault 13 = .ok (.getfield 12, 3) := by decide +kernel
theorem dX0_takePinFault_16 : decode cX0_takePinFault 16 = .ok (.iload_n 1, 1) := by decide +kernel
theorem dX0_takePinFault_17 : decode cX0_takePinFault 17 = .ok (.iload_n 2, 1) := by decide +kernel
theorem dX0_takePinFault_18 : decode cX0_takePinFault 18 = .ok (.iload_n 3, 1) := by decide +kernel
theorem dX0_takePinFault_19 : decode cX0_takePinFault 19 = .ok (.invokevirtual 87, 3) := by decide +kernel
theorem dX0_takePinFault_22 : decode cX0_takePinFault 22 = .ok (.ifCond .eq 7, 3) := by decide +kernel
theorem dX0_takePinFault_25 : decode cX0_takePinFault 25 = .ok (.iconst 0, 1) := by decide +kernel
theorem dX0_takePinFault_26 : decode cX0_takePinFault 26 = .ok (.goto 4, 3) := by decide +kernel
theorem dX0_takePinFault_29 : decode cX0_takePinFault 29 = .ok (.iconst 3, 1) := by decide +kernel
theorem dX0_takePinFault_30 : decode cX0_takePinFault 30 = .ok (.ireturn, 1) := by decide +kernel
def fX0_takePinFault (M : Mm) (i : Nat) (x1 : Int32) (x2 : Int32) (x3 : Int32) : Option Int32 := if (fX0_placeFault M i x1 x2 x3) = 0 then ((fX3_hasPin M i x1 x2 x3).bind fun q2 => if q2 = 0 then some (3 : Int32) else some (0 : Int32)) else some (1 : Int32)
set_option maxRecDepth 20000 in
set_option maxHeartbeats 2000000 in
theorem sX0_takePinFault {wv : Wv} (M : Mm) (i : Nat) (x1 : Int32) (x2 : Int32) (x3 : Int32) (hi : i < 12) {res : Int32} (h : fX0_takePinFault M i x1 x2 x3 = some res) : TF wv yX0_takePinFault cX0_takePinFault 4 (some .int) 2 [.inr (9, i, 0), .inl (.int x1), .inl (.int x2), .inl (.int x3)] M (some (.int res)) M := by
  rw [fX0_takePinFault] at h
  refine TF.go (n := 0) (ls := [some (.inr (9, i, 0)), some (.inl (.int x1)), some (.inl (.int x2)), some (.inl (.int x3))]) rfl rfl rfl rfl rfl ?_
  refine z_aload_n (i := 0) dX0_takePinFault_0 rfl rfl ?_
  refine z_iload_n (i := 1) dX0_takePinFault_1 rfl rfl ?_
  refine z_iload_n (i := 2) dX0_takePinFault_2 rfl rfl ?_
  refine z_iload_n (i := 3) dX0_takePinFault_3 rfl rfl ?_
  refine z_fVi (sX0_placeFault M i x1 x2 x3 hi) dX0_takePinFault_4 ml_X0_83 cd_X0_placeFault (m9 _ hi) rfl rfl rfl rfl rfl rfl ?_
  refine z_if_eq (tgt := 12) dX0_takePinFault_7 rfl (fun hc1 => ?_) (fun hc1 => ?_)
  · have h := it_t h hc1
    refine z_aload_n (i := 0) dX0_takePinFault_12 rfl rfl ?_
    refine z_getR (r' := (10, i, 0)) dX0_takePinFault_13 fl_X0_12 (m9 _ hi) rfl rfl ?_
    refine z_iload_n (i := 1) dX0_takePinFault_16 rfl rfl ?_
    refine z_iload_n (i := 2) dX0_takePinFault_17 rfl rfl ?_
    refine z_iload_n (i := 3) dX0_takePinFault_18 rfl rfl ?_
    obtain ⟨q2, hq3, h⟩ := bnd h
    refine z_fVi (sX3_hasPin M i x1 x2 x3 hi hq3) dX0_takePinFault_19 ml_X0_87 cd_X3_hasPin (m10 _ hi) rfl rfl rfl rfl rfl rfl ?_
    refine z_if_eq (tgt := 29) dX0_takePinFault_22 rfl (fun hc4 => ?_) (fun hc4 => ?_)
    · have h := it_t h hc4
      refine z_iconst (v := (3 : Int32)) dX0_takePinFault_29 kc_3 ?_
      cases h
      exact z_iret dX0_takePinFault_30 rfl rfl (Nat.le_refl _) (Nat.le_refl _) ⟨rfl, rfl⟩
    · have h := it_f h hc4
      refine z_iconst (v := (0 : Int32)) dX0_takePinFault_25 kc_0 ?_
      refine z_goto (tgt := 30) dX0_takePinFault_26 rfl ?_
      cases h
      exact z_iret dX0_takePinFault_30 rfl rfl (Nat.le_refl _) (Nat.le_refl _) ⟨rfl, rfl⟩
  · have h := it_f h hc1
    refine z_iconst (v := (1 : Int32)) dX0_takePinFault_10 kc_1 ?_
    cases h
    exact z_iret dX0_takePinFault_11 rfl rfl (Nat.le_refl _) (Nat.le_refl _) ⟨rfl, rfl⟩
theorem dX3_holds_0 : decode cX3_holds 0 = .ok (.iload_n 0, 1) := by decide +kernel
theorem dX3_holds_1 : decode cX3_holds 1 = .ok (.ifCond .lt 22, 3) := by decide +kernel
theorem dX3_holds_4 : decode cX3_holds 4 = .ok (.iload_n 0, 1) := by decide +kernel
theorem dX3_holds_5 : decode cX3_holds 5 = .ok (.iconst 3, 1) := by decide +kernel
theorem dX3_holds_6 : decode cX3_holds 6 = .ok (.if_icmp .ge 17, 3) := by decide +kernel
theorem dX3_holds_9 : decode cX3_holds 9 = .ok (.iload_n 1, 1) := by decide +kernel
theorem dX3_holds_10 : decode cX3_holds 10 = .ok (.ifCond .lt 13, 3) := by decide +kernel
theorem dX3_holds_13 : decode cX3_holds 13 = .ok (.iload_n 1, 1) := by decide +kernel
theorem dX3_holds_14 : decode cX3_holds 14 = .ok (.bipush 12, 2) := by decide +kernel
theorem dX3_holds_16 : decode cX3_holds 16 = .ok (.if_icmp .ge 7, 3) := by decide +kernel
theorem dX3_holds_19 : decode cX3_holds 19 = .ok (.iconst 1, 1) := by decide +kernel
theorem dX3_holds_20 : decode cX3_holds 20 = .ok (.goto 4, 3) := by decide +kernel
theorem dX3_holds_23 : decode cX3_holds 23 = .ok (.iconst 0, 1) := by decide +kernel
theorem dX3_holds_24 : decode cX3_holds 24 = .ok (.ireturn, 1) := by decide +kernel
def fX3_holds (M : Mm) (x1 : Int32) (x2 : Int32) : Int32 := if x1 < 0 then (0 : Int32) else if (3 : Int32) ≤ x1 then (0 : Int32) else if x2 < 0 then (0 : Int32) else if (12 : Int32) ≤ x2 then (0 : Int32) else (1 : Int32)
set_option maxRecDepth 20000 in
set_option maxHeartbeats 2000000 in
theorem tX3_holds {wv : Wv} (M : Mm) (x1 : Int32) (x2 : Int32) {res : Int32} (h : fX3_holds M x1 x2 = res) : TF wv yX3_holds cX3_holds 2 (some .boolean) 0 [.inl (.int x1), .inl (.int x2)] M (some (.int res)) M := by
  rw [fX3_holds] at h
  refine TF.go (n := 0) (ls := [some (.inl (.int x1)), some (.inl (.int x2))]) rfl rfl rfl rfl rfl ?_
  refine z_iload_n (i := 0) dX3_holds_0 rfl rfl ?_
  refine z_if_lt (tgt := 23) dX3_holds_1 rfl (fun hc1 => ?_) (fun hc1 => ?_)
  · have h := it_t h hc1
    refine z_iconst (v := (0 : Int32)) dX3_holds_23 kc_0 ?_
    subst h
    exact z_iret dX3_holds_24 rfl rfl (Nat.le_refl _) (Nat.le_refl _) ⟨rfl, rfl⟩
  · have h := it_f h hc1
    refine z_iload_n (i := 0) dX3_holds_4 rfl rfl ?_
    refine z_iconst (v := (3 : Int32)) dX3_holds_5 kc_3 ?_
    refine z_icmp_ge (tgt := 23) dX3_holds_6 rfl (fun hc2 => ?_) (fun hc2 => ?_)
    · have h := it_t h hc2
      refine z_iconst (v := (0 : Int32)) dX3_holds_23 kc_0 ?_
      subst h
      exact z_iret dX3_holds_24 rfl rfl (Nat.le_refl _) (Nat.le_refl _) ⟨rfl, rfl⟩
    · have h := it_f h hc2
      refine z_iload_n (i := 1) dX3_holds_9 rfl rfl ?_
      refine z_if_lt (tgt := 23) dX3_holds_10 rfl (fun hc3 => ?_) (fun hc3 => ?_)
      · have h := it_t h hc3
        refine z_iconst (v := (0 : Int32)) dX3_holds_23 kc_0 ?_
        subst h
        exact z_iret dX3_holds_24 rfl rfl (Nat.le_refl _) (Nat.le_refl _) ⟨rfl, rfl⟩
      · have h := it_f h hc3
        refine z_iload_n (i := 1) dX3_holds_13 rfl rfl ?_
        refine z_bipush (v := (12 : Int32)) dX3_holds_14 kb_12 ?_
        refine z_icmp_ge (tgt := 23) dX3_holds_16 rfl (fun hc4 => ?_) (fun hc4 => ?_)
        · have h := it_t h hc4
          refine z_iconst (v := (0 : Int32)) dX3_holds_23 kc_0 ?_
          subst h
          exact z_iret dX3_holds_24 rfl rfl (Nat.le_refl _) (Nat.le_refl _) ⟨rfl, rfl⟩
        · have h := it_f h hc4
          refine z_iconst (v := (1 : Int32)) dX3_holds_19 kc_1 ?_
          refine z_goto (tgt := 24) dX3_holds_20 rfl ?_
          subst h
          exact z_iret dX3_holds_24 rfl rfl (Nat.le_refl _) (Nat.le_refl _) ⟨rfl, rfl⟩
theorem sX3_holds {wv : Wv} (M : Mm) (x1 : Int32) (x2 : Int32) : TF wv yX3_holds cX3_holds 2 (some .boolean) 0 [.inl (.int x1), .inl (.int x2)] M (some (.int (fX3_holds M x1 x2))) M := tX3_holds M x1 x2  rfl
theorem dX3_row_0 : decode cX3_row 0 = .ok (.iload_n 1, 1) := by decide +kernel
theorem dX3_row_1 : decode cX3_row 1 = .ok (.iload_n 2, 1) := by decide +kernel
theorem dX3_row_2 : decode cX3_row 2 = .ok (.invokestatic 37, 3) := by decide +kernel
theorem dX3_row_5 : decode cX3_row 5 = .ok (.ifCond .eq 17, 3) := by decide +kernel
theorem dX3_row_8 : decode cX3_row 8 = .ok (.aload_n 0, 1) := by decide +kernel
theorem dX3_row_9 : decode cX3_row 9 = .ok (.getfield 9, 3) := by decide +kernel
theorem dX3_row_12 : decode cX3_row 12 = .ok (.iload_n 1, 1) := by decide +kernel
theorem dX3_row_13 : decode cX3_row 13 = .ok (.bipush 12, 2) := by decide +kernel
theorem dX3_row_15 : decode cX3_row 15 = .ok (.imul, 1) := by decide +kernel
theorem dX3_row_16 : decode cX3_row 16 = .ok (.iload_n 2, 1) := by decide +kernel
theorem dX3_row_17 : decode cX3_row 17 = .ok (.iadd, 1) := by decide +kernel
theorem dX3_row_18 : decode cX3_row 18 = .ok (.laload, 1) := by decide +kernel
theorem dX3_row_19 : decode cX3_row 19 = .ok (.goto 4, 3) := by decide +kernel
theorem dX3_row_22 : decode cX3_row 22 = .ok (.lconst 0, 1) := by decide +kernel
theorem dX3_row_23 : decode cX3_row 23 = .ok (.lreturn, 1) := by decide +kernel
def fX3_row (M : Mm) (i : Nat) (x1 : Int32) (x2 : Int32) : Option Int64 := if (fX3_holds M x1 x2) = 0 then some (0 : Int64) else if ((x1 * (12 : Int32)) + x2) < 0 ∨ 36 ≤ ((x1 * (12 : Int32)) + x2).toNatClampNeg then none else some (M.2 (11, i, 0) ((x1 * (12 : Int32)) + x2).toNatClampNeg)
set_option maxRecDepth 20000 in
set_option maxHeartbeats 2000000 in
theorem sX3_row {wv : Wv} (M : Mm) (i : Nat) (x1 : Int32) (x2 : Int32) (hi : i < 12) {res : Int64} (h : fX3_row M i x1 x2 = some res) : TF wv yX3_row cX3_row 3 (some .long) 1 [.inr (10, i, 0), .inl (.int x1), .inl (.int x2)] M (some (.long res)) M := by
  rw [fX3_row] at h
  refine TF.go (n := 0) (ls := [some (.inr (10, i, 0)), some (.inl (.int x1)), some (.inl (.int x2))]) rfl rfl rfl rfl rfl ?_
  refine z_iload_n (i := 1) dX3_row_0 rfl rfl ?_
  refine z_iload_n (i := 2) dX3_row_1 rfl rfl ?_
  refine z_fSi (sX3_holds M x1 x2) dX3_row_2 ml_X3_37 cd_X3_holds rfl rfl rfl rfl rfl ?_
  refine z_if_eq (tgt := 22) dX3_row_5 rfl (fun hc1 => ?_) (fun hc1 => ?_)
  · have h := it_t h hc1
    refine z_lconst (v := (0 : Int64)) dX3_row_22 (by decide) ?_
    cases h
    exact z_lret dX3_row_23 rfl (Nat.le_refl _) (Nat.le_refl _) ⟨rfl, rfl⟩
  · have h := it_f h hc1
    refine z_aload_n (i := 0) dX3_row_8 rfl rfl ?_
    refine z_getR (r' := (11, i, 0)) dX3_row_9 fl_X3_9 (m10 _ hi) rfl rfl ?_
    refine z_iload_n (i := 1) dX3_row_12 rfl rfl ?_
    refine z_bipush (v := (12 : Int32)) dX3_row_13 kb_12 ?_
    refine z_imul dX3_row_15 ?_
    refine z_iload_n (i := 2) dX3_row_16 rfl rfl ?_
    refine z_iadd dX3_row_17 ?_
    obtain ⟨hc2, h⟩ := chk h
    refine z_lald (x := (M.2 (11, i, 0) ((x1 * (12 : Int32)) + x2).toNatClampNeg)) dX3_row_18 (m11 _ hi) rfl hc2 rfl ?_
    refine z_goto (tgt := 23) dX3_row_19 rfl ?_
    cases h
    exact z_lret dX3_row_23 rfl (Nat.le_refl _) (Nat.le_refl _) ⟨rfl, rfl⟩
theorem dX0_movePinsFault_0 : decode cX0_movePinsFault 0 = .ok (.iconst 0, 1) := by decide +kernel
theorem dX0_movePinsFault_1 : decode cX0_movePinsFault 1 = .ok (.istore_n 3, 1) := by decide +kernel
theorem dX0_movePinsFault_2 : decode cX0_movePinsFault 2 = .ok (.iload_n 3, 1) := by decide +kernel
theorem dX0_movePinsFault_3 : decode cX0_movePinsFault 3 = .ok (.aload_n 0, 1) := by decide +kernel
theorem dX0_movePinsFault_4 : decode cX0_movePinsFault 4 = .ok (.getfield 29, 3) := by decide +kernel
theorem dX0_movePinsFault_7 : decode cX0_movePinsFault 7 = .ok (.if_icmp .ge 41, 3) := by decide +kernel
theorem dX0_movePinsFault_10 : decode cX0_movePinsFault 10 = .ok (.iload_n 3, 1) := by decide +kernel
theorem dX0_movePinsFault_11 : decode cX0_movePinsFault 11 = .ok (.bipush 12, 2) := by decide +kernel
theorem dX0_movePinsFault_13 : decode cX0_movePinsFault 13 = .ok (.if_icmp .ge 35, 3) := by decide +kernel
theorem dX0_movePinsFault_16 : decode cX0_movePinsFault 16 = .ok (.aload_n 0, 1) := by decide +kernel
theorem dX0_movePinsFault_17 : decode cX0_movePinsFault 17 = .ok (.getfield 12, 3) := by decide +kernel
theorem dX0_movePinsFault_20 : decode cX0_movePinsFault 20 = .ok (.iload_n 1, 1) := by decide +kernel
theorem dX0_movePinsFault_21 : decode cX0_movePinsFault 21 = .ok (.iload_n 3, 1) := by decide +kernel
theorem dX0_movePinsFault_22 : decode cX0_movePinsFault 22 = .ok (.invokevirtual 91, 3) := by decide +kernel
theorem dX0_movePinsFault_25 : decode cX0_movePinsFault 25 = .ok (.lconst 0, 1) := by decide +kernel
theorem dX0_movePinsFault_26 : decode cX0_movePinsFault 26 = .ok (.lcmp, 1) := by decide +kernel
theorem dX0_movePinsFault_27 : decode cX0_movePinsFault 27 = .ok (.ifCond .eq 15, 3) := by decide +kernel
theorem dX0_movePinsFault_30 : decode cX0_movePinsFault 30 = .ok (.aload_n 0, 1) := by decide +kernel
theorem dX0_movePinsFault_31 : decode cX0_movePinsFault 31 = .ok (.iload_n 3, 1) := by decide +kernel
theorem dX0_movePinsFault_32 : decode cX0_movePinsFault 32 = .ok (.iload_n 2, 1) := by decide +kernel
theorem dX0_movePinsFault_33 : decode cX0_movePinsFault 33 = .ok (.iadd, 1) := by decide +kernel
theorem dX0_movePinsFault_34 : decode cX0_movePinsFault 34 = .ok (.invokevirtual 71, 3) := by decide +kernel
theorem dX0_movePinsFault_37 : decode cX0_movePinsFault 37 = .ok (.ifCond .eq 5, 3) := by decide +kernel
theorem dX0_movePinsFault_40 : decode cX0_movePinsFault 40 = .ok (.iconst 3, 1) := by decide +kernel
theorem dX0_movePinsFault_41 : decode cX0_movePinsFault 41 = .ok (.ireturn, 1) := by decide +kernel
theorem dX0_movePinsFault_42 : decode cX0_movePinsFault 42 = .ok (.iinc 3 1, 3) := by decide +kernel
theorem dX0_movePinsFault_45 : decode cX0_movePinsFault 45 = .ok (.goto (-43), 3) := by decide +kernel
theorem dX0_movePinsFault_48 : decode cX0_movePinsFault 48 = .ok (.iconst 0, 1) := by decide +kernel
theorem dX0_movePinsFault_49 : decode cX0_movePinsFault 49 = .ok (.ireturn, 1) := by decide +kernel
def fX0_movePinsFault_L2 (M : Mm) (i : Nat) (c1 : Int32) (c2 : Int32) (K : Int32 → Option Int32) : Nat → Int32 → Option Int32
  | 0, _ => none
  | n + 1, v3 => if (M.1 (9, i, 0) 2) ≤ v3 then K v3 else if (12 : Int32) ≤ v3 then K v3 else (fX3_row M i c1 v3).bind fun q3 => if (lg_cmp q3 (0 : Int64)) = 0 then fX0_movePinsFault_L2 M i c1 c2 K n (v3 + (1 : Int32)) else if (fX0_toothFault M i (v3 + c2)) = 0 then fX0_movePinsFault_L2 M i c1 c2 K n (v3 + (1 : Int32)) else some (3 : Int32)
def fX0_movePinsFault (M : Mm) (i : Nat) (x1 : Int32) (x2 : Int32) : Option Int32 := fX0_movePinsFault_L2 M i x1 x2 (fun w7 => some (0 : Int32)) NF (0 : Int32)
set_option maxRecDepth 20000 in
set_option maxHeartbeats 2000000 in
theorem sX0_movePinsFault_L2 {wv : Wv} (M : Mm) (i : Nat) (c1 : Int32) (c2 : Int32) (hi : i < 12) {res : Int32} {K : Int32 → Option Int32} : ∀ (n : Nat) (v3 : Int32), fX0_movePinsFault_L2 M i c1 c2 K n v3 = some res →
    (∀ (v3 : Int32), K v3 = some res → Z RX0 cX0_movePinsFault 4 (some .int) [] "movePinsFault" (rmD 2 0 0) (QM SH (allR wv) 0 0 (fun v M9 => v = some (.int res) ∧ M9 = M) (fun _ _ => False)) (allR wv) SH 0 0 48 [some (.inr (9, i, 0)), some (.inl (.int c1)), some (.inl (.int c2)), some (.inl (.int v3))] [] M) → Z RX0 cX0_movePinsFault 4 (some .int) [] "movePinsFault" (rmD 2 0 0) (QM SH (allR wv) 0 0 (fun v M9 => v = some (.int res) ∧ M9 = M) (fun _ _ => False)) (allR wv) SH 0 0 2 [some (.inr (9, i, 0)), some (.inl (.int c1)), some (.inl (.int c2)), some (.inl (.int v3))] [] M := by
  intro n
  induction n with
  | zero => intro v3 h; cases h
  | succ n ih =>
    intro v3 h hK
    rw [fX0_movePinsFault_L2] at h
    refine z_iload_n (i := 3) dX0_movePinsFault_2 rfl rfl ?_
    refine z_aload_n (i := 0) dX0_movePinsFault_3 rfl rfl ?_
    refine z_getI (x := (M.1 (9, i, 0) 2)) dX0_movePinsFault_4 fl_X0_29 (m9 _ hi) rfl rfl ?_
    refine z_icmp_ge (tgt := 48) dX0_movePinsFault_7 rfl (fun hc1 => ?_) (fun hc1 => ?_)
    · have h := it_t h hc1
      exact hK _ h
    · have h := it_f h hc1
      refine z_iload_n (i := 3) dX0_movePinsFault_10 rfl rfl ?_
      refine z_bipush (v := (12 : Int32)) dX0_movePinsFault_11 kb_12 ?_
      refine z_icmp_ge (tgt := 48) dX0_movePinsFault_13 rfl (fun hc2 => ?_) (fun hc2 => ?_)
      · have h := it_t h hc2
        exact hK _ h
      · have h := it_f h hc2
        refine z_aload_n (i := 0) dX0_movePinsFault_16 rfl rfl ?_
        refine z_getR (r' := (10, i, 0)) dX0_movePinsFault_17 fl_X0_12 (m9 _ hi) rfl rfl ?_
        refine z_iload_n (i := 1) dX0_movePinsFault_20 rfl rfl ?_
        refine z_iload_n (i := 3) dX0_movePinsFault_21 rfl rfl ?_
        obtain ⟨q3, hq4, h⟩ := bnd h
        refine z_fVl (sX3_row M i c1 v3 hi hq4) dX0_movePinsFault_22 ml_X0_91 cd_X3_row (m10 _ hi) rfl rfl rfl rfl rfl rfl ?_
        refine z_lconst (v := (0 : Int64)) dX0_movePinsFault_25 (by decide) ?_
        refine z_lcmp dX0_movePinsFault_26 ?_
        refine z_if_eq (tgt := 42) dX0_movePinsFault_27 rfl (fun hc5 => ?_) (fun hc5 => ?_)
        · have h := it_t h hc5
          refine z_iinc (i := 3) (v := (v3 + (1 : Int32))) dX0_movePinsFault_42 rfl (iinc_k kc_1) (Nat.le_of_ble_eq_true rfl) rfl ?_
          refine z_goto (tgt := 2) dX0_movePinsFault_45 rfl ?_
          exact ih _ h hK
        · have h := it_f h hc5
          refine z_aload_n (i := 0) dX0_movePinsFault_30 rfl rfl ?_
          refine z_iload_n (i := 3) dX0_movePinsFault_31 rfl rfl ?_
          refine z_iload_n (i := 2) dX0_movePinsFault_32 rfl rfl ?_
          refine z_iadd dX0_movePinsFault_33 ?_
          refine z_fVi (sX0_toothFault M i (v3 + c2) hi) dX0_movePinsFault_34 ml_X0_71 cd_X0_toothFault (m9 _ hi) rfl rfl rfl rfl rfl rfl ?_
          refine z_if_eq (tgt := 42) dX0_movePinsFault_37 rfl (fun hc6 => ?_) (fun hc6 => ?_)
          · have h := it_t h hc6
            refine z_iinc (i := 3) (v := (v3 + (1 : Int32))) dX0_movePinsFault_42 rfl (iinc_k kc_1) (Nat.le_of_ble_eq_true rfl) rfl ?_
            refine z_goto (tgt := 2) dX0_movePinsFault_45 rfl ?_
            exact ih _ h hK
          · have h := it_f h hc6
            refine z_iconst (v := (3 : Int32)) dX0_movePinsFault_40 kc_3 ?_
            cases h
            exact z_iret dX0_movePinsFault_41 rfl rfl (Nat.le_refl _) (Nat.le_refl _) ⟨rfl, rfl⟩
set_option maxRecDepth 20000 in
set_option maxHeartbeats 2000000 in
theorem sX0_movePinsFault {wv : Wv} (M : Mm) (i : Nat) (x1 : Int32) (x2 : Int32) (hi : i < 12) {res : Int32} (h : fX0_movePinsFault M i x1 x2 = some res) : TF wv yX0_movePinsFault cX0_movePinsFault 4 (some .int) 2 [.inr (9, i, 0), .inl (.int x1), .inl (.int x2)] M (some (.int res)) M := by
  rw [fX0_movePinsFault] at h
  refine TF.go (n := 1) (ls := [some (.inr (9, i, 0)), some (.inl (.int x1)), some (.inl (.int x2)), none]) rfl rfl rfl rfl rfl ?_
  refine z_iconst (v := (0 : Int32)) dX0_movePinsFault_0 kc_0 ?_
  refine z_istore_n (i := 3) dX0_movePinsFault_1 rfl (Nat.le_of_ble_eq_true rfl) rfl ?_
  refine sX0_movePinsFault_L2 M i x1 x2 hi NF _ h (fun w7 h => ?_)
  refine z_iconst (v := (0 : Int32)) dX0_movePinsFault_48 kc_0 ?_
  cases h
  exact z_iret dX0_movePinsFault_49 rfl rfl (Nat.le_refl _) (Nat.le_refl _) ⟨rfl, rfl⟩
theorem dX9_rangeFault_0 : decode cX9_rangeFault 0 = .ok (.iload_n 0, 1) := by decide +kernel
theorem dX9_rangeFault_1 : decode cX9_rangeFault 1 = .ok (.iload_n 1, 1) := by decide +kernel
theorem dX9_rangeFault_2 : decode cX9_rangeFault 2 = .ok (.if_icmp .lt 8, 3) := by decide +kernel
theorem dX9_rangeFault_5 : decode cX9_rangeFault 5 = .ok (.iload_n 0, 1) := by decide +kernel
theorem dX9_rangeFault_6 : decode cX9_rangeFault 6 = .ok (.iload_n 2, 1) := by decide +kernel
theorem dX9_rangeFault_7 : decode cX9_rangeFault 7 = .ok (.if_icmp .le 7, 3) := by decide +kernel
theorem dX9_rangeFault_10 : decode cX9_rangeFault 10 = .ok (.iconst 2, 1) := by decide +kernel
theorem dX9_rangeFault_11 : decode cX9_rangeFault 11 = .ok (.goto 4, 3) := by decide +kernel
theorem dX9_rangeFault_14 : decode cX9_rangeFault 14 = .ok (.iconst 0, 1) := by decide +kernel
theorem dX9_rangeFault_15 : decode cX9_rangeFault 15 = .ok (.ireturn, 1) := by decide +kernel
def fX9_rangeFault (M : Mm) (x1 : Int32) (x2 : Int32) (x3 : Int32) : Int32 := if x1 < x2 then (2 : Int32) else if x1 ≤ x3 then (0 : Int32) else (2 : Int32)
set_option maxRecDepth 20000 in
set_option maxHeartbeats 2000000 in
theorem tX9_rangeFault {wv : Wv} (M : Mm) (x1 : Int32) (x2 : Int32) (x3 : Int32) {res : Int32} (h : fX9_rangeFault M x1 x2 x3 = res) : TF wv yX9_rangeFault cX9_rangeFault 3 (some .int) 0 [.inl (.int x1), .inl (.int x2), .inl (.int x3)] M (some (.int res)) M := by
  rw [fX9_rangeFault] at h
  refine TF.go (n := 0) (ls := [some (.inl (.int x1)), some (.inl (.int x2)), some (.inl (.int x3))]) rfl rfl rfl rfl rfl ?_
  refine z_iload_n (i := 0) dX9_rangeFault_0 rfl rfl ?_
  refine z_iload_n (i := 1) dX9_rangeFault_1 rfl rfl ?_
  refine z_icmp_lt (tgt := 10) dX9_rangeFault_2 rfl (fun hc1 => ?_) (fun hc1 => ?_)
  · have h := it_t h hc1
    refine z_iconst (v := (2 : Int32)) dX9_rangeFault_10 kc_2 ?_
    refine z_goto (tgt := 15) dX9_rangeFault_11 rfl ?_
    subst h
    exact z_iret dX9_rangeFault_15 rfl rfl (Nat.le_refl _) (Nat.le_refl _) ⟨rfl, rfl⟩
  · have h := it_f h hc1
    refine z_iload_n (i := 0) dX9_rangeFault_5 rfl rfl ?_
    refine z_iload_n (i := 2) dX9_rangeFault_6 rfl rfl ?_
    refine z_icmp_le (tgt := 14) dX9_rangeFault_7 rfl (fun hc2 => ?_) (fun hc2 => ?_)
    · have h := it_t h hc2
      refine z_iconst (v := (0 : Int32)) dX9_rangeFault_14 kc_0 ?_
      subst h
      exact z_iret dX9_rangeFault_15 rfl rfl (Nat.le_refl _) (Nat.le_refl _) ⟨rfl, rfl⟩
    · have h := it_f h hc2
      refine z_iconst (v := (2 : Int32)) dX9_rangeFault_10 kc_2 ?_
      refine z_goto (tgt := 15) dX9_rangeFault_11 rfl ?_
      subst h
      exact z_iret dX9_rangeFault_15 rfl rfl (Nat.le_refl _) (Nat.le_refl _) ⟨rfl, rfl⟩
theorem sX9_rangeFault {wv : Wv} (M : Mm) (x1 : Int32) (x2 : Int32) (x3 : Int32) : TF wv yX9_rangeFault cX9_rangeFault 3 (some .int) 0 [.inl (.int x1), .inl (.int x2), .inl (.int x3)] M (some (.int (fX9_rangeFault M x1 x2 x3))) M := tX9_rangeFault M x1 x2 x3  rfl
theorem dX0_gapFault_0 : decode cX0_gapFault 0 = .ok (.aload_n 0, 1) := by decide +kernel
theorem dX0_gapFault_1 : decode cX0_gapFault 1 = .ok (.iload_n 1, 1) := by decide +kernel
theorem dX0_gapFault_2 : decode cX0_gapFault 2 = .ok (.invokevirtual 71, 3) := by decide +kernel
theorem dX0_gapFault_5 : decode cX0_gapFault 5 = .ok (.ifCond .eq 5, 3) := by decide +kernel
theorem dX0_gapFault_8 : decode cX0_gapFault 8 = .ok (.iconst 1, 1) := by decide +kernel
theorem dX0_gapFault_9 : decode cX0_gapFault 9 = .ok (.ireturn, 1) := by decide +kernel
theorem dX0_gapFault_10 : decode cX0_gapFault 10 = .ok (.iload_n 2, 1) := by decide +kernel
theorem dX0_gapFault_11 : decode cX0_gapFault 11 = .ok (.iconst 1, 1) := by decide +kernel
theorem dX0_gapFault_12 : decode cX0_gapFault 12 = .ok (.bipush 9, 2) := by decide +kernel
theorem dX0_gapFault_14 : decode cX0_gapFault 14 = .ok (.invokestatic 95, 3) := by decide +kernel
theorem dX0_gapFault_17 : decode cX0_gapFault 17 = .ok (.ireturn, 1) := by decide +kernel
def fX0_gapFault (M : Mm) (i : Nat) (x1 : Int32) (x2 : Int32) : Int32 := if (fX0_toothFault M i x1) = 0 then (fX9_rangeFault M x2 (1 : Int32) (9 : Int32)) else (1 : Int32)
set_option maxRecDepth 20000 in
set_option maxHeartbeats 2000000 in
theorem tX0_gapFault {wv : Wv} (M : Mm) (i : Nat) (x1 : Int32) (x2 : Int32) (hi : i < 12) {res : Int32} (h : fX0_gapFault M i x1 x2 = res) : TF wv yX0_gapFault cX0_gapFault 3 (some .int) 1 [.inr (9, i, 0), .inl (.int x1), .inl (.int x2)] M (some (.int res)) M := by
  rw [fX0_gapFault] at h
  refine TF.go (n := 0) (ls := [some (.inr (9, i, 0)), some (.inl (.int x1)), some (.inl (.int x2))]) rfl rfl rfl rfl rfl ?_
  refine z_aload_n (i := 0) dX0_gapFault_0 rfl rfl ?_
  refine z_iload_n (i := 1) dX0_gapFault_1 rfl rfl ?_
  refine z_fVi (sX0_toothFault M i x1 hi) dX0_gapFault_2 ml_X0_71 cd_X0_toothFault (m9 _ hi) rfl rfl rfl rfl rfl rfl ?_
  refine z_if_eq (tgt := 10) dX0_gapFault_5 rfl (fun hc1 => ?_) (fun hc1 => ?_)
  · have h := it_t h hc1
    refine z_iload_n (i := 2) dX0_gapFault_10 rfl rfl ?_
    refine z_iconst (v := (1 : Int32)) dX0_gapFault_11 kc_1 ?_
    refine z_bipush (v := (9 : Int32)) dX0_gapFault_12 kb_9 ?_
    refine z_fSNi (sX9_rangeFault M x2 (1 : Int32) (9 : Int32)) dX0_gapFault_14 ml_X0_95 cd_X9_rangeFault rfl rfl rfl rfl rfl ?_
    subst h
    exact z_iret dX0_gapFault_17 rfl rfl (Nat.le_refl _) (Nat.le_refl _) ⟨rfl, rfl⟩
  · have h := it_f h hc1
    refine z_iconst (v := (1 : Int32)) dX0_gapFault_8 kc_1 ?_
    subst h
    exact z_iret dX0_gapFault_9 rfl rfl (Nat.le_refl _) (Nat.le_refl _) ⟨rfl, rfl⟩
theorem sX0_gapFault {wv : Wv} (M : Mm) (i : Nat) (x1 : Int32) (x2 : Int32) (hi : i < 12) : TF wv yX0_gapFault cX0_gapFault 3 (some .int) 1 [.inr (9, i, 0), .inl (.int x1), .inl (.int x2)] M (some (.int (fX0_gapFault M i x1 x2))) M := tX0_gapFault M i x1 x2 hi rfl
theorem dX8_brokenNow_0 : decode cX8_brokenNow 0 = .ok (.aload_n 0, 1) := by decide +kernel
theorem dX8_brokenNow_1 : decode cX8_brokenNow 1 = .ok (.getfield 27, 3) := by decide +kernel
theorem dX8_brokenNow_4 : decode cX8_brokenNow 4 = .ok (.aload_n 0, 1) := by decide +kernel
theorem dX8_brokenNow_5 : decode cX8_brokenNow 5 = .ok (.getfield 18, 3) := by decide +kernel
theorem dX8_brokenNow_8 : decode cX8_brokenNow 8 = .ok (.if_icmp .lt 7, 3) := by decide +kernel
theorem dX8_brokenNow_11 : decode cX8_brokenNow 11 = .ok (.iconst 1, 1) := by decide +kernel
theorem dX8_brokenNow_12 : decode cX8_brokenNow 12 = .ok (.goto 4, 3) := by decide +kernel
theorem dX8_brokenNow_15 : decode cX8_brokenNow 15 = .ok (.iconst 0, 1) := by decide +kernel
theorem dX8_brokenNow_16 : decode cX8_brokenNow 16 = .ok (.ireturn, 1) := by decide +kernel
def fX8_brokenNow (M : Mm) (i : Nat) (t : Nat) : Int32 := if (M.1 (13, i, t) 4) < (M.1 (13, i, t) 3) then (0 : Int32) else (1 : Int32)
set_option maxRecDepth 20000 in
set_option maxHeartbeats 2000000 in
theorem tX8_brokenNow {wv : Wv} (M : Mm) (i : Nat) (t : Nat) (hi : i < 12) (ht : t < 12) {res : Int32} (h : fX8_brokenNow M i t = res) : TF wv yX8_brokenNow cX8_brokenNow 1 (some .boolean) 0 [.inr (13, i, t)] M (some (.int res)) M := by
  rw [fX8_brokenNow] at h
  refine TF.go (n := 0) (ls := [some (.inr (13, i, t))]) rfl rfl rfl rfl rfl ?_
  refine z_aload_n (i := 0) dX8_brokenNow_0 rfl rfl ?_
  refine z_getI (x := (M.1 (13, i, t) 4)) dX8_brokenNow_1 fl_X8_27 (m13 _ hi _ ht) rfl rfl ?_
  refine z_aload_n (i := 0) dX8_brokenNow_4 rfl rfl ?_
  refine z_getI (x := (M.1 (13, i, t) 3)) dX8_brokenNow_5 fl_X8_18 (m13 _ hi _ ht) rfl rfl ?_
  refine z_icmp_lt (tgt := 15) dX8_brokenNow_8 rfl (fun hc1 => ?_) (fun hc1 => ?_)
  · have h := it_t h hc1
    refine z_iconst (v := (0 : Int32)) dX8_brokenNow_15 kc_0 ?_
    subst h
    exact z_iret dX8_brokenNow_16 rfl rfl (Nat.le_refl _) (Nat.le_refl _) ⟨rfl, rfl⟩
  · have h := it_f h hc1
    refine z_iconst (v := (1 : Int32)) dX8_brokenNow_11 kc_1 ?_
    refine z_goto (tgt := 16) dX8_brokenNow_12 rfl ?_
    subst h
    exact z_iret dX8_brokenNow_16 rfl rfl (Nat.le_refl _) (Nat.le_refl _) ⟨rfl, rfl⟩
theorem sX8_brokenNow {wv : Wv} (M : Mm) (i : Nat) (t : Nat) (hi : i < 12) (ht : t < 12) : TF wv yX8_brokenNow cX8_brokenNow 1 (some .boolean) 0 [.inr (13, i, t)] M (some (.int (fX8_brokenNow M i t))) M := tX8_brokenNow M i t hi ht rfl
theorem dX0_bendFault_0 : decode cX0_bendFault 0 = .ok (.aload_n 0, 1) := by decide +kernel
theorem dX0_bendFault_1 : decode cX0_bendFault 1 = .ok (.iload_n 1, 1) := by decide +kernel
theorem dX0_bendFault_2 : decode cX0_bendFault 2 = .ok (.invokevirtual 71, 3) := by decide +kernel
theorem dX0_bendFault_5 : decode cX0_bendFault 5 = .ok (.ifCond .eq 5, 3) := by decide +kernel
theorem dX0_bendFault_8 : decode cX0_bendFault 8 = .ok (.iconst 1, 1) := by decide +kernel
theorem dX0_bendFault_9 : decode cX0_bendFault 9 = .ok (.ireturn, 1) := by decide +kernel
theorem dX0_bendFault_10 : decode cX0_bendFault 10 = .ok (.iload_n 2, 1) := by decide +kernel
theorem dX0_bendFault_11 : decode cX0_bendFault 11 = .ok (.ifCond .eq 14, 3) := by decide +kernel
theorem dX0_bendFault_14 : decode cX0_bendFault 14 = .ok (.iload_n 2, 1) := by decide +kernel
theorem dX0_bendFault_15 : decode cX0_bendFault 15 = .ok (.bipush (-3), 2) := by decide +kernel
theorem dX0_bendFault_17 : decode cX0_bendFault 17 = .ok (.if_icmp .lt 8, 3) := by decide +kernel
theorem dX0_bendFault_20 : decode cX0_bendFault 20 = .ok (.iload_n 2, 1) := by decide +kernel
theorem dX0_bendFault_21 : decode cX0_bendFault 21 = .ok (.iconst 3, 1) := by decide +kernel
theorem dX0_bendFault_22 : decode cX0_bendFault 22 = .ok (.if_icmp .le 5, 3) := by decide +kernel
theorem dX0_bendFault_25 : decode cX0_bendFault 25 = .ok (.iconst 2, 1) := by decide +kernel
theorem dX0_bendFault_26 : decode cX0_bendFault 26 = .ok (.ireturn, 1) := by decide +kernel
theorem dX0_bendFault_27 : decode cX0_bendFault 27 = .ok (.aload_n 0, 1) := by decide +kernel
theorem dX0_bendFault_28 : decode cX0_bendFault 28 = .ok (.getfield 20, 3) := by decide +kernel
theorem dX0_bendFault_31 : decode cX0_bendFault 31 = .ok (.iload_n 1, 1) := by decide +kernel
theorem dX0_bendFault_32 : decode cX0_bendFault 32 = .ok (.aaload, 1) := by decide +kernel
theorem dX0_bendFault_33 : decode cX0_bendFault 33 = .ok (.getfield 98, 3) := by decide +kernel
theorem dX0_bendFault_36 : decode cX0_bendFault 36 = .ok (.iload_n 2, 1) := by decide +kernel
theorem dX0_bendFault_37 : decode cX0_bendFault 37 = .ok (.iadd, 1) := by decide +kernel
theorem dX0_bendFault_38 : decode cX0_bendFault 38 = .ok (.istore_n 3, 1) := by decide +kernel
theorem dX0_bendFault_39 : decode cX0_bendFault 39 = .ok (.aload_n 0, 1) := by decide +kernel
theorem dX0_bendFault_40 : decode cX0_bendFault 40 = .ok (.getfield 20, 3) := by decide +kernel
theorem dX0_bendFault_43 : decode cX0_bendFault 43 = .ok (.iload_n 1, 1) := by decide +kernel
theorem dX0_bendFault_44 : decode cX0_bendFault 44 = .ok (.aaload, 1) := by decide +kernel
theorem dX0_bendFault_45 : decode cX0_bendFault 45 = .ok (.invokevirtual 101, 3) := by decide +kernel
theorem dX0_bendFault_48 : decode cX0_bendFault 48 = .ok (.ifCond .ne 14, 3) := by decide +kernel
theorem dX0_bendFault_51 : decode cX0_bendFault 51 = .ok (.iload_n 3, 1) := by decide +kernel
theorem dX0_bendFault_52 : decode cX0_bendFault 52 = .ok (.bipush (-3), 2) := by decide +kernel
theorem dX0_bendFault_54 : decode cX0_bendFault 54 = .ok (.if_icmp .lt 8, 3) := by decide +kernel
theorem dX0_bendFault_57 : decode cX0_bendFault 57 = .ok (.iload_n 3, 1) := by decide +kernel
theorem dX0_bendFault_58 : decode cX0_bendFault 58 = .ok (.iconst 3, 1) := by decide +kernel
theorem dX0_bendFault_59 : decode cX0_bendFault 59 = .ok (.if_icmp .le 7, 3) := by decide +kernel
theorem dX0_bendFault_62 : decode cX0_bendFault 62 = .ok (.iconst 3, 1) := by decide +kernel
theorem dX0_bendFault_63 : decode cX0_bendFault 63 = .ok (.goto 4, 3) := by decide +kernel
theorem dX0_bendFault_66 : decode cX0_bendFault 66 = .ok (.iconst 0, 1) := by decide +kernel
theorem dX0_bendFault_67 : decode cX0_bendFault 67 = .ok (.ireturn, 1) := by decide +kernel
def fX0_bendFault (M : Mm) (i : Nat) (x1 : Int32) (x2 : Int32) : Option Int32 := if (fX0_toothFault M i x1) = 0 then (if x2 = 0 then some (2 : Int32) else if x2 < (-3 : Int32) then some (2 : Int32) else if x2 ≤ (3 : Int32) then (if x1 < 0 ∨ 12 ≤ x1.toNatClampNeg then none else if x1 < 0 ∨ 12 ≤ x1.toNatClampNeg then none else if (fX8_brokenNow M i x1.toNatClampNeg) = 0 then (if ((M.1 (13, i, x1.toNatClampNeg) 1) + x2) < (-3 : Int32) then some (3 : Int32) else if ((M.1 (13, i, x1.toNatClampNeg) 1) + x2) ≤ (3 : Int32) then some (0 : Int32) else some (3 : Int32)) else some (3 : Int32)) else some (2 : Int32)) else some (1 : Int32)
set_option maxRecDepth 20000 in
set_option maxHeartbeats 2000000 in
theorem sX0_bendFault {wv : Wv} (M : Mm) (i : Nat) (x1 : Int32) (x2 : Int32) (hi : i < 12) {res : Int32} (h : fX0_bendFault M i x1 x2 = some res) : TF wv yX0_bendFault cX0_bendFault 4 (some .int) 1 [.inr (9, i, 0), .inl (.int x1), .inl (.int x2)] M (some (.int res)) M := by
  rw [fX0_bendFault] at h
  refine TF.go (n := 1) (ls := [some (.inr (9, i, 0)), some (.inl (.int x1)), some (.inl (.int x2)), none]) rfl rfl rfl rfl rfl ?_
  refine z_aload_n (i := 0) dX0_bendFault_0 rfl rfl ?_
  refine z_iload_n (i := 1) dX0_bendFault_1 rfl rfl ?_
  refine z_fVi (sX0_toothFault M i x1 hi) dX0_bendFault_2 ml_X0_71 cd_X0_toothFault (m9 _ hi) rfl rfl rfl rfl rfl rfl ?_
  refine z_if_eq (tgt := 10) dX0_bendFault_5 rfl (fun hc1 => ?_) (fun hc1 => ?_)
  · have h := it_t h hc1
    refine z_iload_n (i := 2) dX0_bendFault_10 rfl rfl ?_
    refine z_if_eq (tgt := 25) dX0_bendFault_11 rfl (fun hc2 => ?_) (fun hc2 => ?_)
    · have h := it_t h hc2
      refine z_iconst (v := (2 : Int32)) dX0_bendFault_25 kc_2 ?_
      cases h
      exact z_iret dX0_bendFault_26 rfl rfl (Nat.le_refl _) (Nat.le_refl _) ⟨rfl, rfl⟩
    · have h := it_f h hc2
      refine z_iload_n (i := 2) dX0_bendFault_14 rfl rfl ?_
      refine z_bipush (v := (-3 : Int32)) dX0_bendFault_15 kb_m3 ?_
      refine z_icmp_lt (tgt := 25) dX0_bendFault_17 rfl (fun hc3 => ?_) (fun hc3 => ?_)
      · have h := it_t h hc3
        refine z_iconst (v := (2 : Int32)) dX0_bendFault_25 kc_2 ?_
        cases h
        exact z_iret dX0_bendFault_26 rfl rfl (Nat.le_refl _) (Nat.le_refl _) ⟨rfl, rfl⟩
      · have h := it_f h hc3
        refine z_iload_n (i := 2) dX0_bendFault_20 rfl rfl ?_
        refine z_iconst (v := (3 : Int32)) dX0_bendFault_21 kc_3 ?_
        refine z_icmp_le (tgt := 27) dX0_bendFault_22 rfl (fun hc4 => ?_) (fun hc4 => ?_)
        · have h := it_t h hc4
          refine z_aload_n (i := 0) dX0_bendFault_27 rfl rfl ?_
          refine z_getR (r' := (12, i, 0)) dX0_bendFault_28 fl_X0_20 (m9 _ hi) rfl rfl ?_
          refine z_iload_n (i := 1) dX0_bendFault_31 rfl rfl ?_
          obtain ⟨hc5, h⟩ := chk h
          refine z_aald (t := 0) (r' := (13, i, x1.toNatClampNeg)) dX0_bendFault_32 (m12 _ hi) rfl (Nat.le_of_ble_eq_true rfl) hc5 rfl ?_
          refine z_getI (x := (M.1 (13, i, x1.toNatClampNeg) 1)) dX0_bendFault_33 fl_X0_98 (m13 _ hi _ (ltN hc5)) rfl rfl ?_
          refine z_iload_n (i := 2) dX0_bendFault_36 rfl rfl ?_
          refine z_iadd dX0_bendFault_37 ?_
          refine z_istore_n (i := 3) dX0_bendFault_38 rfl (Nat.le_of_ble_eq_true rfl) rfl ?_
          refine z_aload_n (i := 0) dX0_bendFault_39 rfl rfl ?_
          refine z_getR (r' := (12, i, 0)) dX0_bendFault_40 fl_X0_20 (m9 _ hi) rfl rfl ?_
          refine z_iload_n (i := 1) dX0_bendFault_43 rfl rfl ?_
          obtain ⟨hc6, h⟩ := chk h
          refine z_aald (t := 0) (r' := (13, i, x1.toNatClampNeg)) dX0_bendFault_44 (m12 _ hi) rfl (Nat.le_of_ble_eq_true rfl) hc6 rfl ?_
          refine z_fVi (sX8_brokenNow M i x1.toNatClampNeg hi (ltN hc6)) dX0_bendFault_45 ml_X0_101 cd_X8_brokenNow (m13 _ hi _ (ltN hc6)) rfl rfl rfl rfl rfl rfl ?_
          refine z_if_ne (tgt := 62) dX0_bendFault_48 rfl (fun hc7 => ?_) (fun hc7 => ?_)
          · have h := it_f h hc7
            refine z_iconst (v := (3 : Int32)) dX0_bendFault_62 kc_3 ?_
            refine z_goto (tgt := 67) dX0_bendFault_63 rfl ?_
            cases h
            exact z_iret dX0_bendFault_67 rfl rfl (Nat.le_refl _) (Nat.le_refl _) ⟨rfl, rfl⟩
          · have h := it_t h hc7
            refine z_iload_n (i := 3) dX0_bendFault_51 rfl rfl ?_
            refine z_bipush (v := (-3 : Int32)) dX0_bendFault_52 kb_m3 ?_
            refine z_icmp_lt (tgt := 62) dX0_bendFault_54 rfl (fun hc8 => ?_) (fun hc8 => ?_)
            · have h := it_t h hc8
              refine z_iconst (v := (3 : Int32)) dX0_bendFault_62 kc_3 ?_
              refine z_goto (tgt := 67) dX0_bendFault_63 rfl ?_
              cases h
              exact z_iret dX0_bendFault_67 rfl rfl (Nat.le_refl _) (Nat.le_refl _) ⟨rfl, rfl⟩
            · have h := it_f h hc8
              refine z_iload_n (i := 3) dX0_bendFault_57 rfl rfl ?_
              refine z_iconst (v := (3 : Int32)) dX0_bendFault_58 kc_3 ?_
              refine z_icmp_le (tgt := 66) dX0_bendFault_59 rfl (fun hc9 => ?_) (fun hc9 => ?_)
              · have h := it_t h hc9
                refine z_iconst (v := (0 : Int32)) dX0_bendFault_66 kc_0 ?_
                cases h
                exact z_iret dX0_bendFault_67 rfl rfl (Nat.le_refl _) (Nat.le_refl _) ⟨rfl, rfl⟩
              · have h := it_f h hc9
                refine z_iconst (v := (3 : Int32)) dX0_bendFault_62 kc_3 ?_
                refine z_goto (tgt := 67) dX0_bendFault_63 rfl ?_
                cases h
                exact z_iret dX0_bendFault_67 rfl rfl (Nat.le_refl _) (Nat.le_refl _) ⟨rfl, rfl⟩
        · have h := it_f h hc4
          refine z_iconst (v := (2 : Int32)) dX0_bendFault_25 kc_2 ?_
          cases h
          exact z_iret dX0_bendFault_26 rfl rfl (Nat.le_refl _) (Nat.le_refl _) ⟨rfl, rfl⟩
  · have h := it_f h hc1
    refine z_iconst (v := (1 : Int32)) dX0_bendFault_8 kc_1 ?_
    cases h
    exact z_iret dX0_bendFault_9 rfl rfl (Nat.le_refl _) (Nat.le_refl _) ⟨rfl, rfl⟩
theorem dX0_windFault_0 : decode cX0_windFault 0 = .ok (.iload_n 1, 1) := by decide +kernel
theorem dX0_windFault_1 : decode cX0_windFault 1 = .ok (.iconst 1, 1) := by decide +kernel
theorem dX0_windFault_2 : decode cX0_windFault 2 = .ok (.if_icmp .lt 9, 3) := by decide +kernel
theorem dX0_windFault_5 : decode cX0_windFault 5 = .ok (.iload_n 1, 1) := by decide +kernel
theorem dX0_windFault_6 : decode cX0_windFault 6 = .ok (.bipush 20, 2) := by decide +kernel
theorem dX0_windFault_8 : decode cX0_windFault 8 = .ok (.if_icmp .le 5, 3) := by decide +kernel
theorem dX0_windFault_11 : decode cX0_windFault 11 = .ok (.iconst 2, 1) := by decide +kernel
theorem dX0_windFault_12 : decode cX0_windFault 12 = .ok (.ireturn, 1) := by decide +kernel
theorem dX0_windFault_13 : decode cX0_windFault 13 = .ok (.aload_n 0, 1) := by decide +kernel
theorem dX0_windFault_14 : decode cX0_windFault 14 = .ok (.getfield 33, 3) := by decide +kernel
theorem dX0_windFault_17 : decode cX0_windFault 17 = .ok (.iload_n 1, 1) := by decide +kernel
theorem dX0_windFault_18 : decode cX0_windFault 18 = .ok (.iadd, 1) := by decide +kernel
theorem dX0_windFault_19 : decode cX0_windFault 19 = .ok (.bipush 20, 2) := by decide +kernel
theorem dX0_windFault_21 : decode cX0_windFault 21 = .ok (.if_icmp .le 7, 3) := by decide +kernel
theorem dX0_windFault_24 : decode cX0_windFault 24 = .ok (.iconst 3, 1) := by decide +kernel
theorem dX0_windFault_25 : decode cX0_windFault 25 = .ok (.goto 4, 3) := by decide +kernel
theorem dX0_windFault_28 : decode cX0_windFault 28 = .ok (.iconst 0, 1) := by decide +kernel
theorem dX0_windFault_29 : decode cX0_windFault 29 = .ok (.ireturn, 1) := by decide +kernel
def fX0_windFault (M : Mm) (i : Nat) (x1 : Int32) : Int32 := if x1 < (1 : Int32) then (2 : Int32) else if x1 ≤ (20 : Int32) then (if ((M.1 (9, i, 0) 3) + x1) ≤ (20 : Int32) then (0 : Int32) else (3 : Int32)) else (2 : Int32)
set_option maxRecDepth 20000 in
set_option maxHeartbeats 2000000 in
theorem tX0_windFault {wv : Wv} (M : Mm) (i : Nat) (x1 : Int32) (hi : i < 12) {res : Int32} (h : fX0_windFault M i x1 = res) : TF wv yX0_windFault cX0_windFault 2 (some .int) 0 [.inr (9, i, 0), .inl (.int x1)] M (some (.int res)) M := by
  rw [fX0_windFault] at h
  refine TF.go (n := 0) (ls := [some (.inr (9, i, 0)), some (.inl (.int x1))]) rfl rfl rfl rfl rfl ?_
  refine z_iload_n (i := 1) dX0_windFault_0 rfl rfl ?_
  refine z_iconst (v := (1 : Int32)) dX0_windFault_1 kc_1 ?_
  refine z_icmp_lt (tgt := 11) dX0_windFault_2 rfl (fun hc1 => ?_) (fun hc1 => ?_)
  · have h := it_t h hc1
    refine z_iconst (v := (2 : Int32)) dX0_windFault_11 kc_2 ?_
    subst h
    exact z_iret dX0_windFault_12 rfl rfl (Nat.le_refl _) (Nat.le_refl _) ⟨rfl, rfl⟩
  · have h := it_f h hc1
    refine z_iload_n (i := 1) dX0_windFault_5 rfl rfl ?_
    refine z_bipush (v := (20 : Int32)) dX0_windFault_6 kb_20 ?_
    refine z_icmp_le (tgt := 13) dX0_windFault_8 rfl (fun hc2 => ?_) (fun hc2 => ?_)
    · have h := it_t h hc2
      refine z_aload_n (i := 0) dX0_windFault_13 rfl rfl ?_
      refine z_getI (x := (M.1 (9, i, 0) 3)) dX0_windFault_14 fl_X0_33 (m9 _ hi) rfl rfl ?_
      refine z_iload_n (i := 1) dX0_windFault_17 rfl rfl ?_
      refine z_iadd dX0_windFault_18 ?_
      refine z_bipush (v := (20 : Int32)) dX0_windFault_19 kb_20 ?_
      refine z_icmp_le (tgt := 28) dX0_windFault_21 rfl (fun hc3 => ?_) (fun hc3 => ?_)
      · have h := it_t h hc3
        refine z_iconst (v := (0 : Int32)) dX0_windFault_28 kc_0 ?_
        subst h
        exact z_iret dX0_windFault_29 rfl rfl (Nat.le_refl _) (Nat.le_refl _) ⟨rfl, rfl⟩
      · have h := it_f h hc3
        refine z_iconst (v := (3 : Int32)) dX0_windFault_24 kc_3 ?_
        refine z_goto (tgt := 29) dX0_windFault_25 rfl ?_
        subst h
        exact z_iret dX0_windFault_29 rfl rfl (Nat.le_refl _) (Nat.le_refl _) ⟨rfl, rfl⟩
    · have h := it_f h hc2
      refine z_iconst (v := (2 : Int32)) dX0_windFault_11 kc_2 ?_
      subst h
      exact z_iret dX0_windFault_12 rfl rfl (Nat.le_refl _) (Nat.le_refl _) ⟨rfl, rfl⟩
theorem sX0_windFault {wv : Wv} (M : Mm) (i : Nat) (x1 : Int32) (hi : i < 12) : TF wv yX0_windFault cX0_windFault 2 (some .int) 0 [.inr (9, i, 0), .inl (.int x1)] M (some (.int (fX0_windFault M i x1))) M := tX0_windFault M i x1 hi rfl
theorem dX0_playFault_0 : decode cX0_playFault 0 = .ok (.iload_n 1, 1) := by decide +kernel
theorem dX0_playFault_1 : decode cX0_playFault 1 = .ok (.iconst 1, 1) := by decide +kernel
theorem dX0_playFault_2 : decode cX0_playFault 2 = .ok (.if_icmp .lt 10, 3) := by decide +kernel
theorem dX0_playFault_5 : decode cX0_playFault 5 = .ok (.iload_n 1, 1) := by decide +kernel
theorem dX0_playFault_6 : decode cX0_playFault 6 = .ok (.sipush 300, 3) := by decide +kernel
theorem dX0_playFault_9 : decode cX0_playFault 9 = .ok (.if_icmp .le 5, 3) := by decide +kernel
theorem dX0_playFault_12 : decode cX0_playFault 12 = .ok (.iconst 2, 1) := by decide +kernel
theorem dX0_playFault_13 : decode cX0_playFault 13 = .ok (.ireturn, 1) := by decide +kernel
theorem dX0_playFault_14 : decode cX0_playFault 14 = .ok (.aload_n 0, 1) := by decide +kernel
theorem dX0_playFault_15 : decode cX0_playFault 15 = .ok (.getfield 33, 3) := by decide +kernel
theorem dX0_playFault_18 : decode cX0_playFault 18 = .ok (.ifCond .ne 7, 3) := by decide +kernel
theorem dX0_playFault_21 : decode cX0_playFault 21 = .ok (.iconst 3, 1) := by decide +kernel
theorem dX0_playFault_22 : decode cX0_playFault 22 = .ok (.goto 4, 3) := by decide +kernel
theorem dX0_playFault_25 : decode cX0_playFault 25 = .ok (.iconst 0, 1) := by decide +kernel
theorem dX0_playFault_26 : decode cX0_playFault 26 = .ok (.ireturn, 1) := by decide +kernel
def fX0_playFault (M : Mm) (i : Nat) (x1 : Int32) : Int32 := if x1 < (1 : Int32) then (2 : Int32) else if x1 ≤ (300 : Int32) then (if (M.1 (9, i, 0) 3) = 0 then (3 : Int32) else (0 : Int32)) else (2 : Int32)
set_option maxRecDepth 20000 in
set_option maxHeartbeats 2000000 in
theorem tX0_playFault {wv : Wv} (M : Mm) (i : Nat) (x1 : Int32) (hi : i < 12) {res : Int32} (h : fX0_playFault M i x1 = res) : TF wv yX0_playFault cX0_playFault 2 (some .int) 0 [.inr (9, i, 0), .inl (.int x1)] M (some (.int res)) M := by
  rw [fX0_playFault] at h
  refine TF.go (n := 0) (ls := [some (.inr (9, i, 0)), some (.inl (.int x1))]) rfl rfl rfl rfl rfl ?_
  refine z_iload_n (i := 1) dX0_playFault_0 rfl rfl ?_
  refine z_iconst (v := (1 : Int32)) dX0_playFault_1 kc_1 ?_
  refine z_icmp_lt (tgt := 12) dX0_playFault_2 rfl (fun hc1 => ?_) (fun hc1 => ?_)
  · have h := it_t h hc1
    refine z_iconst (v := (2 : Int32)) dX0_playFault_12 kc_2 ?_
    subst h
    exact z_iret dX0_playFault_13 rfl rfl (Nat.le_refl _) (Nat.le_refl _) ⟨rfl, rfl⟩
  · have h := it_f h hc1
    refine z_iload_n (i := 1) dX0_playFault_5 rfl rfl ?_
    refine z_sipush (v := (300 : Int32)) dX0_playFault_6 ks_300 ?_
    refine z_icmp_le (tgt := 14) dX0_playFault_9 rfl (fun hc2 => ?_) (fun hc2 => ?_)
    · have h := it_t h hc2
      refine z_aload_n (i := 0) dX0_playFault_14 rfl rfl ?_
      refine z_getI (x := (M.1 (9, i, 0) 3)) dX0_playFault_15 fl_X0_33 (m9 _ hi) rfl rfl ?_
      refine z_if_ne (tgt := 25) dX0_playFault_18 rfl (fun hc3 => ?_) (fun hc3 => ?_)
      · have h := it_f h hc3
        refine z_iconst (v := (0 : Int32)) dX0_playFault_25 kc_0 ?_
        subst h
        exact z_iret dX0_playFault_26 rfl rfl (Nat.le_refl _) (Nat.le_refl _) ⟨rfl, rfl⟩
      · have h := it_t h hc3
        refine z_iconst (v := (3 : Int32)) dX0_playFault_21 kc_3 ?_
        refine z_goto (tgt := 26) dX0_playFault_22 rfl ?_
        subst h
        exact z_iret dX0_playFault_26 rfl rfl (Nat.le_refl _) (Nat.le_refl _) ⟨rfl, rfl⟩
    · have h := it_f h hc2
      refine z_iconst (v := (2 : Int32)) dX0_playFault_12 kc_2 ?_
      subst h
      exact z_iret dX0_playFault_13 rfl rfl (Nat.le_refl _) (Nat.le_refl _) ⟨rfl, rfl⟩
theorem sX0_playFault {wv : Wv} (M : Mm) (i : Nat) (x1 : Int32) (hi : i < 12) : TF wv yX0_playFault cX0_playFault 2 (some .int) 0 [.inr (9, i, 0), .inl (.int x1)] M (some (.int (fX0_playFault M i x1))) M := tX0_playFault M i x1 hi rfl
theorem dX0_bendTooth_0 : decode cX0_bendTooth 0 = .ok (.aload_n 0, 1) := by decide +kernel
theorem dX0_bendTooth_1 : decode cX0_bendTooth 1 = .ok (.getfield 20, 3) := by decide +kernel
theorem dX0_bendTooth_4 : decode cX0_bendTooth 4 = .ok (.iload_n 1, 1) := by decide +kernel
theorem dX0_bendTooth_5 : decode cX0_bendTooth 5 = .ok (.aaload, 1) := by decide +kernel
theorem dX0_bendTooth_6 : decode cX0_bendTooth 6 = .ok (.dup, 1) := by decide +kernel
theorem dX0_bendTooth_7 : decode cX0_bendTooth 7 = .ok (.getfield 98, 3) := by decide +kernel
theorem dX0_bendTooth_10 : decode cX0_bendTooth 10 = .ok (.iload_n 2, 1) := by decide +kernel
theorem dX0_bendTooth_11 : decode cX0_bendTooth 11 = .ok (.iadd, 1) := by decide +kernel
theorem dX0_bendTooth_12 : decode cX0_bendTooth 12 = .ok (.putfield 98, 3) := by decide +kernel
theorem dX0_bendTooth_15 : decode cX0_bendTooth 15 = .ok (.aload_n 0, 1) := by decide +kernel
theorem dX0_bendTooth_16 : decode cX0_bendTooth 16 = .ok (.getfield 20, 3) := by decide +kernel
theorem dX0_bendTooth_19 : decode cX0_bendTooth 19 = .ok (.iload_n 1, 1) := by decide +kernel
theorem dX0_bendTooth_20 : decode cX0_bendTooth 20 = .ok (.aaload, 1) := by decide +kernel
theorem dX0_bendTooth_21 : decode cX0_bendTooth 21 = .ok (.dup, 1) := by decide +kernel
theorem dX0_bendTooth_22 : decode cX0_bendTooth 22 = .ok (.getfield 105, 3) := by decide +kernel
theorem dX0_bendTooth_25 : decode cX0_bendTooth 25 = .ok (.iconst 3, 1) := by decide +kernel
theorem dX0_bendTooth_26 : decode cX0_bendTooth 26 = .ok (.iadd, 1) := by decide +kernel
theorem dX0_bendTooth_27 : decode cX0_bendTooth 27 = .ok (.putfield 105, 3) := by decide +kernel
theorem dX0_bendTooth_30 : decode cX0_bendTooth 30 = .ok (.aload_n 0, 1) := by decide +kernel
theorem dX0_bendTooth_31 : decode cX0_bendTooth 31 = .ok (.dup, 1) := by decide +kernel
theorem dX0_bendTooth_32 : decode cX0_bendTooth 32 = .ok (.getfield 48, 3) := by decide +kernel
theorem dX0_bendTooth_35 : decode cX0_bendTooth 35 = .ok (.iconst 1, 1) := by decide +kernel
theorem dX0_bendTooth_36 : decode cX0_bendTooth 36 = .ok (.iadd, 1) := by decide +kernel
theorem dX0_bendTooth_37 : decode cX0_bendTooth 37 = .ok (.putfield 48, 3) := by decide +kernel
theorem dX0_bendTooth_40 : decode cX0_bendTooth 40 = .ok (.return_, 1) := by decide +kernel
def fX0_bendTooth (M : Mm) (i : Nat) (x1 : Int32) (x2 : Int32) : Option Mm := if x1 < 0 ∨ 12 ≤ x1.toNatClampNeg then none else if x1 < 0 ∨ 12 ≤ x1.toNatClampNeg then none else some (putI (putI (putI M (13, i, x1.toNatClampNeg) 1 ((M.1 (13, i, x1.toNatClampNeg) 1) + x2)) (13, i, x1.toNatClampNeg) 4 ((M.1 (13, i, x1.toNatClampNeg) 4) + (3 : Int32))) (9, i, 0) 8 ((M.1 (9, i, 0) 8) + (1 : Int32)))
set_option maxRecDepth 20000 in
set_option maxHeartbeats 2000000 in
theorem sX0_bendTooth {wv : Wv} (M : Mm) (i : Nat) (x1 : Int32) (x2 : Int32) (hi : i < 12) {res : Mm} (h : fX0_bendTooth M i x1 x2 = some res) : TF wv yX0_bendTooth cX0_bendTooth 3 none 0 [.inr (9, i, 0), .inl (.int x1), .inl (.int x2)] M (none) res := by
  rw [fX0_bendTooth] at h
  refine TF.go (n := 0) (ls := [some (.inr (9, i, 0)), some (.inl (.int x1)), some (.inl (.int x2))]) rfl rfl rfl rfl rfl ?_
  refine z_aload_n (i := 0) dX0_bendTooth_0 rfl rfl ?_
  refine z_getR (r' := (12, i, 0)) dX0_bendTooth_1 fl_X0_20 (m9 _ hi) rfl rfl ?_
  refine z_iload_n (i := 1) dX0_bendTooth_4 rfl rfl ?_
  obtain ⟨hc1, h⟩ := chk h
  refine z_aald (t := 0) (r' := (13, i, x1.toNatClampNeg)) dX0_bendTooth_5 (m12 _ hi) rfl (Nat.le_of_ble_eq_true rfl) hc1 rfl ?_
  refine z_dup dX0_bendTooth_6 rfl ?_
  refine z_getI (x := (M.1 (13, i, x1.toNatClampNeg) 1)) dX0_bendTooth_7 fl_X0_98 (m13 _ hi _ (ltN hc1)) rfl rfl ?_
  refine z_iload_n (i := 2) dX0_bendTooth_10 rfl rfl ?_
  refine z_iadd dX0_bendTooth_11 ?_
  refine z_putI allR_nd dX0_bendTooth_12 fl_X0_98 (m13 _ hi _ (ltN hc1)) rfl rfl ?_
  refine z_aload_n (i := 0) dX0_bendTooth_15 rfl rfl ?_
  refine z_getR (r' := (12, i, 0)) dX0_bendTooth_16 fl_X0_20 (m9 _ hi) rfl rfl ?_
  refine z_iload_n (i := 1) dX0_bendTooth_19 rfl rfl ?_
  obtain ⟨hc2, h⟩ := chk h
  refine z_aald (t := 0) (r' := (13, i, x1.toNatClampNeg)) dX0_bendTooth_20 (m12 _ hi) rfl (Nat.le_of_ble_eq_true rfl) hc2 rfl ?_
  refine z_dup dX0_bendTooth_21 rfl ?_
  refine z_getI (x := (M.1 (13, i, x1.toNatClampNeg) 4)) dX0_bendTooth_22 fl_X0_105 (m13 _ hi _ (ltN hc2)) rfl rfl ?_
  refine z_iconst (v := (3 : Int32)) dX0_bendTooth_25 kc_3 ?_
  refine z_iadd dX0_bendTooth_26 ?_
  refine z_putI allR_nd dX0_bendTooth_27 fl_X0_105 (m13 _ hi _ (ltN hc2)) rfl rfl ?_
  refine z_aload_n (i := 0) dX0_bendTooth_30 rfl rfl ?_
  refine z_dup dX0_bendTooth_31 rfl ?_
  refine z_getI (x := (M.1 (9, i, 0) 8)) dX0_bendTooth_32 fl_X0_48 (m9 _ hi) rfl rfl ?_
  refine z_iconst (v := (1 : Int32)) dX0_bendTooth_35 kc_1 ?_
  refine z_iadd dX0_bendTooth_36 ?_
  refine z_putI allR_nd dX0_bendTooth_37 fl_X0_48 (m9 _ hi) rfl rfl ?_
  cases h
  exact z_vret dX0_bendTooth_40 rfl (Nat.le_refl _) (Nat.le_refl _) ⟨rfl, rfl⟩
theorem dX0_mendTooth_0 : decode cX0_mendTooth 0 = .ok (.aload_n 0, 1) := by decide +kernel
theorem dX0_mendTooth_1 : decode cX0_mendTooth 1 = .ok (.dup, 1) := by decide +kernel
theorem dX0_mendTooth_2 : decode cX0_mendTooth 2 = .ok (.getfield 51, 3) := by decide +kernel
theorem dX0_mendTooth_5 : decode cX0_mendTooth 5 = .ok (.aload_n 0, 1) := by decide +kernel
theorem dX0_mendTooth_6 : decode cX0_mendTooth 6 = .ok (.getfield 20, 3) := by decide +kernel
theorem dX0_mendTooth_9 : decode cX0_mendTooth 9 = .ok (.iload_n 1, 1) := by decide +kernel
theorem dX0_mendTooth_10 : decode cX0_mendTooth 10 = .ok (.aaload, 1) := by decide +kernel
theorem dX0_mendTooth_11 : decode cX0_mendTooth 11 = .ok (.getfield 105, 3) := by decide +kernel
theorem dX0_mendTooth_14 : decode cX0_mendTooth 14 = .ok (.iadd, 1) := by decide +kernel
theorem dX0_mendTooth_15 : decode cX0_mendTooth 15 = .ok (.putfield 51, 3) := by decide +kernel
theorem dX0_mendTooth_18 : decode cX0_mendTooth 18 = .ok (.aload_n 0, 1) := by decide +kernel
theorem dX0_mendTooth_19 : decode cX0_mendTooth 19 = .ok (.getfield 20, 3) := by decide +kernel
theorem dX0_mendTooth_22 : decode cX0_mendTooth 22 = .ok (.iload_n 1, 1) := by decide +kernel
theorem dX0_mendTooth_23 : decode cX0_mendTooth 23 = .ok (.aaload, 1) := by decide +kernel
theorem dX0_mendTooth_24 : decode cX0_mendTooth 24 = .ok (.invokevirtual 108, 3) := by decide +kernel
theorem dX0_mendTooth_27 : decode cX0_mendTooth 27 = .ok (.return_, 1) := by decide +kernel
def fX0_mendTooth (M : Mm) (i : Nat) (x1 : Int32) : Option Mm := if x1 < 0 ∨ 12 ≤ x1.toNatClampNeg then none else if x1 < 0 ∨ 12 ≤ x1.toNatClampNeg then none else some (fX8_renew (putI M (9, i, 0) 9 ((M.1 (9, i, 0) 9) + (M.1 (13, i, x1.toNatClampNeg) 4))) i x1.toNatClampNeg)
set_option maxRecDepth 20000 in
set_option maxHeartbeats 2000000 in
theorem sX0_mendTooth {wv : Wv} (M : Mm) (i : Nat) (x1 : Int32) (hi : i < 12) {res : Mm} (h : fX0_mendTooth M i x1 = some res) : TF wv yX0_mendTooth cX0_mendTooth 2 none 1 [.inr (9, i, 0), .inl (.int x1)] M (none) res := by
  rw [fX0_mendTooth] at h
  refine TF.go (n := 0) (ls := [some (.inr (9, i, 0)), some (.inl (.int x1))]) rfl rfl rfl rfl rfl ?_
  refine z_aload_n (i := 0) dX0_mendTooth_0 rfl rfl ?_
  refine z_dup dX0_mendTooth_1 rfl ?_
  refine z_getI (x := (M.1 (9, i, 0) 9)) dX0_mendTooth_2 fl_X0_51 (m9 _ hi) rfl rfl ?_
  refine z_aload_n (i := 0) dX0_mendTooth_5 rfl rfl ?_
  refine z_getR (r' := (12, i, 0)) dX0_mendTooth_6 fl_X0_20 (m9 _ hi) rfl rfl ?_
  refine z_iload_n (i := 1) dX0_mendTooth_9 rfl rfl ?_
  obtain ⟨hc1, h⟩ := chk h
  refine z_aald (t := 0) (r' := (13, i, x1.toNatClampNeg)) dX0_mendTooth_10 (m12 _ hi) rfl (Nat.le_of_ble_eq_true rfl) hc1 rfl ?_
  refine z_getI (x := (M.1 (13, i, x1.toNatClampNeg) 4)) dX0_mendTooth_11 fl_X0_105 (m13 _ hi _ (ltN hc1)) rfl rfl ?_
  refine z_iadd dX0_mendTooth_14 ?_
  refine z_putI allR_nd dX0_mendTooth_15 fl_X0_51 (m9 _ hi) rfl rfl ?_
  refine z_aload_n (i := 0) dX0_mendTooth_18 rfl rfl ?_
  refine z_getR (r' := (12, i, 0)) dX0_mendTooth_19 fl_X0_20 (m9 _ hi) rfl rfl ?_
  refine z_iload_n (i := 1) dX0_mendTooth_22 rfl rfl ?_
  obtain ⟨hc2, h⟩ := chk h
  refine z_aald (t := 0) (r' := (13, i, x1.toNatClampNeg)) dX0_mendTooth_23 (m12 _ hi) rfl (Nat.le_of_ble_eq_true rfl) hc2 rfl ?_
  refine z_fVv (sX8_renew (putI M (9, i, 0) 9 ((M.1 (9, i, 0) 9) + (M.1 (13, i, x1.toNatClampNeg) 4))) i x1.toNatClampNeg hi (ltN hc2)) dX0_mendTooth_24 ml_X0_108 cd_X8_renew (m13 _ hi _ (ltN hc2)) rfl rfl rfl rfl rfl rfl ?_
  cases h
  exact z_vret dX0_mendTooth_27 rfl (Nat.le_refl _) (Nat.le_refl _) ⟨rfl, rfl⟩
theorem dX8_dampedNow_0 : decode cX8_dampedNow 0 = .ok (.aload_n 0, 1) := by decide +kernel
theorem dX8_dampedNow_1 : decode cX8_dampedNow 1 = .ok (.getfield 30, 3) := by decide +kernel
theorem dX8_dampedNow_4 : decode cX8_dampedNow 4 = .ok (.aload_n 0, 1) := by decide +kernel
theorem dX8_dampedNow_5 : decode cX8_dampedNow 5 = .ok (.getfield 15, 3) := by decide +kernel
theorem dX8_dampedNow_8 : decode cX8_dampedNow 8 = .ok (.if_icmp .lt 7, 3) := by decide +kernel
theorem dX8_dampedNow_11 : decode cX8_dampedNow 11 = .ok (.iconst 1, 1) := by decide +kernel
theorem dX8_dampedNow_12 : decode cX8_dampedNow 12 = .ok (.goto 4, 3) := by decide +kernel
theorem dX8_dampedNow_15 : decode cX8_dampedNow 15 = .ok (.iconst 0, 1) := by decide +kernel
theorem dX8_dampedNow_16 : decode cX8_dampedNow 16 = .ok (.ireturn, 1) := by decide +kernel
def fX8_dampedNow (M : Mm) (i : Nat) (t : Nat) : Int32 := if (M.1 (13, i, t) 5) < (M.1 (13, i, t) 2) then (0 : Int32) else (1 : Int32)
set_option maxRecDepth 20000 in
set_option maxHeartbeats 2000000 in
theorem tX8_dampedNow {wv : Wv} (M : Mm) (i : Nat) (t : Nat) (hi : i < 12) (ht : t < 12) {res : Int32} (h : fX8_dampedNow M i t = res) : TF wv yX8_dampedNow cX8_dampedNow 1 (some .boolean) 0 [.inr (13, i, t)] M (some (.int res)) M := by
  rw [fX8_dampedNow] at h
  refine TF.go (n := 0) (ls := [some (.inr (13, i, t))]) rfl rfl rfl rfl rfl ?_
  refine z_aload_n (i := 0) dX8_dampedNow_0 rfl rfl ?_
  refine z_getI (x := (M.1 (13, i, t) 5)) dX8_dampedNow_1 fl_X8_30 (m13 _ hi _ ht) rfl rfl ?_
  refine z_aload_n (i := 0) dX8_dampedNow_4 rfl rfl ?_
  refine z_getI (x := (M.1 (13, i, t) 2)) dX8_dampedNow_5 fl_X8_15 (m13 _ hi _ ht) rfl rfl ?_
  refine z_icmp_lt (tgt := 15) dX8_dampedNow_8 rfl (fun hc1 => ?_) (fun hc1 => ?_)
  · have h := it_t h hc1
    refine z_iconst (v := (0 : Int32)) dX8_dampedNow_15 kc_0 ?_
    subst h
    exact z_iret dX8_dampedNow_16 rfl rfl (Nat.le_refl _) (Nat.le_refl _) ⟨rfl, rfl⟩
  · have h := it_f h hc1
    refine z_iconst (v := (1 : Int32)) dX8_dampedNow_11 kc_1 ?_
    refine z_goto (tgt := 16) dX8_dampedNow_12 rfl ?_
    subst h
    exact z_iret dX8_dampedNow_16 rfl rfl (Nat.le_refl _) (Nat.le_refl _) ⟨rfl, rfl⟩
theorem sX8_dampedNow {wv : Wv} (M : Mm) (i : Nat) (t : Nat) (hi : i < 12) (ht : t < 12) : TF wv yX8_dampedNow cX8_dampedNow 1 (some .boolean) 0 [.inr (13, i, t)] M (some (.int (fX8_dampedNow M i t))) M := tX8_dampedNow M i t hi ht rfl
theorem dX0_soundOf_0 : decode cX0_soundOf 0 = .ok (.aload_n 0, 1) := by decide +kernel
theorem dX0_soundOf_1 : decode cX0_soundOf 1 = .ok (.getfield 12, 3) := by decide +kernel
theorem dX0_soundOf_4 : decode cX0_soundOf 4 = .ok (.aload_n 0, 1) := by decide +kernel
theorem dX0_soundOf_5 : decode cX0_soundOf 5 = .ok (.getfield 12, 3) := by decide +kernel
theorem dX0_soundOf_8 : decode cX0_soundOf 8 = .ok (.getfield 126, 3) := by decide +kernel
theorem dX0_soundOf_11 : decode cX0_soundOf 11 = .ok (.iload_n 1, 1) := by decide +kernel
theorem dX0_soundOf_12 : decode cX0_soundOf 12 = .ok (.aload_n 0, 1) := by decide +kernel
theorem dX0_soundOf_13 : decode cX0_soundOf 13 = .ok (.getfield 12, 3) := by decide +kernel
theorem dX0_soundOf_16 : decode cX0_soundOf 16 = .ok (.getfield 129, 3) := by decide +kernel
theorem dX0_soundOf_19 : decode cX0_soundOf 19 = .ok (.invokevirtual 87, 3) := by decide +kernel
theorem dX0_soundOf_22 : decode cX0_soundOf 22 = .ok (.ifCond .ne 5, 3) := by decide +kernel
theorem dX0_soundOf_25 : decode cX0_soundOf 25 = .ok (.iconst 0, 1) := by decide +kernel
theorem dX0_soundOf_26 : decode cX0_soundOf 26 = .ok (.ireturn, 1) := by decide +kernel
theorem dX0_soundOf_27 : decode cX0_soundOf 27 = .ok (.aload_n 0, 1) := by decide +kernel
theorem dX0_soundOf_28 : decode cX0_soundOf 28 = .ok (.getfield 20, 3) := by decide +kernel
theorem dX0_soundOf_31 : decode cX0_soundOf 31 = .ok (.iload_n 1, 1) := by decide +kernel
theorem dX0_soundOf_32 : decode cX0_soundOf 32 = .ok (.aaload, 1) := by decide +kernel
theorem dX0_soundOf_33 : decode cX0_soundOf 33 = .ok (.invokevirtual 101, 3) := by decide +kernel
theorem dX0_soundOf_36 : decode cX0_soundOf 36 = .ok (.ifCond .eq 5, 3) := by decide +kernel
theorem dX0_soundOf_39 : decode cX0_soundOf 39 = .ok (.iconst 1, 1) := by decide +kernel
theorem dX0_soundOf_40 : decode cX0_soundOf 40 = .ok (.ireturn, 1) := by decide +kernel
theorem dX0_soundOf_41 : decode cX0_soundOf 41 = .ok (.aload_n 0, 1) := by decide +kernel
theorem dX0_soundOf_42 : decode cX0_soundOf 42 = .ok (.getfield 20, 3) := by decide +kernel
theorem dX0_soundOf_45 : decode cX0_soundOf 45 = .ok (.iload_n 1, 1) := by decide +kernel
theorem dX0_soundOf_46 : decode cX0_soundOf 46 = .ok (.aaload, 1) := by decide +kernel
theorem dX0_soundOf_47 : decode cX0_soundOf 47 = .ok (.invokevirtual 132, 3) := by decide +kernel
theorem dX0_soundOf_50 : decode cX0_soundOf 50 = .ok (.ifCond .eq 7, 3) := by decide +kernel
theorem dX0_soundOf_53 : decode cX0_soundOf 53 = .ok (.iconst 2, 1) := by decide +kernel
theorem dX0_soundOf_54 : decode cX0_soundOf 54 = .ok (.goto 4, 3) := by decide +kernel
theorem dX0_soundOf_57 : decode cX0_soundOf 57 = .ok (.iconst 3, 1) := by decide +kernel
theorem dX0_soundOf_58 : decode cX0_soundOf 58 = .ok (.ireturn, 1) := by decide +kernel
def fX0_soundOf (M : Mm) (i : Nat) (x1 : Int32) : Option Int32 := (fX3_hasPin M i (M.1 (10, i, 0) 3) x1 (M.1 (10, i, 0) 2)).bind fun q1 => if q1 = 0 then some (0 : Int32) else if x1 < 0 ∨ 12 ≤ x1.toNatClampNeg then none else if (fX8_brokenNow M i x1.toNatClampNeg) = 0 then (if x1 < 0 ∨ 12 ≤ x1.toNatClampNeg then none else if (fX8_dampedNow M i x1.toNatClampNeg) = 0 then some (3 : Int32) else some (2 : Int32)) else some (1 : Int32)
set_option maxRecDepth 20000 in
set_option maxHeartbeats 2000000 in
theorem sX0_soundOf {wv : Wv} (M : Mm) (i : Nat) (x1 : Int32) (hi : i < 12) {res : Int32} (h : fX0_soundOf M i x1 = some res) : TF wv yX0_soundOf cX0_soundOf 2 (some .int) 1 [.inr (9, i, 0), .inl (.int x1)] M (some (.int res)) M := by
  rw [fX0_soundOf] at h
  refine TF.go (n := 0) (ls := [some (.inr (9, i, 0)), some (.inl (.int x1))]) rfl rfl rfl rfl rfl ?_
  refine z_aload_n (i := 0) dX0_soundOf_0 rfl rfl ?_
  refine z_getR (r' := (10, i, 0)) dX0_soundOf_1 fl_X0_12 (m9 _ hi) rfl rfl ?_
  refine z_aload_n (i := 0) dX0_soundOf_4 rfl rfl ?_
  refine z_getR (r' := (10, i, 0)) dX0_soundOf_5 fl_X0_12 (m9 _ hi) rfl rfl ?_
  refine z_getI (x := (M.1 (10, i, 0) 3)) dX0_soundOf_8 fl_X0_126 (m10 _ hi) rfl rfl ?_
  refine z_iload_n (i := 1) dX0_soundOf_11 rfl rfl ?_
  refine z_aload_n (i := 0) dX0_soundOf_12 rfl rfl ?_
  refine z_getR (r' := (10, i, 0)) dX0_soundOf_13 fl_X0_12 (m9 _ hi) rfl rfl ?_
  refine z_getI (x := (M.1 (10, i, 0) 2)) dX0_soundOf_16 fl_X0_129 (m10 _ hi) rfl rfl ?_
  obtain ⟨q1, hq2, h⟩ := bnd h
  refine z_fVi (sX3_hasPin M i (M.1 (10, i, 0) 3) x1 (M.1 (10, i, 0) 2) hi hq2) dX0_soundOf_19 ml_X0_87 cd_X3_hasPin (m10 _ hi) rfl rfl rfl rfl rfl rfl ?_
  refine z_if_ne (tgt := 27) dX0_soundOf_22 rfl (fun hc3 => ?_) (fun hc3 => ?_)
  · have h := it_f h hc3
    refine z_aload_n (i := 0) dX0_soundOf_27 rfl rfl ?_
    refine z_getR (r' := (12, i, 0)) dX0_soundOf_28 fl_X0_20 (m9 _ hi) rfl rfl ?_
    refine z_iload_n (i := 1) dX0_soundOf_31 rfl rfl ?_
    obtain ⟨hc4, h⟩ := chk h
    refine z_aald (t := 0) (r' := (13, i, x1.toNatClampNeg)) dX0_soundOf_32 (m12 _ hi) rfl (Nat.le_of_ble_eq_true rfl) hc4 rfl ?_
    refine z_fVi (sX8_brokenNow M i x1.toNatClampNeg hi (ltN hc4)) dX0_soundOf_33 ml_X0_101 cd_X8_brokenNow (m13 _ hi _ (ltN hc4)) rfl rfl rfl rfl rfl rfl ?_
    refine z_if_eq (tgt := 41) dX0_soundOf_36 rfl (fun hc5 => ?_) (fun hc5 => ?_)
    · have h := it_t h hc5
      refine z_aload_n (i := 0) dX0_soundOf_41 rfl rfl ?_
      refine z_getR (r' := (12, i, 0)) dX0_soundOf_42 fl_X0_20 (m9 _ hi) rfl rfl ?_
      refine z_iload_n (i := 1) dX0_soundOf_45 rfl rfl ?_
      obtain ⟨hc6, h⟩ := chk h
      refine z_aald (t := 0) (r' := (13, i, x1.toNatClampNeg)) dX0_soundOf_46 (m12 _ hi) rfl (Nat.le_of_ble_eq_true rfl) hc6 rfl ?_
      refine z_fVi (sX8_dampedNow M i x1.toNatClampNeg hi (ltN hc6)) dX0_soundOf_47 ml_X0_132 cd_X8_dampedNow (m13 _ hi _ (ltN hc6)) rfl rfl rfl rfl rfl rfl ?_
      refine z_if_eq (tgt := 57) dX0_soundOf_50 rfl (fun hc7 => ?_) (fun hc7 => ?_)
      · have h := it_t h hc7
        refine z_iconst (v := (3 : Int32)) dX0_soundOf_57 kc_3 ?_
        cases h
        exact z_iret dX0_soundOf_58 rfl rfl (Nat.le_refl _) (Nat.le_refl _) ⟨rfl, rfl⟩
      · have h := it_f h hc7
        refine z_iconst (v := (2 : Int32)) dX0_soundOf_53 kc_2 ?_
        refine z_goto (tgt := 58) dX0_soundOf_54 rfl ?_
        cases h
        exact z_iret dX0_soundOf_58 rfl rfl (Nat.le_refl _) (Nat.le_refl _) ⟨rfl, rfl⟩
    · have h := it_f h hc5
      refine z_iconst (v := (1 : Int32)) dX0_soundOf_39 kc_1 ?_
      cases h
      exact z_iret dX0_soundOf_40 rfl rfl (Nat.le_refl _) (Nat.le_refl _) ⟨rfl, rfl⟩
  · have h := it_t h hc3
    refine z_iconst (v := (0 : Int32)) dX0_soundOf_25 kc_0 ?_
    cases h
    exact z_iret dX0_soundOf_26 rfl rfl (Nat.le_refl _) (Nat.le_refl _) ⟨rfl, rfl⟩
theorem dX8_pluck_0 : decode cX8_pluck 0 = .ok (.aload_n 0, 1) := by decide +kernel
theorem dX8_pluck_1 : decode cX8_pluck 1 = .ok (.dup, 1) := by decide +kernel
theorem dX8_pluck_2 : decode cX8_pluck 2 = .ok (.getfield 27, 3) := by decide +kernel
theorem dX8_pluck_5 : decode cX8_pluck 5 = .ok (.iload_n 1, 1) := by decide +kernel
theorem dX8_pluck_6 : decode cX8_pluck 6 = .ok (.iadd, 1) := by decide +kernel
theorem dX8_pluck_7 : decode cX8_pluck 7 = .ok (.putfield 27, 3) := by decide +kernel
theorem dX8_pluck_10 : decode cX8_pluck 10 = .ok (.aload_n 0, 1) := by decide +kernel
theorem dX8_pluck_11 : decode cX8_pluck 11 = .ok (.iconst 0, 1) := by decide +kernel
theorem dX8_pluck_12 : decode cX8_pluck 12 = .ok (.putfield 30, 3) := by decide +kernel
theorem dX8_pluck_15 : decode cX8_pluck 15 = .ok (.return_, 1) := by decide +kernel
def fX8_pluck (M : Mm) (i : Nat) (t : Nat) (x1 : Int32) : Mm := (putI (putI M (13, i, t) 4 ((M.1 (13, i, t) 4) + x1)) (13, i, t) 5 (0 : Int32))
set_option maxRecDepth 20000 in
set_option maxHeartbeats 2000000 in
theorem tX8_pluck {wv : Wv} (M : Mm) (i : Nat) (t : Nat) (x1 : Int32) (hi : i < 12) (ht : t < 12) {res : Mm} (h : fX8_pluck M i t x1 = res) : TF wv yX8_pluck cX8_pluck 2 none 0 [.inr (13, i, t), .inl (.int x1)] M (none) res := by
  rw [fX8_pluck] at h
  refine TF.go (n := 0) (ls := [some (.inr (13, i, t)), some (.inl (.int x1))]) rfl rfl rfl rfl rfl ?_
  refine z_aload_n (i := 0) dX8_pluck_0 rfl rfl ?_
  refine z_dup dX8_pluck_1 rfl ?_
  refine z_getI (x := (M.1 (13, i, t) 4)) dX8_pluck_2 fl_X8_27 (m13 _ hi _ ht) rfl rfl ?_
  refine z_iload_n (i := 1) dX8_pluck_5 rfl rfl ?_
  refine z_iadd dX8_pluck_6 ?_
  refine z_putI allR_nd dX8_pluck_7 fl_X8_27 (m13 _ hi _ ht) rfl rfl ?_
  refine z_aload_n (i := 0) dX8_pluck_10 rfl rfl ?_
  refine z_iconst (v := (0 : Int32)) dX8_pluck_11 kc_0 ?_
  refine z_putI allR_nd dX8_pluck_12 fl_X8_30 (m13 _ hi _ ht) rfl rfl ?_
  subst h
  exact z_vret dX8_pluck_15 rfl (Nat.le_refl _) (Nat.le_refl _) ⟨rfl, rfl⟩
theorem sX8_pluck {wv : Wv} (M : Mm) (i : Nat) (t : Nat) (x1 : Int32) (hi : i < 12) (ht : t < 12) : TF wv yX8_pluck cX8_pluck 2 none 0 [.inr (13, i, t), .inl (.int x1)] M (none) (fX8_pluck M i t x1) := tX8_pluck M i t x1 hi ht rfl
