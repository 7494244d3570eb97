theorem dX9_removePin_0 : decode cX9_removePin 0 = .ok (.aload_n 0, 1) := by decide +kernel
theorem dX9_removePin_1 : decode cX9_removePin 1 = .ok (.getfield 40, 3) := by decide +kernel
theorem dX9_removePin_4 : decode cX9_removePin 4 = .ok (.iload_n 1, 1) := by decide +kernel
theorem dX9_removePin_5 : decode cX9_removePin 5 = .ok (.iload_n 2, 1) := by decide +kernel
theorem dX9_removePin_6 : decode cX9_removePin 6 = .ok (.iload_n 3, 1) := by decide +kernel
theorem dX9_removePin_7 : decode cX9_removePin 7 = .ok (.invokevirtual 306, 3) := by decide +kernel
theorem dX9_removePin_10 : decode cX9_removePin 10 = .ok (.invokestatic 172, 3) := by decide +kernel
theorem dX9_removePin_13 : decode cX9_removePin 13 = .ok (.aload_n 0, 1) := by decide +kernel
theorem dX9_removePin_14 : decode cX9_removePin 14 = .ok (.getfield 68, 3) := by decide +kernel
theorem dX9_removePin_17 : decode cX9_removePin 17 = .ok (.aload_n 0, 1) := by decide +kernel
theorem dX9_removePin_18 : decode cX9_removePin 18 = .ok (.getfield 40, 3) := by decide +kernel
theorem dX9_removePin_21 : decode cX9_removePin 21 = .ok (.invokevirtual 137, 3) := by decide +kernel
theorem dX9_removePin_24 : decode cX9_removePin 24 = .ok (.aload_n 0, 1) := by decide +kernel
theorem dX9_removePin_25 : decode cX9_removePin 25 = .ok (.getfield 40, 3) := by decide +kernel
theorem dX9_removePin_28 : decode cX9_removePin 28 = .ok (.getfield 153, 3) := by decide +kernel
theorem dX9_removePin_31 : decode cX9_removePin 31 = .ok (.iload_n 1, 1) := by decide +kernel
theorem dX9_removePin_32 : decode cX9_removePin 32 = .ok (.iload_n 2, 1) := by decide +kernel
theorem dX9_removePin_33 : decode cX9_removePin 33 = .ok (.iload_n 3, 1) := by decide +kernel
theorem dX9_removePin_34 : decode cX9_removePin 34 = .ok (.invokevirtual 309, 3) := by decide +kernel
theorem dX9_removePin_37 : decode cX9_removePin 37 = .ok (.aload_n 0, 1) := by decide +kernel
theorem dX9_removePin_38 : decode cX9_removePin 38 = .ok (.getfield 40, 3) := by decide +kernel
theorem dX9_removePin_41 : decode cX9_removePin 41 = .ok (.getfield 153, 3) := by decide +kernel
theorem dX9_removePin_44 : decode cX9_removePin 44 = .ok (.iload_n 1, 1) := by decide +kernel
theorem dX9_removePin_45 : decode cX9_removePin 45 = .ok (.invokevirtual 182, 3) := by decide +kernel
theorem dX9_removePin_48 : decode cX9_removePin 48 = .ok (.ireturn, 1) := by decide +kernel
def fX9_removePin (M : Mm) (x1 : Int32) (x2 : Int32) (x3 : Int32) : Option (Int32 × Mm) := (fX0_takePinFault M 0 x1 x2 x3).bind fun q1 => (fX9_refuse M q1).bind fun q3 => (fX2_remember q3 0).bind fun q5 => (fX3_takePin q5 0 x1 x2 x3).bind fun q7 => (fX3_pinsOf q7 0 x1).bind fun q9 => some (q9, q7)
set_option maxRecDepth 20000 in
set_option maxHeartbeats 2000000 in
theorem sX9_removePin {wv : Wv} (M : Mm) (x1 : Int32) (x2 : Int32) (x3 : Int32) {res : (Int32 × Mm)} (h : fX9_removePin M x1 x2 x3 = some res) : TF wv yX9_removePin cX9_removePin 4 (some .int) 4 [.inr (0, 0, 0), .inl (.int x1), .inl (.int x2), .inl (.int x3)] M (some (.int res.1)) res.2 := by
  rw [fX9_removePin] at h
  refine TF.go (n := 0) (ls := [some (.inr (0, 0, 0)), some (.inl (.int x1)), some (.inl (.int x2)), some (.inl (.int x3))]) rfl rfl rfl rfl rfl ?_
  refine z_aload_n (i := 0) dX9_removePin_0 rfl rfl ?_
  refine z_getR (r' := (9, 0, 0)) dX9_removePin_1 fl_X9_40 mk0 rfl rfl ?_
  refine z_iload_n (i := 1) dX9_removePin_4 rfl rfl ?_
  refine z_iload_n (i := 2) dX9_removePin_5 rfl rfl ?_
  refine z_iload_n (i := 3) dX9_removePin_6 rfl rfl ?_
  obtain ⟨q1, hq2, h⟩ := bnd h
  refine z_fVi (sX0_takePinFault M 0 x1 x2 x3 (Nat.le_of_ble_eq_true rfl) hq2) dX9_removePin_7 ml_X9_306 cd_X0_takePinFault (m9 _ (Nat.le_of_ble_eq_true rfl)) rfl rfl rfl rfl rfl rfl ?_
  obtain ⟨q3, hq4, h⟩ := bnd h
  refine z_fSv (sX9_refuse M q1 hq4) dX9_removePin_10 ml_X9_172 cd_X9_refuse rfl rfl rfl rfl rfl ?_
  refine z_aload_n (i := 0) dX9_removePin_13 rfl rfl ?_
  refine z_getR (r' := (14, 0, 0)) dX9_removePin_14 fl_X9_68 mk0 rfl rfl ?_
  refine z_aload_n (i := 0) dX9_removePin_17 rfl rfl ?_
  refine z_getR (r' := (9, 0, 0)) dX9_removePin_18 fl_X9_40 mk0 rfl rfl ?_
  obtain ⟨q5, hq6, h⟩ := bnd h
  refine z_fVv (sX2_remember q3 0 (Nat.le_of_ble_eq_true rfl) hq6) dX9_removePin_21 ml_X9_137 cd_X2_remember mk14 rfl rfl rfl rfl rfl rfl ?_
  refine z_aload_n (i := 0) dX9_removePin_24 rfl rfl ?_
  refine z_getR (r' := (9, 0, 0)) dX9_removePin_25 fl_X9_40 mk0 rfl rfl ?_
  refine z_getR (r' := (10, 0, 0)) dX9_removePin_28 fl_X9_153 (m9 _ (Nat.le_of_ble_eq_true rfl)) rfl rfl ?_
  refine z_iload_n (i := 1) dX9_removePin_31 rfl rfl ?_
  refine z_iload_n (i := 2) dX9_removePin_32 rfl rfl ?_
  refine z_iload_n (i := 3) dX9_removePin_33 rfl rfl ?_
  obtain ⟨q7, hq8, h⟩ := bnd h
  refine z_fVv (sX3_takePin q5 0 x1 x2 x3 (Nat.le_of_ble_eq_true rfl) hq8) dX9_removePin_34 ml_X9_309 cd_X3_takePin (m10 _ (Nat.le_of_ble_eq_true rfl)) rfl rfl rfl rfl rfl rfl ?_
  refine z_aload_n (i := 0) dX9_removePin_37 rfl rfl ?_
  refine z_getR (r' := (9, 0, 0)) dX9_removePin_38 fl_X9_40 mk0 rfl rfl ?_
  refine z_getR (r' := (10, 0, 0)) dX9_removePin_41 fl_X9_153 (m9 _ (Nat.le_of_ble_eq_true rfl)) rfl rfl ?_
  refine z_iload_n (i := 1) dX9_removePin_44 rfl rfl ?_
  obtain ⟨q9, hq10, h⟩ := bnd h
  refine z_fVi (sX3_pinsOf q7 0 x1 (Nat.le_of_ble_eq_true rfl) hq10) dX9_removePin_45 ml_X9_182 cd_X3_pinsOf (m10 _ (Nat.le_of_ble_eq_true rfl)) rfl rfl rfl rfl rfl rfl ?_
  cases h
  exact z_iret dX9_removePin_48 rfl rfl (Nat.le_refl _) (Nat.le_refl _) ⟨rfl, rfl⟩
theorem dX9_shift_0 : decode cX9_shift 0 = .ok (.aload_n 0, 1) := by decide +kernel
theorem dX9_shift_1 : decode cX9_shift 1 = .ok (.getfield 40, 3) := by decide +kernel
theorem dX9_shift_4 : decode cX9_shift 4 = .ok (.iload_n 1, 1) := by decide +kernel
theorem dX9_shift_5 : decode cX9_shift 5 = .ok (.invokevirtual 179, 3) := by decide +kernel
theorem dX9_shift_8 : decode cX9_shift 8 = .ok (.invokestatic 172, 3) := by decide +kernel
theorem dX9_shift_11 : decode cX9_shift 11 = .ok (.iload_n 2, 1) := by decide +kernel
theorem dX9_shift_12 : decode cX9_shift 12 = .ok (.iconst 0, 1) := by decide +kernel
theorem dX9_shift_13 : decode cX9_shift 13 = .ok (.bipush 63, 2) := by decide +kernel
theorem dX9_shift_15 : decode cX9_shift 15 = .ok (.invokestatic 296, 3) := by decide +kernel
theorem dX9_shift_18 : decode cX9_shift 18 = .ok (.invokestatic 172, 3) := by decide +kernel
theorem dX9_shift_21 : decode cX9_shift 21 = .ok (.aload_n 0, 1) := by decide +kernel
theorem dX9_shift_22 : decode cX9_shift 22 = .ok (.getfield 68, 3) := by decide +kernel
theorem dX9_shift_25 : decode cX9_shift 25 = .ok (.aload_n 0, 1) := by decide +kernel
theorem dX9_shift_26 : decode cX9_shift 26 = .ok (.getfield 40, 3) := by decide +kernel
theorem dX9_shift_29 : decode cX9_shift 29 = .ok (.invokevirtual 137, 3) := by decide +kernel
theorem dX9_shift_32 : decode cX9_shift 32 = .ok (.aload_n 0, 1) := by decide +kernel
theorem dX9_shift_33 : decode cX9_shift 33 = .ok (.getfield 40, 3) := by decide +kernel
theorem dX9_shift_36 : decode cX9_shift 36 = .ok (.getfield 153, 3) := by decide +kernel
theorem dX9_shift_39 : decode cX9_shift 39 = .ok (.iload_n 1, 1) := by decide +kernel
theorem dX9_shift_40 : decode cX9_shift 40 = .ok (.iload_n 2, 1) := by decide +kernel
theorem dX9_shift_41 : decode cX9_shift 41 = .ok (.invokevirtual 312, 3) := by decide +kernel
theorem dX9_shift_44 : decode cX9_shift 44 = .ok (.aload_n 0, 1) := by decide +kernel
theorem dX9_shift_45 : decode cX9_shift 45 = .ok (.getfield 40, 3) := by decide +kernel
theorem dX9_shift_48 : decode cX9_shift 48 = .ok (.getfield 153, 3) := by decide +kernel
theorem dX9_shift_51 : decode cX9_shift 51 = .ok (.iload_n 1, 1) := by decide +kernel
theorem dX9_shift_52 : decode cX9_shift 52 = .ok (.invokevirtual 182, 3) := by decide +kernel
theorem dX9_shift_55 : decode cX9_shift 55 = .ok (.ireturn, 1) := by decide +kernel
def fX9_shift (M : Mm) (x1 : Int32) (x2 : Int32) : Option (Int32 × Mm) := (fX9_refuse M (fX0_tuneFault M 0 x1)).bind fun q1 => (fX9_refuse q1 (fX9_rangeFault q1 x2 (0 : Int32) (63 : Int32))).bind fun q3 => (fX2_remember q3 0).bind fun q5 => (fX3_turnPins q5 0 x1 x2).bind fun q7 => (fX3_pinsOf q7 0 x1).bind fun q9 => some (q9, q7)
set_option maxRecDepth 20000 in
set_option maxHeartbeats 2000000 in
theorem sX9_shift {wv : Wv} (M : Mm) (x1 : Int32) (x2 : Int32) {res : (Int32 × Mm)} (h : fX9_shift M x1 x2 = some res) : TF wv yX9_shift cX9_shift 3 (some .int) 4 [.inr (0, 0, 0), .inl (.int x1), .inl (.int x2)] M (some (.int res.1)) res.2 := by
  rw [fX9_shift] at h
  refine TF.go (n := 0) (ls := [some (.inr (0, 0, 0)), some (.inl (.int x1)), some (.inl (.int x2))]) rfl rfl rfl rfl rfl ?_
  refine z_aload_n (i := 0) dX9_shift_0 rfl rfl ?_
  refine z_getR (r' := (9, 0, 0)) dX9_shift_1 fl_X9_40 mk0 rfl rfl ?_
  refine z_iload_n (i := 1) dX9_shift_4 rfl rfl ?_
  refine z_fVi (sX0_tuneFault M 0 x1 (Nat.le_of_ble_eq_true rfl)) dX9_shift_5 ml_X9_179 cd_X0_tuneFault (m9 _ (Nat.le_of_ble_eq_true rfl)) rfl rfl rfl rfl rfl rfl ?_
  obtain ⟨q1, hq2, h⟩ := bnd h
  refine z_fSv (sX9_refuse M (fX0_tuneFault M 0 x1) hq2) dX9_shift_8 ml_X9_172 cd_X9_refuse rfl rfl rfl rfl rfl ?_
  refine z_iload_n (i := 2) dX9_shift_11 rfl rfl ?_
  refine z_iconst (v := (0 : Int32)) dX9_shift_12 kc_0 ?_
  refine z_bipush (v := (63 : Int32)) dX9_shift_13 kb_63 ?_
  refine z_fSi (sX9_rangeFault q1 x2 (0 : Int32) (63 : Int32)) dX9_shift_15 ml_X9_296 cd_X9_rangeFault rfl rfl rfl rfl rfl ?_
  obtain ⟨q3, hq4, h⟩ := bnd h
  refine z_fSv (sX9_refuse q1 (fX9_rangeFault q1 x2 (0 : Int32) (63 : Int32)) hq4) dX9_shift_18 ml_X9_172 cd_X9_refuse rfl rfl rfl rfl rfl ?_
  refine z_aload_n (i := 0) dX9_shift_21 rfl rfl ?_
  refine z_getR (r' := (14, 0, 0)) dX9_shift_22 fl_X9_68 mk0 rfl rfl ?_
  refine z_aload_n (i := 0) dX9_shift_25 rfl rfl ?_
  refine z_getR (r' := (9, 0, 0)) dX9_shift_26 fl_X9_40 mk0 rfl rfl ?_
  obtain ⟨q5, hq6, h⟩ := bnd h
  refine z_fVv (sX2_remember q3 0 (Nat.le_of_ble_eq_true rfl) hq6) dX9_shift_29 ml_X9_137 cd_X2_remember mk14 rfl rfl rfl rfl rfl rfl ?_
  refine z_aload_n (i := 0) dX9_shift_32 rfl rfl ?_
  refine z_getR (r' := (9, 0, 0)) dX9_shift_33 fl_X9_40 mk0 rfl rfl ?_
  refine z_getR (r' := (10, 0, 0)) dX9_shift_36 fl_X9_153 (m9 _ (Nat.le_of_ble_eq_true rfl)) rfl rfl ?_
  refine z_iload_n (i := 1) dX9_shift_39 rfl rfl ?_
  refine z_iload_n (i := 2) dX9_shift_40 rfl rfl ?_
  obtain ⟨q7, hq8, h⟩ := bnd h
  refine z_fVv (sX3_turnPins q5 0 x1 x2 (Nat.le_of_ble_eq_true rfl) hq8) dX9_shift_41 ml_X9_312 cd_X3_turnPins (m10 _ (Nat.le_of_ble_eq_true rfl)) rfl rfl rfl rfl rfl rfl ?_
  refine z_aload_n (i := 0) dX9_shift_44 rfl rfl ?_
  refine z_getR (r' := (9, 0, 0)) dX9_shift_45 fl_X9_40 mk0 rfl rfl ?_
  refine z_getR (r' := (10, 0, 0)) dX9_shift_48 fl_X9_153 (m9 _ (Nat.le_of_ble_eq_true rfl)) rfl rfl ?_
  refine z_iload_n (i := 1) dX9_shift_51 rfl rfl ?_
  obtain ⟨q9, hq10, h⟩ := bnd h
  refine z_fVi (sX3_pinsOf q7 0 x1 (Nat.le_of_ble_eq_true rfl) hq10) dX9_shift_52 ml_X9_182 cd_X3_pinsOf (m10 _ (Nat.le_of_ble_eq_true rfl)) rfl rfl rfl rfl rfl rfl ?_
  cases h
  exact z_iret dX9_shift_55 rfl rfl (Nat.le_refl _) (Nat.le_refl _) ⟨rfl, rfl⟩
theorem dX9_transpose_0 : decode cX9_transpose 0 = .ok (.aload_n 0, 1) := by decide +kernel
theorem dX9_transpose_1 : decode cX9_transpose 1 = .ok (.getfield 40, 3) := by decide +kernel
theorem dX9_transpose_4 : decode cX9_transpose 4 = .ok (.iload_n 1, 1) := by decide +kernel
theorem dX9_transpose_5 : decode cX9_transpose 5 = .ok (.invokevirtual 179, 3) := by decide +kernel
theorem dX9_transpose_8 : decode cX9_transpose 8 = .ok (.invokestatic 172, 3) := by decide +kernel
theorem dX9_transpose_11 : decode cX9_transpose 11 = .ok (.iload_n 2, 1) := by decide +kernel
theorem dX9_transpose_12 : decode cX9_transpose 12 = .ok (.bipush (-11), 2) := by decide +kernel
theorem dX9_transpose_14 : decode cX9_transpose 14 = .ok (.bipush 11, 2) := by decide +kernel
theorem dX9_transpose_16 : decode cX9_transpose 16 = .ok (.invokestatic 296, 3) := by decide +kernel
theorem dX9_transpose_19 : decode cX9_transpose 19 = .ok (.invokestatic 172, 3) := by decide +kernel
theorem dX9_transpose_22 : decode cX9_transpose 22 = .ok (.aload_n 0, 1) := by decide +kernel
theorem dX9_transpose_23 : decode cX9_transpose 23 = .ok (.getfield 40, 3) := by decide +kernel
theorem dX9_transpose_26 : decode cX9_transpose 26 = .ok (.iload_n 1, 1) := by decide +kernel
theorem dX9_transpose_27 : decode cX9_transpose 27 = .ok (.iload_n 2, 1) := by decide +kernel
theorem dX9_transpose_28 : decode cX9_transpose 28 = .ok (.invokevirtual 316, 3) := by decide +kernel
theorem dX9_transpose_31 : decode cX9_transpose 31 = .ok (.invokestatic 172, 3) := by decide +kernel
theorem dX9_transpose_34 : decode cX9_transpose 34 = .ok (.aload_n 0, 1) := by decide +kernel
theorem dX9_transpose_35 : decode cX9_transpose 35 = .ok (.getfield 68, 3) := by decide +kernel
theorem dX9_transpose_38 : decode cX9_transpose 38 = .ok (.aload_n 0, 1) := by decide +kernel
theorem dX9_transpose_39 : decode cX9_transpose 39 = .ok (.getfield 40, 3) := by decide +kernel
theorem dX9_transpose_42 : decode cX9_transpose 42 = .ok (.invokevirtual 137, 3) := by decide +kernel
theorem dX9_transpose_45 : decode cX9_transpose 45 = .ok (.aload_n 0, 1) := by decide +kernel
theorem dX9_transpose_46 : decode cX9_transpose 46 = .ok (.getfield 40, 3) := by decide +kernel
theorem dX9_transpose_49 : decode cX9_transpose 49 = .ok (.getfield 153, 3) := by decide +kernel
theorem dX9_transpose_52 : decode cX9_transpose 52 = .ok (.iload_n 1, 1) := by decide +kernel
theorem dX9_transpose_53 : decode cX9_transpose 53 = .ok (.iload_n 2, 1) := by decide +kernel
theorem dX9_transpose_54 : decode cX9_transpose 54 = .ok (.invokevirtual 319, 3) := by decide +kernel
theorem dX9_transpose_57 : decode cX9_transpose 57 = .ok (.aload_n 0, 1) := by decide +kernel
theorem dX9_transpose_58 : decode cX9_transpose 58 = .ok (.getfield 40, 3) := by decide +kernel
theorem dX9_transpose_61 : decode cX9_transpose 61 = .ok (.getfield 153, 3) := by decide +kernel
theorem dX9_transpose_64 : decode cX9_transpose 64 = .ok (.iload_n 1, 1) := by decide +kernel
theorem dX9_transpose_65 : decode cX9_transpose 65 = .ok (.invokevirtual 182, 3) := by decide +kernel
theorem dX9_transpose_68 : decode cX9_transpose 68 = .ok (.ireturn, 1) := by decide +kernel
def fX9_transpose (M : Mm) (x1 : Int32) (x2 : Int32) : Option (Int32 × Mm) := (fX9_refuse M (fX0_tuneFault M 0 x1)).bind fun q1 => (fX9_refuse q1 (fX9_rangeFault q1 x2 (-11 : Int32) (11 : Int32))).bind fun q3 => (fX0_movePinsFault q3 0 x1 x2).bind fun q5 => (fX9_refuse q3 q5).bind fun q7 => (fX2_remember q7 0).bind fun q9 => (fX3_movePins q9 0 x1 x2).bind fun q11 => (fX3_pinsOf q11 0 x1).bind fun q13 => some (q13, q11)
set_option maxRecDepth 20000 in
set_option maxHeartbeats 2000000 in
theorem sX9_transpose {wv : Wv} (M : Mm) (x1 : Int32) (x2 : Int32) {res : (Int32 × Mm)} (h : fX9_transpose M x1 x2 = some res) : TF wv yX9_transpose cX9_transpose 3 (some .int) 4 [.inr (0, 0, 0), .inl (.int x1), .inl (.int x2)] M (some (.int res.1)) res.2 := by
  rw [fX9_transpose] at h
  refine TF.go (n := 0) (ls := [some (.inr (0, 0, 0)), some (.inl (.int x1)), some (.inl (.int x2))]) rfl rfl rfl rfl rfl ?_
  refine z_aload_n (i := 0) dX9_transpose_0 rfl rfl ?_
  refine z_getR (r' := (9, 0, 0)) dX9_transpose_1 fl_X9_40 mk0 rfl rfl ?_
  refine z_iload_n (i := 1) dX9_transpose_4 rfl rfl ?_
  refine z_fVi (sX0_tuneFault M 0 x1 (Nat.le_of_ble_eq_true rfl)) dX9_transpose_5 ml_X9_179 cd_X0_tuneFault (m9 _ (Nat.le_of_ble_eq_true rfl)) rfl rfl rfl rfl rfl rfl ?_
  obtain ⟨q1, hq2, h⟩ := bnd h
  refine z_fSv (sX9_refuse M (fX0_tuneFault M 0 x1) hq2) dX9_transpose_8 ml_X9_172 cd_X9_refuse rfl rfl rfl rfl rfl ?_
  refine z_iload_n (i := 2) dX9_transpose_11 rfl rfl ?_
  refine z_bipush (v := (-11 : Int32)) dX9_transpose_12 kb_m11 ?_
  refine z_bipush (v := (11 : Int32)) dX9_transpose_14 kb_11 ?_
  refine z_fSi (sX9_rangeFault q1 x2 (-11 : Int32) (11 : Int32)) dX9_transpose_16 ml_X9_296 cd_X9_rangeFault rfl rfl rfl rfl rfl ?_
  obtain ⟨q3, hq4, h⟩ := bnd h
  refine z_fSv (sX9_refuse q1 (fX9_rangeFault q1 x2 (-11 : Int32) (11 : Int32)) hq4) dX9_transpose_19 ml_X9_172 cd_X9_refuse rfl rfl rfl rfl rfl ?_
  refine z_aload_n (i := 0) dX9_transpose_22 rfl rfl ?_
  refine z_getR (r' := (9, 0, 0)) dX9_transpose_23 fl_X9_40 mk0 rfl rfl ?_
  refine z_iload_n (i := 1) dX9_transpose_26 rfl rfl ?_
  refine z_iload_n (i := 2) dX9_transpose_27 rfl rfl ?_
  obtain ⟨q5, hq6, h⟩ := bnd h
  refine z_fVi (sX0_movePinsFault q3 0 x1 x2 (Nat.le_of_ble_eq_true rfl) hq6) dX9_transpose_28 ml_X9_316 cd_X0_movePinsFault (m9 _ (Nat.le_of_ble_eq_true rfl)) rfl rfl rfl rfl rfl rfl ?_
  obtain ⟨q7, hq8, h⟩ := bnd h
  refine z_fSv (sX9_refuse q3 q5 hq8) dX9_transpose_31 ml_X9_172 cd_X9_refuse rfl rfl rfl rfl rfl ?_
  refine z_aload_n (i := 0) dX9_transpose_34 rfl rfl ?_
  refine z_getR (r' := (14, 0, 0)) dX9_transpose_35 fl_X9_68 mk0 rfl rfl ?_
  refine z_aload_n (i := 0) dX9_transpose_38 rfl rfl ?_
  refine z_getR (r' := (9, 0, 0)) dX9_transpose_39 fl_X9_40 mk0 rfl rfl ?_
  obtain ⟨q9, hq10, h⟩ := bnd h
  refine z_fVv (sX2_remember q7 0 (Nat.le_of_ble_eq_true rfl) hq10) dX9_transpose_42 ml_X9_137 cd_X2_remember mk14 rfl rfl rfl rfl rfl rfl ?_
  refine z_aload_n (i := 0) dX9_transpose_45 rfl rfl ?_
  refine z_getR (r' := (9, 0, 0)) dX9_transpose_46 fl_X9_40 mk0 rfl rfl ?_
  refine z_getR (r' := (10, 0, 0)) dX9_transpose_49 fl_X9_153 (m9 _ (Nat.le_of_ble_eq_true rfl)) rfl rfl ?_
  refine z_iload_n (i := 1) dX9_transpose_52 rfl rfl ?_
  refine z_iload_n (i := 2) dX9_transpose_53 rfl rfl ?_
  obtain ⟨q11, hq12, h⟩ := bnd h
  refine z_fVv (sX3_movePins q9 0 x1 x2 (Nat.le_of_ble_eq_true rfl) hq12) dX9_transpose_54 ml_X9_319 cd_X3_movePins (m10 _ (Nat.le_of_ble_eq_true rfl)) rfl rfl rfl rfl rfl rfl ?_
  refine z_aload_n (i := 0) dX9_transpose_57 rfl rfl ?_
  refine z_getR (r' := (9, 0, 0)) dX9_transpose_58 fl_X9_40 mk0 rfl rfl ?_
  refine z_getR (r' := (10, 0, 0)) dX9_transpose_61 fl_X9_153 (m9 _ (Nat.le_of_ble_eq_true rfl)) rfl rfl ?_
  refine z_iload_n (i := 1) dX9_transpose_64 rfl rfl ?_
  obtain ⟨q13, hq14, h⟩ := bnd h
  refine z_fVi (sX3_pinsOf q11 0 x1 (Nat.le_of_ble_eq_true rfl) hq14) dX9_transpose_65 ml_X9_182 cd_X3_pinsOf (m10 _ (Nat.le_of_ble_eq_true rfl)) rfl rfl rfl rfl rfl rfl ?_
  cases h
  exact z_iret dX9_transpose_68 rfl rfl (Nat.le_refl _) (Nat.le_refl _) ⟨rfl, rfl⟩
theorem dX9_copyTune_0 : decode cX9_copyTune 0 = .ok (.aload_n 0, 1) := by decide +kernel
theorem dX9_copyTune_1 : decode cX9_copyTune 1 = .ok (.getfield 40, 3) := by decide +kernel
theorem dX9_copyTune_4 : decode cX9_copyTune 4 = .ok (.iload_n 1, 1) := by decide +kernel
theorem dX9_copyTune_5 : decode cX9_copyTune 5 = .ok (.invokevirtual 179, 3) := by decide +kernel
theorem dX9_copyTune_8 : decode cX9_copyTune 8 = .ok (.aload_n 0, 1) := by decide +kernel
theorem dX9_copyTune_9 : decode cX9_copyTune 9 = .ok (.getfield 40, 3) := by decide +kernel
theorem dX9_copyTune_12 : decode cX9_copyTune 12 = .ok (.iload_n 2, 1) := by decide +kernel
theorem dX9_copyTune_13 : decode cX9_copyTune 13 = .ok (.invokevirtual 179, 3) := by decide +kernel
theorem dX9_copyTune_16 : decode cX9_copyTune 16 = .ok (.invokestatic 188, 3) := by decide +kernel
theorem dX9_copyTune_19 : decode cX9_copyTune 19 = .ok (.invokestatic 172, 3) := by decide +kernel
theorem dX9_copyTune_22 : decode cX9_copyTune 22 = .ok (.iload_n 1, 1) := by decide +kernel
theorem dX9_copyTune_23 : decode cX9_copyTune 23 = .ok (.iload_n 2, 1) := by decide +kernel
theorem dX9_copyTune_24 : decode cX9_copyTune 24 = .ok (.if_icmp .ne 7, 3) := by decide +kernel
theorem dX9_copyTune_27 : decode cX9_copyTune 27 = .ok (.iconst 2, 1) := by decide +kernel
theorem dX9_copyTune_28 : decode cX9_copyTune 28 = .ok (.goto 4, 3) := by decide +kernel
theorem dX9_copyTune_31 : decode cX9_copyTune 31 = .ok (.iconst 0, 1) := by decide +kernel
theorem dX9_copyTune_32 : decode cX9_copyTune 32 = .ok (.invokestatic 172, 3) := by decide +kernel
theorem dX9_copyTune_35 : decode cX9_copyTune 35 = .ok (.aload_n 0, 1) := by decide +kernel
theorem dX9_copyTune_36 : decode cX9_copyTune 36 = .ok (.getfield 68, 3) := by decide +kernel
theorem dX9_copyTune_39 : decode cX9_copyTune 39 = .ok (.aload_n 0, 1) := by decide +kernel
theorem dX9_copyTune_40 : decode cX9_copyTune 40 = .ok (.getfield 40, 3) := by decide +kernel
theorem dX9_copyTune_43 : decode cX9_copyTune 43 = .ok (.invokevirtual 137, 3) := by decide +kernel
theorem dX9_copyTune_46 : decode cX9_copyTune 46 = .ok (.aload_n 0, 1) := by decide +kernel
theorem dX9_copyTune_47 : decode cX9_copyTune 47 = .ok (.getfield 40, 3) := by decide +kernel
theorem dX9_copyTune_50 : decode cX9_copyTune 50 = .ok (.getfield 153, 3) := by decide +kernel
theorem dX9_copyTune_53 : decode cX9_copyTune 53 = .ok (.iload_n 1, 1) := by decide +kernel
theorem dX9_copyTune_54 : decode cX9_copyTune 54 = .ok (.iload_n 2, 1) := by decide +kernel
theorem dX9_copyTune_55 : decode cX9_copyTune 55 = .ok (.invokevirtual 322, 3) := by decide +kernel
theorem dX9_copyTune_58 : decode cX9_copyTune 58 = .ok (.aload_n 0, 1) := by decide +kernel
theorem dX9_copyTune_59 : decode cX9_copyTune 59 = .ok (.getfield 40, 3) := by decide +kernel
theorem dX9_copyTune_62 : decode cX9_copyTune 62 = .ok (.getfield 153, 3) := by decide +kernel
theorem dX9_copyTune_65 : decode cX9_copyTune 65 = .ok (.iload_n 2, 1) := by decide +kernel
theorem dX9_copyTune_66 : decode cX9_copyTune 66 = .ok (.invokevirtual 182, 3) := by decide +kernel
theorem dX9_copyTune_69 : decode cX9_copyTune 69 = .ok (.ireturn, 1) := by decide +kernel
def fX9_copyTune (M : Mm) (x1 : Int32) (x2 : Int32) : Option (Int32 × Mm) := (fX9_refuse M (fJ9_max_7cf53 M (fX0_tuneFault M 0 x1) (fX0_tuneFault M 0 x2))).bind fun q1 => if x1 = x2 then ((fX9_refuse q1 (2 : Int32)).bind fun q12 => (fX2_remember q12 0).bind fun q14 => (fX3_copyPins q14 0 x1 x2).bind fun q16 => (fX3_pinsOf q16 0 x2).bind fun q18 => some (q18, q16)) else (fX9_refuse q1 (0 : Int32)).bind fun q4 => (fX2_remember q4 0).bind fun q6 => (fX3_copyPins q6 0 x1 x2).bind fun q8 => (fX3_pinsOf q8 0 x2).bind fun q10 => some (q10, q8)
set_option maxRecDepth 20000 in
set_option maxHeartbeats 2000000 in
theorem sX9_copyTune {wv : Wv} (M : Mm) (x1 : Int32) (x2 : Int32) {res : (Int32 × Mm)} (h : fX9_copyTune M x1 x2 = some res) : TF wv yX9_copyTune cX9_copyTune 3 (some .int) 4 [.inr (0, 0, 0), .inl (.int x1), .inl (.int x2)] M (some (.int res.1)) res.2 := by
  rw [fX9_copyTune] at h
  refine TF.go (n := 0) (ls := [some (.inr (0, 0, 0)), some (.inl (.int x1)), some (.inl (.int x2))]) rfl rfl rfl rfl rfl ?_
  refine z_aload_n (i := 0) dX9_copyTune_0 rfl rfl ?_
  refine z_getR (r' := (9, 0, 0)) dX9_copyTune_1 fl_X9_40 mk0 rfl rfl ?_
  refine z_iload_n (i := 1) dX9_copyTune_4 rfl rfl ?_
  refine z_fVi (sX0_tuneFault M 0 x1 (Nat.le_of_ble_eq_true rfl)) dX9_copyTune_5 ml_X9_179 cd_X0_tuneFault (m9 _ (Nat.le_of_ble_eq_true rfl)) rfl rfl rfl rfl rfl rfl ?_
  refine z_aload_n (i := 0) dX9_copyTune_8 rfl rfl ?_
  refine z_getR (r' := (9, 0, 0)) dX9_copyTune_9 fl_X9_40 mk0 rfl rfl ?_
  refine z_iload_n (i := 2) dX9_copyTune_12 rfl rfl ?_
  refine z_fVi (sX0_tuneFault M 0 x2 (Nat.le_of_ble_eq_true rfl)) dX9_copyTune_13 ml_X9_179 cd_X0_tuneFault (m9 _ (Nat.le_of_ble_eq_true rfl)) rfl rfl rfl rfl rfl rfl ?_
  refine z_fSi (sJ9_max_7cf53 M (fX0_tuneFault M 0 x1) (fX0_tuneFault M 0 x2)) dX9_copyTune_16 ml_X9_188 cd_J9_max_7cf53 rfl rfl rfl rfl rfl ?_
  obtain ⟨q1, hq2, h⟩ := bnd h
  refine z_fSv (sX9_refuse M (fJ9_max_7cf53 M (fX0_tuneFault M 0 x1) (fX0_tuneFault M 0 x2)) hq2) dX9_copyTune_19 ml_X9_172 cd_X9_refuse rfl rfl rfl rfl rfl ?_
  refine z_iload_n (i := 1) dX9_copyTune_22 rfl rfl ?_
  refine z_iload_n (i := 2) dX9_copyTune_23 rfl rfl ?_
  refine z_icmp_ne (tgt := 31) dX9_copyTune_24 rfl (fun hc3 => ?_) (fun hc3 => ?_)
  · have h := it_f h hc3
    refine z_iconst (v := (0 : Int32)) dX9_copyTune_31 kc_0 ?_
    obtain ⟨q4, hq5, h⟩ := bnd h
    refine z_fSv (sX9_refuse q1 (0 : Int32) hq5) dX9_copyTune_32 ml_X9_172 cd_X9_refuse rfl rfl rfl rfl rfl ?_
    refine z_aload_n (i := 0) dX9_copyTune_35 rfl rfl ?_
    refine z_getR (r' := (14, 0, 0)) dX9_copyTune_36 fl_X9_68 mk0 rfl rfl ?_
    refine z_aload_n (i := 0) dX9_copyTune_39 rfl rfl ?_
    refine z_getR (r' := (9, 0, 0)) dX9_copyTune_40 fl_X9_40 mk0 rfl rfl ?_
    obtain ⟨q6, hq7, h⟩ := bnd h
    refine z_fVv (sX2_remember q4 0 (Nat.le_of_ble_eq_true rfl) hq7) dX9_copyTune_43 ml_X9_137 cd_X2_remember mk14 rfl rfl rfl rfl rfl rfl ?_
    refine z_aload_n (i := 0) dX9_copyTune_46 rfl rfl ?_
    refine z_getR (r' := (9, 0, 0)) dX9_copyTune_47 fl_X9_40 mk0 rfl rfl ?_
    refine z_getR (r' := (10, 0, 0)) dX9_copyTune_50 fl_X9_153 (m9 _ (Nat.le_of_ble_eq_true rfl)) rfl rfl ?_
    refine z_iload_n (i := 1) dX9_copyTune_53 rfl rfl ?_
    refine z_iload_n (i := 2) dX9_copyTune_54 rfl rfl ?_
    obtain ⟨q8, hq9, h⟩ := bnd h
    refine z_fVv (sX3_copyPins q6 0 x1 x2 (Nat.le_of_ble_eq_true rfl) hq9) dX9_copyTune_55 ml_X9_322 cd_X3_copyPins (m10 _ (Nat.le_of_ble_eq_true rfl)) rfl rfl rfl rfl rfl rfl ?_
    refine z_aload_n (i := 0) dX9_copyTune_58 rfl rfl ?_
    refine z_getR (r' := (9, 0, 0)) dX9_copyTune_59 fl_X9_40 mk0 rfl rfl ?_
    refine z_getR (r' := (10, 0, 0)) dX9_copyTune_62 fl_X9_153 (m9 _ (Nat.le_of_ble_eq_true rfl)) rfl rfl ?_
    refine z_iload_n (i := 2) dX9_copyTune_65 rfl rfl ?_
    obtain ⟨q10, hq11, h⟩ := bnd h
    refine z_fVi (sX3_pinsOf q8 0 x2 (Nat.le_of_ble_eq_true rfl) hq11) dX9_copyTune_66 ml_X9_182 cd_X3_pinsOf (m10 _ (Nat.le_of_ble_eq_true rfl)) rfl rfl rfl rfl rfl rfl ?_
    cases h
    exact z_iret dX9_copyTune_69 rfl rfl (Nat.le_refl _) (Nat.le_refl _) ⟨rfl, rfl⟩
  · have h := it_t h hc3
    refine z_iconst (v := (2 : Int32)) dX9_copyTune_27 kc_2 ?_
    refine z_goto (tgt := 32) dX9_copyTune_28 rfl ?_
    obtain ⟨q12, hq13, h⟩ := bnd h
    refine z_fSv (sX9_refuse q1 (2 : Int32) hq13) dX9_copyTune_32 ml_X9_172 cd_X9_refuse rfl rfl rfl rfl rfl ?_
    refine z_aload_n (i := 0) dX9_copyTune_35 rfl rfl ?_
    refine z_getR (r' := (14, 0, 0)) dX9_copyTune_36 fl_X9_68 mk0 rfl rfl ?_
    refine z_aload_n (i := 0) dX9_copyTune_39 rfl rfl ?_
    refine z_getR (r' := (9, 0, 0)) dX9_copyTune_40 fl_X9_40 mk0 rfl rfl ?_
    obtain ⟨q14, hq15, h⟩ := bnd h
    refine z_fVv (sX2_remember q12 0 (Nat.le_of_ble_eq_true rfl) hq15) dX9_copyTune_43 ml_X9_137 cd_X2_remember mk14 rfl rfl rfl rfl rfl rfl ?_
    refine z_aload_n (i := 0) dX9_copyTune_46 rfl rfl ?_
    refine z_getR (r' := (9, 0, 0)) dX9_copyTune_47 fl_X9_40 mk0 rfl rfl ?_
    refine z_getR (r' := (10, 0, 0)) dX9_copyTune_50 fl_X9_153 (m9 _ (Nat.le_of_ble_eq_true rfl)) rfl rfl ?_
    refine z_iload_n (i := 1) dX9_copyTune_53 rfl rfl ?_
    refine z_iload_n (i := 2) dX9_copyTune_54 rfl rfl ?_
    obtain ⟨q16, hq17, h⟩ := bnd h
    refine z_fVv (sX3_copyPins q14 0 x1 x2 (Nat.le_of_ble_eq_true rfl) hq17) dX9_copyTune_55 ml_X9_322 cd_X3_copyPins (m10 _ (Nat.le_of_ble_eq_true rfl)) rfl rfl rfl rfl rfl rfl ?_
    refine z_aload_n (i := 0) dX9_copyTune_58 rfl rfl ?_
    refine z_getR (r' := (9, 0, 0)) dX9_copyTune_59 fl_X9_40 mk0 rfl rfl ?_
    refine z_getR (r' := (10, 0, 0)) dX9_copyTune_62 fl_X9_153 (m9 _ (Nat.le_of_ble_eq_true rfl)) rfl rfl ?_
    refine z_iload_n (i := 2) dX9_copyTune_65 rfl rfl ?_
    obtain ⟨q18, hq19, h⟩ := bnd h
    refine z_fVi (sX3_pinsOf q16 0 x2 (Nat.le_of_ble_eq_true rfl) hq19) dX9_copyTune_66 ml_X9_182 cd_X3_pinsOf (m10 _ (Nat.le_of_ble_eq_true rfl)) rfl rfl rfl rfl rfl rfl ?_
    cases h
    exact z_iret dX9_copyTune_69 rfl rfl (Nat.le_refl _) (Nat.le_refl _) ⟨rfl, rfl⟩
theorem dX9_selectTune_0 : decode cX9_selectTune 0 = .ok (.aload_n 0, 1) := by decide +kernel
theorem dX9_selectTune_1 : decode cX9_selectTune 1 = .ok (.getfield 40, 3) := by decide +kernel
theorem dX9_selectTune_4 : decode cX9_selectTune 4 = .ok (.iload_n 1, 1) := by decide +kernel
theorem dX9_selectTune_5 : decode cX9_selectTune 5 = .ok (.invokevirtual 179, 3) := by decide +kernel
theorem dX9_selectTune_8 : decode cX9_selectTune 8 = .ok (.invokestatic 172, 3) := by decide +kernel
theorem dX9_selectTune_11 : decode cX9_selectTune 11 = .ok (.aload_n 0, 1) := by decide +kernel
theorem dX9_selectTune_12 : decode cX9_selectTune 12 = .ok (.getfield 68, 3) := by decide +kernel
theorem dX9_selectTune_15 : decode cX9_selectTune 15 = .ok (.aload_n 0, 1) := by decide +kernel
theorem dX9_selectTune_16 : decode cX9_selectTune 16 = .ok (.getfield 40, 3) := by decide +kernel
theorem dX9_selectTune_19 : decode cX9_selectTune 19 = .ok (.invokevirtual 137, 3) := by decide +kernel
theorem dX9_selectTune_22 : decode cX9_selectTune 22 = .ok (.aload_n 0, 1) := by decide +kernel
theorem dX9_selectTune_23 : decode cX9_selectTune 23 = .ok (.getfield 40, 3) := by decide +kernel
theorem dX9_selectTune_26 : decode cX9_selectTune 26 = .ok (.getfield 153, 3) := by decide +kernel
theorem dX9_selectTune_29 : decode cX9_selectTune 29 = .ok (.getfield 162, 3) := by decide +kernel
theorem dX9_selectTune_32 : decode cX9_selectTune 32 = .ok (.istore_n 2, 1) := by decide +kernel
theorem dX9_selectTune_33 : decode cX9_selectTune 33 = .ok (.aload_n 0, 1) := by decide +kernel
theorem dX9_selectTune_34 : decode cX9_selectTune 34 = .ok (.getfield 40, 3) := by decide +kernel
theorem dX9_selectTune_37 : decode cX9_selectTune 37 = .ok (.getfield 153, 3) := by decide +kernel
theorem dX9_selectTune_40 : decode cX9_selectTune 40 = .ok (.iload_n 1, 1) := by decide +kernel
theorem dX9_selectTune_41 : decode cX9_selectTune 41 = .ok (.putfield 162, 3) := by decide +kernel
theorem dX9_selectTune_44 : decode cX9_selectTune 44 = .ok (.iload_n 2, 1) := by decide +kernel
theorem dX9_selectTune_45 : decode cX9_selectTune 45 = .ok (.ireturn, 1) := by decide +kernel
def fX9_selectTune (M : Mm) (x1 : Int32) : Option (Int32 × Mm) := (fX9_refuse M (fX0_tuneFault M 0 x1)).bind fun q1 => (fX2_remember q1 0).bind fun q3 => some ((q3.1 (10, 0, 0) 3), (putI q3 (10, 0, 0) 3 x1))
set_option maxRecDepth 20000 in
set_option maxHeartbeats 2000000 in
theorem sX9_selectTune {wv : Wv} (M : Mm) (x1 : Int32) {res : (Int32 × Mm)} (h : fX9_selectTune M x1 = some res) : TF wv yX9_selectTune cX9_selectTune 3 (some .int) 4 [.inr (0, 0, 0), .inl (.int x1)] M (some (.int res.1)) res.2 := by
  rw [fX9_selectTune] at h
  refine TF.go (n := 1) (ls := [some (.inr (0, 0, 0)), some (.inl (.int x1)), none]) rfl rfl rfl rfl rfl ?_
  refine z_aload_n (i := 0) dX9_selectTune_0 rfl rfl ?_
  refine z_getR (r' := (9, 0, 0)) dX9_selectTune_1 fl_X9_40 mk0 rfl rfl ?_
  refine z_iload_n (i := 1) dX9_selectTune_4 rfl rfl ?_
  refine z_fVi (sX0_tuneFault M 0 x1 (Nat.le_of_ble_eq_true rfl)) dX9_selectTune_5 ml_X9_179 cd_X0_tuneFault (m9 _ (Nat.le_of_ble_eq_true rfl)) rfl rfl rfl rfl rfl rfl ?_
  obtain ⟨q1, hq2, h⟩ := bnd h
  refine z_fSv (sX9_refuse M (fX0_tuneFault M 0 x1) hq2) dX9_selectTune_8 ml_X9_172 cd_X9_refuse rfl rfl rfl rfl rfl ?_
  refine z_aload_n (i := 0) dX9_selectTune_11 rfl rfl ?_
  refine z_getR (r' := (14, 0, 0)) dX9_selectTune_12 fl_X9_68 mk0 rfl rfl ?_
  refine z_aload_n (i := 0) dX9_selectTune_15 rfl rfl ?_
  refine z_getR (r' := (9, 0, 0)) dX9_selectTune_16 fl_X9_40 mk0 rfl rfl ?_
  obtain ⟨q3, hq4, h⟩ := bnd h
  refine z_fVv (sX2_remember q1 0 (Nat.le_of_ble_eq_true rfl) hq4) dX9_selectTune_19 ml_X9_137 cd_X2_remember mk14 rfl rfl rfl rfl rfl rfl ?_
  refine z_aload_n (i := 0) dX9_selectTune_22 rfl rfl ?_
  refine z_getR (r' := (9, 0, 0)) dX9_selectTune_23 fl_X9_40 mk0 rfl rfl ?_
  refine z_getR (r' := (10, 0, 0)) dX9_selectTune_26 fl_X9_153 (m9 _ (Nat.le_of_ble_eq_true rfl)) rfl rfl ?_
  refine z_getI (x := (q3.1 (10, 0, 0) 3)) dX9_selectTune_29 fl_X9_162 (m10 _ (Nat.le_of_ble_eq_true rfl)) rfl rfl ?_
  refine z_istore_n (i := 2) dX9_selectTune_32 rfl (Nat.le_of_ble_eq_true rfl) rfl ?_
  refine z_aload_n (i := 0) dX9_selectTune_33 rfl rfl ?_
  refine z_getR (r' := (9, 0, 0)) dX9_selectTune_34 fl_X9_40 mk0 rfl rfl ?_
  refine z_getR (r' := (10, 0, 0)) dX9_selectTune_37 fl_X9_153 (m9 _ (Nat.le_of_ble_eq_true rfl)) rfl rfl ?_
  refine z_iload_n (i := 1) dX9_selectTune_40 rfl rfl ?_
  refine z_putI allR_nd dX9_selectTune_41 fl_X9_162 (m10 _ (Nat.le_of_ble_eq_true rfl)) rfl rfl ?_
  refine z_iload_n (i := 2) dX9_selectTune_44 rfl rfl ?_
  cases h
  exact z_iret dX9_selectTune_45 rfl rfl (Nat.le_refl _) (Nat.le_refl _) ⟨rfl, rfl⟩
theorem dX9_setGap_0 : decode cX9_setGap 0 = .ok (.aload_n 0, 1) := by decide +kernel
theorem dX9_setGap_1 : decode cX9_setGap 1 = .ok (.getfield 40, 3) := by decide +kernel
theorem dX9_setGap_4 : decode cX9_setGap 4 = .ok (.iload_n 1, 1) := by decide +kernel
theorem dX9_setGap_5 : decode cX9_setGap 5 = .ok (.iload_n 2, 1) := by decide +kernel
theorem dX9_setGap_6 : decode cX9_setGap 6 = .ok (.invokevirtual 325, 3) := by decide +kernel
theorem dX9_setGap_9 : decode cX9_setGap 9 = .ok (.invokestatic 172, 3) := by decide +kernel
theorem dX9_setGap_12 : decode cX9_setGap 12 = .ok (.aload_n 0, 1) := by decide +kernel
theorem dX9_setGap_13 : decode cX9_setGap 13 = .ok (.getfield 68, 3) := by decide +kernel
theorem dX9_setGap_16 : decode cX9_setGap 16 = .ok (.aload_n 0, 1) := by decide +kernel
theorem dX9_setGap_17 : decode cX9_setGap 17 = .ok (.getfield 40, 3) := by decide +kernel
theorem dX9_setGap_20 : decode cX9_setGap 20 = .ok (.invokevirtual 137, 3) := by decide +kernel
theorem dX9_setGap_23 : decode cX9_setGap 23 = .ok (.aload_n 0, 1) := by decide +kernel
theorem dX9_setGap_24 : decode cX9_setGap 24 = .ok (.getfield 40, 3) := by decide +kernel
theorem dX9_setGap_27 : decode cX9_setGap 27 = .ok (.getfield 217, 3) := by decide +kernel
theorem dX9_setGap_30 : decode cX9_setGap 30 = .ok (.iload_n 1, 1) := by decide +kernel
theorem dX9_setGap_31 : decode cX9_setGap 31 = .ok (.aaload, 1) := by decide +kernel
theorem dX9_setGap_32 : decode cX9_setGap 32 = .ok (.getfield 229, 3) := by decide +kernel
theorem dX9_setGap_35 : decode cX9_setGap 35 = .ok (.istore_n 3, 1) := by decide +kernel
theorem dX9_setGap_36 : decode cX9_setGap 36 = .ok (.aload_n 0, 1) := by decide +kernel
theorem dX9_setGap_37 : decode cX9_setGap 37 = .ok (.getfield 40, 3) := by decide +kernel
theorem dX9_setGap_40 : decode cX9_setGap 40 = .ok (.getfield 217, 3) := by decide +kernel
theorem dX9_setGap_43 : decode cX9_setGap 43 = .ok (.iload_n 1, 1) := by decide +kernel
theorem dX9_setGap_44 : decode cX9_setGap 44 = .ok (.aaload, 1) := by decide +kernel
theorem dX9_setGap_45 : decode cX9_setGap 45 = .ok (.iload_n 2, 1) := by decide +kernel
theorem dX9_setGap_46 : decode cX9_setGap 46 = .ok (.putfield 229, 3) := by decide +kernel
theorem dX9_setGap_49 : decode cX9_setGap 49 = .ok (.iload_n 3, 1) := by decide +kernel
theorem dX9_setGap_50 : decode cX9_setGap 50 = .ok (.ireturn, 1) := by decide +kernel
def fX9_setGap (M : Mm) (x1 : Int32) (x2 : Int32) : Option (Int32 × Mm) := (fX9_refuse M (fX0_gapFault M 0 x1 x2)).bind fun q1 => (fX2_remember q1 0).bind fun q3 => if x1 < 0 ∨ 12 ≤ x1.toNatClampNeg then none else if x1 < 0 ∨ 12 ≤ x1.toNatClampNeg then none else some ((q3.1 (13, 0, x1.toNatClampNeg) 2), (putI q3 (13, 0, x1.toNatClampNeg) 2 x2))
set_option maxRecDepth 20000 in
set_option maxHeartbeats 2000000 in
theorem sX9_setGap {wv : Wv} (M : Mm) (x1 : Int32) (x2 : Int32) {res : (Int32 × Mm)} (h : fX9_setGap M x1 x2 = some res) : TF wv yX9_setGap cX9_setGap 4 (some .int) 4 [.inr (0, 0, 0), .inl (.int x1), .inl (.int x2)] M (some (.int res.1)) res.2 := by
  rw [fX9_setGap] at h
  refine TF.go (n := 1) (ls := [some (.inr (0, 0, 0)), some (.inl (.int x1)), some (.inl (.int x2)), none]) rfl rfl rfl rfl rfl ?_
  refine z_aload_n (i := 0) dX9_setGap_0 rfl rfl ?_
  refine z_getR (r' := (9, 0, 0)) dX9_setGap_1 fl_X9_40 mk0 rfl rfl ?_
  refine z_iload_n (i := 1) dX9_setGap_4 rfl rfl ?_
  refine z_iload_n (i := 2) dX9_setGap_5 rfl rfl ?_
  refine z_fVi (sX0_gapFault M 0 x1 x2 (Nat.le_of_ble_eq_true rfl)) dX9_setGap_6 ml_X9_325 cd_X0_gapFault (m9 _ (Nat.le_of_ble_eq_true rfl)) rfl rfl rfl rfl rfl rfl ?_
  obtain ⟨q1, hq2, h⟩ := bnd h
  refine z_fSv (sX9_refuse M (fX0_gapFault M 0 x1 x2) hq2) dX9_setGap_9 ml_X9_172 cd_X9_refuse rfl rfl rfl rfl rfl ?_
  refine z_aload_n (i := 0) dX9_setGap_12 rfl rfl ?_
  refine z_getR (r' := (14, 0, 0)) dX9_setGap_13 fl_X9_68 mk0 rfl rfl ?_
  refine z_aload_n (i := 0) dX9_setGap_16 rfl rfl ?_
  refine z_getR (r' := (9, 0, 0)) dX9_setGap_17 fl_X9_40 mk0 rfl rfl ?_
  obtain ⟨q3, hq4, h⟩ := bnd h
  refine z_fVv (sX2_remember q1 0 (Nat.le_of_ble_eq_true rfl) hq4) dX9_setGap_20 ml_X9_137 cd_X2_remember mk14 rfl rfl rfl rfl rfl rfl ?_
  refine z_aload_n (i := 0) dX9_setGap_23 rfl rfl ?_
  refine z_getR (r' := (9, 0, 0)) dX9_setGap_24 fl_X9_40 mk0 rfl rfl ?_
  refine z_getR (r' := (12, 0, 0)) dX9_setGap_27 fl_X9_217 (m9 _ (Nat.le_of_ble_eq_true rfl)) rfl rfl ?_
  refine z_iload_n (i := 1) dX9_setGap_30 rfl rfl ?_
  obtain ⟨hc5, h⟩ := chk h
  refine z_aald (t := 0) (r' := (13, 0, x1.toNatClampNeg)) dX9_setGap_31 (m12 _ (Nat.le_of_ble_eq_true rfl)) rfl (Nat.le_of_ble_eq_true rfl) hc5 rfl ?_
  refine z_getI (x := (q3.1 (13, 0, x1.toNatClampNeg) 2)) dX9_setGap_32 fl_X9_229 (m13 _ (Nat.le_of_ble_eq_true rfl) _ (ltN hc5)) rfl rfl ?_
  refine z_istore_n (i := 3) dX9_setGap_35 rfl (Nat.le_of_ble_eq_true rfl) rfl ?_
  refine z_aload_n (i := 0) dX9_setGap_36 rfl rfl ?_
  refine z_getR (r' := (9, 0, 0)) dX9_setGap_37 fl_X9_40 mk0 rfl rfl ?_
  refine z_getR (r' := (12, 0, 0)) dX9_setGap_40 fl_X9_217 (m9 _ (Nat.le_of_ble_eq_true rfl)) rfl rfl ?_
  refine z_iload_n (i := 1) dX9_setGap_43 rfl rfl ?_
  obtain ⟨hc6, h⟩ := chk h
  refine z_aald (t := 0) (r' := (13, 0, x1.toNatClampNeg)) dX9_setGap_44 (m12 _ (Nat.le_of_ble_eq_true rfl)) rfl (Nat.le_of_ble_eq_true rfl) hc6 rfl ?_
  refine z_iload_n (i := 2) dX9_setGap_45 rfl rfl ?_
  refine z_putI allR_nd dX9_setGap_46 fl_X9_229 (m13 _ (Nat.le_of_ble_eq_true rfl) _ (ltN hc6)) rfl rfl ?_
  refine z_iload_n (i := 3) dX9_setGap_49 rfl rfl ?_
  cases h
  exact z_iret dX9_setGap_50 rfl rfl (Nat.le_refl _) (Nat.le_refl _) ⟨rfl, rfl⟩
theorem dX9_bend_0 : decode cX9_bend 0 = .ok (.aload_n 0, 1) := by decide +kernel
theorem dX9_bend_1 : decode cX9_bend 1 = .ok (.getfield 40, 3) := by decide +kernel
theorem dX9_bend_4 : decode cX9_bend 4 = .ok (.iload_n 1, 1) := by decide +kernel
theorem dX9_bend_5 : decode cX9_bend 5 = .ok (.iload_n 2, 1) := by decide +kernel
theorem dX9_bend_6 : decode cX9_bend 6 = .ok (.invokevirtual 328, 3) := by decide +kernel
theorem dX9_bend_9 : decode cX9_bend 9 = .ok (.invokestatic 172, 3) := by decide +kernel
theorem dX9_bend_12 : decode cX9_bend 12 = .ok (.aload_n 0, 1) := by decide +kernel
theorem dX9_bend_13 : decode cX9_bend 13 = .ok (.getfield 68, 3) := by decide +kernel
theorem dX9_bend_16 : decode cX9_bend 16 = .ok (.aload_n 0, 1) := by decide +kernel
theorem dX9_bend_17 : decode cX9_bend 17 = .ok (.getfield 40, 3) := by decide +kernel
theorem dX9_bend_20 : decode cX9_bend 20 = .ok (.invokevirtual 137, 3) := by decide +kernel
theorem dX9_bend_23 : decode cX9_bend 23 = .ok (.aload_n 0, 1) := by decide +kernel
theorem dX9_bend_24 : decode cX9_bend 24 = .ok (.getfield 40, 3) := by decide +kernel
theorem dX9_bend_27 : decode cX9_bend 27 = .ok (.iload_n 1, 1) := by decide +kernel
theorem dX9_bend_28 : decode cX9_bend 28 = .ok (.iload_n 2, 1) := by decide +kernel
theorem dX9_bend_29 : decode cX9_bend 29 = .ok (.invokevirtual 331, 3) := by decide +kernel
theorem dX9_bend_32 : decode cX9_bend 32 = .ok (.aload_n 0, 1) := by decide +kernel
theorem dX9_bend_33 : decode cX9_bend 33 = .ok (.getfield 40, 3) := by decide +kernel
theorem dX9_bend_36 : decode cX9_bend 36 = .ok (.getfield 217, 3) := by decide +kernel
theorem dX9_bend_39 : decode cX9_bend 39 = .ok (.iload_n 1, 1) := by decide +kernel
theorem dX9_bend_40 : decode cX9_bend 40 = .ok (.aaload, 1) := by decide +kernel
theorem dX9_bend_41 : decode cX9_bend 41 = .ok (.getfield 226, 3) := by decide +kernel
theorem dX9_bend_44 : decode cX9_bend 44 = .ok (.ireturn, 1) := by decide +kernel
def fX9_bend (M : Mm) (x1 : Int32) (x2 : Int32) : Option (Int32 × Mm) := (fX0_bendFault M 0 x1 x2).bind fun q1 => (fX9_refuse M q1).bind fun q3 => (fX2_remember q3 0).bind fun q5 => (fX0_bendTooth q5 0 x1 x2).bind fun q7 => if x1 < 0 ∨ 12 ≤ x1.toNatClampNeg then none else some ((q7.1 (13, 0, x1.toNatClampNeg) 1), q7)
set_option maxRecDepth 20000 in
set_option maxHeartbeats 2000000 in
theorem sX9_bend {wv : Wv} (M : Mm) (x1 : Int32) (x2 : Int32) {res : (Int32 × Mm)} (h : fX9_bend M x1 x2 = some res) : TF wv yX9_bend cX9_bend 3 (some .int) 4 [.inr (0, 0, 0), .inl (.int x1), .inl (.int x2)] M (some (.int res.1)) res.2 := by
  rw [fX9_bend] at h
  refine TF.go (n := 0) (ls := [some (.inr (0, 0, 0)), some (.inl (.int x1)), some (.inl (.int x2))]) rfl rfl rfl rfl rfl ?_
  refine z_aload_n (i := 0) dX9_bend_0 rfl rfl ?_
  refine z_getR (r' := (9, 0, 0)) dX9_bend_1 fl_X9_40 mk0 rfl rfl ?_
  refine z_iload_n (i := 1) dX9_bend_4 rfl rfl ?_
  refine z_iload_n (i := 2) dX9_bend_5 rfl rfl ?_
  obtain ⟨q1, hq2, h⟩ := bnd h
  refine z_fVi (sX0_bendFault M 0 x1 x2 (Nat.le_of_ble_eq_true rfl) hq2) dX9_bend_6 ml_X9_328 cd_X0_bendFault (m9 _ (Nat.le_of_ble_eq_true rfl)) rfl rfl rfl rfl rfl rfl ?_
  obtain ⟨q3, hq4, h⟩ := bnd h
  refine z_fSv (sX9_refuse M q1 hq4) dX9_bend_9 ml_X9_172 cd_X9_refuse rfl rfl rfl rfl rfl ?_
  refine z_aload_n (i := 0) dX9_bend_12 rfl rfl ?_
  refine z_getR (r' := (14, 0, 0)) dX9_bend_13 fl_X9_68 mk0 rfl rfl ?_
  refine z_aload_n (i := 0) dX9_bend_16 rfl rfl ?_
  refine z_getR (r' := (9, 0, 0)) dX9_bend_17 fl_X9_40 mk0 rfl rfl ?_
  obtain ⟨q5, hq6, h⟩ := bnd h
  refine z_fVv (sX2_remember q3 0 (Nat.le_of_ble_eq_true rfl) hq6) dX9_bend_20 ml_X9_137 cd_X2_remember mk14 rfl rfl rfl rfl rfl rfl ?_
  refine z_aload_n (i := 0) dX9_bend_23 rfl rfl ?_
  refine z_getR (r' := (9, 0, 0)) dX9_bend_24 fl_X9_40 mk0 rfl rfl ?_
  refine z_iload_n (i := 1) dX9_bend_27 rfl rfl ?_
  refine z_iload_n (i := 2) dX9_bend_28 rfl rfl ?_
  obtain ⟨q7, hq8, h⟩ := bnd h
  refine z_fVv (sX0_bendTooth q5 0 x1 x2 (Nat.le_of_ble_eq_true rfl) hq8) dX9_bend_29 ml_X9_331 cd_X0_bendTooth (m9 _ (Nat.le_of_ble_eq_true rfl)) rfl rfl rfl rfl rfl rfl ?_
  refine z_aload_n (i := 0) dX9_bend_32 rfl rfl ?_
  refine z_getR (r' := (9, 0, 0)) dX9_bend_33 fl_X9_40 mk0 rfl rfl ?_
  refine z_getR (r' := (12, 0, 0)) dX9_bend_36 fl_X9_217 (m9 _ (Nat.le_of_ble_eq_true rfl)) rfl rfl ?_
  refine z_iload_n (i := 1) dX9_bend_39 rfl rfl ?_
  obtain ⟨hc9, h⟩ := chk h
  refine z_aald (t := 0) (r' := (13, 0, x1.toNatClampNeg)) dX9_bend_40 (m12 _ (Nat.le_of_ble_eq_true rfl)) rfl (Nat.le_of_ble_eq_true rfl) hc9 rfl ?_
  refine z_getI (x := (q7.1 (13, 0, x1.toNatClampNeg) 1)) dX9_bend_41 fl_X9_226 (m13 _ (Nat.le_of_ble_eq_true rfl) _ (ltN hc9)) rfl rfl ?_
  cases h
  exact z_iret dX9_bend_44 rfl rfl (Nat.le_refl _) (Nat.le_refl _) ⟨rfl, rfl⟩
theorem dX9_replaceTooth_0 : decode cX9_replaceTooth 0 = .ok (.aload_n 0, 1) := by decide +kernel
theorem dX9_replaceTooth_1 : decode cX9_replaceTooth 1 = .ok (.getfield 40, 3) := by decide +kernel
theorem dX9_replaceTooth_4 : decode cX9_replaceTooth 4 = .ok (.iload_n 1, 1) := by decide +kernel
theorem dX9_replaceTooth_5 : decode cX9_replaceTooth 5 = .ok (.invokevirtual 214, 3) := by decide +kernel
theorem dX9_replaceTooth_8 : decode cX9_replaceTooth 8 = .ok (.invokestatic 172, 3) := by decide +kernel
theorem dX9_replaceTooth_11 : decode cX9_replaceTooth 11 = .ok (.aload_n 0, 1) := by decide +kernel
theorem dX9_replaceTooth_12 : decode cX9_replaceTooth 12 = .ok (.getfield 68, 3) := by decide +kernel
theorem dX9_replaceTooth_15 : decode cX9_replaceTooth 15 = .ok (.aload_n 0, 1) := by decide +kernel
theorem dX9_replaceTooth_16 : decode cX9_replaceTooth 16 = .ok (.getfield 40, 3) := by decide +kernel
theorem dX9_replaceTooth_19 : decode cX9_replaceTooth 19 = .ok (.invokevirtual 137, 3) := by decide +kernel
theorem dX9_replaceTooth_22 : decode cX9_replaceTooth 22 = .ok (.aload_n 0, 1) := by decide +kernel
theorem dX9_replaceTooth_23 : decode cX9_replaceTooth 23 = .ok (.getfield 40, 3) := by decide +kernel
theorem dX9_replaceTooth_26 : decode cX9_replaceTooth 26 = .ok (.getfield 217, 3) := by decide +kernel
theorem dX9_replaceTooth_29 : decode cX9_replaceTooth 29 = .ok (.iload_n 1, 1) := by decide +kernel
theorem dX9_replaceTooth_30 : decode cX9_replaceTooth 30 = .ok (.aaload, 1) := by decide +kernel
theorem dX9_replaceTooth_31 : decode cX9_replaceTooth 31 = .ok (.getfield 232, 3) := by decide +kernel
theorem dX9_replaceTooth_34 : decode cX9_replaceTooth 34 = .ok (.istore_n 2, 1) := by decide +kernel
theorem dX9_replaceTooth_35 : decode cX9_replaceTooth 35 = .ok (.aload_n 0, 1) := by decide +kernel
theorem dX9_replaceTooth_36 : decode cX9_replaceTooth 36 = .ok (.getfield 40, 3) := by decide +kernel
theorem dX9_replaceTooth_39 : decode cX9_replaceTooth 39 = .ok (.iload_n 1, 1) := by decide +kernel
theorem dX9_replaceTooth_40 : decode cX9_replaceTooth 40 = .ok (.invokevirtual 334, 3) := by decide +kernel
theorem dX9_replaceTooth_43 : decode cX9_replaceTooth 43 = .ok (.iload_n 2, 1) := by decide +kernel
theorem dX9_replaceTooth_44 : decode cX9_replaceTooth 44 = .ok (.ireturn, 1) := by decide +kernel
def fX9_replaceTooth (M : Mm) (x1 : Int32) : Option (Int32 × Mm) := (fX9_refuse M (fX0_toothFault M 0 x1)).bind fun q1 => (fX2_remember q1 0).bind fun q3 => if x1 < 0 ∨ 12 ≤ x1.toNatClampNeg then none else (fX0_mendTooth q3 0 x1).bind fun q6 => some ((q3.1 (13, 0, x1.toNatClampNeg) 4), q6)
set_option maxRecDepth 20000 in
set_option maxHeartbeats 2000000 in
theorem sX9_replaceTooth {wv : Wv} (M : Mm) (x1 : Int32) {res : (Int32 × Mm)} (h : fX9_replaceTooth M x1 = some res) : TF wv yX9_replaceTooth cX9_replaceTooth 3 (some .int) 4 [.inr (0, 0, 0), .inl (.int x1)] M (some (.int res.1)) res.2 := by
  rw [fX9_replaceTooth] at h
  refine TF.go (n := 1) (ls := [some (.inr (0, 0, 0)), some (.inl (.int x1)), none]) rfl rfl rfl rfl rfl ?_
  refine z_aload_n (i := 0) dX9_replaceTooth_0 rfl rfl ?_
  refine z_getR (r' := (9, 0, 0)) dX9_replaceTooth_1 fl_X9_40 mk0 rfl rfl ?_
  refine z_iload_n (i := 1) dX9_replaceTooth_4 rfl rfl ?_
  refine z_fVi (sX0_toothFault M 0 x1 (Nat.le_of_ble_eq_true rfl)) dX9_replaceTooth_5 ml_X9_214 cd_X0_toothFault (m9 _ (Nat.le_of_ble_eq_true rfl)) rfl rfl rfl rfl rfl rfl ?_
  obtain ⟨q1, hq2, h⟩ := bnd h
  refine z_fSv (sX9_refuse M (fX0_toothFault M 0 x1) hq2) dX9_replaceTooth_8 ml_X9_172 cd_X9_refuse rfl rfl rfl rfl rfl ?_
  refine z_aload_n (i := 0) dX9_replaceTooth_11 rfl rfl ?_
  refine z_getR (r' := (14, 0, 0)) dX9_replaceTooth_12 fl_X9_68 mk0 rfl rfl ?_
  refine z_aload_n (i := 0) dX9_replaceTooth_15 rfl rfl ?_
  refine z_getR (r' := (9, 0, 0)) dX9_replaceTooth_16 fl_X9_40 mk0 rfl rfl ?_
  obtain ⟨q3, hq4, h⟩ := bnd h
  refine z_fVv (sX2_remember q1 0 (Nat.le_of_ble_eq_true rfl) hq4) dX9_replaceTooth_19 ml_X9_137 cd_X2_remember mk14 rfl rfl rfl rfl rfl rfl ?_
  refine z_aload_n (i := 0) dX9_replaceTooth_22 rfl rfl ?_
  refine z_getR (r' := (9, 0, 0)) dX9_replaceTooth_23 fl_X9_40 mk0 rfl rfl ?_
  refine z_getR (r' := (12, 0, 0)) dX9_replaceTooth_26 fl_X9_217 (m9 _ (Nat.le_of_ble_eq_true rfl)) rfl rfl ?_
  refine z_iload_n (i := 1) dX9_replaceTooth_29 rfl rfl ?_
  obtain ⟨hc5, h⟩ := chk h
  refine z_aald (t := 0) (r' := (13, 0, x1.toNatClampNeg)) dX9_replaceTooth_30 (m12 _ (Nat.le_of_ble_eq_true rfl)) rfl (Nat.le_of_ble_eq_true rfl) hc5 rfl ?_
  refine z_getI (x := (q3.1 (13, 0, x1.toNatClampNeg) 4)) dX9_replaceTooth_31 fl_X9_232 (m13 _ (Nat.le_of_ble_eq_true rfl) _ (ltN hc5)) rfl rfl ?_
  refine z_istore_n (i := 2) dX9_replaceTooth_34 rfl (Nat.le_of_ble_eq_true rfl) rfl ?_
  refine z_aload_n (i := 0) dX9_replaceTooth_35 rfl rfl ?_
  refine z_getR (r' := (9, 0, 0)) dX9_replaceTooth_36 fl_X9_40 mk0 rfl rfl ?_
  refine z_iload_n (i := 1) dX9_replaceTooth_39 rfl rfl ?_
  obtain ⟨q6, hq7, h⟩ := bnd h
  refine z_fVv (sX0_mendTooth q3 0 x1 (Nat.le_of_ble_eq_true rfl) hq7) dX9_replaceTooth_40 ml_X9_334 cd_X0_mendTooth (m9 _ (Nat.le_of_ble_eq_true rfl)) rfl rfl rfl rfl rfl rfl ?_
  refine z_iload_n (i := 2) dX9_replaceTooth_43 rfl rfl ?_
  cases h
  exact z_iret dX9_replaceTooth_44 rfl rfl (Nat.le_refl _) (Nat.le_refl _) ⟨rfl, rfl⟩
theorem dX9_setVane_0 : decode cX9_setVane 0 = .ok (.iload_n 1, 1) := by decide +kernel
theorem dX9_setVane_1 : decode cX9_setVane 1 = .ok (.iconst 0, 1) := by decide +kernel
theorem dX9_setVane_2 : decode cX9_setVane 2 = .ok (.bipush 90, 2) := by decide +kernel
theorem dX9_setVane_4 : decode cX9_setVane 4 = .ok (.invokestatic 296, 3) := by decide +kernel
theorem dX9_setVane_7 : decode cX9_setVane 7 = .ok (.invokestatic 172, 3) := by decide +kernel
theorem dX9_setVane_10 : decode cX9_setVane 10 = .ok (.aload_n 0, 1) := by decide +kernel
theorem dX9_setVane_11 : decode cX9_setVane 11 = .ok (.getfield 68, 3) := by decide +kernel
theorem dX9_setVane_14 : decode cX9_setVane 14 = .ok (.aload_n 0, 1) := by decide +kernel
theorem dX9_setVane_15 : decode cX9_setVane 15 = .ok (.getfield 40, 3) := by decide +kernel
theorem dX9_setVane_18 : decode cX9_setVane 18 = .ok (.invokevirtual 137, 3) := by decide +kernel
theorem dX9_setVane_21 : decode cX9_setVane 21 = .ok (.aload_n 0, 1) := by decide +kernel
theorem dX9_setVane_22 : decode cX9_setVane 22 = .ok (.getfield 40, 3) := by decide +kernel
theorem dX9_setVane_25 : decode cX9_setVane 25 = .ok (.getfield 247, 3) := by decide +kernel
theorem dX9_setVane_28 : decode cX9_setVane 28 = .ok (.istore_n 2, 1) := by decide +kernel
theorem dX9_setVane_29 : decode cX9_setVane 29 = .ok (.aload_n 0, 1) := by decide +kernel
theorem dX9_setVane_30 : decode cX9_setVane 30 = .ok (.getfield 40, 3) := by decide +kernel
theorem dX9_setVane_33 : decode cX9_setVane 33 = .ok (.iload_n 1, 1) := by decide +kernel
theorem dX9_setVane_34 : decode cX9_setVane 34 = .ok (.putfield 247, 3) := by decide +kernel
theorem dX9_setVane_37 : decode cX9_setVane 37 = .ok (.iload_n 2, 1) := by decide +kernel
theorem dX9_setVane_38 : decode cX9_setVane 38 = .ok (.ireturn, 1) := by decide +kernel
def fX9_setVane (M : Mm) (x1 : Int32) : Option (Int32 × Mm) := (fX9_refuse M (fX9_rangeFault M x1 (0 : Int32) (90 : Int32))).bind fun q1 => (fX2_remember q1 0).bind fun q3 => some ((q3.1 (9, 0, 0) 4), (putI q3 (9, 0, 0) 4 x1))
set_option maxRecDepth 20000 in
set_option maxHeartbeats 2000000 in
theorem sX9_setVane {wv : Wv} (M : Mm) (x1 : Int32) {res : (Int32 × Mm)} (h : fX9_setVane M x1 = some res) : TF wv yX9_setVane cX9_setVane 3 (some .int) 4 [.inr (0, 0, 0), .inl (.int x1)] M (some (.int res.1)) res.2 := by
  rw [fX9_setVane] at h
  refine TF.go (n := 1) (ls := [some (.inr (0, 0, 0)), some (.inl (.int x1)), none]) rfl rfl rfl rfl rfl ?_
  refine z_iload_n (i := 1) dX9_setVane_0 rfl rfl ?_
  refine z_iconst (v := (0 : Int32)) dX9_setVane_1 kc_0 ?_
  refine z_bipush (v := (90 : Int32)) dX9_setVane_2 kb_90 ?_
  refine z_fSi (sX9_rangeFault M x1 (0 : Int32) (90 : Int32)) dX9_setVane_4 ml_X9_296 cd_X9_rangeFault rfl rfl rfl rfl rfl ?_
  obtain ⟨q1, hq2, h⟩ := bnd h
  refine z_fSv (sX9_refuse M (fX9_rangeFault M x1 (0 : Int32) (90 : Int32)) hq2) dX9_setVane_7 ml_X9_172 cd_X9_refuse rfl rfl rfl rfl rfl ?_
  refine z_aload_n (i := 0) dX9_setVane_10 rfl rfl ?_
  refine z_getR (r' := (14, 0, 0)) dX9_setVane_11 fl_X9_68 mk0 rfl rfl ?_
  refine z_aload_n (i := 0) dX9_setVane_14 rfl rfl ?_
  refine z_getR (r' := (9, 0, 0)) dX9_setVane_15 fl_X9_40 mk0 rfl rfl ?_
  obtain ⟨q3, hq4, h⟩ := bnd h
  refine z_fVv (sX2_remember q1 0 (Nat.le_of_ble_eq_true rfl) hq4) dX9_setVane_18 ml_X9_137 cd_X2_remember mk14 rfl rfl rfl rfl rfl rfl ?_
  refine z_aload_n (i := 0) dX9_setVane_21 rfl rfl ?_
  refine z_getR (r' := (9, 0, 0)) dX9_setVane_22 fl_X9_40 mk0 rfl rfl ?_
  refine z_getI (x := (q3.1 (9, 0, 0) 4)) dX9_setVane_25 fl_X9_247 (m9 _ (Nat.le_of_ble_eq_true rfl)) rfl rfl ?_
  refine z_istore_n (i := 2) dX9_setVane_28 rfl (Nat.le_of_ble_eq_true rfl) rfl ?_
  refine z_aload_n (i := 0) dX9_setVane_29 rfl rfl ?_
  refine z_getR (r' := (9, 0, 0)) dX9_setVane_30 fl_X9_40 mk0 rfl rfl ?_
  refine z_iload_n (i := 1) dX9_setVane_33 rfl rfl ?_
  refine z_putI allR_nd dX9_setVane_34 fl_X9_247 (m9 _ (Nat.le_of_ble_eq_true rfl)) rfl rfl ?_
  refine z_iload_n (i := 2) dX9_setVane_37 rfl rfl ?_
  cases h
  exact z_iret dX9_setVane_38 rfl rfl (Nat.le_refl _) (Nat.le_refl _) ⟨rfl, rfl⟩
theorem dX9_wind_0 : decode cX9_wind 0 = .ok (.aload_n 0, 1) := by decide +kernel
theorem dX9_wind_1 : decode cX9_wind 1 = .ok (.getfield 40, 3) := by decide +kernel
theorem dX9_wind_4 : decode cX9_wind 4 = .ok (.iload_n 1, 1) := by decide +kernel
theorem dX9_wind_5 : decode cX9_wind 5 = .ok (.invokevirtual 337, 3) := by decide +kernel
theorem dX9_wind_8 : decode cX9_wind 8 = .ok (.invokestatic 172, 3) := by decide +kernel
theorem dX9_wind_11 : decode cX9_wind 11 = .ok (.aload_n 0, 1) := by decide +kernel
theorem dX9_wind_12 : decode cX9_wind 12 = .ok (.getfield 68, 3) := by decide +kernel
theorem dX9_wind_15 : decode cX9_wind 15 = .ok (.aload_n 0, 1) := by decide +kernel
theorem dX9_wind_16 : decode cX9_wind 16 = .ok (.getfield 40, 3) := by decide +kernel
theorem dX9_wind_19 : decode cX9_wind 19 = .ok (.invokevirtual 137, 3) := by decide +kernel
theorem dX9_wind_22 : decode cX9_wind 22 = .ok (.aload_n 0, 1) := by decide +kernel
theorem dX9_wind_23 : decode cX9_wind 23 = .ok (.getfield 40, 3) := by decide +kernel
theorem dX9_wind_26 : decode cX9_wind 26 = .ok (.dup, 1) := by decide +kernel
theorem dX9_wind_27 : decode cX9_wind 27 = .ok (.getfield 244, 3) := by decide +kernel
theorem dX9_wind_30 : decode cX9_wind 30 = .ok (.iload_n 1, 1) := by decide +kernel
theorem dX9_wind_31 : decode cX9_wind 31 = .ok (.iadd, 1) := by decide +kernel
theorem dX9_wind_32 : decode cX9_wind 32 = .ok (.putfield 244, 3) := by decide +kernel
theorem dX9_wind_35 : decode cX9_wind 35 = .ok (.aload_n 0, 1) := by decide +kernel
theorem dX9_wind_36 : decode cX9_wind 36 = .ok (.getfield 40, 3) := by decide +kernel
theorem dX9_wind_39 : decode cX9_wind 39 = .ok (.getfield 244, 3) := by decide +kernel
theorem dX9_wind_42 : decode cX9_wind 42 = .ok (.ireturn, 1) := by decide +kernel
def fX9_wind (M : Mm) (x1 : Int32) : Option (Int32 × Mm) := (fX9_refuse M (fX0_windFault M 0 x1)).bind fun q1 => (fX2_remember q1 0).bind fun q3 => some (((q3.1 (9, 0, 0) 3) + x1), (putI q3 (9, 0, 0) 3 ((q3.1 (9, 0, 0) 3) + x1)))
set_option maxRecDepth 20000 in
set_option maxHeartbeats 2000000 in
theorem sX9_wind {wv : Wv} (M : Mm) (x1 : Int32) {res : (Int32 × Mm)} (h : fX9_wind M x1 = some res) : TF wv yX9_wind cX9_wind 2 (some .int) 4 [.inr (0, 0, 0), .inl (.int x1)] M (some (.int res.1)) res.2 := by
  rw [fX9_wind] at h
  refine TF.go (n := 0) (ls := [some (.inr (0, 0, 0)), some (.inl (.int x1))]) rfl rfl rfl rfl rfl ?_
  refine z_aload_n (i := 0) dX9_wind_0 rfl rfl ?_
  refine z_getR (r' := (9, 0, 0)) dX9_wind_1 fl_X9_40 mk0 rfl rfl ?_
  refine z_iload_n (i := 1) dX9_wind_4 rfl rfl ?_
  refine z_fVi (sX0_windFault M 0 x1 (Nat.le_of_ble_eq_true rfl)) dX9_wind_5 ml_X9_337 cd_X0_windFault (m9 _ (Nat.le_of_ble_eq_true rfl)) rfl rfl rfl rfl rfl rfl ?_
  obtain ⟨q1, hq2, h⟩ := bnd h
  refine z_fSv (sX9_refuse M (fX0_windFault M 0 x1) hq2) dX9_wind_8 ml_X9_172 cd_X9_refuse rfl rfl rfl rfl rfl ?_
  refine z_aload_n (i := 0) dX9_wind_11 rfl rfl ?_
  refine z_getR (r' := (14, 0, 0)) dX9_wind_12 fl_X9_68 mk0 rfl rfl ?_
  refine z_aload_n (i := 0) dX9_wind_15 rfl rfl ?_
  refine z_getR (r' := (9, 0, 0)) dX9_wind_16 fl_X9_40 mk0 rfl rfl ?_
  obtain ⟨q3, hq4, h⟩ := bnd h
  refine z_fVv (sX2_remember q1 0 (Nat.le_of_ble_eq_true rfl) hq4) dX9_wind_19 ml_X9_137 cd_X2_remember mk14 rfl rfl rfl rfl rfl rfl ?_
  refine z_aload_n (i := 0) dX9_wind_22 rfl rfl ?_
  refine z_getR (r' := (9, 0, 0)) dX9_wind_23 fl_X9_40 mk0 rfl rfl ?_
  refine z_dup dX9_wind_26 rfl ?_
  refine z_getI (x := (q3.1 (9, 0, 0) 3)) dX9_wind_27 fl_X9_244 (m9 _ (Nat.le_of_ble_eq_true rfl)) rfl rfl ?_
  refine z_iload_n (i := 1) dX9_wind_30 rfl rfl ?_
  refine z_iadd dX9_wind_31 ?_
  refine z_putI allR_nd dX9_wind_32 fl_X9_244 (m9 _ (Nat.le_of_ble_eq_true rfl)) rfl rfl ?_
  refine z_aload_n (i := 0) dX9_wind_35 rfl rfl ?_
  refine z_getR (r' := (9, 0, 0)) dX9_wind_36 fl_X9_40 mk0 rfl rfl ?_
  refine z_getI (x := ((q3.1 (9, 0, 0) 3) + x1)) dX9_wind_39 fl_X9_244 (m9 _ (Nat.le_of_ble_eq_true rfl)) rfl (gp1 (M := q3) (r := (9, 0, 0)) (j := 3) (v := ((q3.1 (9, 0, 0) 3) + x1))) ?_
  cases h
  exact z_iret dX9_wind_42 rfl rfl (Nat.le_refl _) (Nat.le_refl _) ⟨rfl, rfl⟩
theorem dX9_play_0 : decode cX9_play 0 = .ok (.aload_n 0, 1) := by decide +kernel
theorem dX9_play_1 : decode cX9_play 1 = .ok (.getfield 40, 3) := by decide +kernel
theorem dX9_play_4 : decode cX9_play 4 = .ok (.iload_n 1, 1) := by decide +kernel
theorem dX9_play_5 : decode cX9_play 5 = .ok (.invokevirtual 340, 3) := by decide +kernel
theorem dX9_play_8 : decode cX9_play 8 = .ok (.invokestatic 172, 3) := by decide +kernel
theorem dX9_play_11 : decode cX9_play 11 = .ok (.aload_n 0, 1) := by decide +kernel
theorem dX9_play_12 : decode cX9_play 12 = .ok (.getfield 68, 3) := by decide +kernel
theorem dX9_play_15 : decode cX9_play 15 = .ok (.aload_n 0, 1) := by decide +kernel
theorem dX9_play_16 : decode cX9_play 16 = .ok (.getfield 40, 3) := by decide +kernel
theorem dX9_play_19 : decode cX9_play 19 = .ok (.invokevirtual 137, 3) := by decide +kernel
theorem dX9_play_22 : decode cX9_play 22 = .ok (.aload_n 0, 1) := by decide +kernel
theorem dX9_play_23 : decode cX9_play 23 = .ok (.getfield 40, 3) := by decide +kernel
theorem dX9_play_26 : decode cX9_play 26 = .ok (.iload_n 1, 1) := by decide +kernel
theorem dX9_play_27 : decode cX9_play 27 = .ok (.invokevirtual 293, 3) := by decide +kernel
theorem dX9_play_30 : decode cX9_play 30 = .ok (.ireturn, 1) := by decide +kernel
def fX9_play (M : Mm) (x1 : Int32) : Option (Int32 × Mm) := (fX9_refuse M (fX0_playFault M 0 x1)).bind fun q1 => (fX2_remember q1 0).bind fun q3 => (fX0_playSteps q3 0 x1).bind fun q5 => some (q5.1, q5.2)
set_option maxRecDepth 20000 in
set_option maxHeartbeats 2000000 in
theorem sX9_play {wv : Wv} (M : Mm) (x1 : Int32) {res : (Int32 × Mm)} (h : fX9_play M x1 = some res) : TF wv yX9_play cX9_play 2 (some .int) 4 [.inr (0, 0, 0), .inl (.int x1)] M (some (.int res.1)) res.2 := by
  rw [fX9_play] at h
  refine TF.go (n := 0) (ls := [some (.inr (0, 0, 0)), some (.inl (.int x1))]) rfl rfl rfl rfl rfl ?_
  refine z_aload_n (i := 0) dX9_play_0 rfl rfl ?_
  refine z_getR (r' := (9, 0, 0)) dX9_play_1 fl_X9_40 mk0 rfl rfl ?_
  refine z_iload_n (i := 1) dX9_play_4 rfl rfl ?_
  refine z_fVi (sX0_playFault M 0 x1 (Nat.le_of_ble_eq_true rfl)) dX9_play_5 ml_X9_340 cd_X0_playFault (m9 _ (Nat.le_of_ble_eq_true rfl)) rfl rfl rfl rfl rfl rfl ?_
  obtain ⟨q1, hq2, h⟩ := bnd h
  refine z_fSv (sX9_refuse M (fX0_playFault M 0 x1) hq2) dX9_play_8 ml_X9_172 cd_X9_refuse rfl rfl rfl rfl rfl ?_
  refine z_aload_n (i := 0) dX9_play_11 rfl rfl ?_
  refine z_getR (r' := (14, 0, 0)) dX9_play_12 fl_X9_68 mk0 rfl rfl ?_
  refine z_aload_n (i := 0) dX9_play_15 rfl rfl ?_
  refine z_getR (r' := (9, 0, 0)) dX9_play_16 fl_X9_40 mk0 rfl rfl ?_
  obtain ⟨q3, hq4, h⟩ := bnd h
  refine z_fVv (sX2_remember q1 0 (Nat.le_of_ble_eq_true rfl) hq4) dX9_play_19 ml_X9_137 cd_X2_remember mk14 rfl rfl rfl rfl rfl rfl ?_
  refine z_aload_n (i := 0) dX9_play_22 rfl rfl ?_
  refine z_getR (r' := (9, 0, 0)) dX9_play_23 fl_X9_40 mk0 rfl rfl ?_
  refine z_iload_n (i := 1) dX9_play_26 rfl rfl ?_
  obtain ⟨q5, hq6, h⟩ := bnd h
  refine z_fVi (sX0_playSteps q3 0 x1 (Nat.le_of_ble_eq_true rfl) hq6) dX9_play_27 ml_X9_293 cd_X0_playSteps (m9 _ (Nat.le_of_ble_eq_true rfl)) rfl rfl rfl rfl rfl rfl ?_
  cases h
  exact z_iret dX9_play_30 rfl rfl (Nat.le_refl _) (Nat.le_refl _) ⟨rfl, rfl⟩
