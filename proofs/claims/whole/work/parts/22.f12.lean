theorem dX9_writeComb_0 : decode cX9_writeComb 0 = .ok (.aload_n 0, 1) := by decide +kernel
theorem dX9_writeComb_1 : decode cX9_writeComb 1 = .ok (.getfield 18, 3) := by decide +kernel
theorem dX9_writeComb_4 : decode cX9_writeComb 4 = .ok (.iconst 0, 1) := by decide +kernel
theorem dX9_writeComb_5 : decode cX9_writeComb 5 = .ok (.putfield 102, 3) := by decide +kernel
theorem dX9_writeComb_8 : decode cX9_writeComb 8 = .ok (.iconst 0, 1) := by decide +kernel
theorem dX9_writeComb_9 : decode cX9_writeComb 9 = .ok (.istore_n 1, 1) := by decide +kernel
theorem dX9_writeComb_10 : decode cX9_writeComb 10 = .ok (.iload_n 1, 1) := by decide +kernel
theorem dX9_writeComb_11 : decode cX9_writeComb 11 = .ok (.aload_n 0, 1) := by decide +kernel
theorem dX9_writeComb_12 : decode cX9_writeComb 12 = .ok (.getfield 40, 3) := by decide +kernel
theorem dX9_writeComb_15 : decode cX9_writeComb 15 = .ok (.getfield 211, 3) := by decide +kernel
theorem dX9_writeComb_18 : decode cX9_writeComb 18 = .ok (.if_icmp .ge 74, 3) := by decide +kernel
theorem dX9_writeComb_21 : decode cX9_writeComb 21 = .ok (.iload_n 1, 1) := by decide +kernel
theorem dX9_writeComb_22 : decode cX9_writeComb 22 = .ok (.bipush 12, 2) := by decide +kernel
theorem dX9_writeComb_24 : decode cX9_writeComb 24 = .ok (.if_icmp .ge 68, 3) := by decide +kernel
theorem dX9_writeComb_27 : decode cX9_writeComb 27 = .ok (.iload_n 1, 1) := by decide +kernel
theorem dX9_writeComb_28 : decode cX9_writeComb 28 = .ok (.ifCond .le 12, 3) := by decide +kernel
theorem dX9_writeComb_31 : decode cX9_writeComb 31 = .ok (.aload_n 0, 1) := by decide +kernel
theorem dX9_writeComb_32 : decode cX9_writeComb 32 = .ok (.getfield 18, 3) := by decide +kernel
theorem dX9_writeComb_35 : decode cX9_writeComb 35 = .ok (.bipush 32, 2) := by decide +kernel
theorem dX9_writeComb_37 : decode cX9_writeComb 37 = .ok (.invokevirtual 92, 3) := by decide +kernel
theorem dX9_writeComb_40 : decode cX9_writeComb 40 = .ok (.aload_n 0, 1) := by decide +kernel
theorem dX9_writeComb_41 : decode cX9_writeComb 41 = .ok (.getfield 40, 3) := by decide +kernel
theorem dX9_writeComb_44 : decode cX9_writeComb 44 = .ok (.getfield 217, 3) := by decide +kernel
theorem dX9_writeComb_47 : decode cX9_writeComb 47 = .ok (.iload_n 1, 1) := by decide +kernel
theorem dX9_writeComb_48 : decode cX9_writeComb 48 = .ok (.aaload, 1) := by decide +kernel
theorem dX9_writeComb_49 : decode cX9_writeComb 49 = .ok (.invokevirtual 238, 3) := by decide +kernel
theorem dX9_writeComb_52 : decode cX9_writeComb 52 = .ok (.ifCond .eq 15, 3) := by decide +kernel
theorem dX9_writeComb_55 : decode cX9_writeComb 55 = .ok (.aload_n 0, 1) := by decide +kernel
theorem dX9_writeComb_56 : decode cX9_writeComb 56 = .ok (.getfield 18, 3) := by decide +kernel
theorem dX9_writeComb_59 : decode cX9_writeComb 59 = .ok (.bipush 120, 2) := by decide +kernel
theorem dX9_writeComb_61 : decode cX9_writeComb 61 = .ok (.invokevirtual 92, 3) := by decide +kernel
theorem dX9_writeComb_64 : decode cX9_writeComb 64 = .ok (.goto 22, 3) := by decide +kernel
theorem dX9_writeComb_67 : decode cX9_writeComb 67 = .ok (.aload_n 0, 1) := by decide +kernel
theorem dX9_writeComb_68 : decode cX9_writeComb 68 = .ok (.getfield 18, 3) := by decide +kernel
theorem dX9_writeComb_71 : decode cX9_writeComb 71 = .ok (.aload_n 0, 1) := by decide +kernel
theorem dX9_writeComb_72 : decode cX9_writeComb 72 = .ok (.getfield 40, 3) := by decide +kernel
theorem dX9_writeComb_75 : decode cX9_writeComb 75 = .ok (.getfield 217, 3) := by decide +kernel
theorem dX9_writeComb_78 : decode cX9_writeComb 78 = .ok (.iload_n 1, 1) := by decide +kernel
theorem dX9_writeComb_79 : decode cX9_writeComb 79 = .ok (.aaload, 1) := by decide +kernel
theorem dX9_writeComb_80 : decode cX9_writeComb 80 = .ok (.invokevirtual 221, 3) := by decide +kernel
theorem dX9_writeComb_83 : decode cX9_writeComb 83 = .ok (.invokevirtual 346, 3) := by decide +kernel
theorem dX9_writeComb_86 : decode cX9_writeComb 86 = .ok (.iinc 1 1, 3) := by decide +kernel
theorem dX9_writeComb_89 : decode cX9_writeComb 89 = .ok (.goto (-79), 3) := by decide +kernel
theorem dX9_writeComb_92 : decode cX9_writeComb 92 = .ok (.aload_n 0, 1) := by decide +kernel
theorem dX9_writeComb_93 : decode cX9_writeComb 93 = .ok (.getfield 18, 3) := by decide +kernel
theorem dX9_writeComb_96 : decode cX9_writeComb 96 = .ok (.getfield 102, 3) := by decide +kernel
theorem dX9_writeComb_99 : decode cX9_writeComb 99 = .ok (.ireturn, 1) := by decide +kernel
def fX9_writeComb_L10 (K : Int32 → Mm → Option (Int32 × Mm)) : Nat → Int32 → Mm → Option (Int32 × Mm)
  | 0, _, _ => none
  | n + 1, v1, M => if (M.1 (9, 0, 0) 2) ≤ v1 then K v1 M else if (12 : Int32) ≤ v1 then K v1 M else if v1 ≤ 0 then (if v1 < 0 ∨ 12 ≤ v1.toNatClampNeg then none else if (fX8_brokenNow M 0 v1.toNatClampNeg) = 0 then (if v1 < 0 ∨ 12 ≤ v1.toNatClampNeg then none else (fX1_putNumber M 1 (fX8_pitchNow M 0 v1.toNatClampNeg)).bind fun q7 => fX9_writeComb_L10 K n (v1 + (1 : Int32)) q7) else (fX1_put M 1 (120 : Int32)).bind fun q9 => fX9_writeComb_L10 K n (v1 + (1 : Int32)) q9) else (fX1_put M 1 (32 : Int32)).bind fun q11 => if v1 < 0 ∨ 12 ≤ v1.toNatClampNeg then none else if (fX8_brokenNow q11 0 v1.toNatClampNeg) = 0 then (if v1 < 0 ∨ 12 ≤ v1.toNatClampNeg then none else (fX1_putNumber q11 1 (fX8_pitchNow q11 0 v1.toNatClampNeg)).bind fun q16 => fX9_writeComb_L10 K n (v1 + (1 : Int32)) q16) else (fX1_put q11 1 (120 : Int32)).bind fun q18 => fX9_writeComb_L10 K n (v1 + (1 : Int32)) q18
def fX9_writeComb (M : Mm) : Option (Int32 × Mm) := fX9_writeComb_L10 (fun w20 M21 => some ((M21.1 (1, 1, 0) 1), M21)) NF (0 : Int32) (putI M (1, 1, 0) 1 (0 : Int32))
set_option maxRecDepth 20000 in
set_option maxHeartbeats 2000000 in
theorem sX9_writeComb_L10 {wv : Nat} {res : (Int32 × Mm)} {K : Int32 → Mm → Option (Int32 × Mm)} : ∀ (n : Nat) (v1 : Int32) (M : Mm), fX9_writeComb_L10 K n v1 M = some res →
    (∀ (v1 : Int32) (M : Mm), K v1 M = some res → Z RX9 cX9_writeComb 2 (some .int) [] "writeComb" (rmD 2 0 0) (QM SH (allR wv) 0 0 (fun v M9 => v = some (.int res.1) ∧ M9 = res.2) (fun _ _ => False)) (allR wv) SH 0 0 92 [some (.inr (0, 0, 0)), some (.inl (.int v1))] [] M) → Z RX9 cX9_writeComb 2 (some .int) [] "writeComb" (rmD 2 0 0) (QM SH (allR wv) 0 0 (fun v M9 => v = some (.int res.1) ∧ M9 = res.2) (fun _ _ => False)) (allR wv) SH 0 0 10 [some (.inr (0, 0, 0)), some (.inl (.int v1))] [] M := by
  intro n
  induction n with
  | zero => intro v1 M h; cases h
  | succ n ih =>
    intro v1 M h hK
    rw [fX9_writeComb_L10] at h
    refine z_iload_n (i := 1) dX9_writeComb_10 rfl rfl ?_
    refine z_aload_n (i := 0) dX9_writeComb_11 rfl rfl ?_
    refine z_getR (r' := (9, 0, 0)) dX9_writeComb_12 fl_X9_40 mk0 rfl rfl ?_
    refine z_getI (x := (M.1 (9, 0, 0) 2)) dX9_writeComb_15 fl_X9_211 (m9 _ (Nat.le_of_ble_eq_true rfl)) rfl rfl ?_
    refine z_icmp_ge (tgt := 92) dX9_writeComb_18 rfl (fun hc1 => ?_) (fun hc1 => ?_)
    · have h := it_t h hc1
      exact hK _ _ h
    · have h := it_f h hc1
      refine z_iload_n (i := 1) dX9_writeComb_21 rfl rfl ?_
      refine z_bipush (v := (12 : Int32)) dX9_writeComb_22 kb_12 ?_
      refine z_icmp_ge (tgt := 92) dX9_writeComb_24 rfl (fun hc2 => ?_) (fun hc2 => ?_)
      · have h := it_t h hc2
        exact hK _ _ h
      · have h := it_f h hc2
        refine z_iload_n (i := 1) dX9_writeComb_27 rfl rfl ?_
        refine z_if_le (tgt := 40) dX9_writeComb_28 rfl (fun hc3 => ?_) (fun hc3 => ?_)
        · have h := it_t h hc3
          refine z_aload_n (i := 0) dX9_writeComb_40 rfl rfl ?_
          refine z_getR (r' := (9, 0, 0)) dX9_writeComb_41 fl_X9_40 mk0 rfl rfl ?_
          refine z_getR (r' := (12, 0, 0)) dX9_writeComb_44 fl_X9_217 (m9 _ (Nat.le_of_ble_eq_true rfl)) rfl rfl ?_
          refine z_iload_n (i := 1) dX9_writeComb_47 rfl rfl ?_
          obtain ⟨hc4, h⟩ := chk h
          refine z_aald (t := 0) (r' := (13, 0, v1.toNatClampNeg)) dX9_writeComb_48 (m12 _ (Nat.le_of_ble_eq_true rfl)) rfl (Nat.le_of_ble_eq_true rfl) hc4 rfl ?_
          refine z_fVi (sX8_brokenNow M 0 v1.toNatClampNeg (Nat.le_of_ble_eq_true rfl) (ltN hc4)) dX9_writeComb_49 ml_X9_238 cd_X8_brokenNow (m13 _ (Nat.le_of_ble_eq_true rfl) _ (ltN hc4)) rfl rfl rfl rfl rfl rfl ?_
          refine z_if_eq (tgt := 67) dX9_writeComb_52 rfl (fun hc5 => ?_) (fun hc5 => ?_)
          · have h := it_t h hc5
            refine z_aload_n (i := 0) dX9_writeComb_67 rfl rfl ?_
            refine z_getR (r' := (1, 1, 0)) dX9_writeComb_68 fl_X9_18 mk0 rfl rfl ?_
            refine z_aload_n (i := 0) dX9_writeComb_71 rfl rfl ?_
            refine z_getR (r' := (9, 0, 0)) dX9_writeComb_72 fl_X9_40 mk0 rfl rfl ?_
            refine z_getR (r' := (12, 0, 0)) dX9_writeComb_75 fl_X9_217 (m9 _ (Nat.le_of_ble_eq_true rfl)) rfl rfl ?_
            refine z_iload_n (i := 1) dX9_writeComb_78 rfl rfl ?_
            obtain ⟨hc6, h⟩ := chk h
            refine z_aald (t := 0) (r' := (13, 0, v1.toNatClampNeg)) dX9_writeComb_79 (m12 _ (Nat.le_of_ble_eq_true rfl)) rfl (Nat.le_of_ble_eq_true rfl) hc6 rfl ?_
            refine z_fVi (sX8_pitchNow M 0 v1.toNatClampNeg (Nat.le_of_ble_eq_true rfl) (ltN hc6)) dX9_writeComb_80 ml_X9_221 cd_X8_pitchNow (m13 _ (Nat.le_of_ble_eq_true rfl) _ (ltN hc6)) rfl rfl rfl rfl rfl rfl ?_
            obtain ⟨q7, hq8, h⟩ := bnd h
            refine z_fVv (sX1_putNumber M 1 (fX8_pitchNow M 0 v1.toNatClampNeg) (Nat.le_of_ble_eq_true rfl) hq8) dX9_writeComb_83 ml_X9_346 cd_X1_putNumber (m1 _ (Nat.le_of_ble_eq_true rfl)) rfl rfl rfl rfl rfl rfl ?_
            refine z_iinc (i := 1) (v := (v1 + (1 : Int32))) dX9_writeComb_86 rfl (iinc_k kc_1) (Nat.le_of_ble_eq_true rfl) rfl ?_
            refine z_goto (tgt := 10) dX9_writeComb_89 rfl ?_
            exact ih _ _ h hK
          · have h := it_f h hc5
            refine z_aload_n (i := 0) dX9_writeComb_55 rfl rfl ?_
            refine z_getR (r' := (1, 1, 0)) dX9_writeComb_56 fl_X9_18 mk0 rfl rfl ?_
            refine z_bipush (v := (120 : Int32)) dX9_writeComb_59 kb_120 ?_
            obtain ⟨q9, hq10, h⟩ := bnd h
            refine z_fVv (sX1_put M 1 (120 : Int32) (Nat.le_of_ble_eq_true rfl) hq10) dX9_writeComb_61 ml_X9_92 cd_X1_put (m1 _ (Nat.le_of_ble_eq_true rfl)) rfl rfl rfl rfl rfl rfl ?_
            refine z_goto (tgt := 86) dX9_writeComb_64 rfl ?_
            refine z_iinc (i := 1) (v := (v1 + (1 : Int32))) dX9_writeComb_86 rfl (iinc_k kc_1) (Nat.le_of_ble_eq_true rfl) rfl ?_
            refine z_goto (tgt := 10) dX9_writeComb_89 rfl ?_
            exact ih _ _ h hK
        · have h := it_f h hc3
          refine z_aload_n (i := 0) dX9_writeComb_31 rfl rfl ?_
          refine z_getR (r' := (1, 1, 0)) dX9_writeComb_32 fl_X9_18 mk0 rfl rfl ?_
          refine z_bipush (v := (32 : Int32)) dX9_writeComb_35 kb_32 ?_
          obtain ⟨q11, hq12, h⟩ := bnd h
          refine z_fVv (sX1_put M 1 (32 : Int32) (Nat.le_of_ble_eq_true rfl) hq12) dX9_writeComb_37 ml_X9_92 cd_X1_put (m1 _ (Nat.le_of_ble_eq_true rfl)) rfl rfl rfl rfl rfl rfl ?_
          refine z_aload_n (i := 0) dX9_writeComb_40 rfl rfl ?_
          refine z_getR (r' := (9, 0, 0)) dX9_writeComb_41 fl_X9_40 mk0 rfl rfl ?_
          refine z_getR (r' := (12, 0, 0)) dX9_writeComb_44 fl_X9_217 (m9 _ (Nat.le_of_ble_eq_true rfl)) rfl rfl ?_
          refine z_iload_n (i := 1) dX9_writeComb_47 rfl rfl ?_
          obtain ⟨hc13, h⟩ := chk h
          refine z_aald (t := 0) (r' := (13, 0, v1.toNatClampNeg)) dX9_writeComb_48 (m12 _ (Nat.le_of_ble_eq_true rfl)) rfl (Nat.le_of_ble_eq_true rfl) hc13 rfl ?_
          refine z_fVi (sX8_brokenNow q11 0 v1.toNatClampNeg (Nat.le_of_ble_eq_true rfl) (ltN hc13)) dX9_writeComb_49 ml_X9_238 cd_X8_brokenNow (m13 _ (Nat.le_of_ble_eq_true rfl) _ (ltN hc13)) rfl rfl rfl rfl rfl rfl ?_
          refine z_if_eq (tgt := 67) dX9_writeComb_52 rfl (fun hc14 => ?_) (fun hc14 => ?_)
          · have h := it_t h hc14
            refine z_aload_n (i := 0) dX9_writeComb_67 rfl rfl ?_
            refine z_getR (r' := (1, 1, 0)) dX9_writeComb_68 fl_X9_18 mk0 rfl rfl ?_
            refine z_aload_n (i := 0) dX9_writeComb_71 rfl rfl ?_
            refine z_getR (r' := (9, 0, 0)) dX9_writeComb_72 fl_X9_40 mk0 rfl rfl ?_
            refine z_getR (r' := (12, 0, 0)) dX9_writeComb_75 fl_X9_217 (m9 _ (Nat.le_of_ble_eq_true rfl)) rfl rfl ?_
            refine z_iload_n (i := 1) dX9_writeComb_78 rfl rfl ?_
            obtain ⟨hc15, h⟩ := chk h
            refine z_aald (t := 0) (r' := (13, 0, v1.toNatClampNeg)) dX9_writeComb_79 (m12 _ (Nat.le_of_ble_eq_true rfl)) rfl (Nat.le_of_ble_eq_true rfl) hc15 rfl ?_
            refine z_fVi (sX8_pitchNow q11 0 v1.toNatClampNeg (Nat.le_of_ble_eq_true rfl) (ltN hc15)) dX9_writeComb_80 ml_X9_221 cd_X8_pitchNow (m13 _ (Nat.le_of_ble_eq_true rfl) _ (ltN hc15)) rfl rfl rfl rfl rfl rfl ?_
            obtain ⟨q16, hq17, h⟩ := bnd h
            refine z_fVv (sX1_putNumber q11 1 (fX8_pitchNow q11 0 v1.toNatClampNeg) (Nat.le_of_ble_eq_true rfl) hq17) dX9_writeComb_83 ml_X9_346 cd_X1_putNumber (m1 _ (Nat.le_of_ble_eq_true rfl)) rfl rfl rfl rfl rfl rfl ?_
            refine z_iinc (i := 1) (v := (v1 + (1 : Int32))) dX9_writeComb_86 rfl (iinc_k kc_1) (Nat.le_of_ble_eq_true rfl) rfl ?_
            refine z_goto (tgt := 10) dX9_writeComb_89 rfl ?_
            exact ih _ _ h hK
          · have h := it_f h hc14
            refine z_aload_n (i := 0) dX9_writeComb_55 rfl rfl ?_
            refine z_getR (r' := (1, 1, 0)) dX9_writeComb_56 fl_X9_18 mk0 rfl rfl ?_
            refine z_bipush (v := (120 : Int32)) dX9_writeComb_59 kb_120 ?_
            obtain ⟨q18, hq19, h⟩ := bnd h
            refine z_fVv (sX1_put q11 1 (120 : Int32) (Nat.le_of_ble_eq_true rfl) hq19) dX9_writeComb_61 ml_X9_92 cd_X1_put (m1 _ (Nat.le_of_ble_eq_true rfl)) rfl rfl rfl rfl rfl rfl ?_
            refine z_goto (tgt := 86) dX9_writeComb_64 rfl ?_
            refine z_iinc (i := 1) (v := (v1 + (1 : Int32))) dX9_writeComb_86 rfl (iinc_k kc_1) (Nat.le_of_ble_eq_true rfl) rfl ?_
            refine z_goto (tgt := 10) dX9_writeComb_89 rfl ?_
            exact ih _ _ h hK
set_option maxRecDepth 20000 in
set_option maxHeartbeats 2000000 in
theorem sX9_writeComb {wv : Nat} (M : Mm) {res : (Int32 × Mm)} (h : fX9_writeComb M  = some res) : TF wv yX9_writeComb cX9_writeComb 2 (some .int) 2 [.inr (0, 0, 0)] M (some (.int res.1)) res.2 := by
  rw [fX9_writeComb] at h
  refine TF.go (n := 1) (ls := [some (.inr (0, 0, 0)), none]) rfl rfl rfl rfl rfl ?_
  refine z_aload_n (i := 0) dX9_writeComb_0 rfl rfl ?_
  refine z_getR (r' := (1, 1, 0)) dX9_writeComb_1 fl_X9_18 mk0 rfl rfl ?_
  refine z_iconst (v := (0 : Int32)) dX9_writeComb_4 kc_0 ?_
  refine z_putI allR_nd dX9_writeComb_5 fl_X9_102 (m1 _ (Nat.le_of_ble_eq_true rfl)) rfl rfl ?_
  refine z_iconst (v := (0 : Int32)) dX9_writeComb_8 kc_0 ?_
  refine z_istore_n (i := 1) dX9_writeComb_9 rfl (Nat.le_of_ble_eq_true rfl) rfl ?_
  refine sX9_writeComb_L10  NF _ _ h (fun w20 M21 h => ?_)
  refine z_aload_n (i := 0) dX9_writeComb_92 rfl rfl ?_
  refine z_getR (r' := (1, 1, 0)) dX9_writeComb_93 fl_X9_18 mk0 rfl rfl ?_
  refine z_getI (x := (M21.1 (1, 1, 0) 1)) dX9_writeComb_96 fl_X9_102 (m1 _ (Nat.le_of_ble_eq_true rfl)) rfl rfl ?_
  cases h
  exact z_iret dX9_writeComb_99 rfl rfl (Nat.le_refl _) (Nat.le_refl _) ⟨rfl, rfl⟩
theorem dX9_outputByte_0 : decode cX9_outputByte 0 = .ok (.aload_n 0, 1) := by decide +kernel
theorem dX9_outputByte_1 : decode cX9_outputByte 1 = .ok (.getfield 18, 3) := by decide +kernel
theorem dX9_outputByte_4 : decode cX9_outputByte 4 = .ok (.iload_n 1, 1) := by decide +kernel
theorem dX9_outputByte_5 : decode cX9_outputByte 5 = .ok (.invokevirtual 349, 3) := by decide +kernel
theorem dX9_outputByte_8 : decode cX9_outputByte 8 = .ok (.ireturn, 1) := by decide +kernel
def fX9_outputByte (M : Mm) (x1 : Int32) : Option Int32 := (fX1_at M 1 x1).bind fun q1 => some q1
set_option maxRecDepth 20000 in
set_option maxHeartbeats 2000000 in
theorem sX9_outputByte {wv : Nat} (M : Mm) (x1 : Int32) {res : Int32} (h : fX9_outputByte M x1 = some res) : TF wv yX9_outputByte cX9_outputByte 2 (some .int) 1 [.inr (0, 0, 0), .inl (.int x1)] M (some (.int res)) M := by
  rw [fX9_outputByte] at h
  refine TF.go (n := 0) (ls := [some (.inr (0, 0, 0)), some (.inl (.int x1))]) rfl rfl rfl rfl rfl ?_
  refine z_aload_n (i := 0) dX9_outputByte_0 rfl rfl ?_
  refine z_getR (r' := (1, 1, 0)) dX9_outputByte_1 fl_X9_18 mk0 rfl rfl ?_
  refine z_iload_n (i := 1) dX9_outputByte_4 rfl rfl ?_
  obtain ⟨q1, hq2, h⟩ := bnd h
  refine z_fVi (sX1_at M 1 x1 (Nat.le_of_ble_eq_true rfl) hq2) dX9_outputByte_5 ml_X9_349 cd_X1_at (m1 _ (Nat.le_of_ble_eq_true rfl)) rfl rfl rfl rfl rfl rfl ?_
  cases h
  exact z_iret dX9_outputByte_8 rfl rfl (Nat.le_refl _) (Nat.le_refl _) ⟨rfl, rfl⟩
theorem dX9_undoCount_0 : decode cX9_undoCount 0 = .ok (.aload_n 0, 1) := by decide +kernel
theorem dX9_undoCount_1 : decode cX9_undoCount 1 = .ok (.getfield 68, 3) := by decide +kernel
theorem dX9_undoCount_4 : decode cX9_undoCount 4 = .ok (.getfield 352, 3) := by decide +kernel
theorem dX9_undoCount_7 : decode cX9_undoCount 7 = .ok (.ireturn, 1) := by decide +kernel
def fX9_undoCount (M : Mm) : Int32 := (M.1 (14, 0, 0) 1)
set_option maxRecDepth 20000 in
set_option maxHeartbeats 2000000 in
theorem tX9_undoCount {wv : Nat} (M : Mm) {res : Int32} (h : fX9_undoCount M  = res) : TF wv yX9_undoCount cX9_undoCount 1 (some .int) 0 [.inr (0, 0, 0)] M (some (.int res)) M := by
  rw [fX9_undoCount] at h
  refine TF.go (n := 0) (ls := [some (.inr (0, 0, 0))]) rfl rfl rfl rfl rfl ?_
  refine z_aload_n (i := 0) dX9_undoCount_0 rfl rfl ?_
  refine z_getR (r' := (14, 0, 0)) dX9_undoCount_1 fl_X9_68 mk0 rfl rfl ?_
  refine z_getI (x := (M.1 (14, 0, 0) 1)) dX9_undoCount_4 fl_X9_352 mk14 rfl rfl ?_
  subst h
  exact z_iret dX9_undoCount_7 rfl rfl (Nat.le_refl _) (Nat.le_refl _) ⟨rfl, rfl⟩
theorem sX9_undoCount {wv : Nat} (M : Mm) : TF wv yX9_undoCount cX9_undoCount 1 (some .int) 0 [.inr (0, 0, 0)] M (some (.int (fX9_undoCount M ))) M := tX9_undoCount M   rfl
theorem dX9_slotFault_0 : decode cX9_slotFault 0 = .ok (.iload_n 0, 1) := by decide +kernel
theorem dX9_slotFault_1 : decode cX9_slotFault 1 = .ok (.ifCond .lt 8, 3) := by decide +kernel
theorem dX9_slotFault_4 : decode cX9_slotFault 4 = .ok (.iload_n 0, 1) := by decide +kernel
theorem dX9_slotFault_5 : decode cX9_slotFault 5 = .ok (.iconst 2, 1) := by decide +kernel
theorem dX9_slotFault_6 : decode cX9_slotFault 6 = .ok (.if_icmp .lt 7, 3) := by decide +kernel
theorem dX9_slotFault_9 : decode cX9_slotFault 9 = .ok (.iconst 1, 1) := by decide +kernel
theorem dX9_slotFault_10 : decode cX9_slotFault 10 = .ok (.goto 4, 3) := by decide +kernel
theorem dX9_slotFault_13 : decode cX9_slotFault 13 = .ok (.iconst 0, 1) := by decide +kernel
theorem dX9_slotFault_14 : decode cX9_slotFault 14 = .ok (.ireturn, 1) := by decide +kernel
def fX9_slotFault (M : Mm) (x1 : Int32) : Int32 := if x1 < 0 then (1 : Int32) else if x1 < (2 : Int32) then (0 : Int32) else (1 : Int32)
set_option maxRecDepth 20000 in
set_option maxHeartbeats 2000000 in
theorem tX9_slotFault {wv : Nat} (M : Mm) (x1 : Int32) {res : Int32} (h : fX9_slotFault M x1 = res) : TF wv yX9_slotFault cX9_slotFault 1 (some .int) 0 [.inl (.int x1)] M (some (.int res)) M := by
  rw [fX9_slotFault] at h
  refine TF.go (n := 0) (ls := [some (.inl (.int x1))]) rfl rfl rfl rfl rfl ?_
  refine z_iload_n (i := 0) dX9_slotFault_0 rfl rfl ?_
  refine z_if_lt (tgt := 9) dX9_slotFault_1 rfl (fun hc1 => ?_) (fun hc1 => ?_)
  · have h := it_t h hc1
    refine z_iconst (v := (1 : Int32)) dX9_slotFault_9 kc_1 ?_
    refine z_goto (tgt := 14) dX9_slotFault_10 rfl ?_
    subst h
    exact z_iret dX9_slotFault_14 rfl rfl (Nat.le_refl _) (Nat.le_refl _) ⟨rfl, rfl⟩
  · have h := it_f h hc1
    refine z_iload_n (i := 0) dX9_slotFault_4 rfl rfl ?_
    refine z_iconst (v := (2 : Int32)) dX9_slotFault_5 kc_2 ?_
    refine z_icmp_lt (tgt := 13) dX9_slotFault_6 rfl (fun hc2 => ?_) (fun hc2 => ?_)
    · have h := it_t h hc2
      refine z_iconst (v := (0 : Int32)) dX9_slotFault_13 kc_0 ?_
      subst h
      exact z_iret dX9_slotFault_14 rfl rfl (Nat.le_refl _) (Nat.le_refl _) ⟨rfl, rfl⟩
    · have h := it_f h hc2
      refine z_iconst (v := (1 : Int32)) dX9_slotFault_9 kc_1 ?_
      refine z_goto (tgt := 14) dX9_slotFault_10 rfl ?_
      subst h
      exact z_iret dX9_slotFault_14 rfl rfl (Nat.le_refl _) (Nat.le_refl _) ⟨rfl, rfl⟩
theorem sX9_slotFault {wv : Nat} (M : Mm) (x1 : Int32) : TF wv yX9_slotFault cX9_slotFault 1 (some .int) 0 [.inl (.int x1)] M (some (.int (fX9_slotFault M x1))) M := tX9_slotFault M x1  rfl
theorem dX10_seen_0 : decode cX10_seen 0 = .ok (.iload_n 1, 1) := by decide +kernel
theorem dX10_seen_1 : decode cX10_seen 1 = .ok (.aload_n 0, 1) := by decide +kernel
theorem dX10_seen_2 : decode cX10_seen 2 = .ok (.getfield 70, 3) := by decide +kernel
theorem dX10_seen_5 : decode cX10_seen 5 = .ok (.if_icmp .ge 12, 3) := by decide +kernel
theorem dX10_seen_8 : decode cX10_seen 8 = .ok (.aload_n 0, 1) := by decide +kernel
theorem dX10_seen_9 : decode cX10_seen 9 = .ok (.getfield 32, 3) := by decide +kernel
theorem dX10_seen_12 : decode cX10_seen 12 = .ok (.iload_n 1, 1) := by decide +kernel
theorem dX10_seen_13 : decode cX10_seen 13 = .ok (.iaload, 1) := by decide +kernel
theorem dX10_seen_14 : decode cX10_seen 14 = .ok (.goto 4, 3) := by decide +kernel
theorem dX10_seen_17 : decode cX10_seen 17 = .ok (.iconst (-1), 1) := by decide +kernel
theorem dX10_seen_18 : decode cX10_seen 18 = .ok (.ireturn, 1) := by decide +kernel
def fX10_seen (M : Mm) (x1 : Int32) : Option Int32 := if (M.1 (18, 0, 0) 10) ≤ x1 then some (-1 : Int32) else if x1 < 0 ∨ 800 ≤ x1.toNatClampNeg then none else some (M.1 (19, 6, 0) x1.toNatClampNeg)
set_option maxRecDepth 20000 in
set_option maxHeartbeats 2000000 in
theorem sX10_seen {wv : Nat} (M : Mm) (x1 : Int32) {res : Int32} (h : fX10_seen M x1 = some res) : TF (wv + 1) yX10_seen cX10_seen 2 (some .int) 0 [.inr (18, 0, 0), .inl (.int x1)] M (some (.int res)) M := by
  rw [fX10_seen] at h
  refine TF.go (n := 0) (ls := [some (.inr (18, 0, 0)), some (.inl (.int x1))]) rfl rfl rfl rfl rfl ?_
  refine z_iload_n (i := 1) dX10_seen_0 rfl rfl ?_
  refine z_aload_n (i := 0) dX10_seen_1 rfl rfl ?_
  refine z_getI (x := (M.1 (18, 0, 0) 10)) dX10_seen_2 fl_X10_70 mk18 rfl rfl ?_
  refine z_icmp_ge (tgt := 17) dX10_seen_5 rfl (fun hc1 => ?_) (fun hc1 => ?_)
  · have h := it_t h hc1
    refine z_iconst (v := (-1 : Int32)) dX10_seen_17 kc_m1 ?_
    cases h
    exact z_iret dX10_seen_18 rfl rfl (Nat.le_refl _) (Nat.le_refl _) ⟨rfl, rfl⟩
  · have h := it_f h hc1
    refine z_aload_n (i := 0) dX10_seen_8 rfl rfl ?_
    refine z_getR (r' := (19, 6, 0)) dX10_seen_9 fl_X10_32 mk18 rfl rfl ?_
    refine z_iload_n (i := 1) dX10_seen_12 rfl rfl ?_
    obtain ⟨hc2, h⟩ := chk h
    refine z_iald (x := (M.1 (19, 6, 0) x1.toNatClampNeg)) dX10_seen_13 (m19 _ (Nat.le_of_ble_eq_true rfl)) rfl hc2 rfl ?_
    refine z_goto (tgt := 18) dX10_seen_14 rfl ?_
    cases h
    exact z_iret dX10_seen_18 rfl rfl (Nat.le_refl _) (Nat.le_refl _) ⟨rfl, rfl⟩
theorem dX10_in_0 : decode cX10_in 0 = .ok (.iload_n 1, 1) := by decide +kernel
theorem dX10_in_1 : decode cX10_in 1 = .ok (.iload_n 0, 1) := by decide +kernel
theorem dX10_in_2 : decode cX10_in 2 = .ok (.if_icmp .gt 12, 3) := by decide +kernel
theorem dX10_in_5 : decode cX10_in 5 = .ok (.iload_n 0, 1) := by decide +kernel
theorem dX10_in_6 : decode cX10_in 6 = .ok (.iload_n 2, 1) := by decide +kernel
theorem dX10_in_7 : decode cX10_in 7 = .ok (.if_icmp .gt 7, 3) := by decide +kernel
theorem dX10_in_10 : decode cX10_in 10 = .ok (.iconst 1, 1) := by decide +kernel
theorem dX10_in_11 : decode cX10_in 11 = .ok (.goto 4, 3) := by decide +kernel
theorem dX10_in_14 : decode cX10_in 14 = .ok (.iconst 0, 1) := by decide +kernel
theorem dX10_in_15 : decode cX10_in 15 = .ok (.ireturn, 1) := by decide +kernel
def fX10_in (M : Mm) (x1 : Int32) (x2 : Int32) (x3 : Int32) : Int32 := if x1 < x2 then (0 : Int32) else if x3 < x1 then (0 : Int32) else (1 : Int32)
set_option maxRecDepth 20000 in
set_option maxHeartbeats 2000000 in
theorem tX10_in {wv : Nat} (M : Mm) (x1 : Int32) (x2 : Int32) (x3 : Int32) {res : Int32} (h : fX10_in M x1 x2 x3 = res) : TF (wv + 1) yX10_in cX10_in 3 (some .boolean) 0 [.inl (.int x1), .inl (.int x2), .inl (.int x3)] M (some (.int res)) M := by
  rw [fX10_in] at h
  refine TF.go (n := 0) (ls := [some (.inl (.int x1)), some (.inl (.int x2)), some (.inl (.int x3))]) rfl rfl rfl rfl rfl ?_
  refine z_iload_n (i := 1) dX10_in_0 rfl rfl ?_
  refine z_iload_n (i := 0) dX10_in_1 rfl rfl ?_
  refine z_icmp_gt (tgt := 14) dX10_in_2 rfl (fun hc1 => ?_) (fun hc1 => ?_)
  · have h := it_t h hc1
    refine z_iconst (v := (0 : Int32)) dX10_in_14 kc_0 ?_
    subst h
    exact z_iret dX10_in_15 rfl rfl (Nat.le_refl _) (Nat.le_refl _) ⟨rfl, rfl⟩
  · have h := it_f h hc1
    refine z_iload_n (i := 0) dX10_in_5 rfl rfl ?_
    refine z_iload_n (i := 2) dX10_in_6 rfl rfl ?_
    refine z_icmp_gt (tgt := 14) dX10_in_7 rfl (fun hc2 => ?_) (fun hc2 => ?_)
    · have h := it_t h hc2
      refine z_iconst (v := (0 : Int32)) dX10_in_14 kc_0 ?_
      subst h
      exact z_iret dX10_in_15 rfl rfl (Nat.le_refl _) (Nat.le_refl _) ⟨rfl, rfl⟩
    · have h := it_f h hc2
      refine z_iconst (v := (1 : Int32)) dX10_in_10 kc_1 ?_
      refine z_goto (tgt := 15) dX10_in_11 rfl ?_
      subst h
      exact z_iret dX10_in_15 rfl rfl (Nat.le_refl _) (Nat.le_refl _) ⟨rfl, rfl⟩
theorem sX10_in {wv : Nat} (M : Mm) (x1 : Int32) (x2 : Int32) (x3 : Int32) : TF (wv + 1) yX10_in cX10_in 3 (some .boolean) 0 [.inl (.int x1), .inl (.int x2), .inl (.int x3)] M (some (.int (fX10_in M x1 x2 x3))) M := tX10_in M x1 x2 x3  rfl
theorem dX10_reads_0 : decode cX10_reads 0 = .ok (.aload_n 0, 1) := by decide +kernel
theorem dX10_reads_1 : decode cX10_reads 1 = .ok (.aload_n 0, 1) := by decide +kernel
theorem dX10_reads_2 : decode cX10_reads 2 = .ok (.getfield 134, 3) := by decide +kernel
theorem dX10_reads_5 : decode cX10_reads 5 = .ok (.invokevirtual 137, 3) := by decide +kernel
theorem dX10_reads_8 : decode cX10_reads 8 = .ok (.bipush 32, 2) := by decide +kernel
theorem dX10_reads_10 : decode cX10_reads 10 = .ok (.if_icmp .eq 16, 3) := by decide +kernel
theorem dX10_reads_13 : decode cX10_reads 13 = .ok (.aload_n 0, 1) := by decide +kernel
theorem dX10_reads_14 : decode cX10_reads 14 = .ok (.aload_n 0, 1) := by decide +kernel
theorem dX10_reads_15 : decode cX10_reads 15 = .ok (.getfield 134, 3) := by decide +kernel
theorem dX10_reads_18 : decode cX10_reads 18 = .ok (.invokevirtual 137, 3) := by decide +kernel
theorem dX10_reads_21 : decode cX10_reads 21 = .ok (.bipush 10, 2) := by decide +kernel
theorem dX10_reads_23 : decode cX10_reads 23 = .ok (.if_icmp .ne 16, 3) := by decide +kernel
theorem dX10_reads_26 : decode cX10_reads 26 = .ok (.aload_n 0, 1) := by decide +kernel
theorem dX10_reads_27 : decode cX10_reads 27 = .ok (.dup, 1) := by decide +kernel
theorem dX10_reads_28 : decode cX10_reads 28 = .ok (.getfield 134, 3) := by decide +kernel
theorem dX10_reads_31 : decode cX10_reads 31 = .ok (.iconst 1, 1) := by decide +kernel
theorem dX10_reads_32 : decode cX10_reads 32 = .ok (.iadd, 1) := by decide +kernel
theorem dX10_reads_33 : decode cX10_reads 33 = .ok (.putfield 134, 3) := by decide +kernel
theorem dX10_reads_36 : decode cX10_reads 36 = .ok (.goto (-36), 3) := by decide +kernel
theorem dX10_reads_39 : decode cX10_reads 39 = .ok (.aload_n 0, 1) := by decide +kernel
theorem dX10_reads_40 : decode cX10_reads 40 = .ok (.aload_n 0, 1) := by decide +kernel
theorem dX10_reads_41 : decode cX10_reads 41 = .ok (.getfield 134, 3) := by decide +kernel
theorem dX10_reads_44 : decode cX10_reads 44 = .ok (.putfield 140, 3) := by decide +kernel
theorem dX10_reads_47 : decode cX10_reads 47 = .ok (.aload_n 0, 1) := by decide +kernel
theorem dX10_reads_48 : decode cX10_reads 48 = .ok (.aload_n 0, 1) := by decide +kernel
theorem dX10_reads_49 : decode cX10_reads 49 = .ok (.getfield 134, 3) := by decide +kernel
theorem dX10_reads_52 : decode cX10_reads 52 = .ok (.invokevirtual 137, 3) := by decide +kernel
theorem dX10_reads_55 : decode cX10_reads 55 = .ok (.istore_n 1, 1) := by decide +kernel
theorem dX10_reads_56 : decode cX10_reads 56 = .ok (.iload_n 1, 1) := by decide +kernel
theorem dX10_reads_57 : decode cX10_reads 57 = .ok (.iconst (-1), 1) := by decide +kernel
theorem dX10_reads_58 : decode cX10_reads 58 = .ok (.if_icmp .ne 11, 3) := by decide +kernel
theorem dX10_reads_61 : decode cX10_reads 61 = .ok (.aload_n 0, 1) := by decide +kernel
theorem dX10_reads_62 : decode cX10_reads 62 = .ok (.iconst 0, 1) := by decide +kernel
theorem dX10_reads_63 : decode cX10_reads 63 = .ok (.putfield 143, 3) := by decide +kernel
theorem dX10_reads_66 : decode cX10_reads 66 = .ok (.goto 168, 3) := by decide +kernel
theorem dX10_reads_69 : decode cX10_reads 69 = .ok (.iload_n 1, 1) := by decide +kernel
theorem dX10_reads_70 : decode cX10_reads 70 = .ok (.bipush 97, 2) := by decide +kernel
theorem dX10_reads_72 : decode cX10_reads 72 = .ok (.bipush 122, 2) := by decide +kernel
theorem dX10_reads_74 : decode cX10_reads 74 = .ok (.invokestatic 82, 3) := by decide +kernel
theorem dX10_reads_77 : decode cX10_reads 77 = .ok (.ifCond .eq 39, 3) := by decide +kernel
theorem dX10_reads_80 : decode cX10_reads 80 = .ok (.aload_n 0, 1) := by decide +kernel
theorem dX10_reads_81 : decode cX10_reads 81 = .ok (.iconst 1, 1) := by decide +kernel
theorem dX10_reads_82 : decode cX10_reads 82 = .ok (.putfield 143, 3) := by decide +kernel
theorem dX10_reads_85 : decode cX10_reads 85 = .ok (.aload_n 0, 1) := by decide +kernel
theorem dX10_reads_86 : decode cX10_reads 86 = .ok (.aload_n 0, 1) := by decide +kernel
theorem dX10_reads_87 : decode cX10_reads 87 = .ok (.getfield 134, 3) := by decide +kernel
theorem dX10_reads_90 : decode cX10_reads 90 = .ok (.invokevirtual 137, 3) := by decide +kernel
theorem dX10_reads_93 : decode cX10_reads 93 = .ok (.bipush 97, 2) := by decide +kernel
theorem dX10_reads_95 : decode cX10_reads 95 = .ok (.bipush 122, 2) := by decide +kernel
theorem dX10_reads_97 : decode cX10_reads 97 = .ok (.invokestatic 82, 3) := by decide +kernel
theorem dX10_reads_100 : decode cX10_reads 100 = .ok (.ifCond .eq 134, 3) := by decide +kernel
theorem dX10_reads_103 : decode cX10_reads 103 = .ok (.aload_n 0, 1) := by decide +kernel
theorem dX10_reads_104 : decode cX10_reads 104 = .ok (.dup, 1) := by decide +kernel
theorem dX10_reads_105 : decode cX10_reads 105 = .ok (.getfield 134, 3) := by decide +kernel
theorem dX10_reads_108 : decode cX10_reads 108 = .ok (.iconst 1, 1) := by decide +kernel
theorem dX10_reads_109 : decode cX10_reads 109 = .ok (.iadd, 1) := by decide +kernel
theorem dX10_reads_110 : decode cX10_reads 110 = .ok (.putfield 134, 3) := by decide +kernel
theorem dX10_reads_113 : decode cX10_reads 113 = .ok (.goto (-28), 3) := by decide +kernel
theorem dX10_reads_116 : decode cX10_reads 116 = .ok (.iload_n 1, 1) := by decide +kernel
theorem dX10_reads_117 : decode cX10_reads 117 = .ok (.bipush 48, 2) := by decide +kernel
theorem dX10_reads_119 : decode cX10_reads 119 = .ok (.bipush 57, 2) := by decide +kernel
theorem dX10_reads_121 : decode cX10_reads 121 = .ok (.invokestatic 82, 3) := by decide +kernel
theorem dX10_reads_124 : decode cX10_reads 124 = .ok (.ifCond .eq 73, 3) := by decide +kernel
theorem dX10_reads_127 : decode cX10_reads 127 = .ok (.aload_n 0, 1) := by decide +kernel
theorem dX10_reads_128 : decode cX10_reads 128 = .ok (.iconst 2, 1) := by decide +kernel
theorem dX10_reads_129 : decode cX10_reads 129 = .ok (.putfield 143, 3) := by decide +kernel
theorem dX10_reads_132 : decode cX10_reads 132 = .ok (.aload_n 0, 1) := by decide +kernel
theorem dX10_reads_133 : decode cX10_reads 133 = .ok (.iconst 0, 1) := by decide +kernel
theorem dX10_reads_134 : decode cX10_reads 134 = .ok (.putfield 146, 3) := by decide +kernel
theorem dX10_reads_137 : decode cX10_reads 137 = .ok (.aload_n 0, 1) := by decide +kernel
theorem dX10_reads_138 : decode cX10_reads 138 = .ok (.aload_n 0, 1) := by decide +kernel
theorem dX10_reads_139 : decode cX10_reads 139 = .ok (.getfield 134, 3) := by decide +kernel
theorem dX10_reads_142 : decode cX10_reads 142 = .ok (.invokevirtual 137, 3) := by decide +kernel
theorem dX10_reads_145 : decode cX10_reads 145 = .ok (.bipush 48, 2) := by decide +kernel
theorem dX10_reads_147 : decode cX10_reads 147 = .ok (.bipush 57, 2) := by decide +kernel
theorem dX10_reads_149 : decode cX10_reads 149 = .ok (.invokestatic 82, 3) := by decide +kernel
theorem dX10_reads_152 : decode cX10_reads 152 = .ok (.ifCond .eq 82, 3) := by decide +kernel
theorem dX10_reads_155 : decode cX10_reads 155 = .ok (.aload_n 0, 1) := by decide +kernel
theorem dX10_reads_156 : decode cX10_reads 156 = .ok (.sipush 10000, 3) := by decide +kernel
theorem dX10_reads_159 : decode cX10_reads 159 = .ok (.bipush 10, 2) := by decide +kernel
theorem dX10_reads_161 : decode cX10_reads 161 = .ok (.aload_n 0, 1) := by decide +kernel
theorem dX10_reads_162 : decode cX10_reads 162 = .ok (.getfield 146, 3) := by decide +kernel
theorem dX10_reads_165 : decode cX10_reads 165 = .ok (.imul, 1) := by decide +kernel
theorem dX10_reads_166 : decode cX10_reads 166 = .ok (.aload_n 0, 1) := by decide +kernel
theorem dX10_reads_167 : decode cX10_reads 167 = .ok (.aload_n 0, 1) := by decide +kernel
theorem dX10_reads_168 : decode cX10_reads 168 = .ok (.getfield 134, 3) := by decide +kernel
theorem dX10_reads_171 : decode cX10_reads 171 = .ok (.invokevirtual 137, 3) := by decide +kernel
theorem dX10_reads_174 : decode cX10_reads 174 = .ok (.iadd, 1) := by decide +kernel
theorem dX10_reads_175 : decode cX10_reads 175 = .ok (.bipush 48, 2) := by decide +kernel
theorem dX10_reads_177 : decode cX10_reads 177 = .ok (.isub, 1) := by decide +kernel
theorem dX10_reads_178 : decode cX10_reads 178 = .ok (.invokestatic 116, 3) := by decide +kernel
theorem dX10_reads_181 : decode cX10_reads 181 = .ok (.putfield 146, 3) := by decide +kernel
theorem dX10_reads_184 : decode cX10_reads 184 = .ok (.aload_n 0, 1) := by decide +kernel
theorem dX10_reads_185 : decode cX10_reads 185 = .ok (.dup, 1) := by decide +kernel
theorem dX10_reads_186 : decode cX10_reads 186 = .ok (.getfield 134, 3) := by decide +kernel
theorem dX10_reads_189 : decode cX10_reads 189 = .ok (.iconst 1, 1) := by decide +kernel
theorem dX10_reads_190 : decode cX10_reads 190 = .ok (.iadd, 1) := by decide +kernel
theorem dX10_reads_191 : decode cX10_reads 191 = .ok (.putfield 134, 3) := by decide +kernel
theorem dX10_reads_194 : decode cX10_reads 194 = .ok (.goto (-57), 3) := by decide +kernel
theorem dX10_reads_197 : decode cX10_reads 197 = .ok (.aload_n 0, 1) := by decide +kernel
theorem dX10_reads_198 : decode cX10_reads 198 = .ok (.iload_n 1, 1) := by decide +kernel
theorem dX10_reads_199 : decode cX10_reads 199 = .ok (.bipush 59, 2) := by decide +kernel
theorem dX10_reads_201 : decode cX10_reads 201 = .ok (.if_icmp .eq 15, 3) := by decide +kernel
theorem dX10_reads_204 : decode cX10_reads 204 = .ok (.iload_n 1, 1) := by decide +kernel
theorem dX10_reads_205 : decode cX10_reads 205 = .ok (.bipush 40, 2) := by decide +kernel
theorem dX10_reads_207 : decode cX10_reads 207 = .ok (.if_icmp .eq 9, 3) := by decide +kernel
theorem dX10_reads_210 : decode cX10_reads 210 = .ok (.iload_n 1, 1) := by decide +kernel
theorem dX10_reads_211 : decode cX10_reads 211 = .ok (.bipush 41, 2) := by decide +kernel
theorem dX10_reads_213 : decode cX10_reads 213 = .ok (.if_icmp .ne 7, 3) := by decide +kernel
theorem dX10_reads_216 : decode cX10_reads 216 = .ok (.iconst 3, 1) := by decide +kernel
theorem dX10_reads_217 : decode cX10_reads 217 = .ok (.goto 4, 3) := by decide +kernel
theorem dX10_reads_220 : decode cX10_reads 220 = .ok (.iconst 4, 1) := by decide +kernel
theorem dX10_reads_221 : decode cX10_reads 221 = .ok (.putfield 143, 3) := by decide +kernel
theorem dX10_reads_224 : decode cX10_reads 224 = .ok (.aload_n 0, 1) := by decide +kernel
theorem dX10_reads_225 : decode cX10_reads 225 = .ok (.dup, 1) := by decide +kernel
theorem dX10_reads_226 : decode cX10_reads 226 = .ok (.getfield 134, 3) := by decide +kernel
theorem dX10_reads_229 : decode cX10_reads 229 = .ok (.iconst 1, 1) := by decide +kernel
theorem dX10_reads_230 : decode cX10_reads 230 = .ok (.iadd, 1) := by decide +kernel
theorem dX10_reads_231 : decode cX10_reads 231 = .ok (.putfield 134, 3) := by decide +kernel
theorem dX10_reads_234 : decode cX10_reads 234 = .ok (.return_, 1) := by decide +kernel
def fX10_reads_L0 (K : Mm → Option Mm) : Nat → Mm → Option Mm
  | 0, _ => none
  | n + 1, M => (fX10_seen M (M.1 (18, 0, 0) 13)).bind fun q1 => if q1 = (32 : Int32) then fX10_reads_L0 K n (putI M (18, 0, 0) 13 ((M.1 (18, 0, 0) 13) + (1 : Int32))) else (fX10_seen M (M.1 (18, 0, 0) 13)).bind fun q4 => if q4 = (10 : Int32) then fX10_reads_L0 K n (putI M (18, 0, 0) 13 ((M.1 (18, 0, 0) 13) + (1 : Int32))) else K M
def fX10_reads_L137 (K : Mm → Option Mm) : Nat → Mm → Option Mm
  | 0, _ => none
  | n + 1, M => (fX10_seen M (M.1 (18, 0, 0) 13)).bind fun q16 => if (fX10_in M q16 (48 : Int32) (57 : Int32)) = 0 then K M else (fX10_seen M (M.1 (18, 0, 0) 13)).bind fun q19 => fX10_reads_L137 K n (putI (putI M (18, 0, 0) 16 (fJ9_min_7cf53 M (10000 : Int32) ((((10 : Int32) * (M.1 (18, 0, 0) 16)) + q19) - (48 : Int32)))) (18, 0, 0) 13 ((M.1 (18, 0, 0) 13) + (1 : Int32)))
def fX10_reads_L85 (K : Mm → Option Mm) : Nat → Mm → Option Mm
  | 0, _ => none
  | n + 1, M => (fX10_seen M (M.1 (18, 0, 0) 13)).bind fun q22 => if (fX10_in M q22 (97 : Int32) (122 : Int32)) = 0 then K M else fX10_reads_L85 K n (putI M (18, 0, 0) 13 ((M.1 (18, 0, 0) 13) + (1 : Int32)))
def fX10_reads (M : Mm) : Option Mm := fX10_reads_L0 (fun M7 => (fX10_seen (putI M7 (18, 0, 0) 14 (M7.1 (18, 0, 0) 13)) (M7.1 (18, 0, 0) 13)).bind fun q8 => if q8 = (-1 : Int32) then some (putI (putI M7 (18, 0, 0) 14 (M7.1 (18, 0, 0) 13)) (18, 0, 0) 15 (0 : Int32)) else if (fX10_in (putI M7 (18, 0, 0) 14 (M7.1 (18, 0, 0) 13)) q8 (97 : Int32) (122 : Int32)) = 0 then (if (fX10_in (putI M7 (18, 0, 0) 14 (M7.1 (18, 0, 0) 13)) q8 (48 : Int32) (57 : Int32)) = 0 then (if q8 = (59 : Int32) then some (putI (putI (putI M7 (18, 0, 0) 14 (M7.1 (18, 0, 0) 13)) (18, 0, 0) 15 (3 : Int32)) (18, 0, 0) 13 ((M7.1 (18, 0, 0) 13) + (1 : Int32))) else if q8 = (40 : Int32) then some (putI (putI (putI M7 (18, 0, 0) 14 (M7.1 (18, 0, 0) 13)) (18, 0, 0) 15 (3 : Int32)) (18, 0, 0) 13 ((M7.1 (18, 0, 0) 13) + (1 : Int32))) else if q8 = (41 : Int32) then some (putI (putI (putI M7 (18, 0, 0) 14 (M7.1 (18, 0, 0) 13)) (18, 0, 0) 15 (3 : Int32)) (18, 0, 0) 13 ((M7.1 (18, 0, 0) 13) + (1 : Int32))) else some (putI (putI (putI M7 (18, 0, 0) 14 (M7.1 (18, 0, 0) 13)) (18, 0, 0) 15 (4 : Int32)) (18, 0, 0) 13 ((M7.1 (18, 0, 0) 13) + (1 : Int32)))) else fX10_reads_L137 (fun M21 => some M21) NF (putI (putI (putI M7 (18, 0, 0) 14 (M7.1 (18, 0, 0) 13)) (18, 0, 0) 15 (2 : Int32)) (18, 0, 0) 16 (0 : Int32))) else fX10_reads_L85 (fun M25 => some M25) NF (putI (putI M7 (18, 0, 0) 14 (M7.1 (18, 0, 0) 13)) (18, 0, 0) 15 (1 : Int32))) NF M
set_option maxRecDepth 20000 in
set_option maxHeartbeats 2000000 in
theorem sX10_reads_L0 {wv : Nat} {res : Mm} {K : Mm → Option Mm} : ∀ (n : Nat) (M : Mm), fX10_reads_L0 K n M = some res →
    (∀ (M : Mm), K M = some res → Z RX10 cX10_reads 2 none [] "reads" (rmD 1 0 0) (QM SH (allR (wv + 1)) 0 0 (fun v M9 => v = none ∧ M9 = res) (fun _ _ => False)) (allR (wv + 1)) SH 0 0 39 [some (.inr (18, 0, 0)), none] [] M) → Z RX10 cX10_reads 2 none [] "reads" (rmD 1 0 0) (QM SH (allR (wv + 1)) 0 0 (fun v M9 => v = none ∧ M9 = res) (fun _ _ => False)) (allR (wv + 1)) SH 0 0 0 [some (.inr (18, 0, 0)), none] [] M := by
  intro n
  induction n with
  | zero => intro M h; cases h
  | succ n ih =>
    intro M h hK
    rw [fX10_reads_L0] at h
    refine z_aload_n (i := 0) dX10_reads_0 rfl rfl ?_
    refine z_aload_n (i := 0) dX10_reads_1 rfl rfl ?_
    refine z_getI (x := (M.1 (18, 0, 0) 13)) dX10_reads_2 fl_X10_134 mk18 rfl rfl ?_
    obtain ⟨q1, hq2, h⟩ := bnd h
    refine z_fVi (sX10_seen M (M.1 (18, 0, 0) 13) hq2) dX10_reads_5 ml_X10_137 cd_X10_seen mk18 rfl rfl rfl rfl rfl rfl ?_
    refine z_bipush (v := (32 : Int32)) dX10_reads_8 kb_32 ?_
    refine z_icmp_eq (tgt := 26) dX10_reads_10 rfl (fun hc3 => ?_) (fun hc3 => ?_)
    · have h := it_t h hc3
      refine z_aload_n (i := 0) dX10_reads_26 rfl rfl ?_
      refine z_dup dX10_reads_27 rfl ?_
      refine z_getI (x := (M.1 (18, 0, 0) 13)) dX10_reads_28 fl_X10_134 mk18 rfl rfl ?_
      refine z_iconst (v := (1 : Int32)) dX10_reads_31 kc_1 ?_
      refine z_iadd dX10_reads_32 ?_
      refine z_putI allR_nd dX10_reads_33 fl_X10_134 mk18 rfl rfl ?_
      refine z_goto (tgt := 0) dX10_reads_36 rfl ?_
      exact ih _ h hK
    · have h := it_f h hc3
      refine z_aload_n (i := 0) dX10_reads_13 rfl rfl ?_
      refine z_aload_n (i := 0) dX10_reads_14 rfl rfl ?_
      refine z_getI (x := (M.1 (18, 0, 0) 13)) dX10_reads_15 fl_X10_134 mk18 rfl rfl ?_
      obtain ⟨q4, hq5, h⟩ := bnd h
      refine z_fVi (sX10_seen M (M.1 (18, 0, 0) 13) hq5) dX10_reads_18 ml_X10_137 cd_X10_seen mk18 rfl rfl rfl rfl rfl rfl ?_
      refine z_bipush (v := (10 : Int32)) dX10_reads_21 kb_10 ?_
      refine z_icmp_ne (tgt := 39) dX10_reads_23 rfl (fun hc6 => ?_) (fun hc6 => ?_)
      · have h := it_f h hc6
        exact hK _ h
      · have h := it_t h hc6
        refine z_aload_n (i := 0) dX10_reads_26 rfl rfl ?_
        refine z_dup dX10_reads_27 rfl ?_
        refine z_getI (x := (M.1 (18, 0, 0) 13)) dX10_reads_28 fl_X10_134 mk18 rfl rfl ?_
        refine z_iconst (v := (1 : Int32)) dX10_reads_31 kc_1 ?_
        refine z_iadd dX10_reads_32 ?_
        refine z_putI allR_nd dX10_reads_33 fl_X10_134 mk18 rfl rfl ?_
        refine z_goto (tgt := 0) dX10_reads_36 rfl ?_
        exact ih _ h hK
set_option maxRecDepth 20000 in
set_option maxHeartbeats 2000000 in
theorem sX10_reads_L137 {wv : Nat} {res : Mm} {K : Mm → Option Mm} : ∀ (n : Nat) (M : Mm), fX10_reads_L137 K n M = some res →
    (∀ (M : Mm), K M = some res → Z RX10 cX10_reads 2 none [] "reads" (rmD 1 0 0) (QM SH (allR (wv + 1)) 0 0 (fun v M9 => v = none ∧ M9 = res) (fun _ _ => False)) (allR (wv + 1)) SH 0 0 234 [some (.inr (18, 0, 0)), none] [] M) → Z RX10 cX10_reads 2 none [] "reads" (rmD 1 0 0) (QM SH (allR (wv + 1)) 0 0 (fun v M9 => v = none ∧ M9 = res) (fun _ _ => False)) (allR (wv + 1)) SH 0 0 137 [some (.inr (18, 0, 0)), none] [] M := by
  intro n
  induction n with
  | zero => intro M h; cases h
  | succ n ih =>
    intro M h hK
    rw [fX10_reads_L137] at h
    refine z_aload_n (i := 0) dX10_reads_137 rfl rfl ?_
    refine z_aload_n (i := 0) dX10_reads_138 rfl rfl ?_
    refine z_getI (x := (M.1 (18, 0, 0) 13)) dX10_reads_139 fl_X10_134 mk18 rfl rfl ?_
    obtain ⟨q16, hq17, h⟩ := bnd h
    refine z_fVi (sX10_seen M (M.1 (18, 0, 0) 13) hq17) dX10_reads_142 ml_X10_137 cd_X10_seen mk18 rfl rfl rfl rfl rfl rfl ?_
    refine z_bipush (v := (48 : Int32)) dX10_reads_145 kb_48 ?_
    refine z_bipush (v := (57 : Int32)) dX10_reads_147 kb_57 ?_
    refine z_fSi (sX10_in M q16 (48 : Int32) (57 : Int32)) dX10_reads_149 ml_X10_82 cd_X10_in rfl rfl rfl rfl rfl ?_
    refine z_if_eq (tgt := 234) dX10_reads_152 rfl (fun hc18 => ?_) (fun hc18 => ?_)
    · have h := it_t h hc18
      exact hK _ h
    · have h := it_f h hc18
      refine z_aload_n (i := 0) dX10_reads_155 rfl rfl ?_
      refine z_sipush (v := (10000 : Int32)) dX10_reads_156 ks_10000 ?_
      refine z_bipush (v := (10 : Int32)) dX10_reads_159 kb_10 ?_
      refine z_aload_n (i := 0) dX10_reads_161 rfl rfl ?_
      refine z_getI (x := (M.1 (18, 0, 0) 16)) dX10_reads_162 fl_X10_146 mk18 rfl rfl ?_
      refine z_imul dX10_reads_165 ?_
      refine z_aload_n (i := 0) dX10_reads_166 rfl rfl ?_
      refine z_aload_n (i := 0) dX10_reads_167 rfl rfl ?_
      refine z_getI (x := (M.1 (18, 0, 0) 13)) dX10_reads_168 fl_X10_134 mk18 rfl rfl ?_
      obtain ⟨q19, hq20, h⟩ := bnd h
      refine z_fVi (sX10_seen M (M.1 (18, 0, 0) 13) hq20) dX10_reads_171 ml_X10_137 cd_X10_seen mk18 rfl rfl rfl rfl rfl rfl ?_
      refine z_iadd dX10_reads_174 ?_
      refine z_bipush (v := (48 : Int32)) dX10_reads_175 kb_48 ?_
      refine z_isub dX10_reads_177 ?_
      refine z_fSi (sJ9_min_7cf53 M (10000 : Int32) ((((10 : Int32) * (M.1 (18, 0, 0) 16)) + q19) - (48 : Int32))) dX10_reads_178 ml_X10_116 cd_J9_min_7cf53 rfl rfl rfl rfl rfl ?_
      refine z_putI allR_nd dX10_reads_181 fl_X10_146 mk18 rfl rfl ?_
      refine z_aload_n (i := 0) dX10_reads_184 rfl rfl ?_
      refine z_dup dX10_reads_185 rfl ?_
      refine z_getI (x := (M.1 (18, 0, 0) 13)) dX10_reads_186 fl_X10_134 mk18 rfl rfl ?_
      refine z_iconst (v := (1 : Int32)) dX10_reads_189 kc_1 ?_
      refine z_iadd dX10_reads_190 ?_
      refine z_putI allR_nd dX10_reads_191 fl_X10_134 mk18 rfl rfl ?_
      refine z_goto (tgt := 137) dX10_reads_194 rfl ?_
      exact ih _ h hK
set_option maxRecDepth 20000 in
set_option maxHeartbeats 2000000 in
theorem sX10_reads_L85 {wv : Nat} {res : Mm} {K : Mm → Option Mm} : ∀ (n : Nat) (M : Mm), fX10_reads_L85 K n M = some res →
    (∀ (M : Mm), K M = some res → Z RX10 cX10_reads 2 none [] "reads" (rmD 1 0 0) (QM SH (allR (wv + 1)) 0 0 (fun v M9 => v = none ∧ M9 = res) (fun _ _ => False)) (allR (wv + 1)) SH 0 0 234 [some (.inr (18, 0, 0)), none] [] M) → Z RX10 cX10_reads 2 none [] "reads" (rmD 1 0 0) (QM SH (allR (wv + 1)) 0 0 (fun v M9 => v = none ∧ M9 = res) (fun _ _ => False)) (allR (wv + 1)) SH 0 0 85 [some (.inr (18, 0, 0)), none] [] M := by
  intro n
  induction n with
  | zero => intro M h; cases h
  | succ n ih =>
    intro M h hK
    rw [fX10_reads_L85] at h
    refine z_aload_n (i := 0) dX10_reads_85 rfl rfl ?_
    refine z_aload_n (i := 0) dX10_reads_86 rfl rfl ?_
    refine z_getI (x := (M.1 (18, 0, 0) 13)) dX10_reads_87 fl_X10_134 mk18 rfl rfl ?_
    obtain ⟨q22, hq23, h⟩ := bnd h
    refine z_fVi (sX10_seen M (M.1 (18, 0, 0) 13) hq23) dX10_reads_90 ml_X10_137 cd_X10_seen mk18 rfl rfl rfl rfl rfl rfl ?_
    refine z_bipush (v := (97 : Int32)) dX10_reads_93 kb_97 ?_
    refine z_bipush (v := (122 : Int32)) dX10_reads_95 kb_122 ?_
    refine z_fSi (sX10_in M q22 (97 : Int32) (122 : Int32)) dX10_reads_97 ml_X10_82 cd_X10_in rfl rfl rfl rfl rfl ?_
    refine z_if_eq (tgt := 234) dX10_reads_100 rfl (fun hc24 => ?_) (fun hc24 => ?_)
    · have h := it_t h hc24
      exact hK _ h
    · have h := it_f h hc24
      refine z_aload_n (i := 0) dX10_reads_103 rfl rfl ?_
      refine z_dup dX10_reads_104 rfl ?_
      refine z_getI (x := (M.1 (18, 0, 0) 13)) dX10_reads_105 fl_X10_134 mk18 rfl rfl ?_
      refine z_iconst (v := (1 : Int32)) dX10_reads_108 kc_1 ?_
      refine z_iadd dX10_reads_109 ?_
      refine z_putI allR_nd dX10_reads_110 fl_X10_134 mk18 rfl rfl ?_
      refine z_goto (tgt := 85) dX10_reads_113 rfl ?_
      exact ih _ h hK
set_option maxRecDepth 20000 in
set_option maxHeartbeats 2000000 in
theorem sX10_reads {wv : Nat} (M : Mm) {res : Mm} (h : fX10_reads M  = some res) : TF (wv + 1) yX10_reads cX10_reads 2 none 1 [.inr (18, 0, 0)] M (none) res := by
  rw [fX10_reads] at h
  refine TF.go (n := 1) (ls := [some (.inr (18, 0, 0)), none]) rfl rfl rfl rfl rfl ?_
  refine sX10_reads_L0  NF _ h (fun M7 h => ?_)
  refine z_aload_n (i := 0) dX10_reads_39 rfl rfl ?_
  refine z_aload_n (i := 0) dX10_reads_40 rfl rfl ?_
  refine z_getI (x := (M7.1 (18, 0, 0) 13)) dX10_reads_41 fl_X10_134 mk18 rfl rfl ?_
  refine z_putI allR_nd dX10_reads_44 fl_X10_140 mk18 rfl rfl ?_
  refine z_aload_n (i := 0) dX10_reads_47 rfl rfl ?_
  refine z_aload_n (i := 0) dX10_reads_48 rfl rfl ?_
  refine z_getI (x := (M7.1 (18, 0, 0) 13)) dX10_reads_49 fl_X10_134 mk18 rfl rfl ?_
  obtain ⟨q8, hq9, h⟩ := bnd h
  refine z_fVi (sX10_seen (putI M7 (18, 0, 0) 14 (M7.1 (18, 0, 0) 13)) (M7.1 (18, 0, 0) 13) hq9) dX10_reads_52 ml_X10_137 cd_X10_seen mk18 rfl rfl rfl rfl rfl rfl ?_
  refine z_istore_n (i := 1) dX10_reads_55 rfl (Nat.le_of_ble_eq_true rfl) rfl ?_
  refine z_iload_n (i := 1) dX10_reads_56 rfl rfl ?_
  refine z_iconst (v := (-1 : Int32)) dX10_reads_57 kc_m1 ?_
  refine z_icmp_ne (tgt := 69) dX10_reads_58 rfl (fun hc10 => ?_) (fun hc10 => ?_)
  · have h := it_f h hc10
    refine z_iload_n (i := 1) dX10_reads_69 rfl rfl ?_
    refine z_bipush (v := (97 : Int32)) dX10_reads_70 kb_97 ?_
    refine z_bipush (v := (122 : Int32)) dX10_reads_72 kb_122 ?_
    refine z_fSi (sX10_in (putI M7 (18, 0, 0) 14 (M7.1 (18, 0, 0) 13)) q8 (97 : Int32) (122 : Int32)) dX10_reads_74 ml_X10_82 cd_X10_in rfl rfl rfl rfl rfl ?_
    refine z_if_eq (tgt := 116) dX10_reads_77 rfl (fun hc11 => ?_) (fun hc11 => ?_)
    · have h := it_t h hc11
      refine z_iload_n (i := 1) dX10_reads_116 rfl rfl ?_
      refine z_bipush (v := (48 : Int32)) dX10_reads_117 kb_48 ?_
      refine z_bipush (v := (57 : Int32)) dX10_reads_119 kb_57 ?_
      refine z_fSi (sX10_in (putI M7 (18, 0, 0) 14 (M7.1 (18, 0, 0) 13)) q8 (48 : Int32) (57 : Int32)) dX10_reads_121 ml_X10_82 cd_X10_in rfl rfl rfl rfl rfl ?_
      refine z_if_eq (tgt := 197) dX10_reads_124 rfl (fun hc12 => ?_) (fun hc12 => ?_)
      · have h := it_t h hc12
        refine z_aload_n (i := 0) dX10_reads_197 rfl rfl ?_
        refine z_iload_n (i := 1) dX10_reads_198 rfl rfl ?_
        refine z_bipush (v := (59 : Int32)) dX10_reads_199 kb_59 ?_
        refine z_icmp_eq (tgt := 216) dX10_reads_201 rfl (fun hc13 => ?_) (fun hc13 => ?_)
        · have h := it_t h hc13
          refine z_iconst (v := (3 : Int32)) dX10_reads_216 kc_3 ?_
          refine z_goto (tgt := 221) dX10_reads_217 rfl ?_
          refine z_putI allR_nd dX10_reads_221 fl_X10_143 mk18 rfl rfl ?_
          refine z_aload_n (i := 0) dX10_reads_224 rfl rfl ?_
          refine z_dup dX10_reads_225 rfl ?_
          refine z_getI (x := (M7.1 (18, 0, 0) 13)) dX10_reads_226 fl_X10_134 mk18 rfl rfl ?_
          refine z_iconst (v := (1 : Int32)) dX10_reads_229 kc_1 ?_
          refine z_iadd dX10_reads_230 ?_
          refine z_putI allR_nd dX10_reads_231 fl_X10_134 mk18 rfl rfl ?_
          cases h
          exact z_vret dX10_reads_234 rfl (Nat.le_refl _) (Nat.le_refl _) ⟨rfl, rfl⟩
        · have h := it_f h hc13
          refine z_iload_n (i := 1) dX10_reads_204 rfl rfl ?_
          refine z_bipush (v := (40 : Int32)) dX10_reads_205 kb_40 ?_
          refine z_icmp_eq (tgt := 216) dX10_reads_207 rfl (fun hc14 => ?_) (fun hc14 => ?_)
          · have h := it_t h hc14
            refine z_iconst (v := (3 : Int32)) dX10_reads_216 kc_3 ?_
            refine z_goto (tgt := 221) dX10_reads_217 rfl ?_
            refine z_putI allR_nd dX10_reads_221 fl_X10_143 mk18 rfl rfl ?_
            refine z_aload_n (i := 0) dX10_reads_224 rfl rfl ?_
            refine z_dup dX10_reads_225 rfl ?_
            refine z_getI (x := (M7.1 (18, 0, 0) 13)) dX10_reads_226 fl_X10_134 mk18 rfl rfl ?_
            refine z_iconst (v := (1 : Int32)) dX10_reads_229 kc_1 ?_
            refine z_iadd dX10_reads_230 ?_
            refine z_putI allR_nd dX10_reads_231 fl_X10_134 mk18 rfl rfl ?_
            cases h
            exact z_vret dX10_reads_234 rfl (Nat.le_refl _) (Nat.le_refl _) ⟨rfl, rfl⟩
          · have h := it_f h hc14
            refine z_iload_n (i := 1) dX10_reads_210 rfl rfl ?_
            refine z_bipush (v := (41 : Int32)) dX10_reads_211 kb_41 ?_
            refine z_icmp_ne (tgt := 220) dX10_reads_213 rfl (fun hc15 => ?_) (fun hc15 => ?_)
            · have h := it_f h hc15
              refine z_iconst (v := (4 : Int32)) dX10_reads_220 kc_4 ?_
              refine z_putI allR_nd dX10_reads_221 fl_X10_143 mk18 rfl rfl ?_
              refine z_aload_n (i := 0) dX10_reads_224 rfl rfl ?_
              refine z_dup dX10_reads_225 rfl ?_
              refine z_getI (x := (M7.1 (18, 0, 0) 13)) dX10_reads_226 fl_X10_134 mk18 rfl rfl ?_
              refine z_iconst (v := (1 : Int32)) dX10_reads_229 kc_1 ?_
              refine z_iadd dX10_reads_230 ?_
              refine z_putI allR_nd dX10_reads_231 fl_X10_134 mk18 rfl rfl ?_
              cases h
              exact z_vret dX10_reads_234 rfl (Nat.le_refl _) (Nat.le_refl _) ⟨rfl, rfl⟩
            · have h := it_t h hc15
              refine z_iconst (v := (3 : Int32)) dX10_reads_216 kc_3 ?_
              refine z_goto (tgt := 221) dX10_reads_217 rfl ?_
              refine z_putI allR_nd dX10_reads_221 fl_X10_143 mk18 rfl rfl ?_
              refine z_aload_n (i := 0) dX10_reads_224 rfl rfl ?_
              refine z_dup dX10_reads_225 rfl ?_
              refine z_getI (x := (M7.1 (18, 0, 0) 13)) dX10_reads_226 fl_X10_134 mk18 rfl rfl ?_
              refine z_iconst (v := (1 : Int32)) dX10_reads_229 kc_1 ?_
              refine z_iadd dX10_reads_230 ?_
              refine z_putI allR_nd dX10_reads_231 fl_X10_134 mk18 rfl rfl ?_
              cases h
              exact z_vret dX10_reads_234 rfl (Nat.le_refl _) (Nat.le_refl _) ⟨rfl, rfl⟩
      · have h := it_f h hc12
        refine z_aload_n (i := 0) dX10_reads_127 rfl rfl ?_
        refine z_iconst (v := (2 : Int32)) dX10_reads_128 kc_2 ?_
        refine z_putI allR_nd dX10_reads_129 fl_X10_143 mk18 rfl rfl ?_
        refine z_aload_n (i := 0) dX10_reads_132 rfl rfl ?_
        refine z_iconst (v := (0 : Int32)) dX10_reads_133 kc_0 ?_
        refine z_putI allR_nd dX10_reads_134 fl_X10_146 mk18 rfl rfl ?_
        refine z_fgt (i := 1) ?_
        refine sX10_reads_L137  NF _ h (fun M21 h => ?_)
        cases h
        exact z_vret dX10_reads_234 rfl (Nat.le_refl _) (Nat.le_refl _) ⟨rfl, rfl⟩
    · have h := it_f h hc11
      refine z_aload_n (i := 0) dX10_reads_80 rfl rfl ?_
      refine z_iconst (v := (1 : Int32)) dX10_reads_81 kc_1 ?_
      refine z_putI allR_nd dX10_reads_82 fl_X10_143 mk18 rfl rfl ?_
      refine z_fgt (i := 1) ?_
      refine sX10_reads_L85  NF _ h (fun M25 h => ?_)
      cases h
      exact z_vret dX10_reads_234 rfl (Nat.le_refl _) (Nat.le_refl _) ⟨rfl, rfl⟩
  · have h := it_t h hc10
    refine z_aload_n (i := 0) dX10_reads_61 rfl rfl ?_
    refine z_iconst (v := (0 : Int32)) dX10_reads_62 kc_0 ?_
    refine z_putI allR_nd dX10_reads_63 fl_X10_143 mk18 rfl rfl ?_
    refine z_goto (tgt := 234) dX10_reads_66 rfl ?_
    cases h
    exact z_vret dX10_reads_234 rfl (Nat.le_refl _) (Nat.le_refl _) ⟨rfl, rfl⟩
theorem dX10_starts_0 : decode cX10_starts 0 = .ok (.aload_n 0, 1) := by decide +kernel
theorem dX10_starts_1 : decode cX10_starts 1 = .ok (.iconst 0, 1) := by decide +kernel
theorem dX10_starts_2 : decode cX10_starts 2 = .ok (.putfield 134, 3) := by decide +kernel
theorem dX10_starts_5 : decode cX10_starts 5 = .ok (.aload_n 0, 1) := by decide +kernel
theorem dX10_starts_6 : decode cX10_starts 6 = .ok (.iconst 0, 1) := by decide +kernel
theorem dX10_starts_7 : decode cX10_starts 7 = .ok (.putfield 149, 3) := by decide +kernel
theorem dX10_starts_10 : decode cX10_starts 10 = .ok (.aload_n 0, 1) := by decide +kernel
theorem dX10_starts_11 : decode cX10_starts 11 = .ok (.iconst (-1), 1) := by decide +kernel
theorem dX10_starts_12 : decode cX10_starts 12 = .ok (.putfield 152, 3) := by decide +kernel
theorem dX10_starts_15 : decode cX10_starts 15 = .ok (.aload_n 0, 1) := by decide +kernel
theorem dX10_starts_16 : decode cX10_starts 16 = .ok (.invokevirtual 155, 3) := by decide +kernel
theorem dX10_starts_19 : decode cX10_starts 19 = .ok (.return_, 1) := by decide +kernel
def fX10_starts (M : Mm) : Option Mm := (fX10_reads (putI (putI (putI M (18, 0, 0) 13 (0 : Int32)) (18, 0, 0) 17 (0 : Int32)) (18, 0, 0) 18 (-1 : Int32))).bind fun q1 => some q1
set_option maxRecDepth 20000 in
set_option maxHeartbeats 2000000 in
theorem sX10_starts {wv : Nat} (M : Mm) {res : Mm} (h : fX10_starts M  = some res) : TF (wv + 1) yX10_starts cX10_starts 1 none 2 [.inr (18, 0, 0)] M (none) res := by
  rw [fX10_starts] at h
  refine TF.go (n := 0) (ls := [some (.inr (18, 0, 0))]) rfl rfl rfl rfl rfl ?_
  refine z_aload_n (i := 0) dX10_starts_0 rfl rfl ?_
  refine z_iconst (v := (0 : Int32)) dX10_starts_1 kc_0 ?_
  refine z_putI allR_nd dX10_starts_2 fl_X10_134 mk18 rfl rfl ?_
  refine z_aload_n (i := 0) dX10_starts_5 rfl rfl ?_
  refine z_iconst (v := (0 : Int32)) dX10_starts_6 kc_0 ?_
  refine z_putI allR_nd dX10_starts_7 fl_X10_149 mk18 rfl rfl ?_
  refine z_aload_n (i := 0) dX10_starts_10 rfl rfl ?_
  refine z_iconst (v := (-1 : Int32)) dX10_starts_11 kc_m1 ?_
  refine z_putI allR_nd dX10_starts_12 fl_X10_152 mk18 rfl rfl ?_
  refine z_aload_n (i := 0) dX10_starts_15 rfl rfl ?_
  obtain ⟨q1, hq2, h⟩ := bnd h
  refine z_fVv (sX10_reads (putI (putI (putI M (18, 0, 0) 13 (0 : Int32)) (18, 0, 0) 17 (0 : Int32)) (18, 0, 0) 18 (-1 : Int32)) hq2) dX10_starts_16 ml_X10_155 cd_X10_reads mk18 rfl rfl rfl rfl rfl rfl ?_
  cases h
  exact z_vret dX10_starts_19 rfl (Nat.le_refl _) (Nat.le_refl _) ⟨rfl, rfl⟩
theorem dX10_isWord_0 : decode cX10_isWord 0 = .ok (.aload_n 0, 1) := by decide +kernel
theorem dX10_isWord_1 : decode cX10_isWord 1 = .ok (.getfield 149, 3) := by decide +kernel
theorem dX10_isWord_4 : decode cX10_isWord 4 = .ok (.ifCond .ne 27, 3) := by decide +kernel
theorem dX10_isWord_7 : decode cX10_isWord 7 = .ok (.aload_n 0, 1) := by decide +kernel
theorem dX10_isWord_8 : decode cX10_isWord 8 = .ok (.getfield 143, 3) := by decide +kernel
theorem dX10_isWord_11 : decode cX10_isWord 11 = .ok (.iconst 1, 1) := by decide +kernel
theorem dX10_isWord_12 : decode cX10_isWord 12 = .ok (.if_icmp .ne 19, 3) := by decide +kernel
theorem dX10_isWord_15 : decode cX10_isWord 15 = .ok (.aload_n 0, 1) := by decide +kernel
theorem dX10_isWord_16 : decode cX10_isWord 16 = .ok (.getfield 134, 3) := by decide +kernel
theorem dX10_isWord_19 : decode cX10_isWord 19 = .ok (.aload_n 0, 1) := by decide +kernel
theorem dX10_isWord_20 : decode cX10_isWord 20 = .ok (.getfield 140, 3) := by decide +kernel
theorem dX10_isWord_23 : decode cX10_isWord 23 = .ok (.isub, 1) := by decide +kernel
theorem dX10_isWord_24 : decode cX10_isWord 24 = .ok (.aload_n 1, 1) := by decide +kernel
theorem dX10_isWord_25 : decode cX10_isWord 25 = .ok (.invokevirtual 60, 3) := by decide +kernel
theorem dX10_isWord_28 : decode cX10_isWord 28 = .ok (.if_icmp .eq 5, 3) := by decide +kernel
theorem dX10_isWord_31 : decode cX10_isWord 31 = .ok (.iconst 0, 1) := by decide +kernel
theorem dX10_isWord_32 : decode cX10_isWord 32 = .ok (.ireturn, 1) := by decide +kernel
theorem dX10_isWord_33 : decode cX10_isWord 33 = .ok (.iconst 0, 1) := by decide +kernel
theorem dX10_isWord_34 : decode cX10_isWord 34 = .ok (.istore_n 2, 1) := by decide +kernel
theorem dX10_isWord_35 : decode cX10_isWord 35 = .ok (.iload_n 2, 1) := by decide +kernel
theorem dX10_isWord_36 : decode cX10_isWord 36 = .ok (.aload_n 1, 1) := by decide +kernel
theorem dX10_isWord_37 : decode cX10_isWord 37 = .ok (.invokevirtual 60, 3) := by decide +kernel
theorem dX10_isWord_40 : decode cX10_isWord 40 = .ok (.if_icmp .ge 30, 3) := by decide +kernel
theorem dX10_isWord_43 : decode cX10_isWord 43 = .ok (.aload_n 0, 1) := by decide +kernel
theorem dX10_isWord_44 : decode cX10_isWord 44 = .ok (.getfield 32, 3) := by decide +kernel
theorem dX10_isWord_47 : decode cX10_isWord 47 = .ok (.aload_n 0, 1) := by decide +kernel
theorem dX10_isWord_48 : decode cX10_isWord 48 = .ok (.getfield 140, 3) := by decide +kernel
theorem dX10_isWord_51 : decode cX10_isWord 51 = .ok (.iload_n 2, 1) := by decide +kernel
theorem dX10_isWord_52 : decode cX10_isWord 52 = .ok (.iadd, 1) := by decide +kernel
theorem dX10_isWord_53 : decode cX10_isWord 53 = .ok (.iaload, 1) := by decide +kernel
theorem dX10_isWord_54 : decode cX10_isWord 54 = .ok (.aload_n 1, 1) := by decide +kernel
theorem dX10_isWord_55 : decode cX10_isWord 55 = .ok (.iload_n 2, 1) := by decide +kernel
theorem dX10_isWord_56 : decode cX10_isWord 56 = .ok (.invokevirtual 66, 3) := by decide +kernel
theorem dX10_isWord_59 : decode cX10_isWord 59 = .ok (.if_icmp .eq 5, 3) := by decide +kernel
theorem dX10_isWord_62 : decode cX10_isWord 62 = .ok (.iconst 0, 1) := by decide +kernel
theorem dX10_isWord_63 : decode cX10_isWord 63 = .ok (.ireturn, 1) := by decide +kernel
theorem dX10_isWord_64 : decode cX10_isWord 64 = .ok (.iinc 2 1, 3) := by decide +kernel
theorem dX10_isWord_67 : decode cX10_isWord 67 = .ok (.goto (-32), 3) := by decide +kernel
theorem dX10_isWord_70 : decode cX10_isWord 70 = .ok (.iconst 1, 1) := by decide +kernel
theorem dX10_isWord_71 : decode cX10_isWord 71 = .ok (.ireturn, 1) := by decide +kernel
def fX10_isWord_L35 (M : Mm) (j1 : Nat) (K : Int32 → Option Int32) : Nat → Int32 → Option Int32
  | 0, _ => none
  | n + 1, v2 => if (slen j1) ≤ v2 then K v2 else if ((M.1 (18, 0, 0) 14) + v2) < 0 ∨ 800 ≤ ((M.1 (18, 0, 0) 14) + v2).toNatClampNeg then none else (sch j1 v2).bind fun q6 => if (M.1 (19, 6, 0) ((M.1 (18, 0, 0) 14) + v2).toNatClampNeg) = q6 then fX10_isWord_L35 M j1 K n (v2 + (1 : Int32)) else some (0 : Int32)
def fX10_isWord (M : Mm) (j1 : Nat) : Option Int32 := if (M.1 (18, 0, 0) 17) = 0 then (if (M.1 (18, 0, 0) 15) = (1 : Int32) then (if ((M.1 (18, 0, 0) 13) - (M.1 (18, 0, 0) 14)) = (slen j1) then (fX10_isWord_L35 M j1 (fun w9 => some (1 : Int32)) NF (0 : Int32)) else some (0 : Int32)) else some (0 : Int32)) else some (0 : Int32)
set_option maxRecDepth 20000 in
set_option maxHeartbeats 2000000 in
theorem sX10_isWord_L35 {wv : Nat} (M : Mm) (j1 : Nat) (hj1 : j1 < 22) {res : Int32} {K : Int32 → Option Int32} : ∀ (n : Nat) (v2 : Int32), fX10_isWord_L35 M j1 K n v2 = some res →
    (∀ (v2 : Int32), K v2 = some res → Z RX10 cX10_isWord 3 (some .boolean) [] "isWord" (rmD 7 0 0) (QM SH (allR (wv + 1)) 0 0 (fun v M9 => v = some (.int res) ∧ M9 = M) (fun _ _ => False)) (allR (wv + 1)) SH 0 0 70 [some (.inr (18, 0, 0)), some (.inr (30, j1, 0)), some (.inl (.int v2))] [] M) → Z RX10 cX10_isWord 3 (some .boolean) [] "isWord" (rmD 7 0 0) (QM SH (allR (wv + 1)) 0 0 (fun v M9 => v = some (.int res) ∧ M9 = M) (fun _ _ => False)) (allR (wv + 1)) SH 0 0 35 [some (.inr (18, 0, 0)), some (.inr (30, j1, 0)), some (.inl (.int v2))] [] M := by
  intro n
  induction n with
  | zero => intro v2 h; cases h
  | succ n ih =>
    intro v2 h hK
    rw [fX10_isWord_L35] at h
    refine z_iload_n (i := 2) dX10_isWord_35 rfl rfl ?_
    refine z_aload_n (i := 1) dX10_isWord_36 rfl rfl ?_
    refine z_fTi (S_length M j1 hj1) dX10_isWord_37 ml_X10_60 cd_J0_length_8abf5 hj1 rfl rfl rfl rfl rfl ?_
    refine z_icmp_ge (tgt := 70) dX10_isWord_40 rfl (fun hc4 => ?_) (fun hc4 => ?_)
    · have h := it_t h hc4
      exact hK _ h
    · have h := it_f h hc4
      refine z_aload_n (i := 0) dX10_isWord_43 rfl rfl ?_
      refine z_getR (r' := (19, 6, 0)) dX10_isWord_44 fl_X10_32 mk18 rfl rfl ?_
      refine z_aload_n (i := 0) dX10_isWord_47 rfl rfl ?_
      refine z_getI (x := (M.1 (18, 0, 0) 14)) dX10_isWord_48 fl_X10_140 mk18 rfl rfl ?_
      refine z_iload_n (i := 2) dX10_isWord_51 rfl rfl ?_
      refine z_iadd dX10_isWord_52 ?_
      obtain ⟨hc5, h⟩ := chk h
      refine z_iald (x := (M.1 (19, 6, 0) ((M.1 (18, 0, 0) 14) + v2).toNatClampNeg)) dX10_isWord_53 (m19 _ (Nat.le_of_ble_eq_true rfl)) rfl hc5 rfl ?_
      refine z_aload_n (i := 1) dX10_isWord_54 rfl rfl ?_
      refine z_iload_n (i := 2) dX10_isWord_55 rfl rfl ?_
      obtain ⟨q6, hq7, h⟩ := bnd h
      refine z_fTi (S_charAt M j1 v2 hj1 hq7) dX10_isWord_56 ml_X10_66 cd_J0_charAt_5068e hj1 rfl rfl rfl rfl rfl ?_
      refine z_icmp_eq (tgt := 64) dX10_isWord_59 rfl (fun hc8 => ?_) (fun hc8 => ?_)
      · have h := it_t h hc8
        refine z_iinc (i := 2) (v := (v2 + (1 : Int32))) dX10_isWord_64 rfl (iinc_k kc_1) (Nat.le_of_ble_eq_true rfl) rfl ?_
        refine z_goto (tgt := 35) dX10_isWord_67 rfl ?_
        exact ih _ h hK
      · have h := it_f h hc8
        refine z_iconst (v := (0 : Int32)) dX10_isWord_62 kc_0 ?_
        cases h
        exact z_iret dX10_isWord_63 rfl rfl (Nat.le_refl _) (Nat.le_refl _) ⟨rfl, rfl⟩
set_option maxRecDepth 20000 in
set_option maxHeartbeats 2000000 in
theorem sX10_isWord {wv : Nat} (M : Mm) (j1 : Nat) (hj1 : j1 < 22) {res : Int32} (h : fX10_isWord M j1 = some res) : TF (wv + 1) yX10_isWord cX10_isWord 3 (some .boolean) 7 [.inr (18, 0, 0), .inr (30, j1, 0)] M (some (.int res)) M := by
  rw [fX10_isWord] at h
  refine TF.go (n := 1) (ls := [some (.inr (18, 0, 0)), some (.inr (30, j1, 0)), none]) rfl rfl rfl rfl rfl ?_
  refine z_aload_n (i := 0) dX10_isWord_0 rfl rfl ?_
  refine z_getI (x := (M.1 (18, 0, 0) 17)) dX10_isWord_1 fl_X10_149 mk18 rfl rfl ?_
  refine z_if_ne (tgt := 31) dX10_isWord_4 rfl (fun hc1 => ?_) (fun hc1 => ?_)
  · have h := it_f h hc1
    refine z_iconst (v := (0 : Int32)) dX10_isWord_31 kc_0 ?_
    cases h
    exact z_iret dX10_isWord_32 rfl rfl (Nat.le_refl _) (Nat.le_refl _) ⟨rfl, rfl⟩
  · have h := it_t h hc1
    refine z_aload_n (i := 0) dX10_isWord_7 rfl rfl ?_
    refine z_getI (x := (M.1 (18, 0, 0) 15)) dX10_isWord_8 fl_X10_143 mk18 rfl rfl ?_
    refine z_iconst (v := (1 : Int32)) dX10_isWord_11 kc_1 ?_
    refine z_icmp_ne (tgt := 31) dX10_isWord_12 rfl (fun hc2 => ?_) (fun hc2 => ?_)
    · have h := it_f h hc2
      refine z_iconst (v := (0 : Int32)) dX10_isWord_31 kc_0 ?_
      cases h
      exact z_iret dX10_isWord_32 rfl rfl (Nat.le_refl _) (Nat.le_refl _) ⟨rfl, rfl⟩
    · have h := it_t h hc2
      refine z_aload_n (i := 0) dX10_isWord_15 rfl rfl ?_
      refine z_getI (x := (M.1 (18, 0, 0) 13)) dX10_isWord_16 fl_X10_134 mk18 rfl rfl ?_
      refine z_aload_n (i := 0) dX10_isWord_19 rfl rfl ?_
      refine z_getI (x := (M.1 (18, 0, 0) 14)) dX10_isWord_20 fl_X10_140 mk18 rfl rfl ?_
      refine z_isub dX10_isWord_23 ?_
      refine z_aload_n (i := 1) dX10_isWord_24 rfl rfl ?_
      refine z_fTi (S_length M j1 hj1) dX10_isWord_25 ml_X10_60 cd_J0_length_8abf5 hj1 rfl rfl rfl rfl rfl ?_
      refine z_icmp_eq (tgt := 33) dX10_isWord_28 rfl (fun hc3 => ?_) (fun hc3 => ?_)
      · have h := it_t h hc3
        refine z_iconst (v := (0 : Int32)) dX10_isWord_33 kc_0 ?_
        refine z_istore_n (i := 2) dX10_isWord_34 rfl (Nat.le_of_ble_eq_true rfl) rfl ?_
        refine sX10_isWord_L35 M j1 hj1 NF _ h (fun w9 h => ?_)
        refine z_iconst (v := (1 : Int32)) dX10_isWord_70 kc_1 ?_
        cases h
        exact z_iret dX10_isWord_71 rfl rfl (Nat.le_refl _) (Nat.le_refl _) ⟨rfl, rfl⟩
      · have h := it_f h hc3
        refine z_iconst (v := (0 : Int32)) dX10_isWord_31 kc_0 ?_
        cases h
        exact z_iret dX10_isWord_32 rfl rfl (Nat.le_refl _) (Nat.le_refl _) ⟨rfl, rfl⟩
