theorem dX10_transpose_0 : decode cX10_transpose 0 = .ok (.aload_n 0, 1) := by decide +kernel
theorem dX10_transpose_1 : decode cX10_transpose 1 = .ok (.iload_n 1, 1) := by decide +kernel
theorem dX10_transpose_2 : decode cX10_transpose 2 = .ok (.invokevirtual 303, 3) := by decide +kernel
theorem dX10_transpose_5 : decode cX10_transpose 5 = .ok (.ifCond .eq 33, 3) := by decide +kernel
theorem dX10_transpose_8 : decode cX10_transpose 8 = .ok (.aload_n 0, 1) := by decide +kernel
theorem dX10_transpose_9 : decode cX10_transpose 9 = .ok (.iload_n 2, 1) := by decide +kernel
theorem dX10_transpose_10 : decode cX10_transpose 10 = .ok (.bipush (-11), 2) := by decide +kernel
theorem dX10_transpose_12 : decode cX10_transpose 12 = .ok (.bipush 11, 2) := by decide +kernel
theorem dX10_transpose_14 : decode cX10_transpose 14 = .ok (.invokestatic 82, 3) := by decide +kernel
theorem dX10_transpose_17 : decode cX10_transpose 17 = .ok (.iconst 2, 1) := by decide +kernel
theorem dX10_transpose_18 : decode cX10_transpose 18 = .ok (.invokevirtual 127, 3) := by decide +kernel
theorem dX10_transpose_21 : decode cX10_transpose 21 = .ok (.ifCond .eq 17, 3) := by decide +kernel
theorem dX10_transpose_24 : decode cX10_transpose 24 = .ok (.aload_n 0, 1) := by decide +kernel
theorem dX10_transpose_25 : decode cX10_transpose 25 = .ok (.aload_n 0, 1) := by decide +kernel
theorem dX10_transpose_26 : decode cX10_transpose 26 = .ok (.iload_n 1, 1) := by decide +kernel
theorem dX10_transpose_27 : decode cX10_transpose 27 = .ok (.iload_n 2, 1) := by decide +kernel
theorem dX10_transpose_28 : decode cX10_transpose 28 = .ok (.invokevirtual 347, 3) := by decide +kernel
theorem dX10_transpose_31 : decode cX10_transpose 31 = .ok (.iconst 3, 1) := by decide +kernel
theorem dX10_transpose_32 : decode cX10_transpose 32 = .ok (.invokevirtual 127, 3) := by decide +kernel
theorem dX10_transpose_35 : decode cX10_transpose 35 = .ok (.ifCond .ne 5, 3) := by decide +kernel
theorem dX10_transpose_38 : decode cX10_transpose 38 = .ok (.iconst 0, 1) := by decide +kernel
theorem dX10_transpose_39 : decode cX10_transpose 39 = .ok (.ireturn, 1) := by decide +kernel
theorem dX10_transpose_40 : decode cX10_transpose 40 = .ok (.aload_n 0, 1) := by decide +kernel
theorem dX10_transpose_41 : decode cX10_transpose 41 = .ok (.invokevirtual 344, 3) := by decide +kernel
theorem dX10_transpose_44 : decode cX10_transpose 44 = .ok (.iconst 0, 1) := by decide +kernel
theorem dX10_transpose_45 : decode cX10_transpose 45 = .ok (.istore_n 3, 1) := by decide +kernel
theorem dX10_transpose_46 : decode cX10_transpose 46 = .ok (.iload_n 3, 1) := by decide +kernel
theorem dX10_transpose_47 : decode cX10_transpose 47 = .ok (.aload_n 0, 1) := by decide +kernel
theorem dX10_transpose_48 : decode cX10_transpose 48 = .ok (.getfield 7, 3) := by decide +kernel
theorem dX10_transpose_51 : decode cX10_transpose 51 = .ok (.iconst 0, 1) := by decide +kernel
theorem dX10_transpose_52 : decode cX10_transpose 52 = .ok (.iaload, 1) := by decide +kernel
theorem dX10_transpose_53 : decode cX10_transpose 53 = .ok (.if_icmp .ge 39, 3) := by decide +kernel
theorem dX10_transpose_56 : decode cX10_transpose 56 = .ok (.aload_n 0, 1) := by decide +kernel
theorem dX10_transpose_57 : decode cX10_transpose 57 = .ok (.iload_n 1, 1) := by decide +kernel
theorem dX10_transpose_58 : decode cX10_transpose 58 = .ok (.iload_n 3, 1) := by decide +kernel
theorem dX10_transpose_59 : decode cX10_transpose 59 = .ok (.iload_n 2, 1) := by decide +kernel
theorem dX10_transpose_60 : decode cX10_transpose 60 = .ok (.ifCond .ge 15, 3) := by decide +kernel
theorem dX10_transpose_63 : decode cX10_transpose 63 = .ok (.aload_n 0, 1) := by decide +kernel
theorem dX10_transpose_64 : decode cX10_transpose 64 = .ok (.iload_n 1, 1) := by decide +kernel
theorem dX10_transpose_65 : decode cX10_transpose 65 = .ok (.iload_n 3, 1) := by decide +kernel
theorem dX10_transpose_66 : decode cX10_transpose 66 = .ok (.invokevirtual 86, 3) := by decide +kernel
theorem dX10_transpose_69 : decode cX10_transpose 69 = .ok (.iload_n 2, 1) := by decide +kernel
theorem dX10_transpose_70 : decode cX10_transpose 70 = .ok (.ineg, 1) := by decide +kernel
theorem dX10_transpose_71 : decode cX10_transpose 71 = .ok (.ishr, 1) := by decide +kernel
theorem dX10_transpose_72 : decode cX10_transpose 72 = .ok (.goto 11, 3) := by decide +kernel
theorem dX10_transpose_75 : decode cX10_transpose 75 = .ok (.aload_n 0, 1) := by decide +kernel
theorem dX10_transpose_76 : decode cX10_transpose 76 = .ok (.iload_n 1, 1) := by decide +kernel
theorem dX10_transpose_77 : decode cX10_transpose 77 = .ok (.iload_n 3, 1) := by decide +kernel
theorem dX10_transpose_78 : decode cX10_transpose 78 = .ok (.invokevirtual 86, 3) := by decide +kernel
theorem dX10_transpose_81 : decode cX10_transpose 81 = .ok (.iload_n 2, 1) := by decide +kernel
theorem dX10_transpose_82 : decode cX10_transpose 82 = .ok (.ishl, 1) := by decide +kernel
theorem dX10_transpose_83 : decode cX10_transpose 83 = .ok (.invokevirtual 185, 3) := by decide +kernel
theorem dX10_transpose_86 : decode cX10_transpose 86 = .ok (.iinc 3 1, 3) := by decide +kernel
theorem dX10_transpose_89 : decode cX10_transpose 89 = .ok (.goto (-43), 3) := by decide +kernel
theorem dX10_transpose_92 : decode cX10_transpose 92 = .ok (.aload_n 0, 1) := by decide +kernel
theorem dX10_transpose_93 : decode cX10_transpose 93 = .ok (.iload_n 1, 1) := by decide +kernel
theorem dX10_transpose_94 : decode cX10_transpose 94 = .ok (.invokevirtual 306, 3) := by decide +kernel
theorem dX10_transpose_97 : decode cX10_transpose 97 = .ok (.ireturn, 1) := by decide +kernel
def fX10_transpose_L46 (c1 : Int32) (c2 : Int32) (K : Int32 → Mm → Option (Int32 × Mm)) : Nat → Int32 → Mm → Option (Int32 × Mm)
  | 0, _, _ => none
  | n + 1, v3, M => if (M.1 (19, 0, 0) 0) ≤ v3 then K v3 M else if 0 ≤ c2 then ((fX10_set M c1 v3).bind fun q16 => (fX10_putSet M c1 v3 (q16 <<< (c2 &&& 31))).bind fun q18 => fX10_transpose_L46 c1 c2 K n (v3 + (1 : Int32)) q18) else (fX10_set M c1 v3).bind fun q20 => (fX10_putSet M c1 v3 (q20 >>> ((-c2) &&& 31))).bind fun q22 => fX10_transpose_L46 c1 c2 K n (v3 + (1 : Int32)) q22
def fX10_transpose (M : Mm) (x1 : Int32) (x2 : Int32) : Option (Int32 × Mm) := (fX10_findsTune M x1).bind fun q1 => if q1.1 = 0 then some ((0 : Int32), q1.2) else (fX10_right q1.2 (fX10_in q1.2 x2 (-11 : Int32) (11 : Int32)) (2 : Int32)).bind fun q4 => if q4.1 = 0 then some ((0 : Int32), q4.2) else (fX10_fits q4.2 x1 x2).bind fun q7 => (fX10_right q4.2 q7 (3 : Int32)).bind fun q9 => if q9.1 = 0 then some ((0 : Int32), q9.2) else (fX10_changes q9.2).bind fun q12 => fX10_transpose_L46 x1 x2 (fun w24 M25 => (fX10_pins M25 x1).bind fun q26 => some (q26, M25)) NF (0 : Int32) q12
set_option maxRecDepth 20000 in
set_option maxHeartbeats 2000000 in
theorem sX10_transpose_L46 {wv : Nat} (c1 : Int32) (c2 : Int32) {res : (Int32 × Mm)} {K : Int32 → Mm → Option (Int32 × Mm)} : ∀ (n : Nat) (v3 : Int32) (M : Mm), fX10_transpose_L46 c1 c2 K n v3 M = some res →
    (∀ (v3 : Int32) (M : Mm), K v3 M = some res → Z RX10 cX10_transpose 4 (some .int) [] "transpose" (rmD 3 0 0) (QM SH (allR (wv + 1)) 0 0 (fun v M9 => v = some (.int res.1) ∧ M9 = res.2) (fun _ _ => False)) (allR (wv + 1)) SH 0 0 92 [some (.inr (18, 0, 0)), some (.inl (.int c1)), some (.inl (.int c2)), some (.inl (.int v3))] [] M) → Z RX10 cX10_transpose 4 (some .int) [] "transpose" (rmD 3 0 0) (QM SH (allR (wv + 1)) 0 0 (fun v M9 => v = some (.int res.1) ∧ M9 = res.2) (fun _ _ => False)) (allR (wv + 1)) SH 0 0 46 [some (.inr (18, 0, 0)), some (.inl (.int c1)), some (.inl (.int c2)), some (.inl (.int v3))] [] M := by
  intro n
  induction n with
  | zero => intro v3 M h; cases h
  | succ n ih =>
    intro v3 M h hK
    rw [fX10_transpose_L46] at h
    refine z_iload_n (i := 3) dX10_transpose_46 rfl rfl ?_
    refine z_aload_n (i := 0) dX10_transpose_47 rfl rfl ?_
    refine z_getR (r' := (19, 0, 0)) dX10_transpose_48 fl_X10_7 mk18 rfl rfl ?_
    refine z_iconst (v := (0 : Int32)) dX10_transpose_51 kc_0 ?_
    refine z_iald (x := (M.1 (19, 0, 0) 0)) dX10_transpose_52 (m19 _ (Nat.le_of_ble_eq_true rfl)) rfl (by decide) rfl ?_
    refine z_icmp_ge (tgt := 92) dX10_transpose_53 rfl (fun hc14 => ?_) (fun hc14 => ?_)
    · have h := it_t h hc14
      exact hK _ _ h
    · have h := it_f h hc14
      refine z_aload_n (i := 0) dX10_transpose_56 rfl rfl ?_
      refine z_iload_n (i := 1) dX10_transpose_57 rfl rfl ?_
      refine z_iload_n (i := 3) dX10_transpose_58 rfl rfl ?_
      refine z_iload_n (i := 2) dX10_transpose_59 rfl rfl ?_
      refine z_if_ge (tgt := 75) dX10_transpose_60 rfl (fun hc15 => ?_) (fun hc15 => ?_)
      · have h := it_t h hc15
        refine z_aload_n (i := 0) dX10_transpose_75 rfl rfl ?_
        refine z_iload_n (i := 1) dX10_transpose_76 rfl rfl ?_
        refine z_iload_n (i := 3) dX10_transpose_77 rfl rfl ?_
        obtain ⟨q16, hq17, h⟩ := bnd h
        refine z_fVi (sX10_set M c1 v3 hq17) dX10_transpose_78 ml_X10_86 cd_X10_set mk18 rfl rfl rfl rfl rfl rfl ?_
        refine z_iload_n (i := 2) dX10_transpose_81 rfl rfl ?_
        refine z_ishl dX10_transpose_82 ?_
        obtain ⟨q18, hq19, h⟩ := bnd h
        refine z_fVv (sX10_putSet M c1 v3 (q16 <<< (c2 &&& 31)) hq19) dX10_transpose_83 ml_X10_185 cd_X10_putSet mk18 rfl rfl rfl rfl rfl rfl ?_
        refine z_iinc (i := 3) (v := (v3 + (1 : Int32))) dX10_transpose_86 rfl (iinc_k kc_1) (Nat.le_of_ble_eq_true rfl) rfl ?_
        refine z_goto (tgt := 46) dX10_transpose_89 rfl ?_
        exact ih _ _ h hK
      · have h := it_f h hc15
        refine z_aload_n (i := 0) dX10_transpose_63 rfl rfl ?_
        refine z_iload_n (i := 1) dX10_transpose_64 rfl rfl ?_
        refine z_iload_n (i := 3) dX10_transpose_65 rfl rfl ?_
        obtain ⟨q20, hq21, h⟩ := bnd h
        refine z_fVi (sX10_set M c1 v3 hq21) dX10_transpose_66 ml_X10_86 cd_X10_set mk18 rfl rfl rfl rfl rfl rfl ?_
        refine z_iload_n (i := 2) dX10_transpose_69 rfl rfl ?_
        refine z_ineg dX10_transpose_70 ?_
        refine z_ishr dX10_transpose_71 ?_
        refine z_goto (tgt := 83) dX10_transpose_72 rfl ?_
        obtain ⟨q22, hq23, h⟩ := bnd h
        refine z_fVv (sX10_putSet M c1 v3 (q20 >>> ((-c2) &&& 31)) hq23) dX10_transpose_83 ml_X10_185 cd_X10_putSet mk18 rfl rfl rfl rfl rfl rfl ?_
        refine z_iinc (i := 3) (v := (v3 + (1 : Int32))) dX10_transpose_86 rfl (iinc_k kc_1) (Nat.le_of_ble_eq_true rfl) rfl ?_
        refine z_goto (tgt := 46) dX10_transpose_89 rfl ?_
        exact ih _ _ h hK
set_option maxRecDepth 20000 in
set_option maxHeartbeats 2000000 in
theorem sX10_transpose {wv : Nat} (M : Mm) (x1 : Int32) (x2 : Int32) {res : (Int32 × Mm)} (h : fX10_transpose M x1 x2 = some res) : TF (wv + 1) yX10_transpose cX10_transpose 4 (some .int) 3 [.inr (18, 0, 0), .inl (.int x1), .inl (.int x2)] M (some (.int res.1)) res.2 := by
  rw [fX10_transpose] at h
  refine TF.go (n := 1) (ls := [some (.inr (18, 0, 0)), some (.inl (.int x1)), some (.inl (.int x2)), none]) rfl rfl rfl rfl rfl ?_
  refine z_aload_n (i := 0) dX10_transpose_0 rfl rfl ?_
  refine z_iload_n (i := 1) dX10_transpose_1 rfl rfl ?_
  obtain ⟨q1, hq2, h⟩ := bnd h
  refine z_fVi (sX10_findsTune M x1 hq2) dX10_transpose_2 ml_X10_303 cd_X10_findsTune mk18 rfl rfl rfl rfl rfl rfl ?_
  refine z_if_eq (tgt := 38) dX10_transpose_5 rfl (fun hc3 => ?_) (fun hc3 => ?_)
  · have h := it_t h hc3
    refine z_iconst (v := (0 : Int32)) dX10_transpose_38 kc_0 ?_
    cases h
    exact z_iret dX10_transpose_39 rfl rfl (Nat.le_refl _) (Nat.le_refl _) ⟨rfl, rfl⟩
  · have h := it_f h hc3
    refine z_aload_n (i := 0) dX10_transpose_8 rfl rfl ?_
    refine z_iload_n (i := 2) dX10_transpose_9 rfl rfl ?_
    refine z_bipush (v := (-11 : Int32)) dX10_transpose_10 kb_m11 ?_
    refine z_bipush (v := (11 : Int32)) dX10_transpose_12 kb_11 ?_
    refine z_fSi (sX10_in q1.2 x2 (-11 : Int32) (11 : Int32)) dX10_transpose_14 ml_X10_82 cd_X10_in rfl rfl rfl rfl rfl ?_
    refine z_iconst (v := (2 : Int32)) dX10_transpose_17 kc_2 ?_
    obtain ⟨q4, hq5, h⟩ := bnd h
    refine z_fVi (sX10_right q1.2 (fX10_in q1.2 x2 (-11 : Int32) (11 : Int32)) (2 : Int32) hq5) dX10_transpose_18 ml_X10_127 cd_X10_right mk18 rfl rfl rfl rfl rfl rfl ?_
    refine z_if_eq (tgt := 38) dX10_transpose_21 rfl (fun hc6 => ?_) (fun hc6 => ?_)
    · have h := it_t h hc6
      refine z_iconst (v := (0 : Int32)) dX10_transpose_38 kc_0 ?_
      cases h
      exact z_iret dX10_transpose_39 rfl rfl (Nat.le_refl _) (Nat.le_refl _) ⟨rfl, rfl⟩
    · have h := it_f h hc6
      refine z_aload_n (i := 0) dX10_transpose_24 rfl rfl ?_
      refine z_aload_n (i := 0) dX10_transpose_25 rfl rfl ?_
      refine z_iload_n (i := 1) dX10_transpose_26 rfl rfl ?_
      refine z_iload_n (i := 2) dX10_transpose_27 rfl rfl ?_
      obtain ⟨q7, hq8, h⟩ := bnd h
      refine z_fVi (sX10_fits q4.2 x1 x2 hq8) dX10_transpose_28 ml_X10_347 cd_X10_fits mk18 rfl rfl rfl rfl rfl rfl ?_
      refine z_iconst (v := (3 : Int32)) dX10_transpose_31 kc_3 ?_
      obtain ⟨q9, hq10, h⟩ := bnd h
      refine z_fVi (sX10_right q4.2 q7 (3 : Int32) hq10) dX10_transpose_32 ml_X10_127 cd_X10_right mk18 rfl rfl rfl rfl rfl rfl ?_
      refine z_if_ne (tgt := 40) dX10_transpose_35 rfl (fun hc11 => ?_) (fun hc11 => ?_)
      · have h := it_f h hc11
        refine z_aload_n (i := 0) dX10_transpose_40 rfl rfl ?_
        obtain ⟨q12, hq13, h⟩ := bnd h
        refine z_fVv (sX10_changes q9.2 hq13) dX10_transpose_41 ml_X10_344 cd_X10_changes mk18 rfl rfl rfl rfl rfl rfl ?_
        refine z_iconst (v := (0 : Int32)) dX10_transpose_44 kc_0 ?_
        refine z_istore_n (i := 3) dX10_transpose_45 rfl (Nat.le_of_ble_eq_true rfl) rfl ?_
        refine sX10_transpose_L46 x1 x2 NF _ _ h (fun w24 M25 h => ?_)
        refine z_aload_n (i := 0) dX10_transpose_92 rfl rfl ?_
        refine z_iload_n (i := 1) dX10_transpose_93 rfl rfl ?_
        obtain ⟨q26, hq27, h⟩ := bnd h
        refine z_fVi (sX10_pins M25 x1 hq27) dX10_transpose_94 ml_X10_306 cd_X10_pins mk18 rfl rfl rfl rfl rfl rfl ?_
        cases h
        exact z_iret dX10_transpose_97 rfl rfl (Nat.le_refl _) (Nat.le_refl _) ⟨rfl, rfl⟩
      · have h := it_t h hc11
        refine z_iconst (v := (0 : Int32)) dX10_transpose_38 kc_0 ?_
        cases h
        exact z_iret dX10_transpose_39 rfl rfl (Nat.le_refl _) (Nat.le_refl _) ⟨rfl, rfl⟩
theorem dX10_copyTune_0 : decode cX10_copyTune 0 = .ok (.aload_n 0, 1) := by decide +kernel
theorem dX10_copyTune_1 : decode cX10_copyTune 1 = .ok (.iconst 0, 1) := by decide +kernel
theorem dX10_copyTune_2 : decode cX10_copyTune 2 = .ok (.putfield 79, 3) := by decide +kernel
theorem dX10_copyTune_5 : decode cX10_copyTune 5 = .ok (.aload_n 0, 1) := by decide +kernel
theorem dX10_copyTune_6 : decode cX10_copyTune 6 = .ok (.aload_n 0, 1) := by decide +kernel
theorem dX10_copyTune_7 : decode cX10_copyTune 7 = .ok (.iload_n 1, 1) := by decide +kernel
theorem dX10_copyTune_8 : decode cX10_copyTune 8 = .ok (.invokevirtual 288, 3) := by decide +kernel
theorem dX10_copyTune_11 : decode cX10_copyTune 11 = .ok (.ifCond .eq 15, 3) := by decide +kernel
theorem dX10_copyTune_14 : decode cX10_copyTune 14 = .ok (.aload_n 0, 1) := by decide +kernel
theorem dX10_copyTune_15 : decode cX10_copyTune 15 = .ok (.iload_n 2, 1) := by decide +kernel
theorem dX10_copyTune_16 : decode cX10_copyTune 16 = .ok (.invokevirtual 288, 3) := by decide +kernel
theorem dX10_copyTune_19 : decode cX10_copyTune 19 = .ok (.ifCond .eq 7, 3) := by decide +kernel
theorem dX10_copyTune_22 : decode cX10_copyTune 22 = .ok (.iconst 1, 1) := by decide +kernel
theorem dX10_copyTune_23 : decode cX10_copyTune 23 = .ok (.goto 4, 3) := by decide +kernel
theorem dX10_copyTune_26 : decode cX10_copyTune 26 = .ok (.iconst 0, 1) := by decide +kernel
theorem dX10_copyTune_27 : decode cX10_copyTune 27 = .ok (.iconst 1, 1) := by decide +kernel
theorem dX10_copyTune_28 : decode cX10_copyTune 28 = .ok (.invokevirtual 127, 3) := by decide +kernel
theorem dX10_copyTune_31 : decode cX10_copyTune 31 = .ok (.ifCond .eq 21, 3) := by decide +kernel
theorem dX10_copyTune_34 : decode cX10_copyTune 34 = .ok (.aload_n 0, 1) := by decide +kernel
theorem dX10_copyTune_35 : decode cX10_copyTune 35 = .ok (.iload_n 1, 1) := by decide +kernel
theorem dX10_copyTune_36 : decode cX10_copyTune 36 = .ok (.iload_n 2, 1) := by decide +kernel
theorem dX10_copyTune_37 : decode cX10_copyTune 37 = .ok (.if_icmp .eq 7, 3) := by decide +kernel
theorem dX10_copyTune_40 : decode cX10_copyTune 40 = .ok (.iconst 1, 1) := by decide +kernel
theorem dX10_copyTune_41 : decode cX10_copyTune 41 = .ok (.goto 4, 3) := by decide +kernel
theorem dX10_copyTune_44 : decode cX10_copyTune 44 = .ok (.iconst 0, 1) := by decide +kernel
theorem dX10_copyTune_45 : decode cX10_copyTune 45 = .ok (.iconst 2, 1) := by decide +kernel
theorem dX10_copyTune_46 : decode cX10_copyTune 46 = .ok (.invokevirtual 127, 3) := by decide +kernel
theorem dX10_copyTune_49 : decode cX10_copyTune 49 = .ok (.ifCond .ne 5, 3) := by decide +kernel
theorem dX10_copyTune_52 : decode cX10_copyTune 52 = .ok (.iconst 0, 1) := by decide +kernel
theorem dX10_copyTune_53 : decode cX10_copyTune 53 = .ok (.ireturn, 1) := by decide +kernel
theorem dX10_copyTune_54 : decode cX10_copyTune 54 = .ok (.aload_n 0, 1) := by decide +kernel
theorem dX10_copyTune_55 : decode cX10_copyTune 55 = .ok (.invokevirtual 344, 3) := by decide +kernel
theorem dX10_copyTune_58 : decode cX10_copyTune 58 = .ok (.iconst 0, 1) := by decide +kernel
theorem dX10_copyTune_59 : decode cX10_copyTune 59 = .ok (.istore_n 3, 1) := by decide +kernel
theorem dX10_copyTune_60 : decode cX10_copyTune 60 = .ok (.iload_n 3, 1) := by decide +kernel
theorem dX10_copyTune_61 : decode cX10_copyTune 61 = .ok (.aload_n 0, 1) := by decide +kernel
theorem dX10_copyTune_62 : decode cX10_copyTune 62 = .ok (.getfield 7, 3) := by decide +kernel
theorem dX10_copyTune_65 : decode cX10_copyTune 65 = .ok (.iconst 0, 1) := by decide +kernel
theorem dX10_copyTune_66 : decode cX10_copyTune 66 = .ok (.iaload, 1) := by decide +kernel
theorem dX10_copyTune_67 : decode cX10_copyTune 67 = .ok (.if_icmp .ge 21, 3) := by decide +kernel
theorem dX10_copyTune_70 : decode cX10_copyTune 70 = .ok (.aload_n 0, 1) := by decide +kernel
theorem dX10_copyTune_71 : decode cX10_copyTune 71 = .ok (.iload_n 2, 1) := by decide +kernel
theorem dX10_copyTune_72 : decode cX10_copyTune 72 = .ok (.iload_n 3, 1) := by decide +kernel
theorem dX10_copyTune_73 : decode cX10_copyTune 73 = .ok (.aload_n 0, 1) := by decide +kernel
theorem dX10_copyTune_74 : decode cX10_copyTune 74 = .ok (.iload_n 1, 1) := by decide +kernel
theorem dX10_copyTune_75 : decode cX10_copyTune 75 = .ok (.iload_n 3, 1) := by decide +kernel
theorem dX10_copyTune_76 : decode cX10_copyTune 76 = .ok (.invokevirtual 86, 3) := by decide +kernel
theorem dX10_copyTune_79 : decode cX10_copyTune 79 = .ok (.invokevirtual 185, 3) := by decide +kernel
theorem dX10_copyTune_82 : decode cX10_copyTune 82 = .ok (.iinc 3 1, 3) := by decide +kernel
theorem dX10_copyTune_85 : decode cX10_copyTune 85 = .ok (.goto (-25), 3) := by decide +kernel
theorem dX10_copyTune_88 : decode cX10_copyTune 88 = .ok (.aload_n 0, 1) := by decide +kernel
theorem dX10_copyTune_89 : decode cX10_copyTune 89 = .ok (.iload_n 2, 1) := by decide +kernel
theorem dX10_copyTune_90 : decode cX10_copyTune 90 = .ok (.invokevirtual 306, 3) := by decide +kernel
theorem dX10_copyTune_93 : decode cX10_copyTune 93 = .ok (.ireturn, 1) := by decide +kernel
def fX10_copyTune_L60 (c1 : Int32) (c2 : Int32) (K : Int32 → Mm → Option (Int32 × Mm)) : Nat → Int32 → Mm → Option (Int32 × Mm)
  | 0, _, _ => none
  | n + 1, v3, M => if (M.1 (19, 0, 0) 0) ≤ v3 then K v3 M else (fX10_set M c1 v3).bind fun q12 => (fX10_putSet M c2 v3 q12).bind fun q14 => fX10_copyTune_L60 c1 c2 K n (v3 + (1 : Int32)) q14
def fX10_copyTune (M : Mm) (x1 : Int32) (x2 : Int32) : Option (Int32 × Mm) := if (fX10_isTune (putI M (18, 0, 0) 8 (0 : Int32)) x1) = 0 then ((fX10_right (putI M (18, 0, 0) 8 (0 : Int32)) (0 : Int32) (1 : Int32)).bind fun q2 => if q2.1 = 0 then some ((0 : Int32), q2.2) else if x1 = x2 then ((fX10_right q2.2 (0 : Int32) (2 : Int32)).bind fun q6 => if q6.1 = 0 then some ((0 : Int32), q6.2) else (fX10_changes q6.2).bind fun q9 => fX10_copyTune_L60 x1 x2 (fun w16 M17 => (fX10_pins M17 x2).bind fun q18 => some (q18, M17)) NF (0 : Int32) q9) else (fX10_right q2.2 (1 : Int32) (2 : Int32)).bind fun q20 => if q20.1 = 0 then some ((0 : Int32), q20.2) else (fX10_changes q20.2).bind fun q23 => fX10_copyTune_L60 x1 x2 (fun w25 M26 => (fX10_pins M26 x2).bind fun q27 => some (q27, M26)) NF (0 : Int32) q23) else if (fX10_isTune (putI M (18, 0, 0) 8 (0 : Int32)) x2) = 0 then ((fX10_right (putI M (18, 0, 0) 8 (0 : Int32)) (0 : Int32) (1 : Int32)).bind fun q30 => if q30.1 = 0 then some ((0 : Int32), q30.2) else if x1 = x2 then ((fX10_right q30.2 (0 : Int32) (2 : Int32)).bind fun q34 => if q34.1 = 0 then some ((0 : Int32), q34.2) else (fX10_changes q34.2).bind fun q37 => fX10_copyTune_L60 x1 x2 (fun w39 M40 => (fX10_pins M40 x2).bind fun q41 => some (q41, M40)) NF (0 : Int32) q37) else (fX10_right q30.2 (1 : Int32) (2 : Int32)).bind fun q43 => if q43.1 = 0 then some ((0 : Int32), q43.2) else (fX10_changes q43.2).bind fun q46 => fX10_copyTune_L60 x1 x2 (fun w48 M49 => (fX10_pins M49 x2).bind fun q50 => some (q50, M49)) NF (0 : Int32) q46) else (fX10_right (putI M (18, 0, 0) 8 (0 : Int32)) (1 : Int32) (1 : Int32)).bind fun q52 => if q52.1 = 0 then some ((0 : Int32), q52.2) else if x1 = x2 then ((fX10_right q52.2 (0 : Int32) (2 : Int32)).bind fun q56 => if q56.1 = 0 then some ((0 : Int32), q56.2) else (fX10_changes q56.2).bind fun q59 => fX10_copyTune_L60 x1 x2 (fun w61 M62 => (fX10_pins M62 x2).bind fun q63 => some (q63, M62)) NF (0 : Int32) q59) else (fX10_right q52.2 (1 : Int32) (2 : Int32)).bind fun q65 => if q65.1 = 0 then some ((0 : Int32), q65.2) else (fX10_changes q65.2).bind fun q68 => fX10_copyTune_L60 x1 x2 (fun w70 M71 => (fX10_pins M71 x2).bind fun q72 => some (q72, M71)) NF (0 : Int32) q68
set_option maxRecDepth 20000 in
set_option maxHeartbeats 2000000 in
theorem sX10_copyTune_L60 {wv : Nat} (c1 : Int32) (c2 : Int32) {res : (Int32 × Mm)} {K : Int32 → Mm → Option (Int32 × Mm)} : ∀ (n : Nat) (v3 : Int32) (M : Mm), fX10_copyTune_L60 c1 c2 K n v3 M = some res →
    (∀ (v3 : Int32) (M : Mm), K v3 M = some res → Z RX10 cX10_copyTune 4 (some .int) [] "copyTune" (rmD 3 0 0) (QM SH (allR (wv + 1)) 0 0 (fun v M9 => v = some (.int res.1) ∧ M9 = res.2) (fun _ _ => False)) (allR (wv + 1)) SH 0 0 88 [some (.inr (18, 0, 0)), some (.inl (.int c1)), some (.inl (.int c2)), some (.inl (.int v3))] [] M) → Z RX10 cX10_copyTune 4 (some .int) [] "copyTune" (rmD 3 0 0) (QM SH (allR (wv + 1)) 0 0 (fun v M9 => v = some (.int res.1) ∧ M9 = res.2) (fun _ _ => False)) (allR (wv + 1)) SH 0 0 60 [some (.inr (18, 0, 0)), some (.inl (.int c1)), some (.inl (.int c2)), some (.inl (.int v3))] [] M := by
  intro n
  induction n with
  | zero => intro v3 M h; cases h
  | succ n ih =>
    intro v3 M h hK
    rw [fX10_copyTune_L60] at h
    refine z_iload_n (i := 3) dX10_copyTune_60 rfl rfl ?_
    refine z_aload_n (i := 0) dX10_copyTune_61 rfl rfl ?_
    refine z_getR (r' := (19, 0, 0)) dX10_copyTune_62 fl_X10_7 mk18 rfl rfl ?_
    refine z_iconst (v := (0 : Int32)) dX10_copyTune_65 kc_0 ?_
    refine z_iald (x := (M.1 (19, 0, 0) 0)) dX10_copyTune_66 (m19 _ (Nat.le_of_ble_eq_true rfl)) rfl (by decide) rfl ?_
    refine z_icmp_ge (tgt := 88) dX10_copyTune_67 rfl (fun hc11 => ?_) (fun hc11 => ?_)
    · have h := it_t h hc11
      exact hK _ _ h
    · have h := it_f h hc11
      refine z_aload_n (i := 0) dX10_copyTune_70 rfl rfl ?_
      refine z_iload_n (i := 2) dX10_copyTune_71 rfl rfl ?_
      refine z_iload_n (i := 3) dX10_copyTune_72 rfl rfl ?_
      refine z_aload_n (i := 0) dX10_copyTune_73 rfl rfl ?_
      refine z_iload_n (i := 1) dX10_copyTune_74 rfl rfl ?_
      refine z_iload_n (i := 3) dX10_copyTune_75 rfl rfl ?_
      obtain ⟨q12, hq13, h⟩ := bnd h
      refine z_fVi (sX10_set M c1 v3 hq13) dX10_copyTune_76 ml_X10_86 cd_X10_set mk18 rfl rfl rfl rfl rfl rfl ?_
      obtain ⟨q14, hq15, h⟩ := bnd h
      refine z_fVv (sX10_putSet M c2 v3 q12 hq15) dX10_copyTune_79 ml_X10_185 cd_X10_putSet mk18 rfl rfl rfl rfl rfl rfl ?_
      refine z_iinc (i := 3) (v := (v3 + (1 : Int32))) dX10_copyTune_82 rfl (iinc_k kc_1) (Nat.le_of_ble_eq_true rfl) rfl ?_
      refine z_goto (tgt := 60) dX10_copyTune_85 rfl ?_
      exact ih _ _ h hK
set_option maxRecDepth 20000 in
set_option maxHeartbeats 2000000 in
theorem sX10_copyTune {wv : Nat} (M : Mm) (x1 : Int32) (x2 : Int32) {res : (Int32 × Mm)} (h : fX10_copyTune M x1 x2 = some res) : TF (wv + 1) yX10_copyTune cX10_copyTune 4 (some .int) 3 [.inr (18, 0, 0), .inl (.int x1), .inl (.int x2)] M (some (.int res.1)) res.2 := by
  rw [fX10_copyTune] at h
  refine TF.go (n := 1) (ls := [some (.inr (18, 0, 0)), some (.inl (.int x1)), some (.inl (.int x2)), none]) rfl rfl rfl rfl rfl ?_
  refine z_aload_n (i := 0) dX10_copyTune_0 rfl rfl ?_
  refine z_iconst (v := (0 : Int32)) dX10_copyTune_1 kc_0 ?_
  refine z_putI allR_nd dX10_copyTune_2 fl_X10_79 mk18 rfl rfl ?_
  refine z_aload_n (i := 0) dX10_copyTune_5 rfl rfl ?_
  refine z_aload_n (i := 0) dX10_copyTune_6 rfl rfl ?_
  refine z_iload_n (i := 1) dX10_copyTune_7 rfl rfl ?_
  refine z_fVi (sX10_isTune (putI M (18, 0, 0) 8 (0 : Int32)) x1) dX10_copyTune_8 ml_X10_288 cd_X10_isTune mk18 rfl rfl rfl rfl rfl rfl ?_
  refine z_if_eq (tgt := 26) dX10_copyTune_11 rfl (fun hc1 => ?_) (fun hc1 => ?_)
  · have h := it_t h hc1
    refine z_iconst (v := (0 : Int32)) dX10_copyTune_26 kc_0 ?_
    refine z_iconst (v := (1 : Int32)) dX10_copyTune_27 kc_1 ?_
    obtain ⟨q2, hq3, h⟩ := bnd h
    refine z_fVi (sX10_right (putI M (18, 0, 0) 8 (0 : Int32)) (0 : Int32) (1 : Int32) hq3) dX10_copyTune_28 ml_X10_127 cd_X10_right mk18 rfl rfl rfl rfl rfl rfl ?_
    refine z_if_eq (tgt := 52) dX10_copyTune_31 rfl (fun hc4 => ?_) (fun hc4 => ?_)
    · have h := it_t h hc4
      refine z_iconst (v := (0 : Int32)) dX10_copyTune_52 kc_0 ?_
      cases h
      exact z_iret dX10_copyTune_53 rfl rfl (Nat.le_refl _) (Nat.le_refl _) ⟨rfl, rfl⟩
    · have h := it_f h hc4
      refine z_aload_n (i := 0) dX10_copyTune_34 rfl rfl ?_
      refine z_iload_n (i := 1) dX10_copyTune_35 rfl rfl ?_
      refine z_iload_n (i := 2) dX10_copyTune_36 rfl rfl ?_
      refine z_icmp_eq (tgt := 44) dX10_copyTune_37 rfl (fun hc5 => ?_) (fun hc5 => ?_)
      · have h := it_t h hc5
        refine z_iconst (v := (0 : Int32)) dX10_copyTune_44 kc_0 ?_
        refine z_iconst (v := (2 : Int32)) dX10_copyTune_45 kc_2 ?_
        obtain ⟨q6, hq7, h⟩ := bnd h
        refine z_fVi (sX10_right q2.2 (0 : Int32) (2 : Int32) hq7) dX10_copyTune_46 ml_X10_127 cd_X10_right mk18 rfl rfl rfl rfl rfl rfl ?_
        refine z_if_ne (tgt := 54) dX10_copyTune_49 rfl (fun hc8 => ?_) (fun hc8 => ?_)
        · have h := it_f h hc8
          refine z_aload_n (i := 0) dX10_copyTune_54 rfl rfl ?_
          obtain ⟨q9, hq10, h⟩ := bnd h
          refine z_fVv (sX10_changes q6.2 hq10) dX10_copyTune_55 ml_X10_344 cd_X10_changes mk18 rfl rfl rfl rfl rfl rfl ?_
          refine z_iconst (v := (0 : Int32)) dX10_copyTune_58 kc_0 ?_
          refine z_istore_n (i := 3) dX10_copyTune_59 rfl (Nat.le_of_ble_eq_true rfl) rfl ?_
          refine sX10_copyTune_L60 x1 x2 NF _ _ h (fun w16 M17 h => ?_)
          refine z_aload_n (i := 0) dX10_copyTune_88 rfl rfl ?_
          refine z_iload_n (i := 2) dX10_copyTune_89 rfl rfl ?_
          obtain ⟨q18, hq19, h⟩ := bnd h
          refine z_fVi (sX10_pins M17 x2 hq19) dX10_copyTune_90 ml_X10_306 cd_X10_pins mk18 rfl rfl rfl rfl rfl rfl ?_
          cases h
          exact z_iret dX10_copyTune_93 rfl rfl (Nat.le_refl _) (Nat.le_refl _) ⟨rfl, rfl⟩
        · have h := it_t h hc8
          refine z_iconst (v := (0 : Int32)) dX10_copyTune_52 kc_0 ?_
          cases h
          exact z_iret dX10_copyTune_53 rfl rfl (Nat.le_refl _) (Nat.le_refl _) ⟨rfl, rfl⟩
      · have h := it_f h hc5
        refine z_iconst (v := (1 : Int32)) dX10_copyTune_40 kc_1 ?_
        refine z_goto (tgt := 45) dX10_copyTune_41 rfl ?_
        refine z_iconst (v := (2 : Int32)) dX10_copyTune_45 kc_2 ?_
        obtain ⟨q20, hq21, h⟩ := bnd h
        refine z_fVi (sX10_right q2.2 (1 : Int32) (2 : Int32) hq21) dX10_copyTune_46 ml_X10_127 cd_X10_right mk18 rfl rfl rfl rfl rfl rfl ?_
        refine z_if_ne (tgt := 54) dX10_copyTune_49 rfl (fun hc22 => ?_) (fun hc22 => ?_)
        · have h := it_f h hc22
          refine z_aload_n (i := 0) dX10_copyTune_54 rfl rfl ?_
          obtain ⟨q23, hq24, h⟩ := bnd h
          refine z_fVv (sX10_changes q20.2 hq24) dX10_copyTune_55 ml_X10_344 cd_X10_changes mk18 rfl rfl rfl rfl rfl rfl ?_
          refine z_iconst (v := (0 : Int32)) dX10_copyTune_58 kc_0 ?_
          refine z_istore_n (i := 3) dX10_copyTune_59 rfl (Nat.le_of_ble_eq_true rfl) rfl ?_
          refine sX10_copyTune_L60 x1 x2 NF _ _ h (fun w25 M26 h => ?_)
          refine z_aload_n (i := 0) dX10_copyTune_88 rfl rfl ?_
          refine z_iload_n (i := 2) dX10_copyTune_89 rfl rfl ?_
          obtain ⟨q27, hq28, h⟩ := bnd h
          refine z_fVi (sX10_pins M26 x2 hq28) dX10_copyTune_90 ml_X10_306 cd_X10_pins mk18 rfl rfl rfl rfl rfl rfl ?_
          cases h
          exact z_iret dX10_copyTune_93 rfl rfl (Nat.le_refl _) (Nat.le_refl _) ⟨rfl, rfl⟩
        · have h := it_t h hc22
          refine z_iconst (v := (0 : Int32)) dX10_copyTune_52 kc_0 ?_
          cases h
          exact z_iret dX10_copyTune_53 rfl rfl (Nat.le_refl _) (Nat.le_refl _) ⟨rfl, rfl⟩
  · have h := it_f h hc1
    refine z_aload_n (i := 0) dX10_copyTune_14 rfl rfl ?_
    refine z_iload_n (i := 2) dX10_copyTune_15 rfl rfl ?_
    refine z_fVi (sX10_isTune (putI M (18, 0, 0) 8 (0 : Int32)) x2) dX10_copyTune_16 ml_X10_288 cd_X10_isTune mk18 rfl rfl rfl rfl rfl rfl ?_
    refine z_if_eq (tgt := 26) dX10_copyTune_19 rfl (fun hc29 => ?_) (fun hc29 => ?_)
    · have h := it_t h hc29
      refine z_iconst (v := (0 : Int32)) dX10_copyTune_26 kc_0 ?_
      refine z_iconst (v := (1 : Int32)) dX10_copyTune_27 kc_1 ?_
      obtain ⟨q30, hq31, h⟩ := bnd h
      refine z_fVi (sX10_right (putI M (18, 0, 0) 8 (0 : Int32)) (0 : Int32) (1 : Int32) hq31) dX10_copyTune_28 ml_X10_127 cd_X10_right mk18 rfl rfl rfl rfl rfl rfl ?_
      refine z_if_eq (tgt := 52) dX10_copyTune_31 rfl (fun hc32 => ?_) (fun hc32 => ?_)
      · have h := it_t h hc32
        refine z_iconst (v := (0 : Int32)) dX10_copyTune_52 kc_0 ?_
        cases h
        exact z_iret dX10_copyTune_53 rfl rfl (Nat.le_refl _) (Nat.le_refl _) ⟨rfl, rfl⟩
      · have h := it_f h hc32
        refine z_aload_n (i := 0) dX10_copyTune_34 rfl rfl ?_
        refine z_iload_n (i := 1) dX10_copyTune_35 rfl rfl ?_
        refine z_iload_n (i := 2) dX10_copyTune_36 rfl rfl ?_
        refine z_icmp_eq (tgt := 44) dX10_copyTune_37 rfl (fun hc33 => ?_) (fun hc33 => ?_)
        · have h := it_t h hc33
          refine z_iconst (v := (0 : Int32)) dX10_copyTune_44 kc_0 ?_
          refine z_iconst (v := (2 : Int32)) dX10_copyTune_45 kc_2 ?_
          obtain ⟨q34, hq35, h⟩ := bnd h
          refine z_fVi (sX10_right q30.2 (0 : Int32) (2 : Int32) hq35) dX10_copyTune_46 ml_X10_127 cd_X10_right mk18 rfl rfl rfl rfl rfl rfl ?_
          refine z_if_ne (tgt := 54) dX10_copyTune_49 rfl (fun hc36 => ?_) (fun hc36 => ?_)
          · have h := it_f h hc36
            refine z_aload_n (i := 0) dX10_copyTune_54 rfl rfl ?_
            obtain ⟨q37, hq38, h⟩ := bnd h
            refine z_fVv (sX10_changes q34.2 hq38) dX10_copyTune_55 ml_X10_344 cd_X10_changes mk18 rfl rfl rfl rfl rfl rfl ?_
            refine z_iconst (v := (0 : Int32)) dX10_copyTune_58 kc_0 ?_
            refine z_istore_n (i := 3) dX10_copyTune_59 rfl (Nat.le_of_ble_eq_true rfl) rfl ?_
            refine sX10_copyTune_L60 x1 x2 NF _ _ h (fun w39 M40 h => ?_)
            refine z_aload_n (i := 0) dX10_copyTune_88 rfl rfl ?_
            refine z_iload_n (i := 2) dX10_copyTune_89 rfl rfl ?_
            obtain ⟨q41, hq42, h⟩ := bnd h
            refine z_fVi (sX10_pins M40 x2 hq42) dX10_copyTune_90 ml_X10_306 cd_X10_pins mk18 rfl rfl rfl rfl rfl rfl ?_
            cases h
            exact z_iret dX10_copyTune_93 rfl rfl (Nat.le_refl _) (Nat.le_refl _) ⟨rfl, rfl⟩
          · have h := it_t h hc36
            refine z_iconst (v := (0 : Int32)) dX10_copyTune_52 kc_0 ?_
            cases h
            exact z_iret dX10_copyTune_53 rfl rfl (Nat.le_refl _) (Nat.le_refl _) ⟨rfl, rfl⟩
        · have h := it_f h hc33
          refine z_iconst (v := (1 : Int32)) dX10_copyTune_40 kc_1 ?_
          refine z_goto (tgt := 45) dX10_copyTune_41 rfl ?_
          refine z_iconst (v := (2 : Int32)) dX10_copyTune_45 kc_2 ?_
          obtain ⟨q43, hq44, h⟩ := bnd h
          refine z_fVi (sX10_right q30.2 (1 : Int32) (2 : Int32) hq44) dX10_copyTune_46 ml_X10_127 cd_X10_right mk18 rfl rfl rfl rfl rfl rfl ?_
          refine z_if_ne (tgt := 54) dX10_copyTune_49 rfl (fun hc45 => ?_) (fun hc45 => ?_)
          · have h := it_f h hc45
            refine z_aload_n (i := 0) dX10_copyTune_54 rfl rfl ?_
            obtain ⟨q46, hq47, h⟩ := bnd h
            refine z_fVv (sX10_changes q43.2 hq47) dX10_copyTune_55 ml_X10_344 cd_X10_changes mk18 rfl rfl rfl rfl rfl rfl ?_
            refine z_iconst (v := (0 : Int32)) dX10_copyTune_58 kc_0 ?_
            refine z_istore_n (i := 3) dX10_copyTune_59 rfl (Nat.le_of_ble_eq_true rfl) rfl ?_
            refine sX10_copyTune_L60 x1 x2 NF _ _ h (fun w48 M49 h => ?_)
            refine z_aload_n (i := 0) dX10_copyTune_88 rfl rfl ?_
            refine z_iload_n (i := 2) dX10_copyTune_89 rfl rfl ?_
            obtain ⟨q50, hq51, h⟩ := bnd h
            refine z_fVi (sX10_pins M49 x2 hq51) dX10_copyTune_90 ml_X10_306 cd_X10_pins mk18 rfl rfl rfl rfl rfl rfl ?_
            cases h
            exact z_iret dX10_copyTune_93 rfl rfl (Nat.le_refl _) (Nat.le_refl _) ⟨rfl, rfl⟩
          · have h := it_t h hc45
            refine z_iconst (v := (0 : Int32)) dX10_copyTune_52 kc_0 ?_
            cases h
            exact z_iret dX10_copyTune_53 rfl rfl (Nat.le_refl _) (Nat.le_refl _) ⟨rfl, rfl⟩
    · have h := it_f h hc29
      refine z_iconst (v := (1 : Int32)) dX10_copyTune_22 kc_1 ?_
      refine z_goto (tgt := 27) dX10_copyTune_23 rfl ?_
      refine z_iconst (v := (1 : Int32)) dX10_copyTune_27 kc_1 ?_
      obtain ⟨q52, hq53, h⟩ := bnd h
      refine z_fVi (sX10_right (putI M (18, 0, 0) 8 (0 : Int32)) (1 : Int32) (1 : Int32) hq53) dX10_copyTune_28 ml_X10_127 cd_X10_right mk18 rfl rfl rfl rfl rfl rfl ?_
      refine z_if_eq (tgt := 52) dX10_copyTune_31 rfl (fun hc54 => ?_) (fun hc54 => ?_)
      · have h := it_t h hc54
        refine z_iconst (v := (0 : Int32)) dX10_copyTune_52 kc_0 ?_
        cases h
        exact z_iret dX10_copyTune_53 rfl rfl (Nat.le_refl _) (Nat.le_refl _) ⟨rfl, rfl⟩
      · have h := it_f h hc54
        refine z_aload_n (i := 0) dX10_copyTune_34 rfl rfl ?_
        refine z_iload_n (i := 1) dX10_copyTune_35 rfl rfl ?_
        refine z_iload_n (i := 2) dX10_copyTune_36 rfl rfl ?_
        refine z_icmp_eq (tgt := 44) dX10_copyTune_37 rfl (fun hc55 => ?_) (fun hc55 => ?_)
        · have h := it_t h hc55
          refine z_iconst (v := (0 : Int32)) dX10_copyTune_44 kc_0 ?_
          refine z_iconst (v := (2 : Int32)) dX10_copyTune_45 kc_2 ?_
          obtain ⟨q56, hq57, h⟩ := bnd h
          refine z_fVi (sX10_right q52.2 (0 : Int32) (2 : Int32) hq57) dX10_copyTune_46 ml_X10_127 cd_X10_right mk18 rfl rfl rfl rfl rfl rfl ?_
          refine z_if_ne (tgt := 54) dX10_copyTune_49 rfl (fun hc58 => ?_) (fun hc58 => ?_)
          · have h := it_f h hc58
            refine z_aload_n (i := 0) dX10_copyTune_54 rfl rfl ?_
            obtain ⟨q59, hq60, h⟩ := bnd h
            refine z_fVv (sX10_changes q56.2 hq60) dX10_copyTune_55 ml_X10_344 cd_X10_changes mk18 rfl rfl rfl rfl rfl rfl ?_
            refine z_iconst (v := (0 : Int32)) dX10_copyTune_58 kc_0 ?_
            refine z_istore_n (i := 3) dX10_copyTune_59 rfl (Nat.le_of_ble_eq_true rfl) rfl ?_
            refine sX10_copyTune_L60 x1 x2 NF _ _ h (fun w61 M62 h => ?_)
            refine z_aload_n (i := 0) dX10_copyTune_88 rfl rfl ?_
            refine z_iload_n (i := 2) dX10_copyTune_89 rfl rfl ?_
            obtain ⟨q63, hq64, h⟩ := bnd h
            refine z_fVi (sX10_pins M62 x2 hq64) dX10_copyTune_90 ml_X10_306 cd_X10_pins mk18 rfl rfl rfl rfl rfl rfl ?_
            cases h
            exact z_iret dX10_copyTune_93 rfl rfl (Nat.le_refl _) (Nat.le_refl _) ⟨rfl, rfl⟩
          · have h := it_t h hc58
            refine z_iconst (v := (0 : Int32)) dX10_copyTune_52 kc_0 ?_
            cases h
            exact z_iret dX10_copyTune_53 rfl rfl (Nat.le_refl _) (Nat.le_refl _) ⟨rfl, rfl⟩
        · have h := it_f h hc55
          refine z_iconst (v := (1 : Int32)) dX10_copyTune_40 kc_1 ?_
          refine z_goto (tgt := 45) dX10_copyTune_41 rfl ?_
          refine z_iconst (v := (2 : Int32)) dX10_copyTune_45 kc_2 ?_
          obtain ⟨q65, hq66, h⟩ := bnd h
          refine z_fVi (sX10_right q52.2 (1 : Int32) (2 : Int32) hq66) dX10_copyTune_46 ml_X10_127 cd_X10_right mk18 rfl rfl rfl rfl rfl rfl ?_
          refine z_if_ne (tgt := 54) dX10_copyTune_49 rfl (fun hc67 => ?_) (fun hc67 => ?_)
          · have h := it_f h hc67
            refine z_aload_n (i := 0) dX10_copyTune_54 rfl rfl ?_
            obtain ⟨q68, hq69, h⟩ := bnd h
            refine z_fVv (sX10_changes q65.2 hq69) dX10_copyTune_55 ml_X10_344 cd_X10_changes mk18 rfl rfl rfl rfl rfl rfl ?_
            refine z_iconst (v := (0 : Int32)) dX10_copyTune_58 kc_0 ?_
            refine z_istore_n (i := 3) dX10_copyTune_59 rfl (Nat.le_of_ble_eq_true rfl) rfl ?_
            refine sX10_copyTune_L60 x1 x2 NF _ _ h (fun w70 M71 h => ?_)
            refine z_aload_n (i := 0) dX10_copyTune_88 rfl rfl ?_
            refine z_iload_n (i := 2) dX10_copyTune_89 rfl rfl ?_
            obtain ⟨q72, hq73, h⟩ := bnd h
            refine z_fVi (sX10_pins M71 x2 hq73) dX10_copyTune_90 ml_X10_306 cd_X10_pins mk18 rfl rfl rfl rfl rfl rfl ?_
            cases h
            exact z_iret dX10_copyTune_93 rfl rfl (Nat.le_refl _) (Nat.le_refl _) ⟨rfl, rfl⟩
          · have h := it_t h hc67
            refine z_iconst (v := (0 : Int32)) dX10_copyTune_52 kc_0 ?_
            cases h
            exact z_iret dX10_copyTune_53 rfl rfl (Nat.le_refl _) (Nat.le_refl _) ⟨rfl, rfl⟩
theorem dX10_selectTune_0 : decode cX10_selectTune 0 = .ok (.aload_n 0, 1) := by decide +kernel
theorem dX10_selectTune_1 : decode cX10_selectTune 1 = .ok (.iconst 0, 1) := by decide +kernel
theorem dX10_selectTune_2 : decode cX10_selectTune 2 = .ok (.putfield 79, 3) := by decide +kernel
theorem dX10_selectTune_5 : decode cX10_selectTune 5 = .ok (.aload_n 0, 1) := by decide +kernel
theorem dX10_selectTune_6 : decode cX10_selectTune 6 = .ok (.iload_n 1, 1) := by decide +kernel
theorem dX10_selectTune_7 : decode cX10_selectTune 7 = .ok (.invokevirtual 266, 3) := by decide +kernel
theorem dX10_selectTune_10 : decode cX10_selectTune 10 = .ok (.ireturn, 1) := by decide +kernel
def fX10_selectTune (M : Mm) (x1 : Int32) : Option (Int32 × Mm) := (fX10_selecting (putI M (18, 0, 0) 8 (0 : Int32)) x1).bind fun q1 => some (q1.1, q1.2)
set_option maxRecDepth 20000 in
set_option maxHeartbeats 2000000 in
theorem sX10_selectTune {wv : Nat} (M : Mm) (x1 : Int32) {res : (Int32 × Mm)} (h : fX10_selectTune M x1 = some res) : TF (wv + 1) yX10_selectTune cX10_selectTune 2 (some .int) 3 [.inr (18, 0, 0), .inl (.int x1)] M (some (.int res.1)) res.2 := by
  rw [fX10_selectTune] at h
  refine TF.go (n := 0) (ls := [some (.inr (18, 0, 0)), some (.inl (.int x1))]) rfl rfl rfl rfl rfl ?_
  refine z_aload_n (i := 0) dX10_selectTune_0 rfl rfl ?_
  refine z_iconst (v := (0 : Int32)) dX10_selectTune_1 kc_0 ?_
  refine z_putI allR_nd dX10_selectTune_2 fl_X10_79 mk18 rfl rfl ?_
  refine z_aload_n (i := 0) dX10_selectTune_5 rfl rfl ?_
  refine z_iload_n (i := 1) dX10_selectTune_6 rfl rfl ?_
  obtain ⟨q1, hq2, h⟩ := bnd h
  refine z_fVi (sX10_selecting (putI M (18, 0, 0) 8 (0 : Int32)) x1 hq2) dX10_selectTune_7 ml_X10_266 cd_X10_selecting mk18 rfl rfl rfl rfl rfl rfl ?_
  cases h
  exact z_iret dX10_selectTune_10 rfl rfl (Nat.le_refl _) (Nat.le_refl _) ⟨rfl, rfl⟩
theorem dX10_setGap_0 : decode cX10_setGap 0 = .ok (.aload_n 0, 1) := by decide +kernel
theorem dX10_setGap_1 : decode cX10_setGap 1 = .ok (.iconst 0, 1) := by decide +kernel
theorem dX10_setGap_2 : decode cX10_setGap 2 = .ok (.putfield 79, 3) := by decide +kernel
theorem dX10_setGap_5 : decode cX10_setGap 5 = .ok (.aload_n 0, 1) := by decide +kernel
theorem dX10_setGap_6 : decode cX10_setGap 6 = .ok (.iload_n 1, 1) := by decide +kernel
theorem dX10_setGap_7 : decode cX10_setGap 7 = .ok (.iload_n 2, 1) := by decide +kernel
theorem dX10_setGap_8 : decode cX10_setGap 8 = .ok (.invokevirtual 251, 3) := by decide +kernel
theorem dX10_setGap_11 : decode cX10_setGap 11 = .ok (.ireturn, 1) := by decide +kernel
def fX10_setGap (M : Mm) (x1 : Int32) (x2 : Int32) : Option (Int32 × Mm) := (fX10_gapping (putI M (18, 0, 0) 8 (0 : Int32)) x1 x2).bind fun q1 => some (q1.1, q1.2)
set_option maxRecDepth 20000 in
set_option maxHeartbeats 2000000 in
theorem sX10_setGap {wv : Nat} (M : Mm) (x1 : Int32) (x2 : Int32) {res : (Int32 × Mm)} (h : fX10_setGap M x1 x2 = some res) : TF (wv + 1) yX10_setGap cX10_setGap 3 (some .int) 3 [.inr (18, 0, 0), .inl (.int x1), .inl (.int x2)] M (some (.int res.1)) res.2 := by
  rw [fX10_setGap] at h
  refine TF.go (n := 0) (ls := [some (.inr (18, 0, 0)), some (.inl (.int x1)), some (.inl (.int x2))]) rfl rfl rfl rfl rfl ?_
  refine z_aload_n (i := 0) dX10_setGap_0 rfl rfl ?_
  refine z_iconst (v := (0 : Int32)) dX10_setGap_1 kc_0 ?_
  refine z_putI allR_nd dX10_setGap_2 fl_X10_79 mk18 rfl rfl ?_
  refine z_aload_n (i := 0) dX10_setGap_5 rfl rfl ?_
  refine z_iload_n (i := 1) dX10_setGap_6 rfl rfl ?_
  refine z_iload_n (i := 2) dX10_setGap_7 rfl rfl ?_
  obtain ⟨q1, hq2, h⟩ := bnd h
  refine z_fVi (sX10_gapping (putI M (18, 0, 0) 8 (0 : Int32)) x1 x2 hq2) dX10_setGap_8 ml_X10_251 cd_X10_gapping mk18 rfl rfl rfl rfl rfl rfl ?_
  cases h
  exact z_iret dX10_setGap_11 rfl rfl (Nat.le_refl _) (Nat.le_refl _) ⟨rfl, rfl⟩
theorem dX10_bend_0 : decode cX10_bend 0 = .ok (.aload_n 0, 1) := by decide +kernel
theorem dX10_bend_1 : decode cX10_bend 1 = .ok (.iconst 0, 1) := by decide +kernel
theorem dX10_bend_2 : decode cX10_bend 2 = .ok (.putfield 79, 3) := by decide +kernel
theorem dX10_bend_5 : decode cX10_bend 5 = .ok (.aload_n 0, 1) := by decide +kernel
theorem dX10_bend_6 : decode cX10_bend 6 = .ok (.iload_n 1, 1) := by decide +kernel
theorem dX10_bend_7 : decode cX10_bend 7 = .ok (.iload_n 2, 1) := by decide +kernel
theorem dX10_bend_8 : decode cX10_bend 8 = .ok (.invokevirtual 254, 3) := by decide +kernel
theorem dX10_bend_11 : decode cX10_bend 11 = .ok (.ireturn, 1) := by decide +kernel
def fX10_bend (M : Mm) (x1 : Int32) (x2 : Int32) : Option (Int32 × Mm) := (fX10_bending (putI M (18, 0, 0) 8 (0 : Int32)) x1 x2).bind fun q1 => some (q1.1, q1.2)
set_option maxRecDepth 20000 in
set_option maxHeartbeats 2000000 in
theorem sX10_bend {wv : Nat} (M : Mm) (x1 : Int32) (x2 : Int32) {res : (Int32 × Mm)} (h : fX10_bend M x1 x2 = some res) : TF (wv + 1) yX10_bend cX10_bend 3 (some .int) 3 [.inr (18, 0, 0), .inl (.int x1), .inl (.int x2)] M (some (.int res.1)) res.2 := by
  rw [fX10_bend] at h
  refine TF.go (n := 0) (ls := [some (.inr (18, 0, 0)), some (.inl (.int x1)), some (.inl (.int x2))]) rfl rfl rfl rfl rfl ?_
  refine z_aload_n (i := 0) dX10_bend_0 rfl rfl ?_
  refine z_iconst (v := (0 : Int32)) dX10_bend_1 kc_0 ?_
  refine z_putI allR_nd dX10_bend_2 fl_X10_79 mk18 rfl rfl ?_
  refine z_aload_n (i := 0) dX10_bend_5 rfl rfl ?_
  refine z_iload_n (i := 1) dX10_bend_6 rfl rfl ?_
  refine z_iload_n (i := 2) dX10_bend_7 rfl rfl ?_
  obtain ⟨q1, hq2, h⟩ := bnd h
  refine z_fVi (sX10_bending (putI M (18, 0, 0) 8 (0 : Int32)) x1 x2 hq2) dX10_bend_8 ml_X10_254 cd_X10_bending mk18 rfl rfl rfl rfl rfl rfl ?_
  cases h
  exact z_iret dX10_bend_11 rfl rfl (Nat.le_refl _) (Nat.le_refl _) ⟨rfl, rfl⟩
theorem dX10_replaceTooth_0 : decode cX10_replaceTooth 0 = .ok (.aload_n 0, 1) := by decide +kernel
theorem dX10_replaceTooth_1 : decode cX10_replaceTooth 1 = .ok (.iconst 0, 1) := by decide +kernel
theorem dX10_replaceTooth_2 : decode cX10_replaceTooth 2 = .ok (.putfield 79, 3) := by decide +kernel
theorem dX10_replaceTooth_5 : decode cX10_replaceTooth 5 = .ok (.aload_n 0, 1) := by decide +kernel
theorem dX10_replaceTooth_6 : decode cX10_replaceTooth 6 = .ok (.iload_n 1, 1) := by decide +kernel
theorem dX10_replaceTooth_7 : decode cX10_replaceTooth 7 = .ok (.invokevirtual 257, 3) := by decide +kernel
theorem dX10_replaceTooth_10 : decode cX10_replaceTooth 10 = .ok (.ireturn, 1) := by decide +kernel
def fX10_replaceTooth (M : Mm) (x1 : Int32) : Option (Int32 × Mm) := (fX10_replacing (putI M (18, 0, 0) 8 (0 : Int32)) x1).bind fun q1 => some (q1.1, q1.2)
set_option maxRecDepth 20000 in
set_option maxHeartbeats 2000000 in
theorem sX10_replaceTooth {wv : Nat} (M : Mm) (x1 : Int32) {res : (Int32 × Mm)} (h : fX10_replaceTooth M x1 = some res) : TF (wv + 1) yX10_replaceTooth cX10_replaceTooth 2 (some .int) 3 [.inr (18, 0, 0), .inl (.int x1)] M (some (.int res.1)) res.2 := by
  rw [fX10_replaceTooth] at h
  refine TF.go (n := 0) (ls := [some (.inr (18, 0, 0)), some (.inl (.int x1))]) rfl rfl rfl rfl rfl ?_
  refine z_aload_n (i := 0) dX10_replaceTooth_0 rfl rfl ?_
  refine z_iconst (v := (0 : Int32)) dX10_replaceTooth_1 kc_0 ?_
  refine z_putI allR_nd dX10_replaceTooth_2 fl_X10_79 mk18 rfl rfl ?_
  refine z_aload_n (i := 0) dX10_replaceTooth_5 rfl rfl ?_
  refine z_iload_n (i := 1) dX10_replaceTooth_6 rfl rfl ?_
  obtain ⟨q1, hq2, h⟩ := bnd h
  refine z_fVi (sX10_replacing (putI M (18, 0, 0) 8 (0 : Int32)) x1 hq2) dX10_replaceTooth_7 ml_X10_257 cd_X10_replacing mk18 rfl rfl rfl rfl rfl rfl ?_
  cases h
  exact z_iret dX10_replaceTooth_10 rfl rfl (Nat.le_refl _) (Nat.le_refl _) ⟨rfl, rfl⟩
theorem dX10_setVane_0 : decode cX10_setVane 0 = .ok (.aload_n 0, 1) := by decide +kernel
theorem dX10_setVane_1 : decode cX10_setVane 1 = .ok (.iconst 0, 1) := by decide +kernel
theorem dX10_setVane_2 : decode cX10_setVane 2 = .ok (.putfield 79, 3) := by decide +kernel
theorem dX10_setVane_5 : decode cX10_setVane 5 = .ok (.aload_n 0, 1) := by decide +kernel
theorem dX10_setVane_6 : decode cX10_setVane 6 = .ok (.iload_n 1, 1) := by decide +kernel
theorem dX10_setVane_7 : decode cX10_setVane 7 = .ok (.invokevirtual 260, 3) := by decide +kernel
theorem dX10_setVane_10 : decode cX10_setVane 10 = .ok (.ireturn, 1) := by decide +kernel
def fX10_setVane (M : Mm) (x1 : Int32) : Option (Int32 × Mm) := (fX10_vaning (putI M (18, 0, 0) 8 (0 : Int32)) x1).bind fun q1 => some (q1.1, q1.2)
set_option maxRecDepth 20000 in
set_option maxHeartbeats 2000000 in
theorem sX10_setVane {wv : Nat} (M : Mm) (x1 : Int32) {res : (Int32 × Mm)} (h : fX10_setVane M x1 = some res) : TF (wv + 1) yX10_setVane cX10_setVane 2 (some .int) 3 [.inr (18, 0, 0), .inl (.int x1)] M (some (.int res.1)) res.2 := by
  rw [fX10_setVane] at h
  refine TF.go (n := 0) (ls := [some (.inr (18, 0, 0)), some (.inl (.int x1))]) rfl rfl rfl rfl rfl ?_
  refine z_aload_n (i := 0) dX10_setVane_0 rfl rfl ?_
  refine z_iconst (v := (0 : Int32)) dX10_setVane_1 kc_0 ?_
  refine z_putI allR_nd dX10_setVane_2 fl_X10_79 mk18 rfl rfl ?_
  refine z_aload_n (i := 0) dX10_setVane_5 rfl rfl ?_
  refine z_iload_n (i := 1) dX10_setVane_6 rfl rfl ?_
  obtain ⟨q1, hq2, h⟩ := bnd h
  refine z_fVi (sX10_vaning (putI M (18, 0, 0) 8 (0 : Int32)) x1 hq2) dX10_setVane_7 ml_X10_260 cd_X10_vaning mk18 rfl rfl rfl rfl rfl rfl ?_
  cases h
  exact z_iret dX10_setVane_10 rfl rfl (Nat.le_refl _) (Nat.le_refl _) ⟨rfl, rfl⟩
theorem dX10_wind_0 : decode cX10_wind 0 = .ok (.aload_n 0, 1) := by decide +kernel
theorem dX10_wind_1 : decode cX10_wind 1 = .ok (.iconst 0, 1) := by decide +kernel
theorem dX10_wind_2 : decode cX10_wind 2 = .ok (.putfield 79, 3) := by decide +kernel
theorem dX10_wind_5 : decode cX10_wind 5 = .ok (.aload_n 0, 1) := by decide +kernel
theorem dX10_wind_6 : decode cX10_wind 6 = .ok (.iload_n 1, 1) := by decide +kernel
theorem dX10_wind_7 : decode cX10_wind 7 = .ok (.invokevirtual 263, 3) := by decide +kernel
theorem dX10_wind_10 : decode cX10_wind 10 = .ok (.ireturn, 1) := by decide +kernel
def fX10_wind (M : Mm) (x1 : Int32) : Option (Int32 × Mm) := (fX10_winding (putI M (18, 0, 0) 8 (0 : Int32)) x1).bind fun q1 => some (q1.1, q1.2)
set_option maxRecDepth 20000 in
set_option maxHeartbeats 2000000 in
theorem sX10_wind {wv : Nat} (M : Mm) (x1 : Int32) {res : (Int32 × Mm)} (h : fX10_wind M x1 = some res) : TF (wv + 1) yX10_wind cX10_wind 2 (some .int) 3 [.inr (18, 0, 0), .inl (.int x1)] M (some (.int res.1)) res.2 := by
  rw [fX10_wind] at h
  refine TF.go (n := 0) (ls := [some (.inr (18, 0, 0)), some (.inl (.int x1))]) rfl rfl rfl rfl rfl ?_
  refine z_aload_n (i := 0) dX10_wind_0 rfl rfl ?_
  refine z_iconst (v := (0 : Int32)) dX10_wind_1 kc_0 ?_
  refine z_putI allR_nd dX10_wind_2 fl_X10_79 mk18 rfl rfl ?_
  refine z_aload_n (i := 0) dX10_wind_5 rfl rfl ?_
  refine z_iload_n (i := 1) dX10_wind_6 rfl rfl ?_
  obtain ⟨q1, hq2, h⟩ := bnd h
  refine z_fVi (sX10_winding (putI M (18, 0, 0) 8 (0 : Int32)) x1 hq2) dX10_wind_7 ml_X10_263 cd_X10_winding mk18 rfl rfl rfl rfl rfl rfl ?_
  cases h
  exact z_iret dX10_wind_10 rfl rfl (Nat.le_refl _) (Nat.le_refl _) ⟨rfl, rfl⟩
theorem dX10_play_0 : decode cX10_play 0 = .ok (.aload_n 0, 1) := by decide +kernel
theorem dX10_play_1 : decode cX10_play 1 = .ok (.iconst 0, 1) := by decide +kernel
theorem dX10_play_2 : decode cX10_play 2 = .ok (.putfield 79, 3) := by decide +kernel
theorem dX10_play_5 : decode cX10_play 5 = .ok (.aload_n 0, 1) := by decide +kernel
theorem dX10_play_6 : decode cX10_play 6 = .ok (.iload_n 1, 1) := by decide +kernel
theorem dX10_play_7 : decode cX10_play 7 = .ok (.invokevirtual 269, 3) := by decide +kernel
theorem dX10_play_10 : decode cX10_play 10 = .ok (.ireturn, 1) := by decide +kernel
def fX10_play (M : Mm) (x1 : Int32) : Option (Int32 × Mm) := (fX10_playing (putI M (18, 0, 0) 8 (0 : Int32)) x1).bind fun q1 => some (q1.1, q1.2)
set_option maxRecDepth 20000 in
set_option maxHeartbeats 2000000 in
theorem sX10_play {wv : Nat} (M : Mm) (x1 : Int32) {res : (Int32 × Mm)} (h : fX10_play M x1 = some res) : TF (wv + 1) yX10_play cX10_play 2 (some .int) 7 [.inr (18, 0, 0), .inl (.int x1)] M (some (.int res.1)) res.2 := by
  rw [fX10_play] at h
  refine TF.go (n := 0) (ls := [some (.inr (18, 0, 0)), some (.inl (.int x1))]) rfl rfl rfl rfl rfl ?_
  refine z_aload_n (i := 0) dX10_play_0 rfl rfl ?_
  refine z_iconst (v := (0 : Int32)) dX10_play_1 kc_0 ?_
  refine z_putI allR_nd dX10_play_2 fl_X10_79 mk18 rfl rfl ?_
  refine z_aload_n (i := 0) dX10_play_5 rfl rfl ?_
  refine z_iload_n (i := 1) dX10_play_6 rfl rfl ?_
  obtain ⟨q1, hq2, h⟩ := bnd h
  refine z_fVi (sX10_playing (putI M (18, 0, 0) 8 (0 : Int32)) x1 hq2) dX10_play_7 ml_X10_269 cd_X10_playing mk18 rfl rfl rfl rfl rfl rfl ?_
  cases h
  exact z_iret dX10_play_10 rfl rfl (Nat.le_refl _) (Nat.le_refl _) ⟨rfl, rfl⟩
theorem dX10_writes_0 : decode cX10_writes 0 = .ok (.aload_n 0, 1) := by decide +kernel
theorem dX10_writes_1 : decode cX10_writes 1 = .ok (.getfield 51, 3) := by decide +kernel
theorem dX10_writes_4 : decode cX10_writes 4 = .ok (.aload_n 0, 1) := by decide +kernel
theorem dX10_writes_5 : decode cX10_writes 5 = .ok (.getfield 350, 3) := by decide +kernel
theorem dX10_writes_8 : decode cX10_writes 8 = .ok (.iload_n 1, 1) := by decide +kernel
theorem dX10_writes_9 : decode cX10_writes 9 = .ok (.iastore, 1) := by decide +kernel
theorem dX10_writes_10 : decode cX10_writes 10 = .ok (.aload_n 0, 1) := by decide +kernel
theorem dX10_writes_11 : decode cX10_writes 11 = .ok (.dup, 1) := by decide +kernel
theorem dX10_writes_12 : decode cX10_writes 12 = .ok (.getfield 350, 3) := by decide +kernel
theorem dX10_writes_15 : decode cX10_writes 15 = .ok (.iconst 1, 1) := by decide +kernel
theorem dX10_writes_16 : decode cX10_writes 16 = .ok (.iadd, 1) := by decide +kernel
theorem dX10_writes_17 : decode cX10_writes 17 = .ok (.putfield 350, 3) := by decide +kernel
theorem dX10_writes_20 : decode cX10_writes 20 = .ok (.return_, 1) := by decide +kernel
def fX10_writes (M : Mm) (x1 : Int32) : Option Mm := if (M.1 (18, 0, 0) 27) < 0 ∨ 100 ≤ (M.1 (18, 0, 0) 27).toNatClampNeg then none else some (putI (putI M (19, 11, 0) (M.1 (18, 0, 0) 27).toNatClampNeg x1) (18, 0, 0) 27 ((M.1 (18, 0, 0) 27) + (1 : Int32)))
set_option maxRecDepth 20000 in
set_option maxHeartbeats 2000000 in
theorem sX10_writes {wv : Nat} (M : Mm) (x1 : Int32) {res : Mm} (h : fX10_writes M x1 = some res) : TF (wv + 1) yX10_writes cX10_writes 2 none 0 [.inr (18, 0, 0), .inl (.int x1)] M (none) res := by
  rw [fX10_writes] at h
  refine TF.go (n := 0) (ls := [some (.inr (18, 0, 0)), some (.inl (.int x1))]) rfl rfl rfl rfl rfl ?_
  refine z_aload_n (i := 0) dX10_writes_0 rfl rfl ?_
  refine z_getR (r' := (19, 11, 0)) dX10_writes_1 fl_X10_51 mk18 rfl rfl ?_
  refine z_aload_n (i := 0) dX10_writes_4 rfl rfl ?_
  refine z_getI (x := (M.1 (18, 0, 0) 27)) dX10_writes_5 fl_X10_350 mk18 rfl rfl ?_
  refine z_iload_n (i := 1) dX10_writes_8 rfl rfl ?_
  obtain ⟨hc1, h⟩ := chk h
  refine z_iast (j := (M.1 (18, 0, 0) 27).toNatClampNeg) allR_nd dX10_writes_9 (m19 _ (Nat.le_of_ble_eq_true rfl)) rfl hc1 rfl ?_
  refine z_aload_n (i := 0) dX10_writes_10 rfl rfl ?_
  refine z_dup dX10_writes_11 rfl ?_
  refine z_getI (x := (M.1 (18, 0, 0) 27)) dX10_writes_12 fl_X10_350 mk18 rfl rfl ?_
  refine z_iconst (v := (1 : Int32)) dX10_writes_15 kc_1 ?_
  refine z_iadd dX10_writes_16 ?_
  refine z_putI allR_nd dX10_writes_17 fl_X10_350 mk18 rfl rfl ?_
  cases h
  exact z_vret dX10_writes_20 rfl (Nat.le_refl _) (Nat.le_refl _) ⟨rfl, rfl⟩
theorem dX10_writePins_0 : decode cX10_writePins 0 = .ok (.aload_n 0, 1) := by decide +kernel
theorem dX10_writePins_1 : decode cX10_writePins 1 = .ok (.iload_n 1, 1) := by decide +kernel
theorem dX10_writePins_2 : decode cX10_writePins 2 = .ok (.invokevirtual 303, 3) := by decide +kernel
theorem dX10_writePins_5 : decode cX10_writePins 5 = .ok (.ifCond .eq 16, 3) := by decide +kernel
theorem dX10_writePins_8 : decode cX10_writePins 8 = .ok (.aload_n 0, 1) := by decide +kernel
theorem dX10_writePins_9 : decode cX10_writePins 9 = .ok (.aload_n 0, 1) := by decide +kernel
theorem dX10_writePins_10 : decode cX10_writePins 10 = .ok (.iload_n 2, 1) := by decide +kernel
theorem dX10_writePins_11 : decode cX10_writePins 11 = .ok (.invokevirtual 291, 3) := by decide +kernel
theorem dX10_writePins_14 : decode cX10_writePins 14 = .ok (.iconst 1, 1) := by decide +kernel
theorem dX10_writePins_15 : decode cX10_writePins 15 = .ok (.invokevirtual 127, 3) := by decide +kernel
theorem dX10_writePins_18 : decode cX10_writePins 18 = .ok (.ifCond .ne 5, 3) := by decide +kernel
theorem dX10_writePins_21 : decode cX10_writePins 21 = .ok (.iconst 0, 1) := by decide +kernel
theorem dX10_writePins_22 : decode cX10_writePins 22 = .ok (.ireturn, 1) := by decide +kernel
theorem dX10_writePins_23 : decode cX10_writePins 23 = .ok (.aload_n 0, 1) := by decide +kernel
theorem dX10_writePins_24 : decode cX10_writePins 24 = .ok (.iconst 0, 1) := by decide +kernel
theorem dX10_writePins_25 : decode cX10_writePins 25 = .ok (.putfield 350, 3) := by decide +kernel
theorem dX10_writePins_28 : decode cX10_writePins 28 = .ok (.iconst 0, 1) := by decide +kernel
theorem dX10_writePins_29 : decode cX10_writePins 29 = .ok (.istore_n 3, 1) := by decide +kernel
theorem dX10_writePins_30 : decode cX10_writePins 30 = .ok (.iload_n 3, 1) := by decide +kernel
theorem dX10_writePins_31 : decode cX10_writePins 31 = .ok (.aload_n 0, 1) := by decide +kernel
theorem dX10_writePins_32 : decode cX10_writePins 32 = .ok (.getfield 7, 3) := by decide +kernel
theorem dX10_writePins_35 : decode cX10_writePins 35 = .ok (.iconst 0, 1) := by decide +kernel
theorem dX10_writePins_36 : decode cX10_writePins 36 = .ok (.iaload, 1) := by decide +kernel
theorem dX10_writePins_37 : decode cX10_writePins 37 = .ok (.if_icmp .ge 45, 3) := by decide +kernel
theorem dX10_writePins_40 : decode cX10_writePins 40 = .ok (.aload_n 0, 1) := by decide +kernel
theorem dX10_writePins_41 : decode cX10_writePins 41 = .ok (.aload_n 0, 1) := by decide +kernel
theorem dX10_writePins_42 : decode cX10_writePins 42 = .ok (.iload_n 1, 1) := by decide +kernel
theorem dX10_writePins_43 : decode cX10_writePins 43 = .ok (.iload_n 2, 1) := by decide +kernel
theorem dX10_writePins_44 : decode cX10_writePins 44 = .ok (.iload_n 3, 1) := by decide +kernel
theorem dX10_writePins_45 : decode cX10_writePins 45 = .ok (.invokevirtual 309, 3) := by decide +kernel
theorem dX10_writePins_48 : decode cX10_writePins 48 = .ok (.ifCond .eq 8, 3) := by decide +kernel
theorem dX10_writePins_51 : decode cX10_writePins 51 = .ok (.bipush 33, 2) := by decide +kernel
theorem dX10_writePins_53 : decode cX10_writePins 53 = .ok (.goto 20, 3) := by decide +kernel
theorem dX10_writePins_56 : decode cX10_writePins 56 = .ok (.aload_n 0, 1) := by decide +kernel
theorem dX10_writePins_57 : decode cX10_writePins 57 = .ok (.iload_n 1, 1) := by decide +kernel
theorem dX10_writePins_58 : decode cX10_writePins 58 = .ok (.iload_n 2, 1) := by decide +kernel
theorem dX10_writePins_59 : decode cX10_writePins 59 = .ok (.iload_n 3, 1) := by decide +kernel
theorem dX10_writePins_60 : decode cX10_writePins 60 = .ok (.invokevirtual 93, 3) := by decide +kernel
theorem dX10_writePins_63 : decode cX10_writePins 63 = .ok (.ifCond .eq 8, 3) := by decide +kernel
theorem dX10_writePins_66 : decode cX10_writePins 66 = .ok (.bipush 35, 2) := by decide +kernel
theorem dX10_writePins_68 : decode cX10_writePins 68 = .ok (.goto 5, 3) := by decide +kernel
theorem dX10_writePins_71 : decode cX10_writePins 71 = .ok (.bipush 45, 2) := by decide +kernel
theorem dX10_writePins_73 : decode cX10_writePins 73 = .ok (.invokevirtual 353, 3) := by decide +kernel
theorem dX10_writePins_76 : decode cX10_writePins 76 = .ok (.iinc 3 1, 3) := by decide +kernel
theorem dX10_writePins_79 : decode cX10_writePins 79 = .ok (.goto (-49), 3) := by decide +kernel
theorem dX10_writePins_82 : decode cX10_writePins 82 = .ok (.aload_n 0, 1) := by decide +kernel
theorem dX10_writePins_83 : decode cX10_writePins 83 = .ok (.getfield 350, 3) := by decide +kernel
theorem dX10_writePins_86 : decode cX10_writePins 86 = .ok (.ireturn, 1) := by decide +kernel
def fX10_writePins_L30 (c1 : Int32) (c2 : Int32) (K : Int32 → Mm → Option (Int32 × Mm)) : Nat → Int32 → Mm → Option (Int32 × Mm)
  | 0, _, _ => none
  | n + 1, v3, M => if (M.1 (19, 0, 0) 0) ≤ v3 then K v3 M else (fX10_isClose M c1 c2 v3).bind fun q8 => if q8 = 0 then ((fX10_has M c1 c2 v3).bind fun q11 => if q11 = 0 then ((fX10_writes M (45 : Int32)).bind fun q14 => fX10_writePins_L30 c1 c2 K n (v3 + (1 : Int32)) q14) else (fX10_writes M (35 : Int32)).bind fun q16 => fX10_writePins_L30 c1 c2 K n (v3 + (1 : Int32)) q16) else (fX10_writes M (33 : Int32)).bind fun q18 => fX10_writePins_L30 c1 c2 K n (v3 + (1 : Int32)) q18
def fX10_writePins (M : Mm) (x1 : Int32) (x2 : Int32) : Option (Int32 × Mm) := (fX10_findsTune M x1).bind fun q1 => if q1.1 = 0 then some ((0 : Int32), q1.2) else (fX10_right q1.2 (fX10_isTooth q1.2 x2) (1 : Int32)).bind fun q4 => if q4.1 = 0 then some ((0 : Int32), q4.2) else fX10_writePins_L30 x1 x2 (fun w20 M21 => some ((M21.1 (18, 0, 0) 27), M21)) NF (0 : Int32) (putI q4.2 (18, 0, 0) 27 (0 : Int32))
set_option maxRecDepth 20000 in
set_option maxHeartbeats 2000000 in
theorem sX10_writePins_L30 {wv : Nat} (c1 : Int32) (c2 : Int32) {res : (Int32 × Mm)} {K : Int32 → Mm → Option (Int32 × Mm)} : ∀ (n : Nat) (v3 : Int32) (M : Mm), fX10_writePins_L30 c1 c2 K n v3 M = some res →
    (∀ (v3 : Int32) (M : Mm), K v3 M = some res → Z RX10 cX10_writePins 4 (some .int) [] "writePins" (rmD 4 0 0) (QM SH (allR (wv + 1)) 0 0 (fun v M9 => v = some (.int res.1) ∧ M9 = res.2) (fun _ _ => False)) (allR (wv + 1)) SH 0 0 82 [some (.inr (18, 0, 0)), some (.inl (.int c1)), some (.inl (.int c2)), some (.inl (.int v3))] [] M) → Z RX10 cX10_writePins 4 (some .int) [] "writePins" (rmD 4 0 0) (QM SH (allR (wv + 1)) 0 0 (fun v M9 => v = some (.int res.1) ∧ M9 = res.2) (fun _ _ => False)) (allR (wv + 1)) SH 0 0 30 [some (.inr (18, 0, 0)), some (.inl (.int c1)), some (.inl (.int c2)), some (.inl (.int v3))] [] M := by
  intro n
  induction n with
  | zero => intro v3 M h; cases h
  | succ n ih =>
    intro v3 M h hK
    rw [fX10_writePins_L30] at h
    refine z_iload_n (i := 3) dX10_writePins_30 rfl rfl ?_
    refine z_aload_n (i := 0) dX10_writePins_31 rfl rfl ?_
    refine z_getR (r' := (19, 0, 0)) dX10_writePins_32 fl_X10_7 mk18 rfl rfl ?_
    refine z_iconst (v := (0 : Int32)) dX10_writePins_35 kc_0 ?_
    refine z_iald (x := (M.1 (19, 0, 0) 0)) dX10_writePins_36 (m19 _ (Nat.le_of_ble_eq_true rfl)) rfl (by decide) rfl ?_
    refine z_icmp_ge (tgt := 82) dX10_writePins_37 rfl (fun hc7 => ?_) (fun hc7 => ?_)
    · have h := it_t h hc7
      exact hK _ _ h
    · have h := it_f h hc7
      refine z_aload_n (i := 0) dX10_writePins_40 rfl rfl ?_
      refine z_aload_n (i := 0) dX10_writePins_41 rfl rfl ?_
      refine z_iload_n (i := 1) dX10_writePins_42 rfl rfl ?_
      refine z_iload_n (i := 2) dX10_writePins_43 rfl rfl ?_
      refine z_iload_n (i := 3) dX10_writePins_44 rfl rfl ?_
      obtain ⟨q8, hq9, h⟩ := bnd h
      refine z_fVi (sX10_isClose M c1 c2 v3 hq9) dX10_writePins_45 ml_X10_309 cd_X10_isClose mk18 rfl rfl rfl rfl rfl rfl ?_
      refine z_if_eq (tgt := 56) dX10_writePins_48 rfl (fun hc10 => ?_) (fun hc10 => ?_)
      · have h := it_t h hc10
        refine z_aload_n (i := 0) dX10_writePins_56 rfl rfl ?_
        refine z_iload_n (i := 1) dX10_writePins_57 rfl rfl ?_
        refine z_iload_n (i := 2) dX10_writePins_58 rfl rfl ?_
        refine z_iload_n (i := 3) dX10_writePins_59 rfl rfl ?_
        obtain ⟨q11, hq12, h⟩ := bnd h
        refine z_fVi (sX10_has M c1 c2 v3 hq12) dX10_writePins_60 ml_X10_93 cd_X10_has mk18 rfl rfl rfl rfl rfl rfl ?_
        refine z_if_eq (tgt := 71) dX10_writePins_63 rfl (fun hc13 => ?_) (fun hc13 => ?_)
        · have h := it_t h hc13
          refine z_bipush (v := (45 : Int32)) dX10_writePins_71 kb_45 ?_
          obtain ⟨q14, hq15, h⟩ := bnd h
          refine z_fVv (sX10_writes M (45 : Int32) hq15) dX10_writePins_73 ml_X10_353 cd_X10_writes mk18 rfl rfl rfl rfl rfl rfl ?_
          refine z_iinc (i := 3) (v := (v3 + (1 : Int32))) dX10_writePins_76 rfl (iinc_k kc_1) (Nat.le_of_ble_eq_true rfl) rfl ?_
          refine z_goto (tgt := 30) dX10_writePins_79 rfl ?_
          exact ih _ _ h hK
        · have h := it_f h hc13
          refine z_bipush (v := (35 : Int32)) dX10_writePins_66 kb_35 ?_
          refine z_goto (tgt := 73) dX10_writePins_68 rfl ?_
          obtain ⟨q16, hq17, h⟩ := bnd h
          refine z_fVv (sX10_writes M (35 : Int32) hq17) dX10_writePins_73 ml_X10_353 cd_X10_writes mk18 rfl rfl rfl rfl rfl rfl ?_
          refine z_iinc (i := 3) (v := (v3 + (1 : Int32))) dX10_writePins_76 rfl (iinc_k kc_1) (Nat.le_of_ble_eq_true rfl) rfl ?_
          refine z_goto (tgt := 30) dX10_writePins_79 rfl ?_
          exact ih _ _ h hK
      · have h := it_f h hc10
        refine z_bipush (v := (33 : Int32)) dX10_writePins_51 kb_33 ?_
        refine z_goto (tgt := 73) dX10_writePins_53 rfl ?_
        obtain ⟨q18, hq19, h⟩ := bnd h
        refine z_fVv (sX10_writes M (33 : Int32) hq19) dX10_writePins_73 ml_X10_353 cd_X10_writes mk18 rfl rfl rfl rfl rfl rfl ?_
        refine z_iinc (i := 3) (v := (v3 + (1 : Int32))) dX10_writePins_76 rfl (iinc_k kc_1) (Nat.le_of_ble_eq_true rfl) rfl ?_
        refine z_goto (tgt := 30) dX10_writePins_79 rfl ?_
        exact ih _ _ h hK
set_option maxRecDepth 20000 in
set_option maxHeartbeats 2000000 in
theorem sX10_writePins {wv : Nat} (M : Mm) (x1 : Int32) (x2 : Int32) {res : (Int32 × Mm)} (h : fX10_writePins M x1 x2 = some res) : TF (wv + 1) yX10_writePins cX10_writePins 4 (some .int) 4 [.inr (18, 0, 0), .inl (.int x1), .inl (.int x2)] M (some (.int res.1)) res.2 := by
  rw [fX10_writePins] at h
  refine TF.go (n := 1) (ls := [some (.inr (18, 0, 0)), some (.inl (.int x1)), some (.inl (.int x2)), none]) rfl rfl rfl rfl rfl ?_
  refine z_aload_n (i := 0) dX10_writePins_0 rfl rfl ?_
  refine z_iload_n (i := 1) dX10_writePins_1 rfl rfl ?_
  obtain ⟨q1, hq2, h⟩ := bnd h
  refine z_fVi (sX10_findsTune M x1 hq2) dX10_writePins_2 ml_X10_303 cd_X10_findsTune mk18 rfl rfl rfl rfl rfl rfl ?_
  refine z_if_eq (tgt := 21) dX10_writePins_5 rfl (fun hc3 => ?_) (fun hc3 => ?_)
  · have h := it_t h hc3
    refine z_iconst (v := (0 : Int32)) dX10_writePins_21 kc_0 ?_
    cases h
    exact z_iret dX10_writePins_22 rfl rfl (Nat.le_refl _) (Nat.le_refl _) ⟨rfl, rfl⟩
  · have h := it_f h hc3
    refine z_aload_n (i := 0) dX10_writePins_8 rfl rfl ?_
    refine z_aload_n (i := 0) dX10_writePins_9 rfl rfl ?_
    refine z_iload_n (i := 2) dX10_writePins_10 rfl rfl ?_
    refine z_fVi (sX10_isTooth q1.2 x2) dX10_writePins_11 ml_X10_291 cd_X10_isTooth mk18 rfl rfl rfl rfl rfl rfl ?_
    refine z_iconst (v := (1 : Int32)) dX10_writePins_14 kc_1 ?_
    obtain ⟨q4, hq5, h⟩ := bnd h
    refine z_fVi (sX10_right q1.2 (fX10_isTooth q1.2 x2) (1 : Int32) hq5) dX10_writePins_15 ml_X10_127 cd_X10_right mk18 rfl rfl rfl rfl rfl rfl ?_
    refine z_if_ne (tgt := 23) dX10_writePins_18 rfl (fun hc6 => ?_) (fun hc6 => ?_)
    · have h := it_f h hc6
      refine z_aload_n (i := 0) dX10_writePins_23 rfl rfl ?_
      refine z_iconst (v := (0 : Int32)) dX10_writePins_24 kc_0 ?_
      refine z_putI allR_nd dX10_writePins_25 fl_X10_350 mk18 rfl rfl ?_
      refine z_iconst (v := (0 : Int32)) dX10_writePins_28 kc_0 ?_
      refine z_istore_n (i := 3) dX10_writePins_29 rfl (Nat.le_of_ble_eq_true rfl) rfl ?_
      refine sX10_writePins_L30 x1 x2 NF _ _ h (fun w20 M21 h => ?_)
      refine z_aload_n (i := 0) dX10_writePins_82 rfl rfl ?_
      refine z_getI (x := (M21.1 (18, 0, 0) 27)) dX10_writePins_83 fl_X10_350 mk18 rfl rfl ?_
      cases h
      exact z_iret dX10_writePins_86 rfl rfl (Nat.le_refl _) (Nat.le_refl _) ⟨rfl, rfl⟩
    · have h := it_t h hc6
      refine z_iconst (v := (0 : Int32)) dX10_writePins_21 kc_0 ?_
      cases h
      exact z_iret dX10_writePins_22 rfl rfl (Nat.le_refl _) (Nat.le_refl _) ⟨rfl, rfl⟩
