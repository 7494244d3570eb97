theorem dX10_writesNumber_0 : decode cX10_writesNumber 0 = .ok (.iload_n 1, 1) := by decide +kernel
theorem dX10_writesNumber_1 : decode cX10_writesNumber 1 = .ok (.ifCond .ge 9, 3) := by decide +kernel
theorem dX10_writesNumber_4 : decode cX10_writesNumber 4 = .ok (.aload_n 0, 1) := by decide +kernel
theorem dX10_writesNumber_5 : decode cX10_writesNumber 5 = .ok (.bipush 45, 2) := by decide +kernel
theorem dX10_writesNumber_7 : decode cX10_writesNumber 7 = .ok (.invokevirtual 353, 3) := by decide +kernel
theorem dX10_writesNumber_10 : decode cX10_writesNumber 10 = .ok (.iload_n 1, 1) := by decide +kernel
theorem dX10_writesNumber_11 : decode cX10_writesNumber 11 = .ok (.invokestatic 329, 3) := by decide +kernel
theorem dX10_writesNumber_14 : decode cX10_writesNumber 14 = .ok (.istore_n 2, 1) := by decide +kernel
theorem dX10_writesNumber_15 : decode cX10_writesNumber 15 = .ok (.iload_n 2, 1) := by decide +kernel
theorem dX10_writesNumber_16 : decode cX10_writesNumber 16 = .ok (.bipush 9, 2) := by decide +kernel
theorem dX10_writesNumber_18 : decode cX10_writesNumber 18 = .ok (.if_icmp .le 14, 3) := by decide +kernel
theorem dX10_writesNumber_21 : decode cX10_writesNumber 21 = .ok (.aload_n 0, 1) := by decide +kernel
theorem dX10_writesNumber_22 : decode cX10_writesNumber 22 = .ok (.bipush 48, 2) := by decide +kernel
theorem dX10_writesNumber_24 : decode cX10_writesNumber 24 = .ok (.iload_n 2, 1) := by decide +kernel
theorem dX10_writesNumber_25 : decode cX10_writesNumber 25 = .ok (.bipush 10, 2) := by decide +kernel
theorem dX10_writesNumber_27 : decode cX10_writesNumber 27 = .ok (.idiv, 1) := by decide +kernel
theorem dX10_writesNumber_28 : decode cX10_writesNumber 28 = .ok (.iadd, 1) := by decide +kernel
theorem dX10_writesNumber_29 : decode cX10_writesNumber 29 = .ok (.invokevirtual 353, 3) := by decide +kernel
theorem dX10_writesNumber_32 : decode cX10_writesNumber 32 = .ok (.aload_n 0, 1) := by decide +kernel
theorem dX10_writesNumber_33 : decode cX10_writesNumber 33 = .ok (.bipush 48, 2) := by decide +kernel
theorem dX10_writesNumber_35 : decode cX10_writesNumber 35 = .ok (.iload_n 2, 1) := by decide +kernel
theorem dX10_writesNumber_36 : decode cX10_writesNumber 36 = .ok (.bipush 10, 2) := by decide +kernel
theorem dX10_writesNumber_38 : decode cX10_writesNumber 38 = .ok (.irem, 1) := by decide +kernel
theorem dX10_writesNumber_39 : decode cX10_writesNumber 39 = .ok (.iadd, 1) := by decide +kernel
theorem dX10_writesNumber_40 : decode cX10_writesNumber 40 = .ok (.invokevirtual 353, 3) := by decide +kernel
theorem dX10_writesNumber_43 : decode cX10_writesNumber 43 = .ok (.return_, 1) := by decide +kernel
def fX10_writesNumber (M : Mm) (x1 : Int32) : Option Mm := if 0 ≤ x1 then (if (fJ9_abs_0f7a4 M x1) ≤ (9 : Int32) then ((fX10_writes M ((48 : Int32) + ((fJ9_abs_0f7a4 M x1) - (fJ9_abs_0f7a4 M x1) / (10 : Int32) * (10 : Int32)))).bind fun q3 => some q3) else (fX10_writes M ((48 : Int32) + ((fJ9_abs_0f7a4 M x1) / (10 : Int32)))).bind fun q5 => (fX10_writes q5 ((48 : Int32) + ((fJ9_abs_0f7a4 M x1) - (fJ9_abs_0f7a4 M x1) / (10 : Int32) * (10 : Int32)))).bind fun q7 => some q7) else (fX10_writes M (45 : Int32)).bind fun q9 => if (fJ9_abs_0f7a4 q9 x1) ≤ (9 : Int32) then ((fX10_writes q9 ((48 : Int32) + ((fJ9_abs_0f7a4 q9 x1) - (fJ9_abs_0f7a4 q9 x1) / (10 : Int32) * (10 : Int32)))).bind fun q12 => some q12) else (fX10_writes q9 ((48 : Int32) + ((fJ9_abs_0f7a4 q9 x1) / (10 : Int32)))).bind fun q14 => (fX10_writes q14 ((48 : Int32) + ((fJ9_abs_0f7a4 q9 x1) - (fJ9_abs_0f7a4 q9 x1) / (10 : Int32) * (10 : Int32)))).bind fun q16 => some q16
set_option maxRecDepth 20000 in
set_option maxHeartbeats 2000000 in
theorem sX10_writesNumber {wv : Nat} (M : Mm) (x1 : Int32) {res : Mm} (h : fX10_writesNumber M x1 = some res) : TF (wv + 1) yX10_writesNumber cX10_writesNumber 3 none 1 [.inr (18, 0, 0), .inl (.int x1)] M (none) res := by
  rw [fX10_writesNumber] at h
  refine TF.go (n := 1) (ls := [some (.inr (18, 0, 0)), some (.inl (.int x1)), none]) rfl rfl rfl rfl rfl ?_
  refine z_iload_n (i := 1) dX10_writesNumber_0 rfl rfl ?_
  refine z_if_ge (tgt := 10) dX10_writesNumber_1 rfl (fun hc1 => ?_) (fun hc1 => ?_)
  · have h := it_t h hc1
    refine z_iload_n (i := 1) dX10_writesNumber_10 rfl rfl ?_
    refine z_fSi (sJ9_abs_0f7a4 M x1) dX10_writesNumber_11 ml_X10_329 cd_J9_abs_0f7a4 rfl rfl rfl rfl rfl ?_
    refine z_istore_n (i := 2) dX10_writesNumber_14 rfl (Nat.le_of_ble_eq_true rfl) rfl ?_
    refine z_iload_n (i := 2) dX10_writesNumber_15 rfl rfl ?_
    refine z_bipush (v := (9 : Int32)) dX10_writesNumber_16 kb_9 ?_
    refine z_icmp_le (tgt := 32) dX10_writesNumber_18 rfl (fun hc2 => ?_) (fun hc2 => ?_)
    · have h := it_t h hc2
      refine z_aload_n (i := 0) dX10_writesNumber_32 rfl rfl ?_
      refine z_bipush (v := (48 : Int32)) dX10_writesNumber_33 kb_48 ?_
      refine z_iload_n (i := 2) dX10_writesNumber_35 rfl rfl ?_
      refine z_bipush (v := (10 : Int32)) dX10_writesNumber_36 kb_10 ?_
      refine z_irem dX10_writesNumber_38 (by decide) ?_
      refine z_iadd dX10_writesNumber_39 ?_
      obtain ⟨q3, hq4, h⟩ := bnd h
      refine z_fVv (sX10_writes M ((48 : Int32) + ((fJ9_abs_0f7a4 M x1) - (fJ9_abs_0f7a4 M x1) / (10 : Int32) * (10 : Int32))) hq4) dX10_writesNumber_40 ml_X10_353 cd_X10_writes mk18 rfl rfl rfl rfl rfl rfl ?_
      cases h
      exact z_vret dX10_writesNumber_43 rfl (Nat.le_refl _) (Nat.le_refl _) ⟨rfl, rfl⟩
    · have h := it_f h hc2
      refine z_aload_n (i := 0) dX10_writesNumber_21 rfl rfl ?_
      refine z_bipush (v := (48 : Int32)) dX10_writesNumber_22 kb_48 ?_
      refine z_iload_n (i := 2) dX10_writesNumber_24 rfl rfl ?_
      refine z_bipush (v := (10 : Int32)) dX10_writesNumber_25 kb_10 ?_
      refine z_idiv dX10_writesNumber_27 (by decide) ?_
      refine z_iadd dX10_writesNumber_28 ?_
      obtain ⟨q5, hq6, h⟩ := bnd h
      refine z_fVv (sX10_writes M ((48 : Int32) + ((fJ9_abs_0f7a4 M x1) / (10 : Int32))) hq6) dX10_writesNumber_29 ml_X10_353 cd_X10_writes mk18 rfl rfl rfl rfl rfl rfl ?_
      refine z_aload_n (i := 0) dX10_writesNumber_32 rfl rfl ?_
      refine z_bipush (v := (48 : Int32)) dX10_writesNumber_33 kb_48 ?_
      refine z_iload_n (i := 2) dX10_writesNumber_35 rfl rfl ?_
      refine z_bipush (v := (10 : Int32)) dX10_writesNumber_36 kb_10 ?_
      refine z_irem dX10_writesNumber_38 (by decide) ?_
      refine z_iadd dX10_writesNumber_39 ?_
      obtain ⟨q7, hq8, h⟩ := bnd h
      refine z_fVv (sX10_writes q5 ((48 : Int32) + ((fJ9_abs_0f7a4 M x1) - (fJ9_abs_0f7a4 M x1) / (10 : Int32) * (10 : Int32))) hq8) dX10_writesNumber_40 ml_X10_353 cd_X10_writes mk18 rfl rfl rfl rfl rfl rfl ?_
      cases h
      exact z_vret dX10_writesNumber_43 rfl (Nat.le_refl _) (Nat.le_refl _) ⟨rfl, rfl⟩
  · have h := it_f h hc1
    refine z_aload_n (i := 0) dX10_writesNumber_4 rfl rfl ?_
    refine z_bipush (v := (45 : Int32)) dX10_writesNumber_5 kb_45 ?_
    obtain ⟨q9, hq10, h⟩ := bnd h
    refine z_fVv (sX10_writes M (45 : Int32) hq10) dX10_writesNumber_7 ml_X10_353 cd_X10_writes mk18 rfl rfl rfl rfl rfl rfl ?_
    refine z_iload_n (i := 1) dX10_writesNumber_10 rfl rfl ?_
    refine z_fSi (sJ9_abs_0f7a4 q9 x1) dX10_writesNumber_11 ml_X10_329 cd_J9_abs_0f7a4 rfl rfl rfl rfl rfl ?_
    refine z_istore_n (i := 2) dX10_writesNumber_14 rfl (Nat.le_of_ble_eq_true rfl) rfl ?_
    refine z_iload_n (i := 2) dX10_writesNumber_15 rfl rfl ?_
    refine z_bipush (v := (9 : Int32)) dX10_writesNumber_16 kb_9 ?_
    refine z_icmp_le (tgt := 32) dX10_writesNumber_18 rfl (fun hc11 => ?_) (fun hc11 => ?_)
    · have h := it_t h hc11
      refine z_aload_n (i := 0) dX10_writesNumber_32 rfl rfl ?_
      refine z_bipush (v := (48 : Int32)) dX10_writesNumber_33 kb_48 ?_
      refine z_iload_n (i := 2) dX10_writesNumber_35 rfl rfl ?_
      refine z_bipush (v := (10 : Int32)) dX10_writesNumber_36 kb_10 ?_
      refine z_irem dX10_writesNumber_38 (by decide) ?_
      refine z_iadd dX10_writesNumber_39 ?_
      obtain ⟨q12, hq13, h⟩ := bnd h
      refine z_fVv (sX10_writes q9 ((48 : Int32) + ((fJ9_abs_0f7a4 q9 x1) - (fJ9_abs_0f7a4 q9 x1) / (10 : Int32) * (10 : Int32))) hq13) dX10_writesNumber_40 ml_X10_353 cd_X10_writes mk18 rfl rfl rfl rfl rfl rfl ?_
      cases h
      exact z_vret dX10_writesNumber_43 rfl (Nat.le_refl _) (Nat.le_refl _) ⟨rfl, rfl⟩
    · have h := it_f h hc11
      refine z_aload_n (i := 0) dX10_writesNumber_21 rfl rfl ?_
      refine z_bipush (v := (48 : Int32)) dX10_writesNumber_22 kb_48 ?_
      refine z_iload_n (i := 2) dX10_writesNumber_24 rfl rfl ?_
      refine z_bipush (v := (10 : Int32)) dX10_writesNumber_25 kb_10 ?_
      refine z_idiv dX10_writesNumber_27 (by decide) ?_
      refine z_iadd dX10_writesNumber_28 ?_
      obtain ⟨q14, hq15, h⟩ := bnd h
      refine z_fVv (sX10_writes q9 ((48 : Int32) + ((fJ9_abs_0f7a4 q9 x1) / (10 : Int32))) hq15) dX10_writesNumber_29 ml_X10_353 cd_X10_writes mk18 rfl rfl rfl rfl rfl rfl ?_
      refine z_aload_n (i := 0) dX10_writesNumber_32 rfl rfl ?_
      refine z_bipush (v := (48 : Int32)) dX10_writesNumber_33 kb_48 ?_
      refine z_iload_n (i := 2) dX10_writesNumber_35 rfl rfl ?_
      refine z_bipush (v := (10 : Int32)) dX10_writesNumber_36 kb_10 ?_
      refine z_irem dX10_writesNumber_38 (by decide) ?_
      refine z_iadd dX10_writesNumber_39 ?_
      obtain ⟨q16, hq17, h⟩ := bnd h
      refine z_fVv (sX10_writes q14 ((48 : Int32) + ((fJ9_abs_0f7a4 q9 x1) - (fJ9_abs_0f7a4 q9 x1) / (10 : Int32) * (10 : Int32))) hq17) dX10_writesNumber_40 ml_X10_353 cd_X10_writes mk18 rfl rfl rfl rfl rfl rfl ?_
      cases h
      exact z_vret dX10_writesNumber_43 rfl (Nat.le_refl _) (Nat.le_refl _) ⟨rfl, rfl⟩
theorem dX10_writeComb_0 : decode cX10_writeComb 0 = .ok (.aload_n 0, 1) := by decide +kernel
theorem dX10_writeComb_1 : decode cX10_writeComb 1 = .ok (.iconst 0, 1) := by decide +kernel
theorem dX10_writeComb_2 : decode cX10_writeComb 2 = .ok (.putfield 79, 3) := by decide +kernel
theorem dX10_writeComb_5 : decode cX10_writeComb 5 = .ok (.aload_n 0, 1) := by decide +kernel
theorem dX10_writeComb_6 : decode cX10_writeComb 6 = .ok (.iconst 0, 1) := by decide +kernel
theorem dX10_writeComb_7 : decode cX10_writeComb 7 = .ok (.putfield 350, 3) := by decide +kernel
theorem dX10_writeComb_10 : decode cX10_writeComb 10 = .ok (.iconst 0, 1) := by decide +kernel
theorem dX10_writeComb_11 : decode cX10_writeComb 11 = .ok (.istore_n 1, 1) := by decide +kernel
theorem dX10_writeComb_12 : decode cX10_writeComb 12 = .ok (.iload_n 1, 1) := by decide +kernel
theorem dX10_writeComb_13 : decode cX10_writeComb 13 = .ok (.aload_n 0, 1) := by decide +kernel
theorem dX10_writeComb_14 : decode cX10_writeComb 14 = .ok (.getfield 7, 3) := by decide +kernel
theorem dX10_writeComb_17 : decode cX10_writeComb 17 = .ok (.iconst 3, 1) := by decide +kernel
theorem dX10_writeComb_18 : decode cX10_writeComb 18 = .ok (.iaload, 1) := by decide +kernel
theorem dX10_writeComb_19 : decode cX10_writeComb 19 = .ok (.if_icmp .ge 53, 3) := by decide +kernel
theorem dX10_writeComb_22 : decode cX10_writeComb 22 = .ok (.iload_n 1, 1) := by decide +kernel
theorem dX10_writeComb_23 : decode cX10_writeComb 23 = .ok (.ifCond .le 9, 3) := by decide +kernel
theorem dX10_writeComb_26 : decode cX10_writeComb 26 = .ok (.aload_n 0, 1) := by decide +kernel
theorem dX10_writeComb_27 : decode cX10_writeComb 27 = .ok (.bipush 32, 2) := by decide +kernel
theorem dX10_writeComb_29 : decode cX10_writeComb 29 = .ok (.invokevirtual 353, 3) := by decide +kernel
theorem dX10_writeComb_32 : decode cX10_writeComb 32 = .ok (.aload_n 0, 1) := by decide +kernel
theorem dX10_writeComb_33 : decode cX10_writeComb 33 = .ok (.iload_n 1, 1) := by decide +kernel
theorem dX10_writeComb_34 : decode cX10_writeComb 34 = .ok (.invokevirtual 100, 3) := by decide +kernel
theorem dX10_writeComb_37 : decode cX10_writeComb 37 = .ok (.ifCond .eq 12, 3) := by decide +kernel
theorem dX10_writeComb_40 : decode cX10_writeComb 40 = .ok (.aload_n 0, 1) := by decide +kernel
theorem dX10_writeComb_41 : decode cX10_writeComb 41 = .ok (.bipush 120, 2) := by decide +kernel
theorem dX10_writeComb_43 : decode cX10_writeComb 43 = .ok (.invokevirtual 353, 3) := by decide +kernel
theorem dX10_writeComb_46 : decode cX10_writeComb 46 = .ok (.goto 20, 3) := by decide +kernel
theorem dX10_writeComb_49 : decode cX10_writeComb 49 = .ok (.aload_n 0, 1) := by decide +kernel
theorem dX10_writeComb_50 : decode cX10_writeComb 50 = .ok (.aload_n 0, 1) := by decide +kernel
theorem dX10_writeComb_51 : decode cX10_writeComb 51 = .ok (.iload_n 1, 1) := by decide +kernel
theorem dX10_writeComb_52 : decode cX10_writeComb 52 = .ok (.iconst 0, 1) := by decide +kernel
theorem dX10_writeComb_53 : decode cX10_writeComb 53 = .ok (.invokevirtual 90, 3) := by decide +kernel
theorem dX10_writeComb_56 : decode cX10_writeComb 56 = .ok (.aload_n 0, 1) := by decide +kernel
theorem dX10_writeComb_57 : decode cX10_writeComb 57 = .ok (.iload_n 1, 1) := by decide +kernel
theorem dX10_writeComb_58 : decode cX10_writeComb 58 = .ok (.iconst 1, 1) := by decide +kernel
theorem dX10_writeComb_59 : decode cX10_writeComb 59 = .ok (.invokevirtual 90, 3) := by decide +kernel
theorem dX10_writeComb_62 : decode cX10_writeComb 62 = .ok (.iadd, 1) := by decide +kernel
theorem dX10_writeComb_63 : decode cX10_writeComb 63 = .ok (.invokevirtual 356, 3) := by decide +kernel
theorem dX10_writeComb_66 : decode cX10_writeComb 66 = .ok (.iinc 1 1, 3) := by decide +kernel
theorem dX10_writeComb_69 : decode cX10_writeComb 69 = .ok (.goto (-57), 3) := by decide +kernel
theorem dX10_writeComb_72 : decode cX10_writeComb 72 = .ok (.aload_n 0, 1) := by decide +kernel
theorem dX10_writeComb_73 : decode cX10_writeComb 73 = .ok (.getfield 350, 3) := by decide +kernel
theorem dX10_writeComb_76 : decode cX10_writeComb 76 = .ok (.ireturn, 1) := by decide +kernel
def fX10_writeComb_L12 (K : Int32 → Mm → Option (Int32 × Mm)) : Nat → Int32 → Mm → Option (Int32 × Mm)
  | 0, _, _ => none
  | n + 1, v1, M => if (M.1 (19, 0, 0) 3) ≤ v1 then K v1 M else if v1 ≤ 0 then ((fX10_isBad M v1).bind fun q3 => if q3 = 0 then ((fX10_of M v1 (0 : Int32)).bind fun q6 => (fX10_of M v1 (1 : Int32)).bind fun q8 => (fX10_writesNumber M (q6 + q8)).bind fun q10 => fX10_writeComb_L12 K n (v1 + (1 : Int32)) q10) else (fX10_writes M (120 : Int32)).bind fun q12 => fX10_writeComb_L12 K n (v1 + (1 : Int32)) q12) else (fX10_writes M (32 : Int32)).bind fun q14 => (fX10_isBad q14 v1).bind fun q16 => if q16 = 0 then ((fX10_of q14 v1 (0 : Int32)).bind fun q19 => (fX10_of q14 v1 (1 : Int32)).bind fun q21 => (fX10_writesNumber q14 (q19 + q21)).bind fun q23 => fX10_writeComb_L12 K n (v1 + (1 : Int32)) q23) else (fX10_writes q14 (120 : Int32)).bind fun q25 => fX10_writeComb_L12 K n (v1 + (1 : Int32)) q25
def fX10_writeComb (M : Mm) : Option (Int32 × Mm) := fX10_writeComb_L12 (fun w27 M28 => some ((M28.1 (18, 0, 0) 27), M28)) NF (0 : Int32) (putI (putI M (18, 0, 0) 8 (0 : Int32)) (18, 0, 0) 27 (0 : Int32))
set_option maxRecDepth 20000 in
set_option maxHeartbeats 2000000 in
theorem sX10_writeComb_L12 {wv : Nat} {res : (Int32 × Mm)} {K : Int32 → Mm → Option (Int32 × Mm)} : ∀ (n : Nat) (v1 : Int32) (M : Mm), fX10_writeComb_L12 K n v1 M = some res →
    (∀ (v1 : Int32) (M : Mm), K v1 M = some res → Z RX10 cX10_writeComb 2 (some .int) [] "writeComb" (rmD 2 0 0) (QM SH (allR (wv + 1)) 0 0 (fun v M9 => v = some (.int res.1) ∧ M9 = res.2) (fun _ _ => False)) (allR (wv + 1)) SH 0 0 72 [some (.inr (18, 0, 0)), some (.inl (.int v1))] [] M) → Z RX10 cX10_writeComb 2 (some .int) [] "writeComb" (rmD 2 0 0) (QM SH (allR (wv + 1)) 0 0 (fun v M9 => v = some (.int res.1) ∧ M9 = res.2) (fun _ _ => False)) (allR (wv + 1)) SH 0 0 12 [some (.inr (18, 0, 0)), some (.inl (.int v1))] [] M := by
  intro n
  induction n with
  | zero => intro v1 M h; cases h
  | succ n ih =>
    intro v1 M h hK
    rw [fX10_writeComb_L12] at h
    refine z_iload_n (i := 1) dX10_writeComb_12 rfl rfl ?_
    refine z_aload_n (i := 0) dX10_writeComb_13 rfl rfl ?_
    refine z_getR (r' := (19, 0, 0)) dX10_writeComb_14 fl_X10_7 mk18 rfl rfl ?_
    refine z_iconst (v := (3 : Int32)) dX10_writeComb_17 kc_3 ?_
    refine z_iald (x := (M.1 (19, 0, 0) 3)) dX10_writeComb_18 (m19 _ (Nat.le_of_ble_eq_true rfl)) rfl (by decide) rfl ?_
    refine z_icmp_ge (tgt := 72) dX10_writeComb_19 rfl (fun hc1 => ?_) (fun hc1 => ?_)
    · have h := it_t h hc1
      exact hK _ _ h
    · have h := it_f h hc1
      refine z_iload_n (i := 1) dX10_writeComb_22 rfl rfl ?_
      refine z_if_le (tgt := 32) dX10_writeComb_23 rfl (fun hc2 => ?_) (fun hc2 => ?_)
      · have h := it_t h hc2
        refine z_aload_n (i := 0) dX10_writeComb_32 rfl rfl ?_
        refine z_iload_n (i := 1) dX10_writeComb_33 rfl rfl ?_
        obtain ⟨q3, hq4, h⟩ := bnd h
        refine z_fVi (sX10_isBad M v1 hq4) dX10_writeComb_34 ml_X10_100 cd_X10_isBad mk18 rfl rfl rfl rfl rfl rfl ?_
        refine z_if_eq (tgt := 49) dX10_writeComb_37 rfl (fun hc5 => ?_) (fun hc5 => ?_)
        · have h := it_t h hc5
          refine z_aload_n (i := 0) dX10_writeComb_49 rfl rfl ?_
          refine z_aload_n (i := 0) dX10_writeComb_50 rfl rfl ?_
          refine z_iload_n (i := 1) dX10_writeComb_51 rfl rfl ?_
          refine z_iconst (v := (0 : Int32)) dX10_writeComb_52 kc_0 ?_
          obtain ⟨q6, hq7, h⟩ := bnd h
          refine z_fVi (sX10_of M v1 (0 : Int32) hq7) dX10_writeComb_53 ml_X10_90 cd_X10_of mk18 rfl rfl rfl rfl rfl rfl ?_
          refine z_aload_n (i := 0) dX10_writeComb_56 rfl rfl ?_
          refine z_iload_n (i := 1) dX10_writeComb_57 rfl rfl ?_
          refine z_iconst (v := (1 : Int32)) dX10_writeComb_58 kc_1 ?_
          obtain ⟨q8, hq9, h⟩ := bnd h
          refine z_fVi (sX10_of M v1 (1 : Int32) hq9) dX10_writeComb_59 ml_X10_90 cd_X10_of mk18 rfl rfl rfl rfl rfl rfl ?_
          refine z_iadd dX10_writeComb_62 ?_
          obtain ⟨q10, hq11, h⟩ := bnd h
          refine z_fVv (sX10_writesNumber M (q6 + q8) hq11) dX10_writeComb_63 ml_X10_356 cd_X10_writesNumber mk18 rfl rfl rfl rfl rfl rfl ?_
          refine z_iinc (i := 1) (v := (v1 + (1 : Int32))) dX10_writeComb_66 rfl (iinc_k kc_1) (Nat.le_of_ble_eq_true rfl) rfl ?_
          refine z_goto (tgt := 12) dX10_writeComb_69 rfl ?_
          exact ih _ _ h hK
        · have h := it_f h hc5
          refine z_aload_n (i := 0) dX10_writeComb_40 rfl rfl ?_
          refine z_bipush (v := (120 : Int32)) dX10_writeComb_41 kb_120 ?_
          obtain ⟨q12, hq13, h⟩ := bnd h
          refine z_fVv (sX10_writes M (120 : Int32) hq13) dX10_writeComb_43 ml_X10_353 cd_X10_writes mk18 rfl rfl rfl rfl rfl rfl ?_
          refine z_goto (tgt := 66) dX10_writeComb_46 rfl ?_
          refine z_iinc (i := 1) (v := (v1 + (1 : Int32))) dX10_writeComb_66 rfl (iinc_k kc_1) (Nat.le_of_ble_eq_true rfl) rfl ?_
          refine z_goto (tgt := 12) dX10_writeComb_69 rfl ?_
          exact ih _ _ h hK
      · have h := it_f h hc2
        refine z_aload_n (i := 0) dX10_writeComb_26 rfl rfl ?_
        refine z_bipush (v := (32 : Int32)) dX10_writeComb_27 kb_32 ?_
        obtain ⟨q14, hq15, h⟩ := bnd h
        refine z_fVv (sX10_writes M (32 : Int32) hq15) dX10_writeComb_29 ml_X10_353 cd_X10_writes mk18 rfl rfl rfl rfl rfl rfl ?_
        refine z_aload_n (i := 0) dX10_writeComb_32 rfl rfl ?_
        refine z_iload_n (i := 1) dX10_writeComb_33 rfl rfl ?_
        obtain ⟨q16, hq17, h⟩ := bnd h
        refine z_fVi (sX10_isBad q14 v1 hq17) dX10_writeComb_34 ml_X10_100 cd_X10_isBad mk18 rfl rfl rfl rfl rfl rfl ?_
        refine z_if_eq (tgt := 49) dX10_writeComb_37 rfl (fun hc18 => ?_) (fun hc18 => ?_)
        · have h := it_t h hc18
          refine z_aload_n (i := 0) dX10_writeComb_49 rfl rfl ?_
          refine z_aload_n (i := 0) dX10_writeComb_50 rfl rfl ?_
          refine z_iload_n (i := 1) dX10_writeComb_51 rfl rfl ?_
          refine z_iconst (v := (0 : Int32)) dX10_writeComb_52 kc_0 ?_
          obtain ⟨q19, hq20, h⟩ := bnd h
          refine z_fVi (sX10_of q14 v1 (0 : Int32) hq20) dX10_writeComb_53 ml_X10_90 cd_X10_of mk18 rfl rfl rfl rfl rfl rfl ?_
          refine z_aload_n (i := 0) dX10_writeComb_56 rfl rfl ?_
          refine z_iload_n (i := 1) dX10_writeComb_57 rfl rfl ?_
          refine z_iconst (v := (1 : Int32)) dX10_writeComb_58 kc_1 ?_
          obtain ⟨q21, hq22, h⟩ := bnd h
          refine z_fVi (sX10_of q14 v1 (1 : Int32) hq22) dX10_writeComb_59 ml_X10_90 cd_X10_of mk18 rfl rfl rfl rfl rfl rfl ?_
          refine z_iadd dX10_writeComb_62 ?_
          obtain ⟨q23, hq24, h⟩ := bnd h
          refine z_fVv (sX10_writesNumber q14 (q19 + q21) hq24) dX10_writeComb_63 ml_X10_356 cd_X10_writesNumber mk18 rfl rfl rfl rfl rfl rfl ?_
          refine z_iinc (i := 1) (v := (v1 + (1 : Int32))) dX10_writeComb_66 rfl (iinc_k kc_1) (Nat.le_of_ble_eq_true rfl) rfl ?_
          refine z_goto (tgt := 12) dX10_writeComb_69 rfl ?_
          exact ih _ _ h hK
        · have h := it_f h hc18
          refine z_aload_n (i := 0) dX10_writeComb_40 rfl rfl ?_
          refine z_bipush (v := (120 : Int32)) dX10_writeComb_41 kb_120 ?_
          obtain ⟨q25, hq26, h⟩ := bnd h
          refine z_fVv (sX10_writes q14 (120 : Int32) hq26) dX10_writeComb_43 ml_X10_353 cd_X10_writes mk18 rfl rfl rfl rfl rfl rfl ?_
          refine z_goto (tgt := 66) dX10_writeComb_46 rfl ?_
          refine z_iinc (i := 1) (v := (v1 + (1 : Int32))) dX10_writeComb_66 rfl (iinc_k kc_1) (Nat.le_of_ble_eq_true rfl) rfl ?_
          refine z_goto (tgt := 12) dX10_writeComb_69 rfl ?_
          exact ih _ _ h hK
set_option maxRecDepth 20000 in
set_option maxHeartbeats 2000000 in
theorem sX10_writeComb {wv : Nat} (M : Mm) {res : (Int32 × Mm)} (h : fX10_writeComb M  = some res) : TF (wv + 1) yX10_writeComb cX10_writeComb 2 (some .int) 2 [.inr (18, 0, 0)] M (some (.int res.1)) res.2 := by
  rw [fX10_writeComb] at h
  refine TF.go (n := 1) (ls := [some (.inr (18, 0, 0)), none]) rfl rfl rfl rfl rfl ?_
  refine z_aload_n (i := 0) dX10_writeComb_0 rfl rfl ?_
  refine z_iconst (v := (0 : Int32)) dX10_writeComb_1 kc_0 ?_
  refine z_putI allR_nd dX10_writeComb_2 fl_X10_79 mk18 rfl rfl ?_
  refine z_aload_n (i := 0) dX10_writeComb_5 rfl rfl ?_
  refine z_iconst (v := (0 : Int32)) dX10_writeComb_6 kc_0 ?_
  refine z_putI allR_nd dX10_writeComb_7 fl_X10_350 mk18 rfl rfl ?_
  refine z_iconst (v := (0 : Int32)) dX10_writeComb_10 kc_0 ?_
  refine z_istore_n (i := 1) dX10_writeComb_11 rfl (Nat.le_of_ble_eq_true rfl) rfl ?_
  refine sX10_writeComb_L12  NF _ _ h (fun w27 M28 h => ?_)
  refine z_aload_n (i := 0) dX10_writeComb_72 rfl rfl ?_
  refine z_getI (x := (M28.1 (18, 0, 0) 27)) dX10_writeComb_73 fl_X10_350 mk18 rfl rfl ?_
  cases h
  exact z_iret dX10_writeComb_76 rfl rfl (Nat.le_refl _) (Nat.le_refl _) ⟨rfl, rfl⟩
theorem dX10_outputByte_0 : decode cX10_outputByte 0 = .ok (.aload_n 0, 1) := by decide +kernel
theorem dX10_outputByte_1 : decode cX10_outputByte 1 = .ok (.iconst 0, 1) := by decide +kernel
theorem dX10_outputByte_2 : decode cX10_outputByte 2 = .ok (.putfield 79, 3) := by decide +kernel
theorem dX10_outputByte_5 : decode cX10_outputByte 5 = .ok (.iload_n 1, 1) := by decide +kernel
theorem dX10_outputByte_6 : decode cX10_outputByte 6 = .ok (.iconst 0, 1) := by decide +kernel
theorem dX10_outputByte_7 : decode cX10_outputByte 7 = .ok (.aload_n 0, 1) := by decide +kernel
theorem dX10_outputByte_8 : decode cX10_outputByte 8 = .ok (.getfield 350, 3) := by decide +kernel
theorem dX10_outputByte_11 : decode cX10_outputByte 11 = .ok (.iconst 1, 1) := by decide +kernel
theorem dX10_outputByte_12 : decode cX10_outputByte 12 = .ok (.isub, 1) := by decide +kernel
theorem dX10_outputByte_13 : decode cX10_outputByte 13 = .ok (.invokestatic 82, 3) := by decide +kernel
theorem dX10_outputByte_16 : decode cX10_outputByte 16 = .ok (.ifCond .eq 12, 3) := by decide +kernel
theorem dX10_outputByte_19 : decode cX10_outputByte 19 = .ok (.aload_n 0, 1) := by decide +kernel
theorem dX10_outputByte_20 : decode cX10_outputByte 20 = .ok (.getfield 51, 3) := by decide +kernel
theorem dX10_outputByte_23 : decode cX10_outputByte 23 = .ok (.iload_n 1, 1) := by decide +kernel
theorem dX10_outputByte_24 : decode cX10_outputByte 24 = .ok (.iaload, 1) := by decide +kernel
theorem dX10_outputByte_25 : decode cX10_outputByte 25 = .ok (.goto 4, 3) := by decide +kernel
theorem dX10_outputByte_28 : decode cX10_outputByte 28 = .ok (.iconst (-1), 1) := by decide +kernel
theorem dX10_outputByte_29 : decode cX10_outputByte 29 = .ok (.ireturn, 1) := by decide +kernel
def fX10_outputByte (M : Mm) (x1 : Int32) : Option (Int32 × Mm) := if (fX10_in (putI M (18, 0, 0) 8 (0 : Int32)) x1 (0 : Int32) ((M.1 (18, 0, 0) 27) - (1 : Int32))) = 0 then some ((-1 : Int32), (putI M (18, 0, 0) 8 (0 : Int32))) else if x1 < 0 ∨ 100 ≤ x1.toNatClampNeg then none else some ((M.1 (19, 11, 0) x1.toNatClampNeg), (putI M (18, 0, 0) 8 (0 : Int32)))
set_option maxRecDepth 20000 in
set_option maxHeartbeats 2000000 in
theorem sX10_outputByte {wv : Nat} (M : Mm) (x1 : Int32) {res : (Int32 × Mm)} (h : fX10_outputByte M x1 = some res) : TF (wv + 1) yX10_outputByte cX10_outputByte 2 (some .int) 1 [.inr (18, 0, 0), .inl (.int x1)] M (some (.int res.1)) res.2 := by
  rw [fX10_outputByte] at h
  refine TF.go (n := 0) (ls := [some (.inr (18, 0, 0)), some (.inl (.int x1))]) rfl rfl rfl rfl rfl ?_
  refine z_aload_n (i := 0) dX10_outputByte_0 rfl rfl ?_
  refine z_iconst (v := (0 : Int32)) dX10_outputByte_1 kc_0 ?_
  refine z_putI allR_nd dX10_outputByte_2 fl_X10_79 mk18 rfl rfl ?_
  refine z_iload_n (i := 1) dX10_outputByte_5 rfl rfl ?_
  refine z_iconst (v := (0 : Int32)) dX10_outputByte_6 kc_0 ?_
  refine z_aload_n (i := 0) dX10_outputByte_7 rfl rfl ?_
  refine z_getI (x := (M.1 (18, 0, 0) 27)) dX10_outputByte_8 fl_X10_350 mk18 rfl rfl ?_
  refine z_iconst (v := (1 : Int32)) dX10_outputByte_11 kc_1 ?_
  refine z_isub dX10_outputByte_12 ?_
  refine z_fSi (sX10_in (putI M (18, 0, 0) 8 (0 : Int32)) x1 (0 : Int32) ((M.1 (18, 0, 0) 27) - (1 : Int32))) dX10_outputByte_13 ml_X10_82 cd_X10_in rfl rfl rfl rfl rfl ?_
  refine z_if_eq (tgt := 28) dX10_outputByte_16 rfl (fun hc1 => ?_) (fun hc1 => ?_)
  · have h := it_t h hc1
    refine z_iconst (v := (-1 : Int32)) dX10_outputByte_28 kc_m1 ?_
    cases h
    exact z_iret dX10_outputByte_29 rfl rfl (Nat.le_refl _) (Nat.le_refl _) ⟨rfl, rfl⟩
  · have h := it_f h hc1
    refine z_aload_n (i := 0) dX10_outputByte_19 rfl rfl ?_
    refine z_getR (r' := (19, 11, 0)) dX10_outputByte_20 fl_X10_51 mk18 rfl rfl ?_
    refine z_iload_n (i := 1) dX10_outputByte_23 rfl rfl ?_
    obtain ⟨hc2, h⟩ := chk h
    refine z_iald (x := (M.1 (19, 11, 0) x1.toNatClampNeg)) dX10_outputByte_24 (m19 _ (Nat.le_of_ble_eq_true rfl)) rfl hc2 rfl ?_
    refine z_goto (tgt := 29) dX10_outputByte_25 rfl ?_
    cases h
    exact z_iret dX10_outputByte_29 rfl rfl (Nat.le_refl _) (Nat.le_refl _) ⟨rfl, rfl⟩
theorem dX10_undoCount_0 : decode cX10_undoCount 0 = .ok (.aload_n 0, 1) := by decide +kernel
theorem dX10_undoCount_1 : decode cX10_undoCount 1 = .ok (.iconst 0, 1) := by decide +kernel
theorem dX10_undoCount_2 : decode cX10_undoCount 2 = .ok (.putfield 79, 3) := by decide +kernel
theorem dX10_undoCount_5 : decode cX10_undoCount 5 = .ok (.aload_n 0, 1) := by decide +kernel
theorem dX10_undoCount_6 : decode cX10_undoCount 6 = .ok (.getfield 200, 3) := by decide +kernel
theorem dX10_undoCount_9 : decode cX10_undoCount 9 = .ok (.ireturn, 1) := by decide +kernel
def fX10_undoCount (M : Mm) : Option (Int32 × Mm) := some ((M.1 (18, 0, 0) 7), (putI M (18, 0, 0) 8 (0 : Int32)))
set_option maxRecDepth 20000 in
set_option maxHeartbeats 2000000 in
theorem sX10_undoCount {wv : Nat} (M : Mm) {res : (Int32 × Mm)} (h : fX10_undoCount M  = some res) : TF (wv + 1) yX10_undoCount cX10_undoCount 1 (some .int) 0 [.inr (18, 0, 0)] M (some (.int res.1)) res.2 := by
  rw [fX10_undoCount] at h
  refine TF.go (n := 0) (ls := [some (.inr (18, 0, 0))]) rfl rfl rfl rfl rfl ?_
  refine z_aload_n (i := 0) dX10_undoCount_0 rfl rfl ?_
  refine z_iconst (v := (0 : Int32)) dX10_undoCount_1 kc_0 ?_
  refine z_putI allR_nd dX10_undoCount_2 fl_X10_79 mk18 rfl rfl ?_
  refine z_aload_n (i := 0) dX10_undoCount_5 rfl rfl ?_
  refine z_getI (x := (M.1 (18, 0, 0) 7)) dX10_undoCount_6 fl_X10_200 mk18 rfl rfl ?_
  cases h
  exact z_iret dX10_undoCount_9 rfl rfl (Nat.le_refl _) (Nat.le_refl _) ⟨rfl, rfl⟩
theorem dX10_undo_0 : decode cX10_undo 0 = .ok (.aload_n 0, 1) := by decide +kernel
theorem dX10_undo_1 : decode cX10_undo 1 = .ok (.iconst 0, 1) := by decide +kernel
theorem dX10_undo_2 : decode cX10_undo 2 = .ok (.putfield 79, 3) := by decide +kernel
theorem dX10_undo_5 : decode cX10_undo 5 = .ok (.aload_n 0, 1) := by decide +kernel
theorem dX10_undo_6 : decode cX10_undo 6 = .ok (.aload_n 0, 1) := by decide +kernel
theorem dX10_undo_7 : decode cX10_undo 7 = .ok (.getfield 200, 3) := by decide +kernel
theorem dX10_undo_10 : decode cX10_undo 10 = .ok (.ifCond .le 7, 3) := by decide +kernel
theorem dX10_undo_13 : decode cX10_undo 13 = .ok (.iconst 1, 1) := by decide +kernel
theorem dX10_undo_14 : decode cX10_undo 14 = .ok (.goto 4, 3) := by decide +kernel
theorem dX10_undo_17 : decode cX10_undo 17 = .ok (.iconst 0, 1) := by decide +kernel
theorem dX10_undo_18 : decode cX10_undo 18 = .ok (.iconst 1, 1) := by decide +kernel
theorem dX10_undo_19 : decode cX10_undo 19 = .ok (.invokevirtual 127, 3) := by decide +kernel
theorem dX10_undo_22 : decode cX10_undo 22 = .ok (.ifCond .ne 5, 3) := by decide +kernel
theorem dX10_undo_25 : decode cX10_undo 25 = .ok (.iconst 0, 1) := by decide +kernel
theorem dX10_undo_26 : decode cX10_undo 26 = .ok (.ireturn, 1) := by decide +kernel
theorem dX10_undo_27 : decode cX10_undo 27 = .ok (.aload_n 0, 1) := by decide +kernel
theorem dX10_undo_28 : decode cX10_undo 28 = .ok (.dup, 1) := by decide +kernel
theorem dX10_undo_29 : decode cX10_undo 29 = .ok (.getfield 200, 3) := by decide +kernel
theorem dX10_undo_32 : decode cX10_undo 32 = .ok (.iconst 1, 1) := by decide +kernel
theorem dX10_undo_33 : decode cX10_undo 33 = .ok (.isub, 1) := by decide +kernel
theorem dX10_undo_34 : decode cX10_undo 34 = .ok (.putfield 200, 3) := by decide +kernel
theorem dX10_undo_37 : decode cX10_undo 37 = .ok (.iconst 0, 1) := by decide +kernel
theorem dX10_undo_38 : decode cX10_undo 38 = .ok (.istore_n 1, 1) := by decide +kernel
theorem dX10_undo_39 : decode cX10_undo 39 = .ok (.iload_n 1, 1) := by decide +kernel
theorem dX10_undo_40 : decode cX10_undo 40 = .ok (.sipush 280, 3) := by decide +kernel
theorem dX10_undo_43 : decode cX10_undo 43 = .ok (.if_icmp .ge 30, 3) := by decide +kernel
theorem dX10_undo_46 : decode cX10_undo 46 = .ok (.aload_n 0, 1) := by decide +kernel
theorem dX10_undo_47 : decode cX10_undo 47 = .ok (.getfield 7, 3) := by decide +kernel
theorem dX10_undo_50 : decode cX10_undo 50 = .ok (.iload_n 1, 1) := by decide +kernel
theorem dX10_undo_51 : decode cX10_undo 51 = .ok (.aload_n 0, 1) := by decide +kernel
theorem dX10_undo_52 : decode cX10_undo 52 = .ok (.getfield 19, 3) := by decide +kernel
theorem dX10_undo_55 : decode cX10_undo 55 = .ok (.sipush 280, 3) := by decide +kernel
theorem dX10_undo_58 : decode cX10_undo 58 = .ok (.aload_n 0, 1) := by decide +kernel
theorem dX10_undo_59 : decode cX10_undo 59 = .ok (.getfield 200, 3) := by decide +kernel
theorem dX10_undo_62 : decode cX10_undo 62 = .ok (.imul, 1) := by decide +kernel
theorem dX10_undo_63 : decode cX10_undo 63 = .ok (.iload_n 1, 1) := by decide +kernel
theorem dX10_undo_64 : decode cX10_undo 64 = .ok (.iadd, 1) := by decide +kernel
theorem dX10_undo_65 : decode cX10_undo 65 = .ok (.iaload, 1) := by decide +kernel
theorem dX10_undo_66 : decode cX10_undo 66 = .ok (.iastore, 1) := by decide +kernel
theorem dX10_undo_67 : decode cX10_undo 67 = .ok (.iinc 1 1, 3) := by decide +kernel
theorem dX10_undo_70 : decode cX10_undo 70 = .ok (.goto (-31), 3) := by decide +kernel
theorem dX10_undo_73 : decode cX10_undo 73 = .ok (.aload_n 0, 1) := by decide +kernel
theorem dX10_undo_74 : decode cX10_undo 74 = .ok (.getfield 200, 3) := by decide +kernel
theorem dX10_undo_77 : decode cX10_undo 77 = .ok (.ireturn, 1) := by decide +kernel
def fX10_undo_L39 (K : Int32 → Mm → Option (Int32 × Mm)) : Nat → Int32 → Mm → Option (Int32 × Mm)
  | 0, _, _ => none
  | n + 1, v1, M => if (280 : Int32) ≤ v1 then K v1 M else if (((280 : Int32) * (M.1 (18, 0, 0) 7)) + v1) < 0 ∨ 2240 ≤ (((280 : Int32) * (M.1 (18, 0, 0) 7)) + v1).toNatClampNeg then none else if v1 < 0 ∨ 280 ≤ v1.toNatClampNeg then none else fX10_undo_L39 K n (v1 + (1 : Int32)) (putI M (19, 0, 0) v1.toNatClampNeg (M.1 (19, 3, 0) (((280 : Int32) * (M.1 (18, 0, 0) 7)) + v1).toNatClampNeg))
def fX10_undo (M : Mm) : Option (Int32 × Mm) := if (M.1 (18, 0, 0) 7) ≤ 0 then ((fX10_right (putI M (18, 0, 0) 8 (0 : Int32)) (0 : Int32) (1 : Int32)).bind fun q2 => if q2.1 = 0 then some ((0 : Int32), q2.2) else fX10_undo_L39 (fun w8 M9 => some ((M9.1 (18, 0, 0) 7), M9)) NF (0 : Int32) (putI q2.2 (18, 0, 0) 7 ((q2.2.1 (18, 0, 0) 7) - (1 : Int32)))) else (fX10_right (putI M (18, 0, 0) 8 (0 : Int32)) (1 : Int32) (1 : Int32)).bind fun q10 => if q10.1 = 0 then some ((0 : Int32), q10.2) else fX10_undo_L39 (fun w13 M14 => some ((M14.1 (18, 0, 0) 7), M14)) NF (0 : Int32) (putI q10.2 (18, 0, 0) 7 ((q10.2.1 (18, 0, 0) 7) - (1 : Int32)))
set_option maxRecDepth 20000 in
set_option maxHeartbeats 2000000 in
theorem sX10_undo_L39 {wv : Nat} {res : (Int32 × Mm)} {K : Int32 → Mm → Option (Int32 × Mm)} : ∀ (n : Nat) (v1 : Int32) (M : Mm), fX10_undo_L39 K n v1 M = some res →
    (∀ (v1 : Int32) (M : Mm), K v1 M = some res → Z RX10 cX10_undo 2 (some .int) [] "undo" (rmD 1 0 0) (QM SH (allR (wv + 1)) 0 0 (fun v M9 => v = some (.int res.1) ∧ M9 = res.2) (fun _ _ => False)) (allR (wv + 1)) SH 0 0 73 [some (.inr (18, 0, 0)), some (.inl (.int v1))] [] M) → Z RX10 cX10_undo 2 (some .int) [] "undo" (rmD 1 0 0) (QM SH (allR (wv + 1)) 0 0 (fun v M9 => v = some (.int res.1) ∧ M9 = res.2) (fun _ _ => False)) (allR (wv + 1)) SH 0 0 39 [some (.inr (18, 0, 0)), some (.inl (.int v1))] [] M := by
  intro n
  induction n with
  | zero => intro v1 M h; cases h
  | succ n ih =>
    intro v1 M h hK
    rw [fX10_undo_L39] at h
    refine z_iload_n (i := 1) dX10_undo_39 rfl rfl ?_
    refine z_sipush (v := (280 : Int32)) dX10_undo_40 ks_280 ?_
    refine z_icmp_ge (tgt := 73) dX10_undo_43 rfl (fun hc5 => ?_) (fun hc5 => ?_)
    · have h := it_t h hc5
      exact hK _ _ h
    · have h := it_f h hc5
      refine z_aload_n (i := 0) dX10_undo_46 rfl rfl ?_
      refine z_getR (r' := (19, 0, 0)) dX10_undo_47 fl_X10_7 mk18 rfl rfl ?_
      refine z_iload_n (i := 1) dX10_undo_50 rfl rfl ?_
      refine z_aload_n (i := 0) dX10_undo_51 rfl rfl ?_
      refine z_getR (r' := (19, 3, 0)) dX10_undo_52 fl_X10_19 mk18 rfl rfl ?_
      refine z_sipush (v := (280 : Int32)) dX10_undo_55 ks_280 ?_
      refine z_aload_n (i := 0) dX10_undo_58 rfl rfl ?_
      refine z_getI (x := (M.1 (18, 0, 0) 7)) dX10_undo_59 fl_X10_200 mk18 rfl rfl ?_
      refine z_imul dX10_undo_62 ?_
      refine z_iload_n (i := 1) dX10_undo_63 rfl rfl ?_
      refine z_iadd dX10_undo_64 ?_
      obtain ⟨hc6, h⟩ := chk h
      refine z_iald (x := (M.1 (19, 3, 0) (((280 : Int32) * (M.1 (18, 0, 0) 7)) + v1).toNatClampNeg)) dX10_undo_65 (m19 _ (Nat.le_of_ble_eq_true rfl)) rfl hc6 rfl ?_
      obtain ⟨hc7, h⟩ := chk h
      refine z_iast (j := v1.toNatClampNeg) allR_nd dX10_undo_66 (m19 _ (Nat.le_of_ble_eq_true rfl)) rfl hc7 rfl ?_
      refine z_iinc (i := 1) (v := (v1 + (1 : Int32))) dX10_undo_67 rfl (iinc_k kc_1) (Nat.le_of_ble_eq_true rfl) rfl ?_
      refine z_goto (tgt := 39) dX10_undo_70 rfl ?_
      exact ih _ _ h hK
set_option maxRecDepth 20000 in
set_option maxHeartbeats 2000000 in
theorem sX10_undo {wv : Nat} (M : Mm) {res : (Int32 × Mm)} (h : fX10_undo M  = some res) : TF (wv + 1) yX10_undo cX10_undo 2 (some .int) 1 [.inr (18, 0, 0)] M (some (.int res.1)) res.2 := by
  rw [fX10_undo] at h
  refine TF.go (n := 1) (ls := [some (.inr (18, 0, 0)), none]) rfl rfl rfl rfl rfl ?_
  refine z_aload_n (i := 0) dX10_undo_0 rfl rfl ?_
  refine z_iconst (v := (0 : Int32)) dX10_undo_1 kc_0 ?_
  refine z_putI allR_nd dX10_undo_2 fl_X10_79 mk18 rfl rfl ?_
  refine z_aload_n (i := 0) dX10_undo_5 rfl rfl ?_
  refine z_aload_n (i := 0) dX10_undo_6 rfl rfl ?_
  refine z_getI (x := (M.1 (18, 0, 0) 7)) dX10_undo_7 fl_X10_200 mk18 rfl rfl ?_
  refine z_if_le (tgt := 17) dX10_undo_10 rfl (fun hc1 => ?_) (fun hc1 => ?_)
  · have h := it_t h hc1
    refine z_iconst (v := (0 : Int32)) dX10_undo_17 kc_0 ?_
    refine z_iconst (v := (1 : Int32)) dX10_undo_18 kc_1 ?_
    obtain ⟨q2, hq3, h⟩ := bnd h
    refine z_fVi (sX10_right (putI M (18, 0, 0) 8 (0 : Int32)) (0 : Int32) (1 : Int32) hq3) dX10_undo_19 ml_X10_127 cd_X10_right mk18 rfl rfl rfl rfl rfl rfl ?_
    refine z_if_ne (tgt := 27) dX10_undo_22 rfl (fun hc4 => ?_) (fun hc4 => ?_)
    · have h := it_f h hc4
      refine z_aload_n (i := 0) dX10_undo_27 rfl rfl ?_
      refine z_dup dX10_undo_28 rfl ?_
      refine z_getI (x := (q2.2.1 (18, 0, 0) 7)) dX10_undo_29 fl_X10_200 mk18 rfl rfl ?_
      refine z_iconst (v := (1 : Int32)) dX10_undo_32 kc_1 ?_
      refine z_isub dX10_undo_33 ?_
      refine z_putI allR_nd dX10_undo_34 fl_X10_200 mk18 rfl rfl ?_
      refine z_iconst (v := (0 : Int32)) dX10_undo_37 kc_0 ?_
      refine z_istore_n (i := 1) dX10_undo_38 rfl (Nat.le_of_ble_eq_true rfl) rfl ?_
      refine sX10_undo_L39  NF _ _ h (fun w8 M9 h => ?_)
      refine z_aload_n (i := 0) dX10_undo_73 rfl rfl ?_
      refine z_getI (x := (M9.1 (18, 0, 0) 7)) dX10_undo_74 fl_X10_200 mk18 rfl rfl ?_
      cases h
      exact z_iret dX10_undo_77 rfl rfl (Nat.le_refl _) (Nat.le_refl _) ⟨rfl, rfl⟩
    · have h := it_t h hc4
      refine z_iconst (v := (0 : Int32)) dX10_undo_25 kc_0 ?_
      cases h
      exact z_iret dX10_undo_26 rfl rfl (Nat.le_refl _) (Nat.le_refl _) ⟨rfl, rfl⟩
  · have h := it_f h hc1
    refine z_iconst (v := (1 : Int32)) dX10_undo_13 kc_1 ?_
    refine z_goto (tgt := 18) dX10_undo_14 rfl ?_
    refine z_iconst (v := (1 : Int32)) dX10_undo_18 kc_1 ?_
    obtain ⟨q10, hq11, h⟩ := bnd h
    refine z_fVi (sX10_right (putI M (18, 0, 0) 8 (0 : Int32)) (1 : Int32) (1 : Int32) hq11) dX10_undo_19 ml_X10_127 cd_X10_right mk18 rfl rfl rfl rfl rfl rfl ?_
    refine z_if_ne (tgt := 27) dX10_undo_22 rfl (fun hc12 => ?_) (fun hc12 => ?_)
    · have h := it_f h hc12
      refine z_aload_n (i := 0) dX10_undo_27 rfl rfl ?_
      refine z_dup dX10_undo_28 rfl ?_
      refine z_getI (x := (q10.2.1 (18, 0, 0) 7)) dX10_undo_29 fl_X10_200 mk18 rfl rfl ?_
      refine z_iconst (v := (1 : Int32)) dX10_undo_32 kc_1 ?_
      refine z_isub dX10_undo_33 ?_
      refine z_putI allR_nd dX10_undo_34 fl_X10_200 mk18 rfl rfl ?_
      refine z_iconst (v := (0 : Int32)) dX10_undo_37 kc_0 ?_
      refine z_istore_n (i := 1) dX10_undo_38 rfl (Nat.le_of_ble_eq_true rfl) rfl ?_
      refine sX10_undo_L39  NF _ _ h (fun w13 M14 h => ?_)
      refine z_aload_n (i := 0) dX10_undo_73 rfl rfl ?_
      refine z_getI (x := (M14.1 (18, 0, 0) 7)) dX10_undo_74 fl_X10_200 mk18 rfl rfl ?_
      cases h
      exact z_iret dX10_undo_77 rfl rfl (Nat.le_refl _) (Nat.le_refl _) ⟨rfl, rfl⟩
    · have h := it_t h hc12
      refine z_iconst (v := (0 : Int32)) dX10_undo_25 kc_0 ?_
      cases h
      exact z_iret dX10_undo_26 rfl rfl (Nat.le_refl _) (Nat.le_refl _) ⟨rfl, rfl⟩
theorem dX10_save_0 : decode cX10_save 0 = .ok (.aload_n 0, 1) := by decide +kernel
theorem dX10_save_1 : decode cX10_save 1 = .ok (.iconst 0, 1) := by decide +kernel
theorem dX10_save_2 : decode cX10_save 2 = .ok (.putfield 79, 3) := by decide +kernel
theorem dX10_save_5 : decode cX10_save 5 = .ok (.aload_n 0, 1) := by decide +kernel
theorem dX10_save_6 : decode cX10_save 6 = .ok (.iload_n 1, 1) := by decide +kernel
theorem dX10_save_7 : decode cX10_save 7 = .ok (.iconst 0, 1) := by decide +kernel
theorem dX10_save_8 : decode cX10_save 8 = .ok (.iconst 1, 1) := by decide +kernel
theorem dX10_save_9 : decode cX10_save 9 = .ok (.invokestatic 82, 3) := by decide +kernel
theorem dX10_save_12 : decode cX10_save 12 = .ok (.iconst 1, 1) := by decide +kernel
theorem dX10_save_13 : decode cX10_save 13 = .ok (.invokevirtual 127, 3) := by decide +kernel
theorem dX10_save_16 : decode cX10_save 16 = .ok (.ifCond .ne 5, 3) := by decide +kernel
theorem dX10_save_19 : decode cX10_save 19 = .ok (.iconst 0, 1) := by decide +kernel
theorem dX10_save_20 : decode cX10_save 20 = .ok (.ireturn, 1) := by decide +kernel
theorem dX10_save_21 : decode cX10_save 21 = .ok (.iconst 0, 1) := by decide +kernel
theorem dX10_save_22 : decode cX10_save 22 = .ok (.istore_n 2, 1) := by decide +kernel
theorem dX10_save_23 : decode cX10_save 23 = .ok (.iload_n 2, 1) := by decide +kernel
theorem dX10_save_24 : decode cX10_save 24 = .ok (.sipush 280, 3) := by decide +kernel
theorem dX10_save_27 : decode cX10_save 27 = .ok (.if_icmp .ge 27, 3) := by decide +kernel
theorem dX10_save_30 : decode cX10_save 30 = .ok (.aload_n 0, 1) := by decide +kernel
theorem dX10_save_31 : decode cX10_save 31 = .ok (.getfield 22, 3) := by decide +kernel
theorem dX10_save_34 : decode cX10_save 34 = .ok (.sipush 280, 3) := by decide +kernel
theorem dX10_save_37 : decode cX10_save 37 = .ok (.iload_n 1, 1) := by decide +kernel
theorem dX10_save_38 : decode cX10_save 38 = .ok (.imul, 1) := by decide +kernel
theorem dX10_save_39 : decode cX10_save 39 = .ok (.iload_n 2, 1) := by decide +kernel
theorem dX10_save_40 : decode cX10_save 40 = .ok (.iadd, 1) := by decide +kernel
theorem dX10_save_41 : decode cX10_save 41 = .ok (.aload_n 0, 1) := by decide +kernel
theorem dX10_save_42 : decode cX10_save 42 = .ok (.getfield 7, 3) := by decide +kernel
theorem dX10_save_45 : decode cX10_save 45 = .ok (.iload_n 2, 1) := by decide +kernel
theorem dX10_save_46 : decode cX10_save 46 = .ok (.iaload, 1) := by decide +kernel
theorem dX10_save_47 : decode cX10_save 47 = .ok (.iastore, 1) := by decide +kernel
theorem dX10_save_48 : decode cX10_save 48 = .ok (.iinc 2 1, 3) := by decide +kernel
theorem dX10_save_51 : decode cX10_save 51 = .ok (.goto (-28), 3) := by decide +kernel
theorem dX10_save_54 : decode cX10_save 54 = .ok (.aload_n 0, 1) := by decide +kernel
theorem dX10_save_55 : decode cX10_save 55 = .ok (.getfield 28, 3) := by decide +kernel
theorem dX10_save_58 : decode cX10_save 58 = .ok (.iload_n 1, 1) := by decide +kernel
theorem dX10_save_59 : decode cX10_save 59 = .ok (.iconst 1, 1) := by decide +kernel
theorem dX10_save_60 : decode cX10_save 60 = .ok (.bastore, 1) := by decide +kernel
theorem dX10_save_61 : decode cX10_save 61 = .ok (.aload_n 0, 1) := by decide +kernel
theorem dX10_save_62 : decode cX10_save 62 = .ok (.getfield 7, 3) := by decide +kernel
theorem dX10_save_65 : decode cX10_save 65 = .ok (.iconst 5, 1) := by decide +kernel
theorem dX10_save_66 : decode cX10_save 66 = .ok (.iaload, 1) := by decide +kernel
theorem dX10_save_67 : decode cX10_save 67 = .ok (.ireturn, 1) := by decide +kernel
def fX10_save_L23 (c1 : Int32) (K : Int32 → Mm → Option (Int32 × Mm)) : Nat → Int32 → Mm → Option (Int32 × Mm)
  | 0, _, _ => none
  | n + 1, v2, M => if (280 : Int32) ≤ v2 then K v2 M else if v2 < 0 ∨ 280 ≤ v2.toNatClampNeg then none else if (((280 : Int32) * c1) + v2) < 0 ∨ 560 ≤ (((280 : Int32) * c1) + v2).toNatClampNeg then none else fX10_save_L23 c1 K n (v2 + (1 : Int32)) (putI M (19, 4, 0) (((280 : Int32) * c1) + v2).toNatClampNeg (M.1 (19, 0, 0) v2.toNatClampNeg))
def fX10_save (M : Mm) (x1 : Int32) : Option (Int32 × Mm) := (fX10_right (putI M (18, 0, 0) 8 (0 : Int32)) (fX10_in (putI M (18, 0, 0) 8 (0 : Int32)) x1 (0 : Int32) (1 : Int32)) (1 : Int32)).bind fun q1 => if q1.1 = 0 then some ((0 : Int32), q1.2) else fX10_save_L23 x1 (fun w7 M8 => if x1 < 0 ∨ 2 ≤ x1.toNatClampNeg then none else some ((M8.1 (19, 0, 0) 5), (putI M8 (20, 0, 0) x1.toNatClampNeg (1 : Int32)))) NF (0 : Int32) q1.2
set_option maxRecDepth 20000 in
set_option maxHeartbeats 2000000 in
theorem sX10_save_L23 {wv : Nat} (c1 : Int32) {res : (Int32 × Mm)} {K : Int32 → Mm → Option (Int32 × Mm)} : ∀ (n : Nat) (v2 : Int32) (M : Mm), fX10_save_L23 c1 K n v2 M = some res →
    (∀ (v2 : Int32) (M : Mm), K v2 M = some res → Z RX10 cX10_save 3 (some .int) [] "save" (rmD 1 0 0) (QM SH (allR (wv + 1)) 0 0 (fun v M9 => v = some (.int res.1) ∧ M9 = res.2) (fun _ _ => False)) (allR (wv + 1)) SH 0 0 54 [some (.inr (18, 0, 0)), some (.inl (.int c1)), some (.inl (.int v2))] [] M) → Z RX10 cX10_save 3 (some .int) [] "save" (rmD 1 0 0) (QM SH (allR (wv + 1)) 0 0 (fun v M9 => v = some (.int res.1) ∧ M9 = res.2) (fun _ _ => False)) (allR (wv + 1)) SH 0 0 23 [some (.inr (18, 0, 0)), some (.inl (.int c1)), some (.inl (.int v2))] [] M := by
  intro n
  induction n with
  | zero => intro v2 M h; cases h
  | succ n ih =>
    intro v2 M h hK
    rw [fX10_save_L23] at h
    refine z_iload_n (i := 2) dX10_save_23 rfl rfl ?_
    refine z_sipush (v := (280 : Int32)) dX10_save_24 ks_280 ?_
    refine z_icmp_ge (tgt := 54) dX10_save_27 rfl (fun hc4 => ?_) (fun hc4 => ?_)
    · have h := it_t h hc4
      exact hK _ _ h
    · have h := it_f h hc4
      refine z_aload_n (i := 0) dX10_save_30 rfl rfl ?_
      refine z_getR (r' := (19, 4, 0)) dX10_save_31 fl_X10_22 mk18 rfl rfl ?_
      refine z_sipush (v := (280 : Int32)) dX10_save_34 ks_280 ?_
      refine z_iload_n (i := 1) dX10_save_37 rfl rfl ?_
      refine z_imul dX10_save_38 ?_
      refine z_iload_n (i := 2) dX10_save_39 rfl rfl ?_
      refine z_iadd dX10_save_40 ?_
      refine z_aload_n (i := 0) dX10_save_41 rfl rfl ?_
      refine z_getR (r' := (19, 0, 0)) dX10_save_42 fl_X10_7 mk18 rfl rfl ?_
      refine z_iload_n (i := 2) dX10_save_45 rfl rfl ?_
      obtain ⟨hc5, h⟩ := chk h
      refine z_iald (x := (M.1 (19, 0, 0) v2.toNatClampNeg)) dX10_save_46 (m19 _ (Nat.le_of_ble_eq_true rfl)) rfl hc5 rfl ?_
      obtain ⟨hc6, h⟩ := chk h
      refine z_iast (j := (((280 : Int32) * c1) + v2).toNatClampNeg) allR_nd dX10_save_47 (m19 _ (Nat.le_of_ble_eq_true rfl)) rfl hc6 rfl ?_
      refine z_iinc (i := 2) (v := (v2 + (1 : Int32))) dX10_save_48 rfl (iinc_k kc_1) (Nat.le_of_ble_eq_true rfl) rfl ?_
      refine z_goto (tgt := 23) dX10_save_51 rfl ?_
      exact ih _ _ h hK
set_option maxRecDepth 20000 in
set_option maxHeartbeats 2000000 in
theorem sX10_save {wv : Nat} (M : Mm) (x1 : Int32) {res : (Int32 × Mm)} (h : fX10_save M x1 = some res) : TF (wv + 1) yX10_save cX10_save 3 (some .int) 1 [.inr (18, 0, 0), .inl (.int x1)] M (some (.int res.1)) res.2 := by
  rw [fX10_save] at h
  refine TF.go (n := 1) (ls := [some (.inr (18, 0, 0)), some (.inl (.int x1)), none]) rfl rfl rfl rfl rfl ?_
  refine z_aload_n (i := 0) dX10_save_0 rfl rfl ?_
  refine z_iconst (v := (0 : Int32)) dX10_save_1 kc_0 ?_
  refine z_putI allR_nd dX10_save_2 fl_X10_79 mk18 rfl rfl ?_
  refine z_aload_n (i := 0) dX10_save_5 rfl rfl ?_
  refine z_iload_n (i := 1) dX10_save_6 rfl rfl ?_
  refine z_iconst (v := (0 : Int32)) dX10_save_7 kc_0 ?_
  refine z_iconst (v := (1 : Int32)) dX10_save_8 kc_1 ?_
  refine z_fSi (sX10_in (putI M (18, 0, 0) 8 (0 : Int32)) x1 (0 : Int32) (1 : Int32)) dX10_save_9 ml_X10_82 cd_X10_in rfl rfl rfl rfl rfl ?_
  refine z_iconst (v := (1 : Int32)) dX10_save_12 kc_1 ?_
  obtain ⟨q1, hq2, h⟩ := bnd h
  refine z_fVi (sX10_right (putI M (18, 0, 0) 8 (0 : Int32)) (fX10_in (putI M (18, 0, 0) 8 (0 : Int32)) x1 (0 : Int32) (1 : Int32)) (1 : Int32) hq2) dX10_save_13 ml_X10_127 cd_X10_right mk18 rfl rfl rfl rfl rfl rfl ?_
  refine z_if_ne (tgt := 21) dX10_save_16 rfl (fun hc3 => ?_) (fun hc3 => ?_)
  · have h := it_f h hc3
    refine z_iconst (v := (0 : Int32)) dX10_save_21 kc_0 ?_
    refine z_istore_n (i := 2) dX10_save_22 rfl (Nat.le_of_ble_eq_true rfl) rfl ?_
    refine sX10_save_L23 x1 NF _ _ h (fun w7 M8 h => ?_)
    refine z_aload_n (i := 0) dX10_save_54 rfl rfl ?_
    refine z_getR (r' := (20, 0, 0)) dX10_save_55 fl_X10_28 mk18 rfl rfl ?_
    refine z_iload_n (i := 1) dX10_save_58 rfl rfl ?_
    refine z_iconst (v := (1 : Int32)) dX10_save_59 kc_1 ?_
    obtain ⟨hc9, h⟩ := chk h
    refine z_zast (j := x1.toNatClampNeg) allR_nd dX10_save_60 mk20 rfl hc9 rfl rfl ?_
    refine z_aload_n (i := 0) dX10_save_61 rfl rfl ?_
    refine z_getR (r' := (19, 0, 0)) dX10_save_62 fl_X10_7 mk18 rfl rfl ?_
    refine z_iconst (v := (5 : Int32)) dX10_save_65 kc_5 ?_
    refine z_iald (x := (M8.1 (19, 0, 0) 5)) dX10_save_66 (m19 _ (Nat.le_of_ble_eq_true rfl)) rfl (by decide) rfl ?_
    cases h
    exact z_iret dX10_save_67 rfl rfl (Nat.le_refl _) (Nat.le_refl _) ⟨rfl, rfl⟩
  · have h := it_t h hc3
    refine z_iconst (v := (0 : Int32)) dX10_save_19 kc_0 ?_
    cases h
    exact z_iret dX10_save_20 rfl rfl (Nat.le_refl _) (Nat.le_refl _) ⟨rfl, rfl⟩
theorem dX10_restore_0 : decode cX10_restore 0 = .ok (.aload_n 0, 1) := by decide +kernel
theorem dX10_restore_1 : decode cX10_restore 1 = .ok (.iconst 0, 1) := by decide +kernel
theorem dX10_restore_2 : decode cX10_restore 2 = .ok (.putfield 79, 3) := by decide +kernel
theorem dX10_restore_5 : decode cX10_restore 5 = .ok (.aload_n 0, 1) := by decide +kernel
theorem dX10_restore_6 : decode cX10_restore 6 = .ok (.iload_n 1, 1) := by decide +kernel
theorem dX10_restore_7 : decode cX10_restore 7 = .ok (.iconst 0, 1) := by decide +kernel
theorem dX10_restore_8 : decode cX10_restore 8 = .ok (.iconst 1, 1) := by decide +kernel
theorem dX10_restore_9 : decode cX10_restore 9 = .ok (.invokestatic 82, 3) := by decide +kernel
theorem dX10_restore_12 : decode cX10_restore 12 = .ok (.iconst 1, 1) := by decide +kernel
theorem dX10_restore_13 : decode cX10_restore 13 = .ok (.invokevirtual 127, 3) := by decide +kernel
theorem dX10_restore_16 : decode cX10_restore 16 = .ok (.ifCond .eq 17, 3) := by decide +kernel
theorem dX10_restore_19 : decode cX10_restore 19 = .ok (.aload_n 0, 1) := by decide +kernel
theorem dX10_restore_20 : decode cX10_restore 20 = .ok (.aload_n 0, 1) := by decide +kernel
theorem dX10_restore_21 : decode cX10_restore 21 = .ok (.getfield 28, 3) := by decide +kernel
theorem dX10_restore_24 : decode cX10_restore 24 = .ok (.iload_n 1, 1) := by decide +kernel
theorem dX10_restore_25 : decode cX10_restore 25 = .ok (.baload, 1) := by decide +kernel
theorem dX10_restore_26 : decode cX10_restore 26 = .ok (.iconst 2, 1) := by decide +kernel
theorem dX10_restore_27 : decode cX10_restore 27 = .ok (.invokevirtual 127, 3) := by decide +kernel
theorem dX10_restore_30 : decode cX10_restore 30 = .ok (.ifCond .ne 5, 3) := by decide +kernel
theorem dX10_restore_33 : decode cX10_restore 33 = .ok (.iconst 0, 1) := by decide +kernel
theorem dX10_restore_34 : decode cX10_restore 34 = .ok (.ireturn, 1) := by decide +kernel
theorem dX10_restore_35 : decode cX10_restore 35 = .ok (.iconst 0, 1) := by decide +kernel
theorem dX10_restore_36 : decode cX10_restore 36 = .ok (.istore_n 2, 1) := by decide +kernel
theorem dX10_restore_37 : decode cX10_restore 37 = .ok (.iload_n 2, 1) := by decide +kernel
theorem dX10_restore_38 : decode cX10_restore 38 = .ok (.sipush 280, 3) := by decide +kernel
theorem dX10_restore_41 : decode cX10_restore 41 = .ok (.if_icmp .ge 27, 3) := by decide +kernel
theorem dX10_restore_44 : decode cX10_restore 44 = .ok (.aload_n 0, 1) := by decide +kernel
theorem dX10_restore_45 : decode cX10_restore 45 = .ok (.getfield 7, 3) := by decide +kernel
theorem dX10_restore_48 : decode cX10_restore 48 = .ok (.iload_n 2, 1) := by decide +kernel
theorem dX10_restore_49 : decode cX10_restore 49 = .ok (.aload_n 0, 1) := by decide +kernel
theorem dX10_restore_50 : decode cX10_restore 50 = .ok (.getfield 22, 3) := by decide +kernel
theorem dX10_restore_53 : decode cX10_restore 53 = .ok (.sipush 280, 3) := by decide +kernel
theorem dX10_restore_56 : decode cX10_restore 56 = .ok (.iload_n 1, 1) := by decide +kernel
theorem dX10_restore_57 : decode cX10_restore 57 = .ok (.imul, 1) := by decide +kernel
theorem dX10_restore_58 : decode cX10_restore 58 = .ok (.iload_n 2, 1) := by decide +kernel
theorem dX10_restore_59 : decode cX10_restore 59 = .ok (.iadd, 1) := by decide +kernel
theorem dX10_restore_60 : decode cX10_restore 60 = .ok (.iaload, 1) := by decide +kernel
theorem dX10_restore_61 : decode cX10_restore 61 = .ok (.iastore, 1) := by decide +kernel
theorem dX10_restore_62 : decode cX10_restore 62 = .ok (.iinc 2 1, 3) := by decide +kernel
theorem dX10_restore_65 : decode cX10_restore 65 = .ok (.goto (-28), 3) := by decide +kernel
theorem dX10_restore_68 : decode cX10_restore 68 = .ok (.aload_n 0, 1) := by decide +kernel
theorem dX10_restore_69 : decode cX10_restore 69 = .ok (.iconst 0, 1) := by decide +kernel
theorem dX10_restore_70 : decode cX10_restore 70 = .ok (.putfield 200, 3) := by decide +kernel
theorem dX10_restore_73 : decode cX10_restore 73 = .ok (.aload_n 0, 1) := by decide +kernel
theorem dX10_restore_74 : decode cX10_restore 74 = .ok (.getfield 7, 3) := by decide +kernel
theorem dX10_restore_77 : decode cX10_restore 77 = .ok (.iconst 5, 1) := by decide +kernel
theorem dX10_restore_78 : decode cX10_restore 78 = .ok (.iaload, 1) := by decide +kernel
theorem dX10_restore_79 : decode cX10_restore 79 = .ok (.ireturn, 1) := by decide +kernel
def fX10_restore_L37 (c1 : Int32) (K : Int32 → Mm → Option (Int32 × Mm)) : Nat → Int32 → Mm → Option (Int32 × Mm)
  | 0, _, _ => none
  | n + 1, v2, M => if (280 : Int32) ≤ v2 then K v2 M else if (((280 : Int32) * c1) + v2) < 0 ∨ 560 ≤ (((280 : Int32) * c1) + v2).toNatClampNeg then none else if v2 < 0 ∨ 280 ≤ v2.toNatClampNeg then none else fX10_restore_L37 c1 K n (v2 + (1 : Int32)) (putI M (19, 0, 0) v2.toNatClampNeg (M.1 (19, 4, 0) (((280 : Int32) * c1) + v2).toNatClampNeg))
def fX10_restore (M : Mm) (x1 : Int32) : Option (Int32 × Mm) := (fX10_right (putI M (18, 0, 0) 8 (0 : Int32)) (fX10_in (putI M (18, 0, 0) 8 (0 : Int32)) x1 (0 : Int32) (1 : Int32)) (1 : Int32)).bind fun q1 => if q1.1 = 0 then some ((0 : Int32), q1.2) else if x1 < 0 ∨ 2 ≤ x1.toNatClampNeg then none else (fX10_right q1.2 (q1.2.1 (20, 0, 0) x1.toNatClampNeg) (2 : Int32)).bind fun q5 => if q5.1 = 0 then some ((0 : Int32), q5.2) else fX10_restore_L37 x1 (fun w11 M12 => some ((M12.1 (19, 0, 0) 5), (putI M12 (18, 0, 0) 7 (0 : Int32)))) NF (0 : Int32) q5.2
set_option maxRecDepth 20000 in
set_option maxHeartbeats 2000000 in
theorem sX10_restore_L37 {wv : Nat} (c1 : Int32) {res : (Int32 × Mm)} {K : Int32 → Mm → Option (Int32 × Mm)} : ∀ (n : Nat) (v2 : Int32) (M : Mm), fX10_restore_L37 c1 K n v2 M = some res →
    (∀ (v2 : Int32) (M : Mm), K v2 M = some res → Z RX10 cX10_restore 3 (some .int) [] "restore" (rmD 1 0 0) (QM SH (allR (wv + 1)) 0 0 (fun v M9 => v = some (.int res.1) ∧ M9 = res.2) (fun _ _ => False)) (allR (wv + 1)) SH 0 0 68 [some (.inr (18, 0, 0)), some (.inl (.int c1)), some (.inl (.int v2))] [] M) → Z RX10 cX10_restore 3 (some .int) [] "restore" (rmD 1 0 0) (QM SH (allR (wv + 1)) 0 0 (fun v M9 => v = some (.int res.1) ∧ M9 = res.2) (fun _ _ => False)) (allR (wv + 1)) SH 0 0 37 [some (.inr (18, 0, 0)), some (.inl (.int c1)), some (.inl (.int v2))] [] M := by
  intro n
  induction n with
  | zero => intro v2 M h; cases h
  | succ n ih =>
    intro v2 M h hK
    rw [fX10_restore_L37] at h
    refine z_iload_n (i := 2) dX10_restore_37 rfl rfl ?_
    refine z_sipush (v := (280 : Int32)) dX10_restore_38 ks_280 ?_
    refine z_icmp_ge (tgt := 68) dX10_restore_41 rfl (fun hc8 => ?_) (fun hc8 => ?_)
    · have h := it_t h hc8
      exact hK _ _ h
    · have h := it_f h hc8
      refine z_aload_n (i := 0) dX10_restore_44 rfl rfl ?_
      refine z_getR (r' := (19, 0, 0)) dX10_restore_45 fl_X10_7 mk18 rfl rfl ?_
      refine z_iload_n (i := 2) dX10_restore_48 rfl rfl ?_
      refine z_aload_n (i := 0) dX10_restore_49 rfl rfl ?_
      refine z_getR (r' := (19, 4, 0)) dX10_restore_50 fl_X10_22 mk18 rfl rfl ?_
      refine z_sipush (v := (280 : Int32)) dX10_restore_53 ks_280 ?_
      refine z_iload_n (i := 1) dX10_restore_56 rfl rfl ?_
      refine z_imul dX10_restore_57 ?_
      refine z_iload_n (i := 2) dX10_restore_58 rfl rfl ?_
      refine z_iadd dX10_restore_59 ?_
      obtain ⟨hc9, h⟩ := chk h
      refine z_iald (x := (M.1 (19, 4, 0) (((280 : Int32) * c1) + v2).toNatClampNeg)) dX10_restore_60 (m19 _ (Nat.le_of_ble_eq_true rfl)) rfl hc9 rfl ?_
      obtain ⟨hc10, h⟩ := chk h
      refine z_iast (j := v2.toNatClampNeg) allR_nd dX10_restore_61 (m19 _ (Nat.le_of_ble_eq_true rfl)) rfl hc10 rfl ?_
      refine z_iinc (i := 2) (v := (v2 + (1 : Int32))) dX10_restore_62 rfl (iinc_k kc_1) (Nat.le_of_ble_eq_true rfl) rfl ?_
      refine z_goto (tgt := 37) dX10_restore_65 rfl ?_
      exact ih _ _ h hK
set_option maxRecDepth 20000 in
set_option maxHeartbeats 2000000 in
theorem sX10_restore {wv : Nat} (M : Mm) (x1 : Int32) {res : (Int32 × Mm)} (h : fX10_restore M x1 = some res) : TF (wv + 1) yX10_restore cX10_restore 3 (some .int) 1 [.inr (18, 0, 0), .inl (.int x1)] M (some (.int res.1)) res.2 := by
  rw [fX10_restore] at h
  refine TF.go (n := 1) (ls := [some (.inr (18, 0, 0)), some (.inl (.int x1)), none]) rfl rfl rfl rfl rfl ?_
  refine z_aload_n (i := 0) dX10_restore_0 rfl rfl ?_
  refine z_iconst (v := (0 : Int32)) dX10_restore_1 kc_0 ?_
  refine z_putI allR_nd dX10_restore_2 fl_X10_79 mk18 rfl rfl ?_
  refine z_aload_n (i := 0) dX10_restore_5 rfl rfl ?_
  refine z_iload_n (i := 1) dX10_restore_6 rfl rfl ?_
  refine z_iconst (v := (0 : Int32)) dX10_restore_7 kc_0 ?_
  refine z_iconst (v := (1 : Int32)) dX10_restore_8 kc_1 ?_
  refine z_fSi (sX10_in (putI M (18, 0, 0) 8 (0 : Int32)) x1 (0 : Int32) (1 : Int32)) dX10_restore_9 ml_X10_82 cd_X10_in rfl rfl rfl rfl rfl ?_
  refine z_iconst (v := (1 : Int32)) dX10_restore_12 kc_1 ?_
  obtain ⟨q1, hq2, h⟩ := bnd h
  refine z_fVi (sX10_right (putI M (18, 0, 0) 8 (0 : Int32)) (fX10_in (putI M (18, 0, 0) 8 (0 : Int32)) x1 (0 : Int32) (1 : Int32)) (1 : Int32) hq2) dX10_restore_13 ml_X10_127 cd_X10_right mk18 rfl rfl rfl rfl rfl rfl ?_
  refine z_if_eq (tgt := 33) dX10_restore_16 rfl (fun hc3 => ?_) (fun hc3 => ?_)
  · have h := it_t h hc3
    refine z_iconst (v := (0 : Int32)) dX10_restore_33 kc_0 ?_
    cases h
    exact z_iret dX10_restore_34 rfl rfl (Nat.le_refl _) (Nat.le_refl _) ⟨rfl, rfl⟩
  · have h := it_f h hc3
    refine z_aload_n (i := 0) dX10_restore_19 rfl rfl ?_
    refine z_aload_n (i := 0) dX10_restore_20 rfl rfl ?_
    refine z_getR (r' := (20, 0, 0)) dX10_restore_21 fl_X10_28 mk18 rfl rfl ?_
    refine z_iload_n (i := 1) dX10_restore_24 rfl rfl ?_
    obtain ⟨hc4, h⟩ := chk h
    refine z_zald (x := (q1.2.1 (20, 0, 0) x1.toNatClampNeg)) dX10_restore_25 mk20 rfl hc4 rfl ?_
    refine z_iconst (v := (2 : Int32)) dX10_restore_26 kc_2 ?_
    obtain ⟨q5, hq6, h⟩ := bnd h
    refine z_fVi (sX10_right q1.2 (q1.2.1 (20, 0, 0) x1.toNatClampNeg) (2 : Int32) hq6) dX10_restore_27 ml_X10_127 cd_X10_right mk18 rfl rfl rfl rfl rfl rfl ?_
    refine z_if_ne (tgt := 35) dX10_restore_30 rfl (fun hc7 => ?_) (fun hc7 => ?_)
    · have h := it_f h hc7
      refine z_iconst (v := (0 : Int32)) dX10_restore_35 kc_0 ?_
      refine z_istore_n (i := 2) dX10_restore_36 rfl (Nat.le_of_ble_eq_true rfl) rfl ?_
      refine sX10_restore_L37 x1 NF _ _ h (fun w11 M12 h => ?_)
      refine z_aload_n (i := 0) dX10_restore_68 rfl rfl ?_
      refine z_iconst (v := (0 : Int32)) dX10_restore_69 kc_0 ?_
      refine z_putI allR_nd dX10_restore_70 fl_X10_200 mk18 rfl rfl ?_
      refine z_aload_n (i := 0) dX10_restore_73 rfl rfl ?_
      refine z_getR (r' := (19, 0, 0)) dX10_restore_74 fl_X10_7 mk18 rfl rfl ?_
      refine z_iconst (v := (5 : Int32)) dX10_restore_77 kc_5 ?_
      refine z_iald (x := (M12.1 (19, 0, 0) 5)) dX10_restore_78 (m19 _ (Nat.le_of_ble_eq_true rfl)) rfl (by decide) rfl ?_
      cases h
      exact z_iret dX10_restore_79 rfl rfl (Nat.le_refl _) (Nat.le_refl _) ⟨rfl, rfl⟩
    · have h := it_t h hc7
      refine z_iconst (v := (0 : Int32)) dX10_restore_33 kc_0 ?_
      cases h
      exact z_iret dX10_restore_34 rfl rfl (Nat.le_refl _) (Nat.le_refl _) ⟨rfl, rfl⟩
def fJxe99ae_isNaN_b9ae7 (M : Mm) (x1 : UInt64) : Int32 := if (Op.cmpValue (FP.dcmp x1 x1) .l) = 0 then (0 : Int32) else (1 : Int32)
set_option maxRecDepth 20000 in
set_option maxHeartbeats 2000000 in
theorem tJxe99ae_isNaN_b9ae7 {wv : Nat} (M : Mm) (x1 : UInt64) {res : Int32} (h : fJxe99ae_isNaN_b9ae7 M x1 = res) : TF wv yJxe99ae_isNaN_b9ae7 cJxe99ae_isNaN_b9ae7 2 (some .boolean) 0 [.inl (.double x1)] M (some (.int res)) M := by
  rw [fJxe99ae_isNaN_b9ae7] at h
  refine TF.go (n := 0) (ls := [some (.inl (.double x1)), none]) rfl rfl rfl rfl rfl ?_
  refine z_dload_n (i := 0) dJxe99ae_isNaN_b9ae7_0 rfl rfl ?_
  refine z_dload_n (i := 0) dJxe99ae_isNaN_b9ae7_1 rfl rfl ?_
  refine z_dcmp dJxe99ae_isNaN_b9ae7_2 ?_
  refine z_if_eq (tgt := 10) dJxe99ae_isNaN_b9ae7_3 rfl (fun hc1 => ?_) (fun hc1 => ?_)
  · have h := it_t h hc1
    refine z_iconst (v := (0 : Int32)) dJxe99ae_isNaN_b9ae7_10 kc_0 ?_
    subst h
    exact z_iret dJxe99ae_isNaN_b9ae7_11 rfl rfl (Nat.le_refl _) (Nat.le_refl _) ⟨rfl, rfl⟩
  · have h := it_f h hc1
    refine z_iconst (v := (1 : Int32)) dJxe99ae_isNaN_b9ae7_6 kc_1 ?_
    refine z_goto (tgt := 11) dJxe99ae_isNaN_b9ae7_7 rfl ?_
    subst h
    exact z_iret dJxe99ae_isNaN_b9ae7_11 rfl rfl (Nat.le_refl _) (Nat.le_refl _) ⟨rfl, rfl⟩
theorem sJxe99ae_isNaN_b9ae7 {wv : Nat} (M : Mm) (x1 : UInt64) : TF wv yJxe99ae_isNaN_b9ae7 cJxe99ae_isNaN_b9ae7 2 (some .boolean) 0 [.inl (.double x1)] M (some (.int (fJxe99ae_isNaN_b9ae7 M x1))) M := tJxe99ae_isNaN_b9ae7 M x1  rfl
