theorem dX10_plucks_0 : decode cX10_plucks 0 = .ok (.aload_n 0, 1) := by decide +kernel
theorem dX10_plucks_1 : decode cX10_plucks 1 = .ok (.iload_n 1, 1) := by decide +kernel
theorem dX10_plucks_2 : decode cX10_plucks 2 = .ok (.invokevirtual 104, 3) := by decide +kernel
theorem dX10_plucks_5 : decode cX10_plucks 5 = .ok (.istore_n 2, 1) := by decide +kernel
theorem dX10_plucks_6 : decode cX10_plucks 6 = .ok (.iload_n 2, 1) := by decide +kernel
theorem dX10_plucks_7 : decode cX10_plucks 7 = .ok (.iconst 2, 1) := by decide +kernel
theorem dX10_plucks_8 : decode cX10_plucks 8 = .ok (.if_icmp .ge 4, 3) := by decide +kernel
theorem dX10_plucks_11 : decode cX10_plucks 11 = .ok (.return_, 1) := by decide +kernel
theorem dX10_plucks_12 : decode cX10_plucks 12 = .ok (.aload_n 0, 1) := by decide +kernel
theorem dX10_plucks_13 : decode cX10_plucks 13 = .ok (.getfield 7, 3) := by decide +kernel
theorem dX10_plucks_16 : decode cX10_plucks 16 = .ok (.iload_n 2, 1) := by decide +kernel
theorem dX10_plucks_17 : decode cX10_plucks 17 = .ok (.iconst 2, 1) := by decide +kernel
theorem dX10_plucks_18 : decode cX10_plucks 18 = .ok (.if_icmp .ne 8, 3) := by decide +kernel
theorem dX10_plucks_21 : decode cX10_plucks 21 = .ok (.bipush 6, 2) := by decide +kernel
theorem dX10_plucks_23 : decode cX10_plucks 23 = .ok (.goto 5, 3) := by decide +kernel
theorem dX10_plucks_26 : decode cX10_plucks 26 = .ok (.bipush 7, 2) := by decide +kernel
theorem dX10_plucks_28 : decode cX10_plucks 28 = .ok (.dup2, 1) := by decide +kernel
theorem dX10_plucks_29 : decode cX10_plucks 29 = .ok (.iaload, 1) := by decide +kernel
theorem dX10_plucks_30 : decode cX10_plucks 30 = .ok (.iconst 1, 1) := by decide +kernel
theorem dX10_plucks_31 : decode cX10_plucks 31 = .ok (.iadd, 1) := by decide +kernel
theorem dX10_plucks_32 : decode cX10_plucks 32 = .ok (.iastore, 1) := by decide +kernel
theorem dX10_plucks_33 : decode cX10_plucks 33 = .ok (.aload_n 0, 1) := by decide +kernel
theorem dX10_plucks_34 : decode cX10_plucks 34 = .ok (.iload_n 1, 1) := by decide +kernel
theorem dX10_plucks_35 : decode cX10_plucks 35 = .ok (.iconst 4, 1) := by decide +kernel
theorem dX10_plucks_36 : decode cX10_plucks 36 = .ok (.aload_n 0, 1) := by decide +kernel
theorem dX10_plucks_37 : decode cX10_plucks 37 = .ok (.iload_n 1, 1) := by decide +kernel
theorem dX10_plucks_38 : decode cX10_plucks 38 = .ok (.iconst 4, 1) := by decide +kernel
theorem dX10_plucks_39 : decode cX10_plucks 39 = .ok (.invokevirtual 90, 3) := by decide +kernel
theorem dX10_plucks_42 : decode cX10_plucks 42 = .ok (.iload_n 2, 1) := by decide +kernel
theorem dX10_plucks_43 : decode cX10_plucks 43 = .ok (.iconst 2, 1) := by decide +kernel
theorem dX10_plucks_44 : decode cX10_plucks 44 = .ok (.if_icmp .ne 7, 3) := by decide +kernel
theorem dX10_plucks_47 : decode cX10_plucks 47 = .ok (.iconst 1, 1) := by decide +kernel
theorem dX10_plucks_48 : decode cX10_plucks 48 = .ok (.goto 4, 3) := by decide +kernel
theorem dX10_plucks_51 : decode cX10_plucks 51 = .ok (.iconst 5, 1) := by decide +kernel
theorem dX10_plucks_52 : decode cX10_plucks 52 = .ok (.iadd, 1) := by decide +kernel
theorem dX10_plucks_53 : decode cX10_plucks 53 = .ok (.invokevirtual 108, 3) := by decide +kernel
theorem dX10_plucks_56 : decode cX10_plucks 56 = .ok (.aload_n 0, 1) := by decide +kernel
theorem dX10_plucks_57 : decode cX10_plucks 57 = .ok (.iload_n 1, 1) := by decide +kernel
theorem dX10_plucks_58 : decode cX10_plucks 58 = .ok (.iconst 5, 1) := by decide +kernel
theorem dX10_plucks_59 : decode cX10_plucks 59 = .ok (.iconst 0, 1) := by decide +kernel
theorem dX10_plucks_60 : decode cX10_plucks 60 = .ok (.invokevirtual 108, 3) := by decide +kernel
theorem dX10_plucks_63 : decode cX10_plucks 63 = .ok (.return_, 1) := by decide +kernel
def fX10_plucks (M : Mm) (x1 : Int32) : Option Mm := (fX10_sound M x1).bind fun q1 => if (2 : Int32) ≤ q1 then (if q1 = (2 : Int32) then ((fX10_of (putI M (19, 0, 0) 6 ((M.1 (19, 0, 0) 6) + (1 : Int32))) x1 (4 : Int32)).bind fun q16 => if q1 = (2 : Int32) then ((fX10_puts (putI M (19, 0, 0) 6 ((M.1 (19, 0, 0) 6) + (1 : Int32))) x1 (4 : Int32) (q16 + (1 : Int32))).bind fun q23 => (fX10_puts q23 x1 (5 : Int32) (0 : Int32)).bind fun q25 => some q25) else (fX10_puts (putI M (19, 0, 0) 6 ((M.1 (19, 0, 0) 6) + (1 : Int32))) x1 (4 : Int32) (q16 + (5 : Int32))).bind fun q19 => (fX10_puts q19 x1 (5 : Int32) (0 : Int32)).bind fun q21 => some q21) else (fX10_of (putI M (19, 0, 0) 7 ((M.1 (19, 0, 0) 7) + (1 : Int32))) x1 (4 : Int32)).bind fun q5 => if q1 = (2 : Int32) then ((fX10_puts (putI M (19, 0, 0) 7 ((M.1 (19, 0, 0) 7) + (1 : Int32))) x1 (4 : Int32) (q5 + (1 : Int32))).bind fun q12 => (fX10_puts q12 x1 (5 : Int32) (0 : Int32)).bind fun q14 => some q14) else (fX10_puts (putI M (19, 0, 0) 7 ((M.1 (19, 0, 0) 7) + (1 : Int32))) x1 (4 : Int32) (q5 + (5 : Int32))).bind fun q8 => (fX10_puts q8 x1 (5 : Int32) (0 : Int32)).bind fun q10 => some q10) else some M
set_option maxRecDepth 20000 in
set_option maxHeartbeats 2000000 in
theorem sX10_plucks {wv : Nat} (M : Mm) (x1 : Int32) {res : Mm} (h : fX10_plucks M x1 = some res) : TF (wv + 1) yX10_plucks cX10_plucks 3 none 3 [.inr (18, 0, 0), .inl (.int x1)] M (none) res := by
  rw [fX10_plucks] at h
  refine TF.go (n := 1) (ls := [some (.inr (18, 0, 0)), some (.inl (.int x1)), none]) rfl rfl rfl rfl rfl ?_
  refine z_aload_n (i := 0) dX10_plucks_0 rfl rfl ?_
  refine z_iload_n (i := 1) dX10_plucks_1 rfl rfl ?_
  obtain ⟨q1, hq2, h⟩ := bnd h
  refine z_fVi (sX10_sound M x1 hq2) dX10_plucks_2 ml_X10_104 cd_X10_sound mk18 rfl rfl rfl rfl rfl rfl ?_
  refine z_istore_n (i := 2) dX10_plucks_5 rfl (Nat.le_of_ble_eq_true rfl) rfl ?_
  refine z_iload_n (i := 2) dX10_plucks_6 rfl rfl ?_
  refine z_iconst (v := (2 : Int32)) dX10_plucks_7 kc_2 ?_
  refine z_icmp_ge (tgt := 12) dX10_plucks_8 rfl (fun hc3 => ?_) (fun hc3 => ?_)
  · have h := it_t h hc3
    refine z_aload_n (i := 0) dX10_plucks_12 rfl rfl ?_
    refine z_getR (r' := (19, 0, 0)) dX10_plucks_13 fl_X10_7 mk18 rfl rfl ?_
    refine z_iload_n (i := 2) dX10_plucks_16 rfl rfl ?_
    refine z_iconst (v := (2 : Int32)) dX10_plucks_17 kc_2 ?_
    refine z_icmp_ne (tgt := 26) dX10_plucks_18 rfl (fun hc4 => ?_) (fun hc4 => ?_)
    · have h := it_f h hc4
      refine z_bipush (v := (7 : Int32)) dX10_plucks_26 kb_7 ?_
      refine z_dup2 dX10_plucks_28 rfl rfl ?_
      refine z_iald (x := (M.1 (19, 0, 0) 7)) dX10_plucks_29 (m19 _ (Nat.le_of_ble_eq_true rfl)) rfl (by decide) rfl ?_
      refine z_iconst (v := (1 : Int32)) dX10_plucks_30 kc_1 ?_
      refine z_iadd dX10_plucks_31 ?_
      refine z_iast (j := 7) allR_nd dX10_plucks_32 (m19 _ (Nat.le_of_ble_eq_true rfl)) rfl (by decide) rfl ?_
      refine z_aload_n (i := 0) dX10_plucks_33 rfl rfl ?_
      refine z_iload_n (i := 1) dX10_plucks_34 rfl rfl ?_
      refine z_iconst (v := (4 : Int32)) dX10_plucks_35 kc_4 ?_
      refine z_aload_n (i := 0) dX10_plucks_36 rfl rfl ?_
      refine z_iload_n (i := 1) dX10_plucks_37 rfl rfl ?_
      refine z_iconst (v := (4 : Int32)) dX10_plucks_38 kc_4 ?_
      obtain ⟨q5, hq6, h⟩ := bnd h
      refine z_fVi (sX10_of (putI M (19, 0, 0) 7 ((M.1 (19, 0, 0) 7) + (1 : Int32))) x1 (4 : Int32) hq6) dX10_plucks_39 ml_X10_90 cd_X10_of mk18 rfl rfl rfl rfl rfl rfl ?_
      refine z_iload_n (i := 2) dX10_plucks_42 rfl rfl ?_
      refine z_iconst (v := (2 : Int32)) dX10_plucks_43 kc_2 ?_
      refine z_icmp_ne (tgt := 51) dX10_plucks_44 rfl (fun hc7 => ?_) (fun hc7 => ?_)
      · have h := it_f h hc7
        refine z_iconst (v := (5 : Int32)) dX10_plucks_51 kc_5 ?_
        refine z_iadd dX10_plucks_52 ?_
        obtain ⟨q8, hq9, h⟩ := bnd h
        refine z_fVv (sX10_puts (putI M (19, 0, 0) 7 ((M.1 (19, 0, 0) 7) + (1 : Int32))) x1 (4 : Int32) (q5 + (5 : Int32)) hq9) dX10_plucks_53 ml_X10_108 cd_X10_puts mk18 rfl rfl rfl rfl rfl rfl ?_
        refine z_aload_n (i := 0) dX10_plucks_56 rfl rfl ?_
        refine z_iload_n (i := 1) dX10_plucks_57 rfl rfl ?_
        refine z_iconst (v := (5 : Int32)) dX10_plucks_58 kc_5 ?_
        refine z_iconst (v := (0 : Int32)) dX10_plucks_59 kc_0 ?_
        obtain ⟨q10, hq11, h⟩ := bnd h
        refine z_fVv (sX10_puts q8 x1 (5 : Int32) (0 : Int32) hq11) dX10_plucks_60 ml_X10_108 cd_X10_puts mk18 rfl rfl rfl rfl rfl rfl ?_
        cases h
        exact z_vret dX10_plucks_63 rfl (Nat.le_refl _) (Nat.le_refl _) ⟨rfl, rfl⟩
      · have h := it_t h hc7
        refine z_iconst (v := (1 : Int32)) dX10_plucks_47 kc_1 ?_
        refine z_goto (tgt := 52) dX10_plucks_48 rfl ?_
        refine z_iadd dX10_plucks_52 ?_
        obtain ⟨q12, hq13, h⟩ := bnd h
        refine z_fVv (sX10_puts (putI M (19, 0, 0) 7 ((M.1 (19, 0, 0) 7) + (1 : Int32))) x1 (4 : Int32) (q5 + (1 : Int32)) hq13) dX10_plucks_53 ml_X10_108 cd_X10_puts mk18 rfl rfl rfl rfl rfl rfl ?_
        refine z_aload_n (i := 0) dX10_plucks_56 rfl rfl ?_
        refine z_iload_n (i := 1) dX10_plucks_57 rfl rfl ?_
        refine z_iconst (v := (5 : Int32)) dX10_plucks_58 kc_5 ?_
        refine z_iconst (v := (0 : Int32)) dX10_plucks_59 kc_0 ?_
        obtain ⟨q14, hq15, h⟩ := bnd h
        refine z_fVv (sX10_puts q12 x1 (5 : Int32) (0 : Int32) hq15) dX10_plucks_60 ml_X10_108 cd_X10_puts mk18 rfl rfl rfl rfl rfl rfl ?_
        cases h
        exact z_vret dX10_plucks_63 rfl (Nat.le_refl _) (Nat.le_refl _) ⟨rfl, rfl⟩
    · have h := it_t h hc4
      refine z_bipush (v := (6 : Int32)) dX10_plucks_21 kb_6 ?_
      refine z_goto (tgt := 28) dX10_plucks_23 rfl ?_
      refine z_dup2 dX10_plucks_28 rfl rfl ?_
      refine z_iald (x := (M.1 (19, 0, 0) 6)) dX10_plucks_29 (m19 _ (Nat.le_of_ble_eq_true rfl)) rfl (by decide) rfl ?_
      refine z_iconst (v := (1 : Int32)) dX10_plucks_30 kc_1 ?_
      refine z_iadd dX10_plucks_31 ?_
      refine z_iast (j := 6) allR_nd dX10_plucks_32 (m19 _ (Nat.le_of_ble_eq_true rfl)) rfl (by decide) rfl ?_
      refine z_aload_n (i := 0) dX10_plucks_33 rfl rfl ?_
      refine z_iload_n (i := 1) dX10_plucks_34 rfl rfl ?_
      refine z_iconst (v := (4 : Int32)) dX10_plucks_35 kc_4 ?_
      refine z_aload_n (i := 0) dX10_plucks_36 rfl rfl ?_
      refine z_iload_n (i := 1) dX10_plucks_37 rfl rfl ?_
      refine z_iconst (v := (4 : Int32)) dX10_plucks_38 kc_4 ?_
      obtain ⟨q16, hq17, h⟩ := bnd h
      refine z_fVi (sX10_of (putI M (19, 0, 0) 6 ((M.1 (19, 0, 0) 6) + (1 : Int32))) x1 (4 : Int32) hq17) dX10_plucks_39 ml_X10_90 cd_X10_of mk18 rfl rfl rfl rfl rfl rfl ?_
      refine z_iload_n (i := 2) dX10_plucks_42 rfl rfl ?_
      refine z_iconst (v := (2 : Int32)) dX10_plucks_43 kc_2 ?_
      refine z_icmp_ne (tgt := 51) dX10_plucks_44 rfl (fun hc18 => ?_) (fun hc18 => ?_)
      · have h := it_f h hc18
        refine z_iconst (v := (5 : Int32)) dX10_plucks_51 kc_5 ?_
        refine z_iadd dX10_plucks_52 ?_
        obtain ⟨q19, hq20, h⟩ := bnd h
        refine z_fVv (sX10_puts (putI M (19, 0, 0) 6 ((M.1 (19, 0, 0) 6) + (1 : Int32))) x1 (4 : Int32) (q16 + (5 : Int32)) hq20) dX10_plucks_53 ml_X10_108 cd_X10_puts mk18 rfl rfl rfl rfl rfl rfl ?_
        refine z_aload_n (i := 0) dX10_plucks_56 rfl rfl ?_
        refine z_iload_n (i := 1) dX10_plucks_57 rfl rfl ?_
        refine z_iconst (v := (5 : Int32)) dX10_plucks_58 kc_5 ?_
        refine z_iconst (v := (0 : Int32)) dX10_plucks_59 kc_0 ?_
        obtain ⟨q21, hq22, h⟩ := bnd h
        refine z_fVv (sX10_puts q19 x1 (5 : Int32) (0 : Int32) hq22) dX10_plucks_60 ml_X10_108 cd_X10_puts mk18 rfl rfl rfl rfl rfl rfl ?_
        cases h
        exact z_vret dX10_plucks_63 rfl (Nat.le_refl _) (Nat.le_refl _) ⟨rfl, rfl⟩
      · have h := it_t h hc18
        refine z_iconst (v := (1 : Int32)) dX10_plucks_47 kc_1 ?_
        refine z_goto (tgt := 52) dX10_plucks_48 rfl ?_
        refine z_iadd dX10_plucks_52 ?_
        obtain ⟨q23, hq24, h⟩ := bnd h
        refine z_fVv (sX10_puts (putI M (19, 0, 0) 6 ((M.1 (19, 0, 0) 6) + (1 : Int32))) x1 (4 : Int32) (q16 + (1 : Int32)) hq24) dX10_plucks_53 ml_X10_108 cd_X10_puts mk18 rfl rfl rfl rfl rfl rfl ?_
        refine z_aload_n (i := 0) dX10_plucks_56 rfl rfl ?_
        refine z_iload_n (i := 1) dX10_plucks_57 rfl rfl ?_
        refine z_iconst (v := (5 : Int32)) dX10_plucks_58 kc_5 ?_
        refine z_iconst (v := (0 : Int32)) dX10_plucks_59 kc_0 ?_
        obtain ⟨q25, hq26, h⟩ := bnd h
        refine z_fVv (sX10_puts q23 x1 (5 : Int32) (0 : Int32) hq26) dX10_plucks_60 ml_X10_108 cd_X10_puts mk18 rfl rfl rfl rfl rfl rfl ?_
        cases h
        exact z_vret dX10_plucks_63 rfl (Nat.le_refl _) (Nat.le_refl _) ⟨rfl, rfl⟩
  · have h := it_f h hc3
    cases h
    exact z_vret dX10_plucks_11 rfl (Nat.le_refl _) (Nat.le_refl _) ⟨rfl, rfl⟩
theorem dX10_step_0 : decode cX10_step 0 = .ok (.iconst 0, 1) := by decide +kernel
theorem dX10_step_1 : decode cX10_step 1 = .ok (.istore_n 1, 1) := by decide +kernel
theorem dX10_step_2 : decode cX10_step 2 = .ok (.iload_n 1, 1) := by decide +kernel
theorem dX10_step_3 : decode cX10_step 3 = .ok (.aload_n 0, 1) := by decide +kernel
theorem dX10_step_4 : decode cX10_step 4 = .ok (.getfield 7, 3) := by decide +kernel
theorem dX10_step_7 : decode cX10_step 7 = .ok (.iconst 3, 1) := by decide +kernel
theorem dX10_step_8 : decode cX10_step 8 = .ok (.iaload, 1) := by decide +kernel
theorem dX10_step_9 : decode cX10_step 9 = .ok (.if_icmp .ge 14, 3) := by decide +kernel
theorem dX10_step_12 : decode cX10_step 12 = .ok (.aload_n 0, 1) := by decide +kernel
theorem dX10_step_13 : decode cX10_step 13 = .ok (.iload_n 1, 1) := by decide +kernel
theorem dX10_step_14 : decode cX10_step 14 = .ok (.invokevirtual 112, 3) := by decide +kernel
theorem dX10_step_17 : decode cX10_step 17 = .ok (.iinc 1 1, 3) := by decide +kernel
theorem dX10_step_20 : decode cX10_step 20 = .ok (.goto (-18), 3) := by decide +kernel
theorem dX10_step_23 : decode cX10_step 23 = .ok (.iconst 0, 1) := by decide +kernel
theorem dX10_step_24 : decode cX10_step 24 = .ok (.istore_n 1, 1) := by decide +kernel
theorem dX10_step_25 : decode cX10_step 25 = .ok (.iload_n 1, 1) := by decide +kernel
theorem dX10_step_26 : decode cX10_step 26 = .ok (.aload_n 0, 1) := by decide +kernel
theorem dX10_step_27 : decode cX10_step 27 = .ok (.getfield 7, 3) := by decide +kernel
theorem dX10_step_30 : decode cX10_step 30 = .ok (.iconst 3, 1) := by decide +kernel
theorem dX10_step_31 : decode cX10_step 31 = .ok (.iaload, 1) := by decide +kernel
theorem dX10_step_32 : decode cX10_step 32 = .ok (.if_icmp .ge 28, 3) := by decide +kernel
theorem dX10_step_35 : decode cX10_step 35 = .ok (.aload_n 0, 1) := by decide +kernel
theorem dX10_step_36 : decode cX10_step 36 = .ok (.iload_n 1, 1) := by decide +kernel
theorem dX10_step_37 : decode cX10_step 37 = .ok (.iconst 5, 1) := by decide +kernel
theorem dX10_step_38 : decode cX10_step 38 = .ok (.bipush 99, 2) := by decide +kernel
theorem dX10_step_40 : decode cX10_step 40 = .ok (.aload_n 0, 1) := by decide +kernel
theorem dX10_step_41 : decode cX10_step 41 = .ok (.iload_n 1, 1) := by decide +kernel
theorem dX10_step_42 : decode cX10_step 42 = .ok (.iconst 5, 1) := by decide +kernel
theorem dX10_step_43 : decode cX10_step 43 = .ok (.invokevirtual 90, 3) := by decide +kernel
theorem dX10_step_46 : decode cX10_step 46 = .ok (.iconst 1, 1) := by decide +kernel
theorem dX10_step_47 : decode cX10_step 47 = .ok (.iadd, 1) := by decide +kernel
theorem dX10_step_48 : decode cX10_step 48 = .ok (.invokestatic 116, 3) := by decide +kernel
theorem dX10_step_51 : decode cX10_step 51 = .ok (.invokevirtual 108, 3) := by decide +kernel
theorem dX10_step_54 : decode cX10_step 54 = .ok (.iinc 1 1, 3) := by decide +kernel
theorem dX10_step_57 : decode cX10_step 57 = .ok (.goto (-32), 3) := by decide +kernel
theorem dX10_step_60 : decode cX10_step 60 = .ok (.aload_n 0, 1) := by decide +kernel
theorem dX10_step_61 : decode cX10_step 61 = .ok (.getfield 7, 3) := by decide +kernel
theorem dX10_step_64 : decode cX10_step 64 = .ok (.iconst 5, 1) := by decide +kernel
theorem dX10_step_65 : decode cX10_step 65 = .ok (.dup2, 1) := by decide +kernel
theorem dX10_step_66 : decode cX10_step 66 = .ok (.iaload, 1) := by decide +kernel
theorem dX10_step_67 : decode cX10_step 67 = .ok (.iconst 1, 1) := by decide +kernel
theorem dX10_step_68 : decode cX10_step 68 = .ok (.iadd, 1) := by decide +kernel
theorem dX10_step_69 : decode cX10_step 69 = .ok (.iastore, 1) := by decide +kernel
theorem dX10_step_70 : decode cX10_step 70 = .ok (.aload_n 0, 1) := by decide +kernel
theorem dX10_step_71 : decode cX10_step 71 = .ok (.getfield 7, 3) := by decide +kernel
theorem dX10_step_74 : decode cX10_step 74 = .ok (.iconst 5, 1) := by decide +kernel
theorem dX10_step_75 : decode cX10_step 75 = .ok (.iaload, 1) := by decide +kernel
theorem dX10_step_76 : decode cX10_step 76 = .ok (.aload_n 0, 1) := by decide +kernel
theorem dX10_step_77 : decode cX10_step 77 = .ok (.getfield 7, 3) := by decide +kernel
theorem dX10_step_80 : decode cX10_step 80 = .ok (.iconst 0, 1) := by decide +kernel
theorem dX10_step_81 : decode cX10_step 81 = .ok (.iaload, 1) := by decide +kernel
theorem dX10_step_82 : decode cX10_step 82 = .ok (.if_icmp .ne 20, 3) := by decide +kernel
theorem dX10_step_85 : decode cX10_step 85 = .ok (.aload_n 0, 1) := by decide +kernel
theorem dX10_step_86 : decode cX10_step 86 = .ok (.getfield 7, 3) := by decide +kernel
theorem dX10_step_89 : decode cX10_step 89 = .ok (.iconst 5, 1) := by decide +kernel
theorem dX10_step_90 : decode cX10_step 90 = .ok (.iconst 0, 1) := by decide +kernel
theorem dX10_step_91 : decode cX10_step 91 = .ok (.iastore, 1) := by decide +kernel
theorem dX10_step_92 : decode cX10_step 92 = .ok (.aload_n 0, 1) := by decide +kernel
theorem dX10_step_93 : decode cX10_step 93 = .ok (.getfield 7, 3) := by decide +kernel
theorem dX10_step_96 : decode cX10_step 96 = .ok (.iconst 1, 1) := by decide +kernel
theorem dX10_step_97 : decode cX10_step 97 = .ok (.dup2, 1) := by decide +kernel
theorem dX10_step_98 : decode cX10_step 98 = .ok (.iaload, 1) := by decide +kernel
theorem dX10_step_99 : decode cX10_step 99 = .ok (.iconst 1, 1) := by decide +kernel
theorem dX10_step_100 : decode cX10_step 100 = .ok (.isub, 1) := by decide +kernel
theorem dX10_step_101 : decode cX10_step 101 = .ok (.iastore, 1) := by decide +kernel
theorem dX10_step_102 : decode cX10_step 102 = .ok (.aload_n 0, 1) := by decide +kernel
theorem dX10_step_103 : decode cX10_step 103 = .ok (.getfield 7, 3) := by decide +kernel
theorem dX10_step_106 : decode cX10_step 106 = .ok (.bipush 8, 2) := by decide +kernel
theorem dX10_step_108 : decode cX10_step 108 = .ok (.dup2, 1) := by decide +kernel
theorem dX10_step_109 : decode cX10_step 109 = .ok (.iaload, 1) := by decide +kernel
theorem dX10_step_110 : decode cX10_step 110 = .ok (.iconst 1, 1) := by decide +kernel
theorem dX10_step_111 : decode cX10_step 111 = .ok (.iadd, 1) := by decide +kernel
theorem dX10_step_112 : decode cX10_step 112 = .ok (.iastore, 1) := by decide +kernel
theorem dX10_step_113 : decode cX10_step 113 = .ok (.return_, 1) := by decide +kernel
def fX10_step_L2 (K : Int32 → Mm → Option Mm) : Nat → Int32 → Mm → Option Mm
  | 0, _, _ => none
  | n + 1, v1, M => if (M.1 (19, 0, 0) 3) ≤ v1 then K v1 M else (fX10_plucks M v1).bind fun q2 => fX10_step_L2 K n (v1 + (1 : Int32)) q2
def fX10_step_L25 (K : Int32 → Mm → Option Mm) : Nat → Int32 → Mm → Option Mm
  | 0, _, _ => none
  | n + 1, v1, M => if (M.1 (19, 0, 0) 3) ≤ v1 then K v1 M else (fX10_of M v1 (5 : Int32)).bind fun q7 => (fX10_puts M v1 (5 : Int32) (fJ9_min_7cf53 M (99 : Int32) (q7 + (1 : Int32)))).bind fun q9 => fX10_step_L25 K n (v1 + (1 : Int32)) q9
def fX10_step (M : Mm) : Option Mm := fX10_step_L2 (fun w4 M5 => fX10_step_L25 (fun w11 M12 => if ((M12.1 (19, 0, 0) 5) + (1 : Int32)) = (M12.1 (19, 0, 0) 0) then some (putI (putI (putI (putI M12 (19, 0, 0) 5 ((M12.1 (19, 0, 0) 5) + (1 : Int32))) (19, 0, 0) 5 (0 : Int32)) (19, 0, 0) 1 ((M12.1 (19, 0, 0) 1) - (1 : Int32))) (19, 0, 0) 8 ((M12.1 (19, 0, 0) 8) + (1 : Int32))) else some (putI (putI M12 (19, 0, 0) 5 ((M12.1 (19, 0, 0) 5) + (1 : Int32))) (19, 0, 0) 8 ((M12.1 (19, 0, 0) 8) + (1 : Int32)))) NF (0 : Int32) M5) NF (0 : Int32) M
set_option maxRecDepth 20000 in
set_option maxHeartbeats 2000000 in
theorem sX10_step_L2 {wv : Nat} {res : Mm} {K : Int32 → Mm → Option Mm} : ∀ (n : Nat) (v1 : Int32) (M : Mm), fX10_step_L2 K n v1 M = some res →
    (∀ (v1 : Int32) (M : Mm), K v1 M = some res → Z RX10 cX10_step 2 none [] "step" (rmD 4 0 0) (QM SH (allR (wv + 1)) 0 0 (fun v M9 => v = none ∧ M9 = res) (fun _ _ => False)) (allR (wv + 1)) SH 0 0 23 [some (.inr (18, 0, 0)), some (.inl (.int v1))] [] M) → Z RX10 cX10_step 2 none [] "step" (rmD 4 0 0) (QM SH (allR (wv + 1)) 0 0 (fun v M9 => v = none ∧ M9 = res) (fun _ _ => False)) (allR (wv + 1)) SH 0 0 2 [some (.inr (18, 0, 0)), some (.inl (.int v1))] [] M := by
  intro n
  induction n with
  | zero => intro v1 M h; cases h
  | succ n ih =>
    intro v1 M h hK
    rw [fX10_step_L2] at h
    refine z_iload_n (i := 1) dX10_step_2 rfl rfl ?_
    refine z_aload_n (i := 0) dX10_step_3 rfl rfl ?_
    refine z_getR (r' := (19, 0, 0)) dX10_step_4 fl_X10_7 mk18 rfl rfl ?_
    refine z_iconst (v := (3 : Int32)) dX10_step_7 kc_3 ?_
    refine z_iald (x := (M.1 (19, 0, 0) 3)) dX10_step_8 (m19 _ (Nat.le_of_ble_eq_true rfl)) rfl (by decide) rfl ?_
    refine z_icmp_ge (tgt := 23) dX10_step_9 rfl (fun hc1 => ?_) (fun hc1 => ?_)
    · have h := it_t h hc1
      exact hK _ _ h
    · have h := it_f h hc1
      refine z_aload_n (i := 0) dX10_step_12 rfl rfl ?_
      refine z_iload_n (i := 1) dX10_step_13 rfl rfl ?_
      obtain ⟨q2, hq3, h⟩ := bnd h
      refine z_fVv (sX10_plucks M v1 hq3) dX10_step_14 ml_X10_112 cd_X10_plucks mk18 rfl rfl rfl rfl rfl rfl ?_
      refine z_iinc (i := 1) (v := (v1 + (1 : Int32))) dX10_step_17 rfl (iinc_k kc_1) (Nat.le_of_ble_eq_true rfl) rfl ?_
      refine z_goto (tgt := 2) dX10_step_20 rfl ?_
      exact ih _ _ h hK
set_option maxRecDepth 20000 in
set_option maxHeartbeats 2000000 in
theorem sX10_step_L25 {wv : Nat} {res : Mm} {K : Int32 → Mm → Option Mm} : ∀ (n : Nat) (v1 : Int32) (M : Mm), fX10_step_L25 K n v1 M = some res →
    (∀ (v1 : Int32) (M : Mm), K v1 M = some res → Z RX10 cX10_step 2 none [] "step" (rmD 4 0 0) (QM SH (allR (wv + 1)) 0 0 (fun v M9 => v = none ∧ M9 = res) (fun _ _ => False)) (allR (wv + 1)) SH 0 0 60 [some (.inr (18, 0, 0)), some (.inl (.int v1))] [] M) → Z RX10 cX10_step 2 none [] "step" (rmD 4 0 0) (QM SH (allR (wv + 1)) 0 0 (fun v M9 => v = none ∧ M9 = res) (fun _ _ => False)) (allR (wv + 1)) SH 0 0 25 [some (.inr (18, 0, 0)), some (.inl (.int v1))] [] M := by
  intro n
  induction n with
  | zero => intro v1 M h; cases h
  | succ n ih =>
    intro v1 M h hK
    rw [fX10_step_L25] at h
    refine z_iload_n (i := 1) dX10_step_25 rfl rfl ?_
    refine z_aload_n (i := 0) dX10_step_26 rfl rfl ?_
    refine z_getR (r' := (19, 0, 0)) dX10_step_27 fl_X10_7 mk18 rfl rfl ?_
    refine z_iconst (v := (3 : Int32)) dX10_step_30 kc_3 ?_
    refine z_iald (x := (M.1 (19, 0, 0) 3)) dX10_step_31 (m19 _ (Nat.le_of_ble_eq_true rfl)) rfl (by decide) rfl ?_
    refine z_icmp_ge (tgt := 60) dX10_step_32 rfl (fun hc6 => ?_) (fun hc6 => ?_)
    · have h := it_t h hc6
      exact hK _ _ h
    · have h := it_f h hc6
      refine z_aload_n (i := 0) dX10_step_35 rfl rfl ?_
      refine z_iload_n (i := 1) dX10_step_36 rfl rfl ?_
      refine z_iconst (v := (5 : Int32)) dX10_step_37 kc_5 ?_
      refine z_bipush (v := (99 : Int32)) dX10_step_38 kb_99 ?_
      refine z_aload_n (i := 0) dX10_step_40 rfl rfl ?_
      refine z_iload_n (i := 1) dX10_step_41 rfl rfl ?_
      refine z_iconst (v := (5 : Int32)) dX10_step_42 kc_5 ?_
      obtain ⟨q7, hq8, h⟩ := bnd h
      refine z_fVi (sX10_of M v1 (5 : Int32) hq8) dX10_step_43 ml_X10_90 cd_X10_of mk18 rfl rfl rfl rfl rfl rfl ?_
      refine z_iconst (v := (1 : Int32)) dX10_step_46 kc_1 ?_
      refine z_iadd dX10_step_47 ?_
      refine z_fSi (sJ9_min_7cf53 M (99 : Int32) (q7 + (1 : Int32))) dX10_step_48 ml_X10_116 cd_J9_min_7cf53 rfl rfl rfl rfl rfl ?_
      obtain ⟨q9, hq10, h⟩ := bnd h
      refine z_fVv (sX10_puts M v1 (5 : Int32) (fJ9_min_7cf53 M (99 : Int32) (q7 + (1 : Int32))) hq10) dX10_step_51 ml_X10_108 cd_X10_puts mk18 rfl rfl rfl rfl rfl rfl ?_
      refine z_iinc (i := 1) (v := (v1 + (1 : Int32))) dX10_step_54 rfl (iinc_k kc_1) (Nat.le_of_ble_eq_true rfl) rfl ?_
      refine z_goto (tgt := 25) dX10_step_57 rfl ?_
      exact ih _ _ h hK
set_option maxRecDepth 20000 in
set_option maxHeartbeats 2000000 in
theorem sX10_step {wv : Nat} (M : Mm) {res : Mm} (h : fX10_step M  = some res) : TF (wv + 1) yX10_step cX10_step 2 none 4 [.inr (18, 0, 0)] M (none) res := by
  rw [fX10_step] at h
  refine TF.go (n := 1) (ls := [some (.inr (18, 0, 0)), none]) rfl rfl rfl rfl rfl ?_
  refine z_iconst (v := (0 : Int32)) dX10_step_0 kc_0 ?_
  refine z_istore_n (i := 1) dX10_step_1 rfl (Nat.le_of_ble_eq_true rfl) rfl ?_
  refine sX10_step_L2  NF _ _ h (fun w4 M5 h => ?_)
  refine z_iconst (v := (0 : Int32)) dX10_step_23 kc_0 ?_
  refine z_istore_n (i := 1) dX10_step_24 rfl (Nat.le_of_ble_eq_true rfl) rfl ?_
  refine sX10_step_L25  NF _ _ h (fun w11 M12 h => ?_)
  refine z_aload_n (i := 0) dX10_step_60 rfl rfl ?_
  refine z_getR (r' := (19, 0, 0)) dX10_step_61 fl_X10_7 mk18 rfl rfl ?_
  refine z_iconst (v := (5 : Int32)) dX10_step_64 kc_5 ?_
  refine z_dup2 dX10_step_65 rfl rfl ?_
  refine z_iald (x := (M12.1 (19, 0, 0) 5)) dX10_step_66 (m19 _ (Nat.le_of_ble_eq_true rfl)) rfl (by decide) rfl ?_
  refine z_iconst (v := (1 : Int32)) dX10_step_67 kc_1 ?_
  refine z_iadd dX10_step_68 ?_
  refine z_iast (j := 5) allR_nd dX10_step_69 (m19 _ (Nat.le_of_ble_eq_true rfl)) rfl (by decide) rfl ?_
  refine z_aload_n (i := 0) dX10_step_70 rfl rfl ?_
  refine z_getR (r' := (19, 0, 0)) dX10_step_71 fl_X10_7 mk18 rfl rfl ?_
  refine z_iconst (v := (5 : Int32)) dX10_step_74 kc_5 ?_
  refine z_iald (x := ((M12.1 (19, 0, 0) 5) + (1 : Int32))) dX10_step_75 (m19 _ (Nat.le_of_ble_eq_true rfl)) rfl (by decide) (gp1 (M := M12) (r := (19, 0, 0)) (j := 5) (v := ((M12.1 (19, 0, 0) 5) + (1 : Int32)))) ?_
  refine z_aload_n (i := 0) dX10_step_76 rfl rfl ?_
  refine z_getR (r' := (19, 0, 0)) dX10_step_77 fl_X10_7 mk18 rfl rfl ?_
  refine z_iconst (v := (0 : Int32)) dX10_step_80 kc_0 ?_
  refine z_iald (x := (M12.1 (19, 0, 0) 0)) dX10_step_81 (m19 _ (Nat.le_of_ble_eq_true rfl)) rfl (by decide) rfl ?_
  refine z_icmp_ne (tgt := 102) dX10_step_82 rfl (fun hc13 => ?_) (fun hc13 => ?_)
  · have h := it_f h hc13
    refine z_aload_n (i := 0) dX10_step_102 rfl rfl ?_
    refine z_getR (r' := (19, 0, 0)) dX10_step_103 fl_X10_7 mk18 rfl rfl ?_
    refine z_bipush (v := (8 : Int32)) dX10_step_106 kb_8 ?_
    refine z_dup2 dX10_step_108 rfl rfl ?_
    refine z_iald (x := (M12.1 (19, 0, 0) 8)) dX10_step_109 (m19 _ (Nat.le_of_ble_eq_true rfl)) rfl (by decide) rfl ?_
    refine z_iconst (v := (1 : Int32)) dX10_step_110 kc_1 ?_
    refine z_iadd dX10_step_111 ?_
    refine z_iast (j := 8) allR_nd dX10_step_112 (m19 _ (Nat.le_of_ble_eq_true rfl)) rfl (by decide) rfl ?_
    cases h
    exact z_vret dX10_step_113 rfl (Nat.le_refl _) (Nat.le_refl _) ⟨rfl, rfl⟩
  · have h := it_t h hc13
    refine z_aload_n (i := 0) dX10_step_85 rfl rfl ?_
    refine z_getR (r' := (19, 0, 0)) dX10_step_86 fl_X10_7 mk18 rfl rfl ?_
    refine z_iconst (v := (5 : Int32)) dX10_step_89 kc_5 ?_
    refine z_iconst (v := (0 : Int32)) dX10_step_90 kc_0 ?_
    refine z_iast (j := 5) allR_nd dX10_step_91 (m19 _ (Nat.le_of_ble_eq_true rfl)) rfl (by decide) rfl ?_
    refine z_aload_n (i := 0) dX10_step_92 rfl rfl ?_
    refine z_getR (r' := (19, 0, 0)) dX10_step_93 fl_X10_7 mk18 rfl rfl ?_
    refine z_iconst (v := (1 : Int32)) dX10_step_96 kc_1 ?_
    refine z_dup2 dX10_step_97 rfl rfl ?_
    refine z_iald (x := (M12.1 (19, 0, 0) 1)) dX10_step_98 (m19 _ (Nat.le_of_ble_eq_true rfl)) rfl (by decide) rfl ?_
    refine z_iconst (v := (1 : Int32)) dX10_step_99 kc_1 ?_
    refine z_isub dX10_step_100 ?_
    refine z_iast (j := 1) allR_nd dX10_step_101 (m19 _ (Nat.le_of_ble_eq_true rfl)) rfl (by decide) rfl ?_
    refine z_aload_n (i := 0) dX10_step_102 rfl rfl ?_
    refine z_getR (r' := (19, 0, 0)) dX10_step_103 fl_X10_7 mk18 rfl rfl ?_
    refine z_bipush (v := (8 : Int32)) dX10_step_106 kb_8 ?_
    refine z_dup2 dX10_step_108 rfl rfl ?_
    refine z_iald (x := (M12.1 (19, 0, 0) 8)) dX10_step_109 (m19 _ (Nat.le_of_ble_eq_true rfl)) rfl (by decide) rfl ?_
    refine z_iconst (v := (1 : Int32)) dX10_step_110 kc_1 ?_
    refine z_iadd dX10_step_111 ?_
    refine z_iast (j := 8) allR_nd dX10_step_112 (m19 _ (Nat.le_of_ble_eq_true rfl)) rfl (by decide) rfl ?_
    cases h
    exact z_vret dX10_step_113 rfl (Nat.le_refl _) (Nat.le_refl _) ⟨rfl, rfl⟩
theorem dX10_steps_0 : decode cX10_steps 0 = .ok (.iconst 0, 1) := by decide +kernel
theorem dX10_steps_1 : decode cX10_steps 1 = .ok (.istore_n 2, 1) := by decide +kernel
theorem dX10_steps_2 : decode cX10_steps 2 = .ok (.iload_n 2, 1) := by decide +kernel
theorem dX10_steps_3 : decode cX10_steps 3 = .ok (.iload_n 1, 1) := by decide +kernel
theorem dX10_steps_4 : decode cX10_steps 4 = .ok (.if_icmp .ge 22, 3) := by decide +kernel
theorem dX10_steps_7 : decode cX10_steps 7 = .ok (.aload_n 0, 1) := by decide +kernel
theorem dX10_steps_8 : decode cX10_steps 8 = .ok (.getfield 7, 3) := by decide +kernel
theorem dX10_steps_11 : decode cX10_steps 11 = .ok (.iconst 1, 1) := by decide +kernel
theorem dX10_steps_12 : decode cX10_steps 12 = .ok (.iaload, 1) := by decide +kernel
theorem dX10_steps_13 : decode cX10_steps 13 = .ok (.ifCond .le 13, 3) := by decide +kernel
theorem dX10_steps_16 : decode cX10_steps 16 = .ok (.aload_n 0, 1) := by decide +kernel
theorem dX10_steps_17 : decode cX10_steps 17 = .ok (.invokevirtual 121, 3) := by decide +kernel
theorem dX10_steps_20 : decode cX10_steps 20 = .ok (.iinc 2 1, 3) := by decide +kernel
theorem dX10_steps_23 : decode cX10_steps 23 = .ok (.goto (-21), 3) := by decide +kernel
theorem dX10_steps_26 : decode cX10_steps 26 = .ok (.iload_n 2, 1) := by decide +kernel
theorem dX10_steps_27 : decode cX10_steps 27 = .ok (.ireturn, 1) := by decide +kernel
def fX10_steps_L2 (c1 : Int32) (K : Int32 → Mm → Option (Int32 × Mm)) : Nat → Int32 → Mm → Option (Int32 × Mm)
  | 0, _, _ => none
  | n + 1, v2, M => if c1 ≤ v2 then K v2 M else if (M.1 (19, 0, 0) 1) ≤ 0 then K v2 M else (fX10_step M).bind fun q3 => fX10_steps_L2 c1 K n (v2 + (1 : Int32)) q3
def fX10_steps (M : Mm) (x1 : Int32) : Option (Int32 × Mm) := fX10_steps_L2 x1 (fun w5 M6 => some (w5, M6)) NF (0 : Int32) M
set_option maxRecDepth 20000 in
set_option maxHeartbeats 2000000 in
theorem sX10_steps_L2 {wv : Nat} (c1 : Int32) {res : (Int32 × Mm)} {K : Int32 → Mm → Option (Int32 × Mm)} : ∀ (n : Nat) (v2 : Int32) (M : Mm), fX10_steps_L2 c1 K n v2 M = some res →
    (∀ (v2 : Int32) (M : Mm), K v2 M = some res → Z RX10 cX10_steps 3 (some .int) [] "steps" (rmD 5 0 0) (QM SH (allR (wv + 1)) 0 0 (fun v M9 => v = some (.int res.1) ∧ M9 = res.2) (fun _ _ => False)) (allR (wv + 1)) SH 0 0 26 [some (.inr (18, 0, 0)), some (.inl (.int c1)), some (.inl (.int v2))] [] M) → Z RX10 cX10_steps 3 (some .int) [] "steps" (rmD 5 0 0) (QM SH (allR (wv + 1)) 0 0 (fun v M9 => v = some (.int res.1) ∧ M9 = res.2) (fun _ _ => False)) (allR (wv + 1)) SH 0 0 2 [some (.inr (18, 0, 0)), some (.inl (.int c1)), some (.inl (.int v2))] [] M := by
  intro n
  induction n with
  | zero => intro v2 M h; cases h
  | succ n ih =>
    intro v2 M h hK
    rw [fX10_steps_L2] at h
    refine z_iload_n (i := 2) dX10_steps_2 rfl rfl ?_
    refine z_iload_n (i := 1) dX10_steps_3 rfl rfl ?_
    refine z_icmp_ge (tgt := 26) dX10_steps_4 rfl (fun hc1 => ?_) (fun hc1 => ?_)
    · have h := it_t h hc1
      exact hK _ _ h
    · have h := it_f h hc1
      refine z_aload_n (i := 0) dX10_steps_7 rfl rfl ?_
      refine z_getR (r' := (19, 0, 0)) dX10_steps_8 fl_X10_7 mk18 rfl rfl ?_
      refine z_iconst (v := (1 : Int32)) dX10_steps_11 kc_1 ?_
      refine z_iald (x := (M.1 (19, 0, 0) 1)) dX10_steps_12 (m19 _ (Nat.le_of_ble_eq_true rfl)) rfl (by decide) rfl ?_
      refine z_if_le (tgt := 26) dX10_steps_13 rfl (fun hc2 => ?_) (fun hc2 => ?_)
      · have h := it_t h hc2
        exact hK _ _ h
      · have h := it_f h hc2
        refine z_aload_n (i := 0) dX10_steps_16 rfl rfl ?_
        obtain ⟨q3, hq4, h⟩ := bnd h
        refine z_fVv (sX10_step M hq4) dX10_steps_17 ml_X10_121 cd_X10_step mk18 rfl rfl rfl rfl rfl rfl ?_
        refine z_iinc (i := 2) (v := (v2 + (1 : Int32))) dX10_steps_20 rfl (iinc_k kc_1) (Nat.le_of_ble_eq_true rfl) rfl ?_
        refine z_goto (tgt := 2) dX10_steps_23 rfl ?_
        exact ih _ _ h hK
set_option maxRecDepth 20000 in
set_option maxHeartbeats 2000000 in
theorem sX10_steps {wv : Nat} (M : Mm) (x1 : Int32) {res : (Int32 × Mm)} (h : fX10_steps M x1 = some res) : TF (wv + 1) yX10_steps cX10_steps 3 (some .int) 5 [.inr (18, 0, 0), .inl (.int x1)] M (some (.int res.1)) res.2 := by
  rw [fX10_steps] at h
  refine TF.go (n := 1) (ls := [some (.inr (18, 0, 0)), some (.inl (.int x1)), none]) rfl rfl rfl rfl rfl ?_
  refine z_iconst (v := (0 : Int32)) dX10_steps_0 kc_0 ?_
  refine z_istore_n (i := 2) dX10_steps_1 rfl (Nat.le_of_ble_eq_true rfl) rfl ?_
  refine sX10_steps_L2 x1 NF _ _ h (fun w5 M6 h => ?_)
  refine z_iload_n (i := 2) dX10_steps_26 rfl rfl ?_
  cases h
  exact z_iret dX10_steps_27 rfl rfl (Nat.le_refl _) (Nat.le_refl _) ⟨rfl, rfl⟩
theorem dX10_tries_0 : decode cX10_tries 0 = .ok (.iconst 0, 1) := by decide +kernel
theorem dX10_tries_1 : decode cX10_tries 1 = .ok (.istore_n 1, 1) := by decide +kernel
theorem dX10_tries_2 : decode cX10_tries 2 = .ok (.iload_n 1, 1) := by decide +kernel
theorem dX10_tries_3 : decode cX10_tries 3 = .ok (.sipush 280, 3) := by decide +kernel
theorem dX10_tries_6 : decode cX10_tries 6 = .ok (.if_icmp .ge 21, 3) := by decide +kernel
theorem dX10_tries_9 : decode cX10_tries 9 = .ok (.aload_n 0, 1) := by decide +kernel
theorem dX10_tries_10 : decode cX10_tries 10 = .ok (.getfield 13, 3) := by decide +kernel
theorem dX10_tries_13 : decode cX10_tries 13 = .ok (.iload_n 1, 1) := by decide +kernel
theorem dX10_tries_14 : decode cX10_tries 14 = .ok (.aload_n 0, 1) := by decide +kernel
theorem dX10_tries_15 : decode cX10_tries 15 = .ok (.getfield 7, 3) := by decide +kernel
theorem dX10_tries_18 : decode cX10_tries 18 = .ok (.iload_n 1, 1) := by decide +kernel
theorem dX10_tries_19 : decode cX10_tries 19 = .ok (.iaload, 1) := by decide +kernel
theorem dX10_tries_20 : decode cX10_tries 20 = .ok (.iastore, 1) := by decide +kernel
theorem dX10_tries_21 : decode cX10_tries 21 = .ok (.iinc 1 1, 3) := by decide +kernel
theorem dX10_tries_24 : decode cX10_tries 24 = .ok (.goto (-22), 3) := by decide +kernel
theorem dX10_tries_27 : decode cX10_tries 27 = .ok (.return_, 1) := by decide +kernel
def fX10_tries_L2 (K : Int32 → Mm → Option Mm) : Nat → Int32 → Mm → Option Mm
  | 0, _, _ => none
  | n + 1, v1, M => if (280 : Int32) ≤ v1 then K v1 M else if v1 < 0 ∨ 280 ≤ v1.toNatClampNeg then none else if v1 < 0 ∨ 280 ≤ v1.toNatClampNeg then none else fX10_tries_L2 K n (v1 + (1 : Int32)) (putI M (19, 1, 0) v1.toNatClampNeg (M.1 (19, 0, 0) v1.toNatClampNeg))
def fX10_tries (M : Mm) : Option Mm := fX10_tries_L2 (fun w4 M5 => some M5) NF (0 : Int32) M
set_option maxRecDepth 20000 in
set_option maxHeartbeats 2000000 in
theorem sX10_tries_L2 {wv : Nat} {res : Mm} {K : Int32 → Mm → Option Mm} : ∀ (n : Nat) (v1 : Int32) (M : Mm), fX10_tries_L2 K n v1 M = some res →
    (∀ (v1 : Int32) (M : Mm), K v1 M = some res → Z RX10 cX10_tries 2 none [] "tries" (rmD 0 0 0) (QM SH (allR (wv + 1)) 0 0 (fun v M9 => v = none ∧ M9 = res) (fun _ _ => False)) (allR (wv + 1)) SH 0 0 27 [some (.inr (18, 0, 0)), some (.inl (.int v1))] [] M) → Z RX10 cX10_tries 2 none [] "tries" (rmD 0 0 0) (QM SH (allR (wv + 1)) 0 0 (fun v M9 => v = none ∧ M9 = res) (fun _ _ => False)) (allR (wv + 1)) SH 0 0 2 [some (.inr (18, 0, 0)), some (.inl (.int v1))] [] M := by
  intro n
  induction n with
  | zero => intro v1 M h; cases h
  | succ n ih =>
    intro v1 M h hK
    rw [fX10_tries_L2] at h
    refine z_iload_n (i := 1) dX10_tries_2 rfl rfl ?_
    refine z_sipush (v := (280 : Int32)) dX10_tries_3 ks_280 ?_
    refine z_icmp_ge (tgt := 27) dX10_tries_6 rfl (fun hc1 => ?_) (fun hc1 => ?_)
    · have h := it_t h hc1
      exact hK _ _ h
    · have h := it_f h hc1
      refine z_aload_n (i := 0) dX10_tries_9 rfl rfl ?_
      refine z_getR (r' := (19, 1, 0)) dX10_tries_10 fl_X10_13 mk18 rfl rfl ?_
      refine z_iload_n (i := 1) dX10_tries_13 rfl rfl ?_
      refine z_aload_n (i := 0) dX10_tries_14 rfl rfl ?_
      refine z_getR (r' := (19, 0, 0)) dX10_tries_15 fl_X10_7 mk18 rfl rfl ?_
      refine z_iload_n (i := 1) dX10_tries_18 rfl rfl ?_
      obtain ⟨hc2, h⟩ := chk h
      refine z_iald (x := (M.1 (19, 0, 0) v1.toNatClampNeg)) dX10_tries_19 (m19 _ (Nat.le_of_ble_eq_true rfl)) rfl hc2 rfl ?_
      obtain ⟨hc3, h⟩ := chk h
      refine z_iast (j := v1.toNatClampNeg) allR_nd dX10_tries_20 (m19 _ (Nat.le_of_ble_eq_true rfl)) rfl hc3 rfl ?_
      refine z_iinc (i := 1) (v := (v1 + (1 : Int32))) dX10_tries_21 rfl (iinc_k kc_1) (Nat.le_of_ble_eq_true rfl) rfl ?_
      refine z_goto (tgt := 2) dX10_tries_24 rfl ?_
      exact ih _ _ h hK
set_option maxRecDepth 20000 in
set_option maxHeartbeats 2000000 in
theorem sX10_tries {wv : Nat} (M : Mm) {res : Mm} (h : fX10_tries M  = some res) : TF (wv + 1) yX10_tries cX10_tries 2 none 0 [.inr (18, 0, 0)] M (none) res := by
  rw [fX10_tries] at h
  refine TF.go (n := 1) (ls := [some (.inr (18, 0, 0)), none]) rfl rfl rfl rfl rfl ?_
  refine z_iconst (v := (0 : Int32)) dX10_tries_0 kc_0 ?_
  refine z_istore_n (i := 1) dX10_tries_1 rfl (Nat.le_of_ble_eq_true rfl) rfl ?_
  refine sX10_tries_L2  NF _ _ h (fun w4 M5 h => ?_)
  cases h
  exact z_vret dX10_tries_27 rfl (Nat.le_refl _) (Nat.le_refl _) ⟨rfl, rfl⟩
theorem dX10_back_0 : decode cX10_back 0 = .ok (.iconst 0, 1) := by decide +kernel
theorem dX10_back_1 : decode cX10_back 1 = .ok (.istore_n 2, 1) := by decide +kernel
theorem dX10_back_2 : decode cX10_back 2 = .ok (.iload_n 2, 1) := by decide +kernel
theorem dX10_back_3 : decode cX10_back 3 = .ok (.sipush 280, 3) := by decide +kernel
theorem dX10_back_6 : decode cX10_back 6 = .ok (.if_icmp .ge 21, 3) := by decide +kernel
theorem dX10_back_9 : decode cX10_back 9 = .ok (.aload_n 0, 1) := by decide +kernel
theorem dX10_back_10 : decode cX10_back 10 = .ok (.getfield 7, 3) := by decide +kernel
theorem dX10_back_13 : decode cX10_back 13 = .ok (.iload_n 2, 1) := by decide +kernel
theorem dX10_back_14 : decode cX10_back 14 = .ok (.aload_n 0, 1) := by decide +kernel
theorem dX10_back_15 : decode cX10_back 15 = .ok (.getfield 13, 3) := by decide +kernel
theorem dX10_back_18 : decode cX10_back 18 = .ok (.iload_n 2, 1) := by decide +kernel
theorem dX10_back_19 : decode cX10_back 19 = .ok (.iaload, 1) := by decide +kernel
theorem dX10_back_20 : decode cX10_back 20 = .ok (.iastore, 1) := by decide +kernel
theorem dX10_back_21 : decode cX10_back 21 = .ok (.iinc 2 1, 3) := by decide +kernel
theorem dX10_back_24 : decode cX10_back 24 = .ok (.goto (-22), 3) := by decide +kernel
theorem dX10_back_27 : decode cX10_back 27 = .ok (.iload_n 1, 1) := by decide +kernel
theorem dX10_back_28 : decode cX10_back 28 = .ok (.ireturn, 1) := by decide +kernel
def fX10_back_L2 (c1 : Int32) (K : Int32 → Mm → Option (Int32 × Mm)) : Nat → Int32 → Mm → Option (Int32 × Mm)
  | 0, _, _ => none
  | n + 1, v2, M => if (280 : Int32) ≤ v2 then K v2 M else if v2 < 0 ∨ 280 ≤ v2.toNatClampNeg then none else if v2 < 0 ∨ 280 ≤ v2.toNatClampNeg then none else fX10_back_L2 c1 K n (v2 + (1 : Int32)) (putI M (19, 0, 0) v2.toNatClampNeg (M.1 (19, 1, 0) v2.toNatClampNeg))
def fX10_back (M : Mm) (x1 : Int32) : Option (Int32 × Mm) := fX10_back_L2 x1 (fun w4 M5 => some (x1, M5)) NF (0 : Int32) M
set_option maxRecDepth 20000 in
set_option maxHeartbeats 2000000 in
theorem sX10_back_L2 {wv : Nat} (c1 : Int32) {res : (Int32 × Mm)} {K : Int32 → Mm → Option (Int32 × Mm)} : ∀ (n : Nat) (v2 : Int32) (M : Mm), fX10_back_L2 c1 K n v2 M = some res →
    (∀ (v2 : Int32) (M : Mm), K v2 M = some res → Z RX10 cX10_back 3 (some .int) [] "back" (rmD 0 0 0) (QM SH (allR (wv + 1)) 0 0 (fun v M9 => v = some (.int res.1) ∧ M9 = res.2) (fun _ _ => False)) (allR (wv + 1)) SH 0 0 27 [some (.inr (18, 0, 0)), some (.inl (.int c1)), some (.inl (.int v2))] [] M) → Z RX10 cX10_back 3 (some .int) [] "back" (rmD 0 0 0) (QM SH (allR (wv + 1)) 0 0 (fun v M9 => v = some (.int res.1) ∧ M9 = res.2) (fun _ _ => False)) (allR (wv + 1)) SH 0 0 2 [some (.inr (18, 0, 0)), some (.inl (.int c1)), some (.inl (.int v2))] [] M := by
  intro n
  induction n with
  | zero => intro v2 M h; cases h
  | succ n ih =>
    intro v2 M h hK
    rw [fX10_back_L2] at h
    refine z_iload_n (i := 2) dX10_back_2 rfl rfl ?_
    refine z_sipush (v := (280 : Int32)) dX10_back_3 ks_280 ?_
    refine z_icmp_ge (tgt := 27) dX10_back_6 rfl (fun hc1 => ?_) (fun hc1 => ?_)
    · have h := it_t h hc1
      exact hK _ _ h
    · have h := it_f h hc1
      refine z_aload_n (i := 0) dX10_back_9 rfl rfl ?_
      refine z_getR (r' := (19, 0, 0)) dX10_back_10 fl_X10_7 mk18 rfl rfl ?_
      refine z_iload_n (i := 2) dX10_back_13 rfl rfl ?_
      refine z_aload_n (i := 0) dX10_back_14 rfl rfl ?_
      refine z_getR (r' := (19, 1, 0)) dX10_back_15 fl_X10_13 mk18 rfl rfl ?_
      refine z_iload_n (i := 2) dX10_back_18 rfl rfl ?_
      obtain ⟨hc2, h⟩ := chk h
      refine z_iald (x := (M.1 (19, 1, 0) v2.toNatClampNeg)) dX10_back_19 (m19 _ (Nat.le_of_ble_eq_true rfl)) rfl hc2 rfl ?_
      obtain ⟨hc3, h⟩ := chk h
      refine z_iast (j := v2.toNatClampNeg) allR_nd dX10_back_20 (m19 _ (Nat.le_of_ble_eq_true rfl)) rfl hc3 rfl ?_
      refine z_iinc (i := 2) (v := (v2 + (1 : Int32))) dX10_back_21 rfl (iinc_k kc_1) (Nat.le_of_ble_eq_true rfl) rfl ?_
      refine z_goto (tgt := 2) dX10_back_24 rfl ?_
      exact ih _ _ h hK
set_option maxRecDepth 20000 in
set_option maxHeartbeats 2000000 in
theorem sX10_back {wv : Nat} (M : Mm) (x1 : Int32) {res : (Int32 × Mm)} (h : fX10_back M x1 = some res) : TF (wv + 1) yX10_back cX10_back 3 (some .int) 0 [.inr (18, 0, 0), .inl (.int x1)] M (some (.int res.1)) res.2 := by
  rw [fX10_back] at h
  refine TF.go (n := 1) (ls := [some (.inr (18, 0, 0)), some (.inl (.int x1)), none]) rfl rfl rfl rfl rfl ?_
  refine z_iconst (v := (0 : Int32)) dX10_back_0 kc_0 ?_
  refine z_istore_n (i := 2) dX10_back_1 rfl (Nat.le_of_ble_eq_true rfl) rfl ?_
  refine sX10_back_L2 x1 NF _ _ h (fun w4 M5 h => ?_)
  refine z_iload_n (i := 1) dX10_back_27 rfl rfl ?_
  cases h
  exact z_iret dX10_back_28 rfl rfl (Nat.le_refl _) (Nat.le_refl _) ⟨rfl, rfl⟩
theorem dX10_feeds_0 : decode cX10_feeds 0 = .ok (.bipush 24, 2) := by decide +kernel
theorem dX10_feeds_2 : decode cX10_feeds 2 = .ok (.istore_n 2, 1) := by decide +kernel
theorem dX10_feeds_3 : decode cX10_feeds 3 = .ok (.iload_n 2, 1) := by decide +kernel
theorem dX10_feeds_4 : decode cX10_feeds 4 = .ok (.ifCond .lt 54, 3) := by decide +kernel
theorem dX10_feeds_7 : decode cX10_feeds 7 = .ok (.iload_n 1, 1) := by decide +kernel
theorem dX10_feeds_8 : decode cX10_feeds 8 = .ok (.iload_n 2, 1) := by decide +kernel
theorem dX10_feeds_9 : decode cX10_feeds 9 = .ok (.ishr, 1) := by decide +kernel
theorem dX10_feeds_10 : decode cX10_feeds 10 = .ok (.sipush 255, 3) := by decide +kernel
theorem dX10_feeds_13 : decode cX10_feeds 13 = .ok (.iand, 1) := by decide +kernel
theorem dX10_feeds_14 : decode cX10_feeds 14 = .ok (.istore_n 3, 1) := by decide +kernel
theorem dX10_feeds_15 : decode cX10_feeds 15 = .ok (.iload_n 3, 1) := by decide +kernel
theorem dX10_feeds_16 : decode cX10_feeds 16 = .ok (.ifCond .ne 6, 3) := by decide +kernel
theorem dX10_feeds_19 : decode cX10_feeds 19 = .ok (.goto 33, 3) := by decide +kernel
theorem dX10_feeds_22 : decode cX10_feeds 22 = .ok (.aload_n 0, 1) := by decide +kernel
theorem dX10_feeds_23 : decode cX10_feeds 23 = .ok (.getfield 70, 3) := by decide +kernel
theorem dX10_feeds_26 : decode cX10_feeds 26 = .ok (.sipush 800, 3) := by decide +kernel
theorem dX10_feeds_29 : decode cX10_feeds 29 = .ok (.if_icmp .ge 13, 3) := by decide +kernel
theorem dX10_feeds_32 : decode cX10_feeds 32 = .ok (.aload_n 0, 1) := by decide +kernel
theorem dX10_feeds_33 : decode cX10_feeds 33 = .ok (.getfield 32, 3) := by decide +kernel
theorem dX10_feeds_36 : decode cX10_feeds 36 = .ok (.aload_n 0, 1) := by decide +kernel
theorem dX10_feeds_37 : decode cX10_feeds 37 = .ok (.getfield 70, 3) := by decide +kernel
theorem dX10_feeds_40 : decode cX10_feeds 40 = .ok (.iload_n 3, 1) := by decide +kernel
theorem dX10_feeds_41 : decode cX10_feeds 41 = .ok (.iastore, 1) := by decide +kernel
theorem dX10_feeds_42 : decode cX10_feeds 42 = .ok (.aload_n 0, 1) := by decide +kernel
theorem dX10_feeds_43 : decode cX10_feeds 43 = .ok (.dup, 1) := by decide +kernel
theorem dX10_feeds_44 : decode cX10_feeds 44 = .ok (.getfield 70, 3) := by decide +kernel
theorem dX10_feeds_47 : decode cX10_feeds 47 = .ok (.iconst 1, 1) := by decide +kernel
theorem dX10_feeds_48 : decode cX10_feeds 48 = .ok (.iadd, 1) := by decide +kernel
theorem dX10_feeds_49 : decode cX10_feeds 49 = .ok (.putfield 70, 3) := by decide +kernel
theorem dX10_feeds_52 : decode cX10_feeds 52 = .ok (.iinc 2 (-8), 3) := by decide +kernel
theorem dX10_feeds_55 : decode cX10_feeds 55 = .ok (.goto (-52), 3) := by decide +kernel
theorem dX10_feeds_58 : decode cX10_feeds 58 = .ok (.return_, 1) := by decide +kernel
def fX10_feeds_L3 (c1 : Int32) (K : Int32 → Mm → Option Mm) : Nat → Int32 → Mm → Option Mm
  | 0, _, _ => none
  | n + 1, v2, M => if v2 < 0 then K v2 M else if ((c1 >>> (v2 &&& 31)) &&& (255 : Int32)) = 0 then fX10_feeds_L3 c1 K n (v2 + (-8 : Int32)) M else if (800 : Int32) ≤ (M.1 (18, 0, 0) 10) then fX10_feeds_L3 c1 K n (v2 + (-8 : Int32)) (putI M (18, 0, 0) 10 ((M.1 (18, 0, 0) 10) + (1 : Int32))) else if (M.1 (18, 0, 0) 10) < 0 ∨ 800 ≤ (M.1 (18, 0, 0) 10).toNatClampNeg then none else fX10_feeds_L3 c1 K n (v2 + (-8 : Int32)) (putI (putI M (19, 6, 0) (M.1 (18, 0, 0) 10).toNatClampNeg ((c1 >>> (v2 &&& 31)) &&& (255 : Int32))) (18, 0, 0) 10 ((M.1 (18, 0, 0) 10) + (1 : Int32)))
def fX10_feeds (M : Mm) (x1 : Int32) : Option Mm := fX10_feeds_L3 x1 (fun w5 M6 => some M6) NF (24 : Int32) M
set_option maxRecDepth 20000 in
set_option maxHeartbeats 2000000 in
theorem sX10_feeds_L3 {wv : Nat} (c1 : Int32) {res : Mm} {K : Int32 → Mm → Option Mm} : ∀ (n : Nat) (v2 : Int32) (M : Mm), fX10_feeds_L3 c1 K n v2 M = some res →
    (∀ (v2 : Int32) (M : Mm), K v2 M = some res → Z RX10 cX10_feeds 4 none [] "feeds" (rmD 0 0 0) (QM SH (allR (wv + 1)) 0 0 (fun v M9 => v = none ∧ M9 = res) (fun _ _ => False)) (allR (wv + 1)) SH 0 0 58 [some (.inr (18, 0, 0)), some (.inl (.int c1)), some (.inl (.int v2)), none] [] M) → Z RX10 cX10_feeds 4 none [] "feeds" (rmD 0 0 0) (QM SH (allR (wv + 1)) 0 0 (fun v M9 => v = none ∧ M9 = res) (fun _ _ => False)) (allR (wv + 1)) SH 0 0 3 [some (.inr (18, 0, 0)), some (.inl (.int c1)), some (.inl (.int v2)), none] [] M := by
  intro n
  induction n with
  | zero => intro v2 M h; cases h
  | succ n ih =>
    intro v2 M h hK
    rw [fX10_feeds_L3] at h
    refine z_iload_n (i := 2) dX10_feeds_3 rfl rfl ?_
    refine z_if_lt (tgt := 58) dX10_feeds_4 rfl (fun hc1 => ?_) (fun hc1 => ?_)
    · have h := it_t h hc1
      exact hK _ _ h
    · have h := it_f h hc1
      refine z_iload_n (i := 1) dX10_feeds_7 rfl rfl ?_
      refine z_iload_n (i := 2) dX10_feeds_8 rfl rfl ?_
      refine z_ishr dX10_feeds_9 ?_
      refine z_sipush (v := (255 : Int32)) dX10_feeds_10 ks_255 ?_
      refine z_iand dX10_feeds_13 ?_
      refine z_istore_n (i := 3) dX10_feeds_14 rfl (Nat.le_of_ble_eq_true rfl) rfl ?_
      refine z_iload_n (i := 3) dX10_feeds_15 rfl rfl ?_
      refine z_if_ne (tgt := 22) dX10_feeds_16 rfl (fun hc2 => ?_) (fun hc2 => ?_)
      · have h := it_f h hc2
        refine z_aload_n (i := 0) dX10_feeds_22 rfl rfl ?_
        refine z_getI (x := (M.1 (18, 0, 0) 10)) dX10_feeds_23 fl_X10_70 mk18 rfl rfl ?_
        refine z_sipush (v := (800 : Int32)) dX10_feeds_26 ks_800 ?_
        refine z_icmp_ge (tgt := 42) dX10_feeds_29 rfl (fun hc3 => ?_) (fun hc3 => ?_)
        · have h := it_t h hc3
          refine z_aload_n (i := 0) dX10_feeds_42 rfl rfl ?_
          refine z_dup dX10_feeds_43 rfl ?_
          refine z_getI (x := (M.1 (18, 0, 0) 10)) dX10_feeds_44 fl_X10_70 mk18 rfl rfl ?_
          refine z_iconst (v := (1 : Int32)) dX10_feeds_47 kc_1 ?_
          refine z_iadd dX10_feeds_48 ?_
          refine z_putI allR_nd dX10_feeds_49 fl_X10_70 mk18 rfl rfl ?_
          refine z_iinc (i := 2) (v := (v2 + (-8 : Int32))) dX10_feeds_52 rfl (iinc_k kc_m8) (Nat.le_of_ble_eq_true rfl) rfl ?_
          refine z_goto (tgt := 3) dX10_feeds_55 rfl ?_
          refine z_fgt (i := 3) ?_
          exact ih _ _ h hK
        · have h := it_f h hc3
          refine z_aload_n (i := 0) dX10_feeds_32 rfl rfl ?_
          refine z_getR (r' := (19, 6, 0)) dX10_feeds_33 fl_X10_32 mk18 rfl rfl ?_
          refine z_aload_n (i := 0) dX10_feeds_36 rfl rfl ?_
          refine z_getI (x := (M.1 (18, 0, 0) 10)) dX10_feeds_37 fl_X10_70 mk18 rfl rfl ?_
          refine z_iload_n (i := 3) dX10_feeds_40 rfl rfl ?_
          obtain ⟨hc4, h⟩ := chk h
          refine z_iast (j := (M.1 (18, 0, 0) 10).toNatClampNeg) allR_nd dX10_feeds_41 (m19 _ (Nat.le_of_ble_eq_true rfl)) rfl hc4 rfl ?_
          refine z_aload_n (i := 0) dX10_feeds_42 rfl rfl ?_
          refine z_dup dX10_feeds_43 rfl ?_
          refine z_getI (x := (M.1 (18, 0, 0) 10)) dX10_feeds_44 fl_X10_70 mk18 rfl rfl ?_
          refine z_iconst (v := (1 : Int32)) dX10_feeds_47 kc_1 ?_
          refine z_iadd dX10_feeds_48 ?_
          refine z_putI allR_nd dX10_feeds_49 fl_X10_70 mk18 rfl rfl ?_
          refine z_iinc (i := 2) (v := (v2 + (-8 : Int32))) dX10_feeds_52 rfl (iinc_k kc_m8) (Nat.le_of_ble_eq_true rfl) rfl ?_
          refine z_goto (tgt := 3) dX10_feeds_55 rfl ?_
          refine z_fgt (i := 3) ?_
          exact ih _ _ h hK
      · have h := it_t h hc2
        refine z_goto (tgt := 52) dX10_feeds_19 rfl ?_
        refine z_iinc (i := 2) (v := (v2 + (-8 : Int32))) dX10_feeds_52 rfl (iinc_k kc_m8) (Nat.le_of_ble_eq_true rfl) rfl ?_
        refine z_goto (tgt := 3) dX10_feeds_55 rfl ?_
        refine z_fgt (i := 3) ?_
        exact ih _ _ h hK
set_option maxRecDepth 20000 in
set_option maxHeartbeats 2000000 in
theorem sX10_feeds {wv : Nat} (M : Mm) (x1 : Int32) {res : Mm} (h : fX10_feeds M x1 = some res) : TF (wv + 1) yX10_feeds cX10_feeds 4 none 0 [.inr (18, 0, 0), .inl (.int x1)] M (none) res := by
  rw [fX10_feeds] at h
  refine TF.go (n := 2) (ls := [some (.inr (18, 0, 0)), some (.inl (.int x1)), none, none]) rfl rfl rfl rfl rfl ?_
  refine z_bipush (v := (24 : Int32)) dX10_feeds_0 kb_24 ?_
  refine z_istore_n (i := 2) dX10_feeds_2 rfl (Nat.le_of_ble_eq_true rfl) rfl ?_
  refine sX10_feeds_L3 x1 NF _ _ h (fun w5 M6 h => ?_)
  cases h
  exact z_vret dX10_feeds_58 rfl (Nat.le_refl _) (Nat.le_refl _) ⟨rfl, rfl⟩
theorem dX10_append_0 : decode cX10_append 0 = .ok (.aload_n 0, 1) := by decide +kernel
theorem dX10_append_1 : decode cX10_append 1 = .ok (.iconst 0, 1) := by decide +kernel
theorem dX10_append_2 : decode cX10_append 2 = .ok (.putfield 79, 3) := by decide +kernel
theorem dX10_append_5 : decode cX10_append 5 = .ok (.aload_n 0, 1) := by decide +kernel
theorem dX10_append_6 : decode cX10_append 6 = .ok (.getfield 70, 3) := by decide +kernel
theorem dX10_append_9 : decode cX10_append 9 = .ok (.istore 6, 2) := by decide +kernel
theorem dX10_append_11 : decode cX10_append 11 = .ok (.aload_n 0, 1) := by decide +kernel
theorem dX10_append_12 : decode cX10_append 12 = .ok (.iload_n 1, 1) := by decide +kernel
theorem dX10_append_13 : decode cX10_append 13 = .ok (.invokevirtual 124, 3) := by decide +kernel
theorem dX10_append_16 : decode cX10_append 16 = .ok (.aload_n 0, 1) := by decide +kernel
theorem dX10_append_17 : decode cX10_append 17 = .ok (.iload_n 2, 1) := by decide +kernel
theorem dX10_append_18 : decode cX10_append 18 = .ok (.invokevirtual 124, 3) := by decide +kernel
theorem dX10_append_21 : decode cX10_append 21 = .ok (.aload_n 0, 1) := by decide +kernel
theorem dX10_append_22 : decode cX10_append 22 = .ok (.iload_n 3, 1) := by decide +kernel
theorem dX10_append_23 : decode cX10_append 23 = .ok (.invokevirtual 124, 3) := by decide +kernel
theorem dX10_append_26 : decode cX10_append 26 = .ok (.aload_n 0, 1) := by decide +kernel
theorem dX10_append_27 : decode cX10_append 27 = .ok (.iload 4, 2) := by decide +kernel
theorem dX10_append_29 : decode cX10_append 29 = .ok (.invokevirtual 124, 3) := by decide +kernel
theorem dX10_append_32 : decode cX10_append 32 = .ok (.aload_n 0, 1) := by decide +kernel
theorem dX10_append_33 : decode cX10_append 33 = .ok (.iload 5, 2) := by decide +kernel
theorem dX10_append_35 : decode cX10_append 35 = .ok (.invokevirtual 124, 3) := by decide +kernel
theorem dX10_append_38 : decode cX10_append 38 = .ok (.aload_n 0, 1) := by decide +kernel
theorem dX10_append_39 : decode cX10_append 39 = .ok (.aload_n 0, 1) := by decide +kernel
theorem dX10_append_40 : decode cX10_append 40 = .ok (.getfield 70, 3) := by decide +kernel
theorem dX10_append_43 : decode cX10_append 43 = .ok (.sipush 800, 3) := by decide +kernel
theorem dX10_append_46 : decode cX10_append 46 = .ok (.if_icmp .gt 7, 3) := by decide +kernel
theorem dX10_append_49 : decode cX10_append 49 = .ok (.iconst 1, 1) := by decide +kernel
theorem dX10_append_50 : decode cX10_append 50 = .ok (.goto 4, 3) := by decide +kernel
theorem dX10_append_53 : decode cX10_append 53 = .ok (.iconst 0, 1) := by decide +kernel
theorem dX10_append_54 : decode cX10_append 54 = .ok (.iconst 1, 1) := by decide +kernel
theorem dX10_append_55 : decode cX10_append 55 = .ok (.invokevirtual 127, 3) := by decide +kernel
theorem dX10_append_58 : decode cX10_append 58 = .ok (.ifCond .eq 8, 3) := by decide +kernel
theorem dX10_append_61 : decode cX10_append 61 = .ok (.aload_n 0, 1) := by decide +kernel
theorem dX10_append_62 : decode cX10_append 62 = .ok (.getfield 70, 3) := by decide +kernel
theorem dX10_append_65 : decode cX10_append 65 = .ok (.ireturn, 1) := by decide +kernel
theorem dX10_append_66 : decode cX10_append 66 = .ok (.aload_n 0, 1) := by decide +kernel
theorem dX10_append_67 : decode cX10_append 67 = .ok (.iload 6, 2) := by decide +kernel
theorem dX10_append_69 : decode cX10_append 69 = .ok (.putfield 70, 3) := by decide +kernel
theorem dX10_append_72 : decode cX10_append 72 = .ok (.iconst 0, 1) := by decide +kernel
theorem dX10_append_73 : decode cX10_append 73 = .ok (.ireturn, 1) := by decide +kernel
def fX10_append (M : Mm) (x1 : Int32) (x2 : Int32) (x3 : Int32) (x4 : Int32) (x5 : Int32) : Option (Int32 × Mm) := (fX10_feeds (putI M (18, 0, 0) 8 (0 : Int32)) x1).bind fun q1 => (fX10_feeds q1 x2).bind fun q3 => (fX10_feeds q3 x3).bind fun q5 => (fX10_feeds q5 x4).bind fun q7 => (fX10_feeds q7 x5).bind fun q9 => if (800 : Int32) < (q9.1 (18, 0, 0) 10) then ((fX10_right q9 (0 : Int32) (1 : Int32)).bind fun q12 => if q12.1 = 0 then some ((0 : Int32), (putI q12.2 (18, 0, 0) 10 (M.1 (18, 0, 0) 10))) else some ((q12.2.1 (18, 0, 0) 10), q12.2)) else (fX10_right q9 (1 : Int32) (1 : Int32)).bind fun q15 => if q15.1 = 0 then some ((0 : Int32), (putI q15.2 (18, 0, 0) 10 (M.1 (18, 0, 0) 10))) else some ((q15.2.1 (18, 0, 0) 10), q15.2)
set_option maxRecDepth 20000 in
set_option maxHeartbeats 2000000 in
theorem sX10_append {wv : Nat} (M : Mm) (x1 : Int32) (x2 : Int32) (x3 : Int32) (x4 : Int32) (x5 : Int32) {res : (Int32 × Mm)} (h : fX10_append M x1 x2 x3 x4 x5 = some res) : TF (wv + 1) yX10_append cX10_append 7 (some .int) 1 [.inr (18, 0, 0), .inl (.int x1), .inl (.int x2), .inl (.int x3), .inl (.int x4), .inl (.int x5)] M (some (.int res.1)) res.2 := by
  rw [fX10_append] at h
  refine TF.go (n := 1) (ls := [some (.inr (18, 0, 0)), some (.inl (.int x1)), some (.inl (.int x2)), some (.inl (.int x3)), some (.inl (.int x4)), some (.inl (.int x5)), none]) rfl rfl rfl rfl rfl ?_
  refine z_aload_n (i := 0) dX10_append_0 rfl rfl ?_
  refine z_iconst (v := (0 : Int32)) dX10_append_1 kc_0 ?_
  refine z_putI allR_nd dX10_append_2 fl_X10_79 mk18 rfl rfl ?_
  refine z_aload_n (i := 0) dX10_append_5 rfl rfl ?_
  refine z_getI (x := (M.1 (18, 0, 0) 10)) dX10_append_6 fl_X10_70 mk18 rfl rfl ?_
  refine z_istore (i := 6) dX10_append_9 (Nat.le_of_ble_eq_true rfl) rfl ?_
  refine z_aload_n (i := 0) dX10_append_11 rfl rfl ?_
  refine z_iload_n (i := 1) dX10_append_12 rfl rfl ?_
  obtain ⟨q1, hq2, h⟩ := bnd h
  refine z_fVv (sX10_feeds (putI M (18, 0, 0) 8 (0 : Int32)) x1 hq2) dX10_append_13 ml_X10_124 cd_X10_feeds mk18 rfl rfl rfl rfl rfl rfl ?_
  refine z_aload_n (i := 0) dX10_append_16 rfl rfl ?_
  refine z_iload_n (i := 2) dX10_append_17 rfl rfl ?_
  obtain ⟨q3, hq4, h⟩ := bnd h
  refine z_fVv (sX10_feeds q1 x2 hq4) dX10_append_18 ml_X10_124 cd_X10_feeds mk18 rfl rfl rfl rfl rfl rfl ?_
  refine z_aload_n (i := 0) dX10_append_21 rfl rfl ?_
  refine z_iload_n (i := 3) dX10_append_22 rfl rfl ?_
  obtain ⟨q5, hq6, h⟩ := bnd h
  refine z_fVv (sX10_feeds q3 x3 hq6) dX10_append_23 ml_X10_124 cd_X10_feeds mk18 rfl rfl rfl rfl rfl rfl ?_
  refine z_aload_n (i := 0) dX10_append_26 rfl rfl ?_
  refine z_iload (i := 4) dX10_append_27 rfl ?_
  obtain ⟨q7, hq8, h⟩ := bnd h
  refine z_fVv (sX10_feeds q5 x4 hq8) dX10_append_29 ml_X10_124 cd_X10_feeds mk18 rfl rfl rfl rfl rfl rfl ?_
  refine z_aload_n (i := 0) dX10_append_32 rfl rfl ?_
  refine z_iload (i := 5) dX10_append_33 rfl ?_
  obtain ⟨q9, hq10, h⟩ := bnd h
  refine z_fVv (sX10_feeds q7 x5 hq10) dX10_append_35 ml_X10_124 cd_X10_feeds mk18 rfl rfl rfl rfl rfl rfl ?_
  refine z_aload_n (i := 0) dX10_append_38 rfl rfl ?_
  refine z_aload_n (i := 0) dX10_append_39 rfl rfl ?_
  refine z_getI (x := (q9.1 (18, 0, 0) 10)) dX10_append_40 fl_X10_70 mk18 rfl rfl ?_
  refine z_sipush (v := (800 : Int32)) dX10_append_43 ks_800 ?_
  refine z_icmp_gt (tgt := 53) dX10_append_46 rfl (fun hc11 => ?_) (fun hc11 => ?_)
  · have h := it_t h hc11
    refine z_iconst (v := (0 : Int32)) dX10_append_53 kc_0 ?_
    refine z_iconst (v := (1 : Int32)) dX10_append_54 kc_1 ?_
    obtain ⟨q12, hq13, h⟩ := bnd h
    refine z_fVi (sX10_right q9 (0 : Int32) (1 : Int32) hq13) dX10_append_55 ml_X10_127 cd_X10_right mk18 rfl rfl rfl rfl rfl rfl ?_
    refine z_if_eq (tgt := 66) dX10_append_58 rfl (fun hc14 => ?_) (fun hc14 => ?_)
    · have h := it_t h hc14
      refine z_aload_n (i := 0) dX10_append_66 rfl rfl ?_
      refine z_iload (i := 6) dX10_append_67 rfl ?_
      refine z_putI allR_nd dX10_append_69 fl_X10_70 mk18 rfl rfl ?_
      refine z_iconst (v := (0 : Int32)) dX10_append_72 kc_0 ?_
      cases h
      exact z_iret dX10_append_73 rfl rfl (Nat.le_refl _) (Nat.le_refl _) ⟨rfl, rfl⟩
    · have h := it_f h hc14
      refine z_aload_n (i := 0) dX10_append_61 rfl rfl ?_
      refine z_getI (x := (q12.2.1 (18, 0, 0) 10)) dX10_append_62 fl_X10_70 mk18 rfl rfl ?_
      cases h
      exact z_iret dX10_append_65 rfl rfl (Nat.le_refl _) (Nat.le_refl _) ⟨rfl, rfl⟩
  · have h := it_f h hc11
    refine z_iconst (v := (1 : Int32)) dX10_append_49 kc_1 ?_
    refine z_goto (tgt := 54) dX10_append_50 rfl ?_
    refine z_iconst (v := (1 : Int32)) dX10_append_54 kc_1 ?_
    obtain ⟨q15, hq16, h⟩ := bnd h
    refine z_fVi (sX10_right q9 (1 : Int32) (1 : Int32) hq16) dX10_append_55 ml_X10_127 cd_X10_right mk18 rfl rfl rfl rfl rfl rfl ?_
    refine z_if_eq (tgt := 66) dX10_append_58 rfl (fun hc17 => ?_) (fun hc17 => ?_)
    · have h := it_t h hc17
      refine z_aload_n (i := 0) dX10_append_66 rfl rfl ?_
      refine z_iload (i := 6) dX10_append_67 rfl ?_
      refine z_putI allR_nd dX10_append_69 fl_X10_70 mk18 rfl rfl ?_
      refine z_iconst (v := (0 : Int32)) dX10_append_72 kc_0 ?_
      cases h
      exact z_iret dX10_append_73 rfl rfl (Nat.le_refl _) (Nat.le_refl _) ⟨rfl, rfl⟩
    · have h := it_f h hc17
      refine z_aload_n (i := 0) dX10_append_61 rfl rfl ?_
      refine z_getI (x := (q15.2.1 (18, 0, 0) 10)) dX10_append_62 fl_X10_70 mk18 rfl rfl ?_
      cases h
      exact z_iret dX10_append_65 rfl rfl (Nat.le_refl _) (Nat.le_refl _) ⟨rfl, rfl⟩
theorem dX10_truncate_0 : decode cX10_truncate 0 = .ok (.aload_n 0, 1) := by decide +kernel
theorem dX10_truncate_1 : decode cX10_truncate 1 = .ok (.iconst 0, 1) := by decide +kernel
theorem dX10_truncate_2 : decode cX10_truncate 2 = .ok (.putfield 79, 3) := by decide +kernel
theorem dX10_truncate_5 : decode cX10_truncate 5 = .ok (.aload_n 0, 1) := by decide +kernel
theorem dX10_truncate_6 : decode cX10_truncate 6 = .ok (.iload_n 1, 1) := by decide +kernel
theorem dX10_truncate_7 : decode cX10_truncate 7 = .ok (.iconst 0, 1) := by decide +kernel
theorem dX10_truncate_8 : decode cX10_truncate 8 = .ok (.aload_n 0, 1) := by decide +kernel
theorem dX10_truncate_9 : decode cX10_truncate 9 = .ok (.getfield 70, 3) := by decide +kernel
theorem dX10_truncate_12 : decode cX10_truncate 12 = .ok (.invokestatic 82, 3) := by decide +kernel
theorem dX10_truncate_15 : decode cX10_truncate 15 = .ok (.iconst 1, 1) := by decide +kernel
theorem dX10_truncate_16 : decode cX10_truncate 16 = .ok (.invokevirtual 127, 3) := by decide +kernel
theorem dX10_truncate_19 : decode cX10_truncate 19 = .ok (.ifCond .ne 5, 3) := by decide +kernel
theorem dX10_truncate_22 : decode cX10_truncate 22 = .ok (.iconst 0, 1) := by decide +kernel
theorem dX10_truncate_23 : decode cX10_truncate 23 = .ok (.ireturn, 1) := by decide +kernel
theorem dX10_truncate_24 : decode cX10_truncate 24 = .ok (.aload_n 0, 1) := by decide +kernel
theorem dX10_truncate_25 : decode cX10_truncate 25 = .ok (.getfield 70, 3) := by decide +kernel
theorem dX10_truncate_28 : decode cX10_truncate 28 = .ok (.iload_n 1, 1) := by decide +kernel
theorem dX10_truncate_29 : decode cX10_truncate 29 = .ok (.isub, 1) := by decide +kernel
theorem dX10_truncate_30 : decode cX10_truncate 30 = .ok (.istore_n 2, 1) := by decide +kernel
theorem dX10_truncate_31 : decode cX10_truncate 31 = .ok (.aload_n 0, 1) := by decide +kernel
theorem dX10_truncate_32 : decode cX10_truncate 32 = .ok (.iload_n 1, 1) := by decide +kernel
theorem dX10_truncate_33 : decode cX10_truncate 33 = .ok (.putfield 70, 3) := by decide +kernel
theorem dX10_truncate_36 : decode cX10_truncate 36 = .ok (.iload_n 2, 1) := by decide +kernel
theorem dX10_truncate_37 : decode cX10_truncate 37 = .ok (.ireturn, 1) := by decide +kernel
def fX10_truncate (M : Mm) (x1 : Int32) : Option (Int32 × Mm) := (fX10_right (putI M (18, 0, 0) 8 (0 : Int32)) (fX10_in (putI M (18, 0, 0) 8 (0 : Int32)) x1 (0 : Int32) (M.1 (18, 0, 0) 10)) (1 : Int32)).bind fun q1 => if q1.1 = 0 then some ((0 : Int32), q1.2) else some (((q1.2.1 (18, 0, 0) 10) - x1), (putI q1.2 (18, 0, 0) 10 x1))
set_option maxRecDepth 20000 in
set_option maxHeartbeats 2000000 in
theorem sX10_truncate {wv : Nat} (M : Mm) (x1 : Int32) {res : (Int32 × Mm)} (h : fX10_truncate M x1 = some res) : TF (wv + 1) yX10_truncate cX10_truncate 3 (some .int) 1 [.inr (18, 0, 0), .inl (.int x1)] M (some (.int res.1)) res.2 := by
  rw [fX10_truncate] at h
  refine TF.go (n := 1) (ls := [some (.inr (18, 0, 0)), some (.inl (.int x1)), none]) rfl rfl rfl rfl rfl ?_
  refine z_aload_n (i := 0) dX10_truncate_0 rfl rfl ?_
  refine z_iconst (v := (0 : Int32)) dX10_truncate_1 kc_0 ?_
  refine z_putI allR_nd dX10_truncate_2 fl_X10_79 mk18 rfl rfl ?_
  refine z_aload_n (i := 0) dX10_truncate_5 rfl rfl ?_
  refine z_iload_n (i := 1) dX10_truncate_6 rfl rfl ?_
  refine z_iconst (v := (0 : Int32)) dX10_truncate_7 kc_0 ?_
  refine z_aload_n (i := 0) dX10_truncate_8 rfl rfl ?_
  refine z_getI (x := (M.1 (18, 0, 0) 10)) dX10_truncate_9 fl_X10_70 mk18 rfl rfl ?_
  refine z_fSi (sX10_in (putI M (18, 0, 0) 8 (0 : Int32)) x1 (0 : Int32) (M.1 (18, 0, 0) 10)) dX10_truncate_12 ml_X10_82 cd_X10_in rfl rfl rfl rfl rfl ?_
  refine z_iconst (v := (1 : Int32)) dX10_truncate_15 kc_1 ?_
  obtain ⟨q1, hq2, h⟩ := bnd h
  refine z_fVi (sX10_right (putI M (18, 0, 0) 8 (0 : Int32)) (fX10_in (putI M (18, 0, 0) 8 (0 : Int32)) x1 (0 : Int32) (M.1 (18, 0, 0) 10)) (1 : Int32) hq2) dX10_truncate_16 ml_X10_127 cd_X10_right mk18 rfl rfl rfl rfl rfl rfl ?_
  refine z_if_ne (tgt := 24) dX10_truncate_19 rfl (fun hc3 => ?_) (fun hc3 => ?_)
  · have h := it_f h hc3
    refine z_aload_n (i := 0) dX10_truncate_24 rfl rfl ?_
    refine z_getI (x := (q1.2.1 (18, 0, 0) 10)) dX10_truncate_25 fl_X10_70 mk18 rfl rfl ?_
    refine z_iload_n (i := 1) dX10_truncate_28 rfl rfl ?_
    refine z_isub dX10_truncate_29 ?_
    refine z_istore_n (i := 2) dX10_truncate_30 rfl (Nat.le_of_ble_eq_true rfl) rfl ?_
    refine z_aload_n (i := 0) dX10_truncate_31 rfl rfl ?_
    refine z_iload_n (i := 1) dX10_truncate_32 rfl rfl ?_
    refine z_putI allR_nd dX10_truncate_33 fl_X10_70 mk18 rfl rfl ?_
    refine z_iload_n (i := 2) dX10_truncate_36 rfl rfl ?_
    cases h
    exact z_iret dX10_truncate_37 rfl rfl (Nat.le_refl _) (Nat.le_refl _) ⟨rfl, rfl⟩
  · have h := it_t h hc3
    refine z_iconst (v := (0 : Int32)) dX10_truncate_22 kc_0 ?_
    cases h
    exact z_iret dX10_truncate_23 rfl rfl (Nat.le_refl _) (Nat.le_refl _) ⟨rfl, rfl⟩
theorem dX10_errorCode_0 : decode cX10_errorCode 0 = .ok (.aload_n 0, 1) := by decide +kernel
theorem dX10_errorCode_1 : decode cX10_errorCode 1 = .ok (.iconst 0, 1) := by decide +kernel
theorem dX10_errorCode_2 : decode cX10_errorCode 2 = .ok (.putfield 79, 3) := by decide +kernel
theorem dX10_errorCode_5 : decode cX10_errorCode 5 = .ok (.aload_n 0, 1) := by decide +kernel
theorem dX10_errorCode_6 : decode cX10_errorCode 6 = .ok (.getfield 131, 3) := by decide +kernel
theorem dX10_errorCode_9 : decode cX10_errorCode 9 = .ok (.ireturn, 1) := by decide +kernel
def fX10_errorCode (M : Mm) : Option (Int32 × Mm) := some ((M.1 (18, 0, 0) 11), (putI M (18, 0, 0) 8 (0 : Int32)))
set_option maxRecDepth 20000 in
set_option maxHeartbeats 2000000 in
theorem sX10_errorCode {wv : Nat} (M : Mm) {res : (Int32 × Mm)} (h : fX10_errorCode M  = some res) : TF (wv + 1) yX10_errorCode cX10_errorCode 1 (some .int) 0 [.inr (18, 0, 0)] M (some (.int res.1)) res.2 := by
  rw [fX10_errorCode] at h
  refine TF.go (n := 0) (ls := [some (.inr (18, 0, 0))]) rfl rfl rfl rfl rfl ?_
  refine z_aload_n (i := 0) dX10_errorCode_0 rfl rfl ?_
  refine z_iconst (v := (0 : Int32)) dX10_errorCode_1 kc_0 ?_
  refine z_putI allR_nd dX10_errorCode_2 fl_X10_79 mk18 rfl rfl ?_
  refine z_aload_n (i := 0) dX10_errorCode_5 rfl rfl ?_
  refine z_getI (x := (M.1 (18, 0, 0) 11)) dX10_errorCode_6 fl_X10_131 mk18 rfl rfl ?_
  cases h
  exact z_iret dX10_errorCode_9 rfl rfl (Nat.le_refl _) (Nat.le_refl _) ⟨rfl, rfl⟩
theorem dX10_errorPosition_0 : decode cX10_errorPosition 0 = .ok (.aload_n 0, 1) := by decide +kernel
theorem dX10_errorPosition_1 : decode cX10_errorPosition 1 = .ok (.iconst 0, 1) := by decide +kernel
theorem dX10_errorPosition_2 : decode cX10_errorPosition 2 = .ok (.putfield 79, 3) := by decide +kernel
theorem dX10_errorPosition_5 : decode cX10_errorPosition 5 = .ok (.aload_n 0, 1) := by decide +kernel
theorem dX10_errorPosition_6 : decode cX10_errorPosition 6 = .ok (.getfield 35, 3) := by decide +kernel
theorem dX10_errorPosition_9 : decode cX10_errorPosition 9 = .ok (.ireturn, 1) := by decide +kernel
def fX10_errorPosition (M : Mm) : Option (Int32 × Mm) := some ((M.1 (18, 0, 0) 12), (putI M (18, 0, 0) 8 (0 : Int32)))
set_option maxRecDepth 20000 in
set_option maxHeartbeats 2000000 in
theorem sX10_errorPosition {wv : Nat} (M : Mm) {res : (Int32 × Mm)} (h : fX10_errorPosition M  = some res) : TF (wv + 1) yX10_errorPosition cX10_errorPosition 1 (some .int) 0 [.inr (18, 0, 0)] M (some (.int res.1)) res.2 := by
  rw [fX10_errorPosition] at h
  refine TF.go (n := 0) (ls := [some (.inr (18, 0, 0))]) rfl rfl rfl rfl rfl ?_
  refine z_aload_n (i := 0) dX10_errorPosition_0 rfl rfl ?_
  refine z_iconst (v := (0 : Int32)) dX10_errorPosition_1 kc_0 ?_
  refine z_putI allR_nd dX10_errorPosition_2 fl_X10_79 mk18 rfl rfl ?_
  refine z_aload_n (i := 0) dX10_errorPosition_5 rfl rfl ?_
  refine z_getI (x := (M.1 (18, 0, 0) 12)) dX10_errorPosition_6 fl_X10_35 mk18 rfl rfl ?_
  cases h
  exact z_iret dX10_errorPosition_9 rfl rfl (Nat.le_refl _) (Nat.le_refl _) ⟨rfl, rfl⟩
