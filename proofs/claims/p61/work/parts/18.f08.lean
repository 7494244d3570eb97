theorem dX9_append_0 : decode cX9_append 0 = .ok (.iload_n 1, 1) := by decide +kernel
theorem dX9_append_1 : decode cX9_append 1 = .ok (.invokestatic 98, 3) := by decide +kernel
theorem dX9_append_4 : decode cX9_append 4 = .ok (.iload_n 2, 1) := by decide +kernel
theorem dX9_append_5 : decode cX9_append 5 = .ok (.invokestatic 98, 3) := by decide +kernel
theorem dX9_append_8 : decode cX9_append 8 = .ok (.iadd, 1) := by decide +kernel
theorem dX9_append_9 : decode cX9_append 9 = .ok (.iload_n 3, 1) := by decide +kernel
theorem dX9_append_10 : decode cX9_append 10 = .ok (.invokestatic 98, 3) := by decide +kernel
theorem dX9_append_13 : decode cX9_append 13 = .ok (.iadd, 1) := by decide +kernel
theorem dX9_append_14 : decode cX9_append 14 = .ok (.iload 4, 2) := by decide +kernel
theorem dX9_append_16 : decode cX9_append 16 = .ok (.invokestatic 98, 3) := by decide +kernel
theorem dX9_append_19 : decode cX9_append 19 = .ok (.iadd, 1) := by decide +kernel
theorem dX9_append_20 : decode cX9_append 20 = .ok (.iload 5, 2) := by decide +kernel
theorem dX9_append_22 : decode cX9_append 22 = .ok (.invokestatic 98, 3) := by decide +kernel
theorem dX9_append_25 : decode cX9_append 25 = .ok (.iadd, 1) := by decide +kernel
theorem dX9_append_26 : decode cX9_append 26 = .ok (.istore 6, 2) := by decide +kernel
theorem dX9_append_28 : decode cX9_append 28 = .ok (.aload_n 0, 1) := by decide +kernel
theorem dX9_append_29 : decode cX9_append 29 = .ok (.getfield 14, 3) := by decide +kernel
theorem dX9_append_32 : decode cX9_append 32 = .ok (.getfield 102, 3) := by decide +kernel
theorem dX9_append_35 : decode cX9_append 35 = .ok (.iload 6, 2) := by decide +kernel
theorem dX9_append_37 : decode cX9_append 37 = .ok (.iadd, 1) := by decide +kernel
theorem dX9_append_38 : decode cX9_append 38 = .ok (.sipush 800, 3) := by decide +kernel
theorem dX9_append_41 : decode cX9_append 41 = .ok (.if_icmp .le 13, 3) := by decide +kernel
theorem dX9_append_44 : decode cX9_append 44 = .ok (.new 105, 3) := by decide +kernel
theorem dX9_append_47 : decode cX9_append 47 = .ok (.dup, 1) := by decide +kernel
theorem dX9_append_48 : decode cX9_append 48 = .ok (.ldc 107, 2) := by decide +kernel
theorem dX9_append_50 : decode cX9_append 50 = .ok (.invokespecial 109, 3) := by decide +kernel
theorem dX9_append_53 : decode cX9_append 53 = .ok (.athrow, 1) := by decide +kernel
theorem dX9_append_54 : decode cX9_append 54 = .ok (.aload_n 0, 1) := by decide +kernel
theorem dX9_append_55 : decode cX9_append 55 = .ok (.iload_n 1, 1) := by decide +kernel
theorem dX9_append_56 : decode cX9_append 56 = .ok (.invokevirtual 112, 3) := by decide +kernel
theorem dX9_append_59 : decode cX9_append 59 = .ok (.aload_n 0, 1) := by decide +kernel
theorem dX9_append_60 : decode cX9_append 60 = .ok (.iload_n 2, 1) := by decide +kernel
theorem dX9_append_61 : decode cX9_append 61 = .ok (.invokevirtual 112, 3) := by decide +kernel
theorem dX9_append_64 : decode cX9_append 64 = .ok (.aload_n 0, 1) := by decide +kernel
theorem dX9_append_65 : decode cX9_append 65 = .ok (.iload_n 3, 1) := by decide +kernel
theorem dX9_append_66 : decode cX9_append 66 = .ok (.invokevirtual 112, 3) := by decide +kernel
theorem dX9_append_69 : decode cX9_append 69 = .ok (.aload_n 0, 1) := by decide +kernel
theorem dX9_append_70 : decode cX9_append 70 = .ok (.iload 4, 2) := by decide +kernel
theorem dX9_append_72 : decode cX9_append 72 = .ok (.invokevirtual 112, 3) := by decide +kernel
theorem dX9_append_75 : decode cX9_append 75 = .ok (.aload_n 0, 1) := by decide +kernel
theorem dX9_append_76 : decode cX9_append 76 = .ok (.iload 5, 2) := by decide +kernel
theorem dX9_append_78 : decode cX9_append 78 = .ok (.invokevirtual 112, 3) := by decide +kernel
theorem dX9_append_81 : decode cX9_append 81 = .ok (.aload_n 0, 1) := by decide +kernel
theorem dX9_append_82 : decode cX9_append 82 = .ok (.getfield 14, 3) := by decide +kernel
theorem dX9_append_85 : decode cX9_append 85 = .ok (.getfield 102, 3) := by decide +kernel
theorem dX9_append_88 : decode cX9_append 88 = .ok (.ireturn, 1) := by decide +kernel
def fX9_append (M : Mm) (x1 : Int32) (x2 : Int32) (x3 : Int32) (x4 : Int32) (x5 : Int32) : Option (Int32 × Mm) := (fX9_bytesIn M x1).bind fun q1 => (fX9_bytesIn M x2).bind fun q3 => (fX9_bytesIn M x3).bind fun q5 => (fX9_bytesIn M x4).bind fun q7 => (fX9_bytesIn M x5).bind fun q9 => if ((M.1 (1, 0, 0) 1) + ((((q1 + q3) + q5) + q7) + q9)) ≤ (800 : Int32) then ((fX9_putBytes M x1).bind fun q12 => (fX9_putBytes q12 x2).bind fun q14 => (fX9_putBytes q14 x3).bind fun q16 => (fX9_putBytes q16 x4).bind fun q18 => (fX9_putBytes q18 x5).bind fun q20 => some ((q20.1 (1, 0, 0) 1), q20)) else none
set_option maxRecDepth 20000 in
set_option maxHeartbeats 2000000 in
theorem sX9_append {wv : Wv} (M : Mm) (x1 : Int32) (x2 : Int32) (x3 : Int32) (x4 : Int32) (x5 : Int32) {res : (Int32 × Mm)} (h : fX9_append M x1 x2 x3 x4 x5 = some res) : TF wv yX9_append cX9_append 7 (some .int) 2 [.inr (0, 0, 0), .inl (.int x1), .inl (.int x2), .inl (.int x3), .inl (.int x4), .inl (.int x5)] M (some (.int res.1)) res.2 := by
  rw [fX9_append] at h
  refine TF.go (n := 1) (ls := [some (.inr (0, 0, 0)), some (.inl (.int x1)), some (.inl (.int x2)), some (.inl (.int x3)), some (.inl (.int x4)), some (.inl (.int x5)), none]) rfl rfl rfl rfl rfl ?_
  refine z_iload_n (i := 1) dX9_append_0 rfl rfl ?_
  obtain ⟨q1, hq2, h⟩ := bnd h
  refine z_fSi (sX9_bytesIn M x1 hq2) dX9_append_1 ml_X9_98 cd_X9_bytesIn rfl rfl rfl rfl rfl ?_
  refine z_iload_n (i := 2) dX9_append_4 rfl rfl ?_
  obtain ⟨q3, hq4, h⟩ := bnd h
  refine z_fSi (sX9_bytesIn M x2 hq4) dX9_append_5 ml_X9_98 cd_X9_bytesIn rfl rfl rfl rfl rfl ?_
  refine z_iadd dX9_append_8 ?_
  refine z_iload_n (i := 3) dX9_append_9 rfl rfl ?_
  obtain ⟨q5, hq6, h⟩ := bnd h
  refine z_fSi (sX9_bytesIn M x3 hq6) dX9_append_10 ml_X9_98 cd_X9_bytesIn rfl rfl rfl rfl rfl ?_
  refine z_iadd dX9_append_13 ?_
  refine z_iload (i := 4) dX9_append_14 rfl ?_
  obtain ⟨q7, hq8, h⟩ := bnd h
  refine z_fSi (sX9_bytesIn M x4 hq8) dX9_append_16 ml_X9_98 cd_X9_bytesIn rfl rfl rfl rfl rfl ?_
  refine z_iadd dX9_append_19 ?_
  refine z_iload (i := 5) dX9_append_20 rfl ?_
  obtain ⟨q9, hq10, h⟩ := bnd h
  refine z_fSi (sX9_bytesIn M x5 hq10) dX9_append_22 ml_X9_98 cd_X9_bytesIn rfl rfl rfl rfl rfl ?_
  refine z_iadd dX9_append_25 ?_
  refine z_istore (i := 6) dX9_append_26 (Nat.le_of_ble_eq_true rfl) rfl ?_
  refine z_aload_n (i := 0) dX9_append_28 rfl rfl ?_
  refine z_getR (r' := (1, 0, 0)) dX9_append_29 fl_X9_14 mk0 rfl rfl ?_
  refine z_getI (x := (M.1 (1, 0, 0) 1)) dX9_append_32 fl_X9_102 (m1 _ (Nat.le_of_ble_eq_true rfl)) rfl rfl ?_
  refine z_iload (i := 6) dX9_append_35 rfl ?_
  refine z_iadd dX9_append_37 ?_
  refine z_sipush (v := (800 : Int32)) dX9_append_38 ks_800 ?_
  refine z_icmp_le (tgt := 54) dX9_append_41 rfl (fun hc11 => ?_) (fun hc11 => ?_)
  · have h := it_t h hc11
    refine z_aload_n (i := 0) dX9_append_54 rfl rfl ?_
    refine z_iload_n (i := 1) dX9_append_55 rfl rfl ?_
    obtain ⟨q12, hq13, h⟩ := bnd h
    refine z_fVv (sX9_putBytes M x1 hq13) dX9_append_56 ml_X9_112 cd_X9_putBytes mk0 rfl rfl rfl rfl rfl rfl ?_
    refine z_aload_n (i := 0) dX9_append_59 rfl rfl ?_
    refine z_iload_n (i := 2) dX9_append_60 rfl rfl ?_
    obtain ⟨q14, hq15, h⟩ := bnd h
    refine z_fVv (sX9_putBytes q12 x2 hq15) dX9_append_61 ml_X9_112 cd_X9_putBytes mk0 rfl rfl rfl rfl rfl rfl ?_
    refine z_aload_n (i := 0) dX9_append_64 rfl rfl ?_
    refine z_iload_n (i := 3) dX9_append_65 rfl rfl ?_
    obtain ⟨q16, hq17, h⟩ := bnd h
    refine z_fVv (sX9_putBytes q14 x3 hq17) dX9_append_66 ml_X9_112 cd_X9_putBytes mk0 rfl rfl rfl rfl rfl rfl ?_
    refine z_aload_n (i := 0) dX9_append_69 rfl rfl ?_
    refine z_iload (i := 4) dX9_append_70 rfl ?_
    obtain ⟨q18, hq19, h⟩ := bnd h
    refine z_fVv (sX9_putBytes q16 x4 hq19) dX9_append_72 ml_X9_112 cd_X9_putBytes mk0 rfl rfl rfl rfl rfl rfl ?_
    refine z_aload_n (i := 0) dX9_append_75 rfl rfl ?_
    refine z_iload (i := 5) dX9_append_76 rfl ?_
    obtain ⟨q20, hq21, h⟩ := bnd h
    refine z_fVv (sX9_putBytes q18 x5 hq21) dX9_append_78 ml_X9_112 cd_X9_putBytes mk0 rfl rfl rfl rfl rfl rfl ?_
    refine z_aload_n (i := 0) dX9_append_81 rfl rfl ?_
    refine z_getR (r' := (1, 0, 0)) dX9_append_82 fl_X9_14 mk0 rfl rfl ?_
    refine z_getI (x := (q20.1 (1, 0, 0) 1)) dX9_append_85 fl_X9_102 (m1 _ (Nat.le_of_ble_eq_true rfl)) rfl rfl ?_
    cases h
    exact z_iret dX9_append_88 rfl rfl (Nat.le_refl _) (Nat.le_refl _) ⟨rfl, rfl⟩
  · have h := it_f h hc11
    cases h
theorem dX9_takeSetup_0 : decode cX9_takeSetup 0 = .ok (.aload_n 0, 1) := by decide +kernel
theorem dX9_takeSetup_1 : decode cX9_takeSetup 1 = .ok (.getfield 52, 3) := by decide +kernel
theorem dX9_takeSetup_4 : decode cX9_takeSetup 4 = .ok (.invokevirtual 123, 3) := by decide +kernel
theorem dX9_takeSetup_7 : decode cX9_takeSetup 7 = .ok (.istore_n 1, 1) := by decide +kernel
theorem dX9_takeSetup_8 : decode cX9_takeSetup 8 = .ok (.aload_n 0, 1) := by decide +kernel
theorem dX9_takeSetup_9 : decode cX9_takeSetup 9 = .ok (.getfield 14, 3) := by decide +kernel
theorem dX9_takeSetup_12 : decode cX9_takeSetup 12 = .ok (.iconst 0, 1) := by decide +kernel
theorem dX9_takeSetup_13 : decode cX9_takeSetup 13 = .ok (.putfield 102, 3) := by decide +kernel
theorem dX9_takeSetup_16 : decode cX9_takeSetup 16 = .ok (.iload_n 1, 1) := by decide +kernel
theorem dX9_takeSetup_17 : decode cX9_takeSetup 17 = .ok (.ifCond .ne 4, 3) := by decide +kernel
theorem dX9_takeSetup_20 : decode cX9_takeSetup 20 = .ok (.return_, 1) := by decide +kernel
theorem dX9_takeSetup_21 : decode cX9_takeSetup 21 = .ok (.aload_n 0, 1) := by decide +kernel
theorem dX9_takeSetup_22 : decode cX9_takeSetup 22 = .ok (.getfield 40, 3) := by decide +kernel
theorem dX9_takeSetup_25 : decode cX9_takeSetup 25 = .ok (.aload_n 0, 1) := by decide +kernel
theorem dX9_takeSetup_26 : decode cX9_takeSetup 26 = .ok (.getfield 44, 3) := by decide +kernel
theorem dX9_takeSetup_29 : decode cX9_takeSetup 29 = .ok (.invokevirtual 127, 3) := by decide +kernel
theorem dX9_takeSetup_32 : decode cX9_takeSetup 32 = .ok (.aload_n 0, 1) := by decide +kernel
theorem dX9_takeSetup_33 : decode cX9_takeSetup 33 = .ok (.getfield 68, 3) := by decide +kernel
theorem dX9_takeSetup_36 : decode cX9_takeSetup 36 = .ok (.invokevirtual 131, 3) := by decide +kernel
theorem dX9_takeSetup_39 : decode cX9_takeSetup 39 = .ok (.iconst 0, 1) := by decide +kernel
theorem dX9_takeSetup_40 : decode cX9_takeSetup 40 = .ok (.istore_n 2, 1) := by decide +kernel
theorem dX9_takeSetup_41 : decode cX9_takeSetup 41 = .ok (.iload_n 2, 1) := by decide +kernel
theorem dX9_takeSetup_42 : decode cX9_takeSetup 42 = .ok (.iconst 2, 1) := by decide +kernel
theorem dX9_takeSetup_43 : decode cX9_takeSetup 43 = .ok (.if_icmp .ge 16, 3) := by decide +kernel
theorem dX9_takeSetup_46 : decode cX9_takeSetup 46 = .ok (.aload_n 0, 1) := by decide +kernel
theorem dX9_takeSetup_47 : decode cX9_takeSetup 47 = .ok (.getfield 76, 3) := by decide +kernel
theorem dX9_takeSetup_50 : decode cX9_takeSetup 50 = .ok (.iload_n 2, 1) := by decide +kernel
theorem dX9_takeSetup_51 : decode cX9_takeSetup 51 = .ok (.iconst 0, 1) := by decide +kernel
theorem dX9_takeSetup_52 : decode cX9_takeSetup 52 = .ok (.bastore, 1) := by decide +kernel
theorem dX9_takeSetup_53 : decode cX9_takeSetup 53 = .ok (.iinc 2 1, 3) := by decide +kernel
theorem dX9_takeSetup_56 : decode cX9_takeSetup 56 = .ok (.goto (-15), 3) := by decide +kernel
theorem dX9_takeSetup_59 : decode cX9_takeSetup 59 = .ok (.return_, 1) := by decide +kernel
def fX9_takeSetup_L41 (K : Int32 → Mm → Option Mm) : Nat → Int32 → Mm → Option Mm
  | 0, _, _ => none
  | n + 1, v2, M => if (2 : Int32) ≤ v2 then K v2 M else if v2 < 0 ∨ 2 ≤ v2.toNatClampNeg then none else fX9_takeSetup_L41 K n (v2 + (1 : Int32)) (putI M (17, 0, 0) v2.toNatClampNeg (0 : Int32))
def fX9_takeSetup (M : Mm) : Option Mm := (fX6_readSetup M).bind fun q1 => if q1.1 = 0 then some (putI q1.2 (1, 0, 0) 1 (0 : Int32)) else (fX0_copyFrom (putI q1.2 (1, 0, 0) 1 (0 : Int32)) 0 1).bind fun q4 => fX9_takeSetup_L41 (fun w8 M9 => some M9) NF (0 : Int32) (fX2_forgetAll q4)
set_option maxRecDepth 20000 in
set_option maxHeartbeats 2000000 in
theorem sX9_takeSetup_L41 {wv : Wv} {res : Mm} {K : Int32 → Mm → Option Mm} : ∀ (n : Nat) (v2 : Int32) (M : Mm), fX9_takeSetup_L41 K n v2 M = some res →
    (∀ (v2 : Int32) (M : Mm), K v2 M = some res → Z RX9 cX9_takeSetup 3 none [] "takeSetup" (rmD 11 0 0) (QM SH (allR wv) 0 0 (fun v M9 => v = none ∧ M9 = res) (fun _ _ => False)) (allR wv) SH 0 0 59 [some (.inr (0, 0, 0)), none, some (.inl (.int v2))] [] M) → Z RX9 cX9_takeSetup 3 none [] "takeSetup" (rmD 11 0 0) (QM SH (allR wv) 0 0 (fun v M9 => v = none ∧ M9 = res) (fun _ _ => False)) (allR wv) SH 0 0 41 [some (.inr (0, 0, 0)), none, some (.inl (.int v2))] [] M := by
  intro n
  induction n with
  | zero => intro v2 M h; cases h
  | succ n ih =>
    intro v2 M h hK
    rw [fX9_takeSetup_L41] at h
    refine z_iload_n (i := 2) dX9_takeSetup_41 rfl rfl ?_
    refine z_iconst (v := (2 : Int32)) dX9_takeSetup_42 kc_2 ?_
    refine z_icmp_ge (tgt := 59) dX9_takeSetup_43 rfl (fun hc6 => ?_) (fun hc6 => ?_)
    · have h := it_t h hc6
      exact hK _ _ h
    · have h := it_f h hc6
      refine z_aload_n (i := 0) dX9_takeSetup_46 rfl rfl ?_
      refine z_getR (r' := (17, 0, 0)) dX9_takeSetup_47 fl_X9_76 mk0 rfl rfl ?_
      refine z_iload_n (i := 2) dX9_takeSetup_50 rfl rfl ?_
      refine z_iconst (v := (0 : Int32)) dX9_takeSetup_51 kc_0 ?_
      obtain ⟨hc7, h⟩ := chk h
      refine z_zast (j := v2.toNatClampNeg) allR_nd dX9_takeSetup_52 mk17 rfl hc7 rfl rfl ?_
      refine z_iinc (i := 2) (v := (v2 + (1 : Int32))) dX9_takeSetup_53 rfl (iinc_k kc_1) (Nat.le_of_ble_eq_true rfl) rfl ?_
      refine z_goto (tgt := 41) dX9_takeSetup_56 rfl ?_
      exact ih _ _ h hK
set_option maxRecDepth 20000 in
set_option maxHeartbeats 2000000 in
theorem sX9_takeSetup {wv : Wv} (M : Mm) {res : Mm} (h : fX9_takeSetup M  = some res) : TF wv yX9_takeSetup cX9_takeSetup 3 none 11 [.inr (0, 0, 0)] M (none) res := by
  rw [fX9_takeSetup] at h
  refine TF.go (n := 2) (ls := [some (.inr (0, 0, 0)), none, none]) rfl rfl rfl rfl rfl ?_
  refine z_aload_n (i := 0) dX9_takeSetup_0 rfl rfl ?_
  refine z_getR (r' := (5, 0, 0)) dX9_takeSetup_1 fl_X9_52 mk0 rfl rfl ?_
  obtain ⟨q1, hq2, h⟩ := bnd h
  refine z_fVi (sX6_readSetup M hq2) dX9_takeSetup_4 ml_X9_123 cd_X6_readSetup mk5 rfl rfl rfl rfl rfl rfl ?_
  refine z_istore_n (i := 1) dX9_takeSetup_7 rfl (Nat.le_of_ble_eq_true rfl) rfl ?_
  refine z_aload_n (i := 0) dX9_takeSetup_8 rfl rfl ?_
  refine z_getR (r' := (1, 0, 0)) dX9_takeSetup_9 fl_X9_14 mk0 rfl rfl ?_
  refine z_iconst (v := (0 : Int32)) dX9_takeSetup_12 kc_0 ?_
  refine z_putI allR_nd dX9_takeSetup_13 fl_X9_102 (m1 _ (Nat.le_of_ble_eq_true rfl)) rfl rfl ?_
  refine z_iload_n (i := 1) dX9_takeSetup_16 rfl rfl ?_
  refine z_if_ne (tgt := 21) dX9_takeSetup_17 rfl (fun hc3 => ?_) (fun hc3 => ?_)
  · have h := it_f h hc3
    refine z_aload_n (i := 0) dX9_takeSetup_21 rfl rfl ?_
    refine z_getR (r' := (9, 0, 0)) dX9_takeSetup_22 fl_X9_40 mk0 rfl rfl ?_
    refine z_aload_n (i := 0) dX9_takeSetup_25 rfl rfl ?_
    refine z_getR (r' := (9, 1, 0)) dX9_takeSetup_26 fl_X9_44 mk0 rfl rfl ?_
    obtain ⟨q4, hq5, h⟩ := bnd h
    refine z_fVv (sX0_copyFrom (putI q1.2 (1, 0, 0) 1 (0 : Int32)) 0 1 (Nat.le_of_ble_eq_true rfl) (Nat.le_of_ble_eq_true rfl) hq5) dX9_takeSetup_29 ml_X9_127 cd_X0_copyFrom (m9 _ (Nat.le_of_ble_eq_true rfl)) rfl rfl rfl rfl rfl rfl ?_
    refine z_aload_n (i := 0) dX9_takeSetup_32 rfl rfl ?_
    refine z_getR (r' := (14, 0, 0)) dX9_takeSetup_33 fl_X9_68 mk0 rfl rfl ?_
    refine z_fVv (sX2_forgetAll q4) dX9_takeSetup_36 ml_X9_131 cd_X2_forgetAll mk14 rfl rfl rfl rfl rfl rfl ?_
    refine z_iconst (v := (0 : Int32)) dX9_takeSetup_39 kc_0 ?_
    refine z_istore_n (i := 2) dX9_takeSetup_40 rfl (Nat.le_of_ble_eq_true rfl) rfl ?_
    refine z_fgt (i := 1) ?_
    refine sX9_takeSetup_L41  NF _ _ h (fun w8 M9 h => ?_)
    cases h
    exact z_vret dX9_takeSetup_59 rfl (Nat.le_refl _) (Nat.le_refl _) ⟨rfl, rfl⟩
  · have h := it_t h hc3
    cases h
    exact z_vret dX9_takeSetup_20 rfl (Nat.le_refl _) (Nat.le_refl _) ⟨rfl, rfl⟩
theorem dX9_load_0 : decode cX9_load 0 = .ok (.aload_n 0, 1) := by decide +kernel
theorem dX9_load_1 : decode cX9_load 1 = .ok (.invokevirtual 95, 3) := by decide +kernel
theorem dX9_load_4 : decode cX9_load 4 = .ok (.aload_n 0, 1) := by decide +kernel
theorem dX9_load_5 : decode cX9_load 5 = .ok (.getfield 26, 3) := by decide +kernel
theorem dX9_load_8 : decode cX9_load 8 = .ok (.getfield 120, 3) := by decide +kernel
theorem dX9_load_11 : decode cX9_load 11 = .ok (.ireturn, 1) := by decide +kernel
def fX9_load (M : Mm) : Option (Int32 × Mm) := (fX9_takeSetup M).bind fun q1 => some ((q1.1 (3, 0, 0) 7), q1)
set_option maxRecDepth 20000 in
set_option maxHeartbeats 2000000 in
theorem sX9_load {wv : Wv} (M : Mm) {res : (Int32 × Mm)} (h : fX9_load M  = some res) : TF wv yX9_load cX9_load 1 (some .int) 12 [.inr (0, 0, 0)] M (some (.int res.1)) res.2 := by
  rw [fX9_load] at h
  refine TF.go (n := 0) (ls := [some (.inr (0, 0, 0))]) rfl rfl rfl rfl rfl ?_
  refine z_aload_n (i := 0) dX9_load_0 rfl rfl ?_
  obtain ⟨q1, hq2, h⟩ := bnd h
  refine z_fVv (sX9_takeSetup M hq2) dX9_load_1 ml_X9_95 cd_X9_takeSetup mk0 rfl rfl rfl rfl rfl rfl ?_
  refine z_aload_n (i := 0) dX9_load_4 rfl rfl ?_
  refine z_getR (r' := (3, 0, 0)) dX9_load_5 fl_X9_26 mk0 rfl rfl ?_
  refine z_getI (x := (q1.1 (3, 0, 0) 7)) dX9_load_8 fl_X9_120 mk3 rfl rfl ?_
  cases h
  exact z_iret dX9_load_11 rfl rfl (Nat.le_refl _) (Nat.le_refl _) ⟨rfl, rfl⟩
theorem dX9_errorPosition_0 : decode cX9_errorPosition 0 = .ok (.aload_n 0, 1) := by decide +kernel
theorem dX9_errorPosition_1 : decode cX9_errorPosition 1 = .ok (.getfield 26, 3) := by decide +kernel
theorem dX9_errorPosition_4 : decode cX9_errorPosition 4 = .ok (.getfield 150, 3) := by decide +kernel
theorem dX9_errorPosition_7 : decode cX9_errorPosition 7 = .ok (.ireturn, 1) := by decide +kernel
def fX9_errorPosition (M : Mm) : Int32 := (M.1 (3, 0, 0) 8)
set_option maxRecDepth 20000 in
set_option maxHeartbeats 2000000 in
theorem tX9_errorPosition {wv : Wv} (M : Mm) {res : Int32} (h : fX9_errorPosition M  = res) : TF wv yX9_errorPosition cX9_errorPosition 1 (some .int) 0 [.inr (0, 0, 0)] M (some (.int res)) M := by
  rw [fX9_errorPosition] at h
  refine TF.go (n := 0) (ls := [some (.inr (0, 0, 0))]) rfl rfl rfl rfl rfl ?_
  refine z_aload_n (i := 0) dX9_errorPosition_0 rfl rfl ?_
  refine z_getR (r' := (3, 0, 0)) dX9_errorPosition_1 fl_X9_26 mk0 rfl rfl ?_
  refine z_getI (x := (M.1 (3, 0, 0) 8)) dX9_errorPosition_4 fl_X9_150 mk3 rfl rfl ?_
  subst h
  exact z_iret dX9_errorPosition_7 rfl rfl (Nat.le_refl _) (Nat.le_refl _) ⟨rfl, rfl⟩
theorem sX9_errorPosition {wv : Wv} (M : Mm) : TF wv yX9_errorPosition cX9_errorPosition 1 (some .int) 0 [.inr (0, 0, 0)] M (some (.int (fX9_errorPosition M ))) M := tX9_errorPosition M   rfl
theorem dX9_stepCount_0 : decode cX9_stepCount 0 = .ok (.aload_n 0, 1) := by decide +kernel
theorem dX9_stepCount_1 : decode cX9_stepCount 1 = .ok (.getfield 40, 3) := by decide +kernel
theorem dX9_stepCount_4 : decode cX9_stepCount 4 = .ok (.getfield 153, 3) := by decide +kernel
theorem dX9_stepCount_7 : decode cX9_stepCount 7 = .ok (.getfield 157, 3) := by decide +kernel
theorem dX9_stepCount_10 : decode cX9_stepCount 10 = .ok (.ireturn, 1) := by decide +kernel
def fX9_stepCount (M : Mm) : Int32 := (M.1 (10, 0, 0) 1)
set_option maxRecDepth 20000 in
set_option maxHeartbeats 2000000 in
theorem tX9_stepCount {wv : Wv} (M : Mm) {res : Int32} (h : fX9_stepCount M  = res) : TF wv yX9_stepCount cX9_stepCount 1 (some .int) 0 [.inr (0, 0, 0)] M (some (.int res)) M := by
  rw [fX9_stepCount] at h
  refine TF.go (n := 0) (ls := [some (.inr (0, 0, 0))]) rfl rfl rfl rfl rfl ?_
  refine z_aload_n (i := 0) dX9_stepCount_0 rfl rfl ?_
  refine z_getR (r' := (9, 0, 0)) dX9_stepCount_1 fl_X9_40 mk0 rfl rfl ?_
  refine z_getR (r' := (10, 0, 0)) dX9_stepCount_4 fl_X9_153 (m9 _ (Nat.le_of_ble_eq_true rfl)) rfl rfl ?_
  refine z_getI (x := (M.1 (10, 0, 0) 1)) dX9_stepCount_7 fl_X9_157 (m10 _ (Nat.le_of_ble_eq_true rfl)) rfl rfl ?_
  subst h
  exact z_iret dX9_stepCount_10 rfl rfl (Nat.le_refl _) (Nat.le_refl _) ⟨rfl, rfl⟩
theorem sX9_stepCount {wv : Wv} (M : Mm) : TF wv yX9_stepCount cX9_stepCount 1 (some .int) 0 [.inr (0, 0, 0)] M (some (.int (fX9_stepCount M ))) M := tX9_stepCount M   rfl
theorem dX9_selectedTune_0 : decode cX9_selectedTune 0 = .ok (.aload_n 0, 1) := by decide +kernel
theorem dX9_selectedTune_1 : decode cX9_selectedTune 1 = .ok (.getfield 40, 3) := by decide +kernel
theorem dX9_selectedTune_4 : decode cX9_selectedTune 4 = .ok (.getfield 153, 3) := by decide +kernel
theorem dX9_selectedTune_7 : decode cX9_selectedTune 7 = .ok (.getfield 162, 3) := by decide +kernel
theorem dX9_selectedTune_10 : decode cX9_selectedTune 10 = .ok (.ireturn, 1) := by decide +kernel
def fX9_selectedTune (M : Mm) : Int32 := (M.1 (10, 0, 0) 3)
set_option maxRecDepth 20000 in
set_option maxHeartbeats 2000000 in
theorem tX9_selectedTune {wv : Wv} (M : Mm) {res : Int32} (h : fX9_selectedTune M  = res) : TF wv yX9_selectedTune cX9_selectedTune 1 (some .int) 0 [.inr (0, 0, 0)] M (some (.int res)) M := by
  rw [fX9_selectedTune] at h
  refine TF.go (n := 0) (ls := [some (.inr (0, 0, 0))]) rfl rfl rfl rfl rfl ?_
  refine z_aload_n (i := 0) dX9_selectedTune_0 rfl rfl ?_
  refine z_getR (r' := (9, 0, 0)) dX9_selectedTune_1 fl_X9_40 mk0 rfl rfl ?_
  refine z_getR (r' := (10, 0, 0)) dX9_selectedTune_4 fl_X9_153 (m9 _ (Nat.le_of_ble_eq_true rfl)) rfl rfl ?_
  refine z_getI (x := (M.1 (10, 0, 0) 3)) dX9_selectedTune_7 fl_X9_162 (m10 _ (Nat.le_of_ble_eq_true rfl)) rfl rfl ?_
  subst h
  exact z_iret dX9_selectedTune_10 rfl rfl (Nat.le_refl _) (Nat.le_refl _) ⟨rfl, rfl⟩
theorem sX9_selectedTune {wv : Wv} (M : Mm) : TF wv yX9_selectedTune cX9_selectedTune 1 (some .int) 0 [.inr (0, 0, 0)] M (some (.int (fX9_selectedTune M ))) M := tX9_selectedTune M   rfl
theorem dX9_position_0 : decode cX9_position 0 = .ok (.aload_n 0, 1) := by decide +kernel
theorem dX9_position_1 : decode cX9_position 1 = .ok (.getfield 40, 3) := by decide +kernel
theorem dX9_position_4 : decode cX9_position 4 = .ok (.getfield 153, 3) := by decide +kernel
theorem dX9_position_7 : decode cX9_position 7 = .ok (.getfield 165, 3) := by decide +kernel
theorem dX9_position_10 : decode cX9_position 10 = .ok (.ireturn, 1) := by decide +kernel
def fX9_position (M : Mm) : Int32 := (M.1 (10, 0, 0) 2)
set_option maxRecDepth 20000 in
set_option maxHeartbeats 2000000 in
theorem tX9_position {wv : Wv} (M : Mm) {res : Int32} (h : fX9_position M  = res) : TF wv yX9_position cX9_position 1 (some .int) 0 [.inr (0, 0, 0)] M (some (.int res)) M := by
  rw [fX9_position] at h
  refine TF.go (n := 0) (ls := [some (.inr (0, 0, 0))]) rfl rfl rfl rfl rfl ?_
  refine z_aload_n (i := 0) dX9_position_0 rfl rfl ?_
  refine z_getR (r' := (9, 0, 0)) dX9_position_1 fl_X9_40 mk0 rfl rfl ?_
  refine z_getR (r' := (10, 0, 0)) dX9_position_4 fl_X9_153 (m9 _ (Nat.le_of_ble_eq_true rfl)) rfl rfl ?_
  refine z_getI (x := (M.1 (10, 0, 0) 2)) dX9_position_7 fl_X9_165 (m10 _ (Nat.le_of_ble_eq_true rfl)) rfl rfl ?_
  subst h
  exact z_iret dX9_position_10 rfl rfl (Nat.le_refl _) (Nat.le_refl _) ⟨rfl, rfl⟩
theorem sX9_position {wv : Wv} (M : Mm) : TF wv yX9_position cX9_position 1 (some .int) 0 [.inr (0, 0, 0)] M (some (.int (fX9_position M ))) M := tX9_position M   rfl
theorem dX9_refuse_0 : decode cX9_refuse 0 = .ok (.iload_n 0, 1) := by decide +kernel
theorem dX9_refuse_1 : decode cX9_refuse 1 = .ok (.iconst 1, 1) := by decide +kernel
theorem dX9_refuse_2 : decode cX9_refuse 2 = .ok (.if_icmp .ne 14, 3) := by decide +kernel
theorem dX9_refuse_5 : decode cX9_refuse 5 = .ok (.new 363, 3) := by decide +kernel
theorem dX9_refuse_8 : decode cX9_refuse 8 = .ok (.dup, 1) := by decide +kernel
theorem dX9_refuse_9 : decode cX9_refuse 9 = .ok (.ldc_w 365, 3) := by decide +kernel
theorem dX9_refuse_12 : decode cX9_refuse 12 = .ok (.invokespecial 367, 3) := by decide +kernel
theorem dX9_refuse_15 : decode cX9_refuse 15 = .ok (.athrow, 1) := by decide +kernel
theorem dX9_refuse_16 : decode cX9_refuse 16 = .ok (.iload_n 0, 1) := by decide +kernel
theorem dX9_refuse_17 : decode cX9_refuse 17 = .ok (.iconst 2, 1) := by decide +kernel
theorem dX9_refuse_18 : decode cX9_refuse 18 = .ok (.if_icmp .ne 14, 3) := by decide +kernel
theorem dX9_refuse_21 : decode cX9_refuse 21 = .ok (.new 115, 3) := by decide +kernel
theorem dX9_refuse_24 : decode cX9_refuse 24 = .ok (.dup, 1) := by decide +kernel
theorem dX9_refuse_25 : decode cX9_refuse 25 = .ok (.ldc_w 368, 3) := by decide +kernel
theorem dX9_refuse_28 : decode cX9_refuse 28 = .ok (.invokespecial 119, 3) := by decide +kernel
theorem dX9_refuse_31 : decode cX9_refuse 31 = .ok (.athrow, 1) := by decide +kernel
theorem dX9_refuse_32 : decode cX9_refuse 32 = .ok (.iload_n 0, 1) := by decide +kernel
theorem dX9_refuse_33 : decode cX9_refuse 33 = .ok (.iconst 3, 1) := by decide +kernel
theorem dX9_refuse_34 : decode cX9_refuse 34 = .ok (.if_icmp .ne 14, 3) := by decide +kernel
theorem dX9_refuse_37 : decode cX9_refuse 37 = .ok (.new 105, 3) := by decide +kernel
theorem dX9_refuse_40 : decode cX9_refuse 40 = .ok (.dup, 1) := by decide +kernel
theorem dX9_refuse_41 : decode cX9_refuse 41 = .ok (.ldc_w 370, 3) := by decide +kernel
theorem dX9_refuse_44 : decode cX9_refuse 44 = .ok (.invokespecial 109, 3) := by decide +kernel
theorem dX9_refuse_47 : decode cX9_refuse 47 = .ok (.athrow, 1) := by decide +kernel
theorem dX9_refuse_48 : decode cX9_refuse 48 = .ok (.return_, 1) := by decide +kernel
def fX9_refuse (M : Mm) (x1 : Int32) : Option Mm := if x1 = (1 : Int32) then none else if x1 = (2 : Int32) then none else if x1 = (3 : Int32) then none else some M
set_option maxRecDepth 20000 in
set_option maxHeartbeats 2000000 in
theorem sX9_refuse {wv : Wv} (M : Mm) (x1 : Int32) {res : Mm} (h : fX9_refuse M x1 = some res) : TF wv yX9_refuse cX9_refuse 1 none 1 [.inl (.int x1)] M (none) res := by
  rw [fX9_refuse] at h
  refine TF.go (n := 0) (ls := [some (.inl (.int x1))]) rfl rfl rfl rfl rfl ?_
  refine z_iload_n (i := 0) dX9_refuse_0 rfl rfl ?_
  refine z_iconst (v := (1 : Int32)) dX9_refuse_1 kc_1 ?_
  refine z_icmp_ne (tgt := 16) dX9_refuse_2 rfl (fun hc1 => ?_) (fun hc1 => ?_)
  · have h := it_f h hc1
    refine z_iload_n (i := 0) dX9_refuse_16 rfl rfl ?_
    refine z_iconst (v := (2 : Int32)) dX9_refuse_17 kc_2 ?_
    refine z_icmp_ne (tgt := 32) dX9_refuse_18 rfl (fun hc2 => ?_) (fun hc2 => ?_)
    · have h := it_f h hc2
      refine z_iload_n (i := 0) dX9_refuse_32 rfl rfl ?_
      refine z_iconst (v := (3 : Int32)) dX9_refuse_33 kc_3 ?_
      refine z_icmp_ne (tgt := 48) dX9_refuse_34 rfl (fun hc3 => ?_) (fun hc3 => ?_)
      · have h := it_f h hc3
        cases h
        exact z_vret dX9_refuse_48 rfl (Nat.le_refl _) (Nat.le_refl _) ⟨rfl, rfl⟩
      · have h := it_t h hc3
        cases h
    · have h := it_t h hc2
      cases h
  · have h := it_t h hc1
    cases h
theorem dX9_isPin_0 : decode cX9_isPin 0 = .ok (.aload_n 0, 1) := by decide +kernel
theorem dX9_isPin_1 : decode cX9_isPin 1 = .ok (.getfield 40, 3) := by decide +kernel
theorem dX9_isPin_4 : decode cX9_isPin 4 = .ok (.iload_n 1, 1) := by decide +kernel
theorem dX9_isPin_5 : decode cX9_isPin 5 = .ok (.iload_n 2, 1) := by decide +kernel
theorem dX9_isPin_6 : decode cX9_isPin 6 = .ok (.iload_n 3, 1) := by decide +kernel
theorem dX9_isPin_7 : decode cX9_isPin 7 = .ok (.invokevirtual 168, 3) := by decide +kernel
theorem dX9_isPin_10 : decode cX9_isPin 10 = .ok (.invokestatic 172, 3) := by decide +kernel
theorem dX9_isPin_13 : decode cX9_isPin 13 = .ok (.aload_n 0, 1) := by decide +kernel
theorem dX9_isPin_14 : decode cX9_isPin 14 = .ok (.getfield 40, 3) := by decide +kernel
theorem dX9_isPin_17 : decode cX9_isPin 17 = .ok (.getfield 153, 3) := by decide +kernel
theorem dX9_isPin_20 : decode cX9_isPin 20 = .ok (.iload_n 1, 1) := by decide +kernel
theorem dX9_isPin_21 : decode cX9_isPin 21 = .ok (.iload_n 2, 1) := by decide +kernel
theorem dX9_isPin_22 : decode cX9_isPin 22 = .ok (.iload_n 3, 1) := by decide +kernel
theorem dX9_isPin_23 : decode cX9_isPin 23 = .ok (.invokevirtual 175, 3) := by decide +kernel
theorem dX9_isPin_26 : decode cX9_isPin 26 = .ok (.ireturn, 1) := by decide +kernel
def fX9_isPin (M : Mm) (x1 : Int32) (x2 : Int32) (x3 : Int32) : Option (Int32 × Mm) := (fX9_refuse M (fX0_placeFault M 0 x1 x2 x3)).bind fun q1 => (fX3_hasPin q1 0 x1 x2 x3).bind fun q3 => some ((bz q3), q1)
set_option maxRecDepth 20000 in
set_option maxHeartbeats 2000000 in
theorem sX9_isPin {wv : Wv} (M : Mm) (x1 : Int32) (x2 : Int32) (x3 : Int32) {res : (Int32 × Mm)} (h : fX9_isPin M x1 x2 x3 = some res) : TF wv yX9_isPin cX9_isPin 4 (some .boolean) 2 [.inr (0, 0, 0), .inl (.int x1), .inl (.int x2), .inl (.int x3)] M (some (.int res.1)) res.2 := by
  rw [fX9_isPin] at h
  refine TF.go (n := 0) (ls := [some (.inr (0, 0, 0)), some (.inl (.int x1)), some (.inl (.int x2)), some (.inl (.int x3))]) rfl rfl rfl rfl rfl ?_
  refine z_aload_n (i := 0) dX9_isPin_0 rfl rfl ?_
  refine z_getR (r' := (9, 0, 0)) dX9_isPin_1 fl_X9_40 mk0 rfl rfl ?_
  refine z_iload_n (i := 1) dX9_isPin_4 rfl rfl ?_
  refine z_iload_n (i := 2) dX9_isPin_5 rfl rfl ?_
  refine z_iload_n (i := 3) dX9_isPin_6 rfl rfl ?_
  refine z_fVi (sX0_placeFault M 0 x1 x2 x3 (Nat.le_of_ble_eq_true rfl)) dX9_isPin_7 ml_X9_168 cd_X0_placeFault (m9 _ (Nat.le_of_ble_eq_true rfl)) rfl rfl rfl rfl rfl rfl ?_
  obtain ⟨q1, hq2, h⟩ := bnd h
  refine z_fSv (sX9_refuse M (fX0_placeFault M 0 x1 x2 x3) hq2) dX9_isPin_10 ml_X9_172 cd_X9_refuse rfl rfl rfl rfl rfl ?_
  refine z_aload_n (i := 0) dX9_isPin_13 rfl rfl ?_
  refine z_getR (r' := (9, 0, 0)) dX9_isPin_14 fl_X9_40 mk0 rfl rfl ?_
  refine z_getR (r' := (10, 0, 0)) dX9_isPin_17 fl_X9_153 (m9 _ (Nat.le_of_ble_eq_true rfl)) rfl rfl ?_
  refine z_iload_n (i := 1) dX9_isPin_20 rfl rfl ?_
  refine z_iload_n (i := 2) dX9_isPin_21 rfl rfl ?_
  refine z_iload_n (i := 3) dX9_isPin_22 rfl rfl ?_
  obtain ⟨q3, hq4, h⟩ := bnd h
  refine z_fVi (sX3_hasPin q1 0 x1 x2 x3 (Nat.le_of_ble_eq_true rfl) hq4) dX9_isPin_23 ml_X9_175 cd_X3_hasPin (m10 _ (Nat.le_of_ble_eq_true rfl)) rfl rfl rfl rfl rfl rfl ?_
  cases h
  exact z_iret dX9_isPin_26 rfl (bz_ok _) (Nat.le_refl _) (Nat.le_refl _) ⟨rfl, rfl⟩
theorem dX9_pinCount_0 : decode cX9_pinCount 0 = .ok (.aload_n 0, 1) := by decide +kernel
theorem dX9_pinCount_1 : decode cX9_pinCount 1 = .ok (.getfield 40, 3) := by decide +kernel
theorem dX9_pinCount_4 : decode cX9_pinCount 4 = .ok (.iload_n 1, 1) := by decide +kernel
theorem dX9_pinCount_5 : decode cX9_pinCount 5 = .ok (.invokevirtual 179, 3) := by decide +kernel
theorem dX9_pinCount_8 : decode cX9_pinCount 8 = .ok (.invokestatic 172, 3) := by decide +kernel
theorem dX9_pinCount_11 : decode cX9_pinCount 11 = .ok (.aload_n 0, 1) := by decide +kernel
theorem dX9_pinCount_12 : decode cX9_pinCount 12 = .ok (.getfield 40, 3) := by decide +kernel
theorem dX9_pinCount_15 : decode cX9_pinCount 15 = .ok (.getfield 153, 3) := by decide +kernel
theorem dX9_pinCount_18 : decode cX9_pinCount 18 = .ok (.iload_n 1, 1) := by decide +kernel
theorem dX9_pinCount_19 : decode cX9_pinCount 19 = .ok (.invokevirtual 182, 3) := by decide +kernel
theorem dX9_pinCount_22 : decode cX9_pinCount 22 = .ok (.ireturn, 1) := by decide +kernel
def fX9_pinCount (M : Mm) (x1 : Int32) : Option (Int32 × Mm) := (fX9_refuse M (fX0_tuneFault M 0 x1)).bind fun q1 => (fX3_pinsOf q1 0 x1).bind fun q3 => some (q3, q1)
set_option maxRecDepth 20000 in
set_option maxHeartbeats 2000000 in
theorem sX9_pinCount {wv : Wv} (M : Mm) (x1 : Int32) {res : (Int32 × Mm)} (h : fX9_pinCount M x1 = some res) : TF wv yX9_pinCount cX9_pinCount 2 (some .int) 3 [.inr (0, 0, 0), .inl (.int x1)] M (some (.int res.1)) res.2 := by
  rw [fX9_pinCount] at h
  refine TF.go (n := 0) (ls := [some (.inr (0, 0, 0)), some (.inl (.int x1))]) rfl rfl rfl rfl rfl ?_
  refine z_aload_n (i := 0) dX9_pinCount_0 rfl rfl ?_
  refine z_getR (r' := (9, 0, 0)) dX9_pinCount_1 fl_X9_40 mk0 rfl rfl ?_
  refine z_iload_n (i := 1) dX9_pinCount_4 rfl rfl ?_
  refine z_fVi (sX0_tuneFault M 0 x1 (Nat.le_of_ble_eq_true rfl)) dX9_pinCount_5 ml_X9_179 cd_X0_tuneFault (m9 _ (Nat.le_of_ble_eq_true rfl)) rfl rfl rfl rfl rfl rfl ?_
  obtain ⟨q1, hq2, h⟩ := bnd h
  refine z_fSv (sX9_refuse M (fX0_tuneFault M 0 x1) hq2) dX9_pinCount_8 ml_X9_172 cd_X9_refuse rfl rfl rfl rfl rfl ?_
  refine z_aload_n (i := 0) dX9_pinCount_11 rfl rfl ?_
  refine z_getR (r' := (9, 0, 0)) dX9_pinCount_12 fl_X9_40 mk0 rfl rfl ?_
  refine z_getR (r' := (10, 0, 0)) dX9_pinCount_15 fl_X9_153 (m9 _ (Nat.le_of_ble_eq_true rfl)) rfl rfl ?_
  refine z_iload_n (i := 1) dX9_pinCount_18 rfl rfl ?_
  obtain ⟨q3, hq4, h⟩ := bnd h
  refine z_fVi (sX3_pinsOf q1 0 x1 (Nat.le_of_ble_eq_true rfl) hq4) dX9_pinCount_19 ml_X9_182 cd_X3_pinsOf (m10 _ (Nat.le_of_ble_eq_true rfl)) rfl rfl rfl rfl rfl rfl ?_
  cases h
  exact z_iret dX9_pinCount_22 rfl rfl (Nat.le_refl _) (Nat.le_refl _) ⟨rfl, rfl⟩
theorem dX9_chord_0 : decode cX9_chord 0 = .ok (.aload_n 0, 1) := by decide +kernel
theorem dX9_chord_1 : decode cX9_chord 1 = .ok (.getfield 40, 3) := by decide +kernel
theorem dX9_chord_4 : decode cX9_chord 4 = .ok (.iload_n 1, 1) := by decide +kernel
theorem dX9_chord_5 : decode cX9_chord 5 = .ok (.invokevirtual 179, 3) := by decide +kernel
theorem dX9_chord_8 : decode cX9_chord 8 = .ok (.aload_n 0, 1) := by decide +kernel
theorem dX9_chord_9 : decode cX9_chord 9 = .ok (.getfield 40, 3) := by decide +kernel
theorem dX9_chord_12 : decode cX9_chord 12 = .ok (.iload_n 2, 1) := by decide +kernel
theorem dX9_chord_13 : decode cX9_chord 13 = .ok (.invokevirtual 185, 3) := by decide +kernel
theorem dX9_chord_16 : decode cX9_chord 16 = .ok (.invokestatic 188, 3) := by decide +kernel
theorem dX9_chord_19 : decode cX9_chord 19 = .ok (.invokestatic 172, 3) := by decide +kernel
theorem dX9_chord_22 : decode cX9_chord 22 = .ok (.aload_n 0, 1) := by decide +kernel
theorem dX9_chord_23 : decode cX9_chord 23 = .ok (.getfield 40, 3) := by decide +kernel
theorem dX9_chord_26 : decode cX9_chord 26 = .ok (.getfield 153, 3) := by decide +kernel
theorem dX9_chord_29 : decode cX9_chord 29 = .ok (.iload_n 1, 1) := by decide +kernel
theorem dX9_chord_30 : decode cX9_chord 30 = .ok (.iload_n 2, 1) := by decide +kernel
theorem dX9_chord_31 : decode cX9_chord 31 = .ok (.invokevirtual 194, 3) := by decide +kernel
theorem dX9_chord_34 : decode cX9_chord 34 = .ok (.ireturn, 1) := by decide +kernel
def fX9_chord (M : Mm) (x1 : Int32) (x2 : Int32) : Option (Int32 × Mm) := (fX9_refuse M (fJ9_max_7cf53 M (fX0_tuneFault M 0 x1) (fX0_stepFault M 0 x2))).bind fun q1 => (fX3_teethAt q1 0 x1 x2).bind fun q3 => some (q3, q1)
set_option maxRecDepth 20000 in
set_option maxHeartbeats 2000000 in
theorem sX9_chord {wv : Wv} (M : Mm) (x1 : Int32) (x2 : Int32) {res : (Int32 × Mm)} (h : fX9_chord M x1 x2 = some res) : TF wv yX9_chord cX9_chord 3 (some .int) 2 [.inr (0, 0, 0), .inl (.int x1), .inl (.int x2)] M (some (.int res.1)) res.2 := by
  rw [fX9_chord] at h
  refine TF.go (n := 0) (ls := [some (.inr (0, 0, 0)), some (.inl (.int x1)), some (.inl (.int x2))]) rfl rfl rfl rfl rfl ?_
  refine z_aload_n (i := 0) dX9_chord_0 rfl rfl ?_
  refine z_getR (r' := (9, 0, 0)) dX9_chord_1 fl_X9_40 mk0 rfl rfl ?_
  refine z_iload_n (i := 1) dX9_chord_4 rfl rfl ?_
  refine z_fVi (sX0_tuneFault M 0 x1 (Nat.le_of_ble_eq_true rfl)) dX9_chord_5 ml_X9_179 cd_X0_tuneFault (m9 _ (Nat.le_of_ble_eq_true rfl)) rfl rfl rfl rfl rfl rfl ?_
  refine z_aload_n (i := 0) dX9_chord_8 rfl rfl ?_
  refine z_getR (r' := (9, 0, 0)) dX9_chord_9 fl_X9_40 mk0 rfl rfl ?_
  refine z_iload_n (i := 2) dX9_chord_12 rfl rfl ?_
  refine z_fVi (sX0_stepFault M 0 x2 (Nat.le_of_ble_eq_true rfl)) dX9_chord_13 ml_X9_185 cd_X0_stepFault (m9 _ (Nat.le_of_ble_eq_true rfl)) rfl rfl rfl rfl rfl rfl ?_
  refine z_fSi (sJ9_max_7cf53 M (fX0_tuneFault M 0 x1) (fX0_stepFault M 0 x2)) dX9_chord_16 ml_X9_188 cd_J9_max_7cf53 rfl rfl rfl rfl rfl ?_
  obtain ⟨q1, hq2, h⟩ := bnd h
  refine z_fSv (sX9_refuse M (fJ9_max_7cf53 M (fX0_tuneFault M 0 x1) (fX0_stepFault M 0 x2)) hq2) dX9_chord_19 ml_X9_172 cd_X9_refuse rfl rfl rfl rfl rfl ?_
  refine z_aload_n (i := 0) dX9_chord_22 rfl rfl ?_
  refine z_getR (r' := (9, 0, 0)) dX9_chord_23 fl_X9_40 mk0 rfl rfl ?_
  refine z_getR (r' := (10, 0, 0)) dX9_chord_26 fl_X9_153 (m9 _ (Nat.le_of_ble_eq_true rfl)) rfl rfl ?_
  refine z_iload_n (i := 1) dX9_chord_29 rfl rfl ?_
  refine z_iload_n (i := 2) dX9_chord_30 rfl rfl ?_
  obtain ⟨q3, hq4, h⟩ := bnd h
  refine z_fVi (sX3_teethAt q1 0 x1 x2 (Nat.le_of_ble_eq_true rfl) hq4) dX9_chord_31 ml_X9_194 cd_X3_teethAt (m10 _ (Nat.le_of_ble_eq_true rfl)) rfl rfl rfl rfl rfl rfl ?_
  cases h
  exact z_iret dX9_chord_34 rfl rfl (Nat.le_refl _) (Nat.le_refl _) ⟨rfl, rfl⟩
theorem dX9_distance_0 : decode cX9_distance 0 = .ok (.aload_n 0, 1) := by decide +kernel
theorem dX9_distance_1 : decode cX9_distance 1 = .ok (.getfield 40, 3) := by decide +kernel
theorem dX9_distance_4 : decode cX9_distance 4 = .ok (.iload_n 1, 1) := by decide +kernel
theorem dX9_distance_5 : decode cX9_distance 5 = .ok (.iload_n 2, 1) := by decide +kernel
theorem dX9_distance_6 : decode cX9_distance 6 = .ok (.iload_n 3, 1) := by decide +kernel
theorem dX9_distance_7 : decode cX9_distance 7 = .ok (.invokevirtual 168, 3) := by decide +kernel
theorem dX9_distance_10 : decode cX9_distance 10 = .ok (.invokestatic 172, 3) := by decide +kernel
theorem dX9_distance_13 : decode cX9_distance 13 = .ok (.aload_n 0, 1) := by decide +kernel
theorem dX9_distance_14 : decode cX9_distance 14 = .ok (.getfield 40, 3) := by decide +kernel
theorem dX9_distance_17 : decode cX9_distance 17 = .ok (.getfield 153, 3) := by decide +kernel
theorem dX9_distance_20 : decode cX9_distance 20 = .ok (.iload_n 1, 1) := by decide +kernel
theorem dX9_distance_21 : decode cX9_distance 21 = .ok (.iload_n 2, 1) := by decide +kernel
theorem dX9_distance_22 : decode cX9_distance 22 = .ok (.iload_n 3, 1) := by decide +kernel
theorem dX9_distance_23 : decode cX9_distance 23 = .ok (.invokevirtual 175, 3) := by decide +kernel
theorem dX9_distance_26 : decode cX9_distance 26 = .ok (.ifCond .ne 13, 3) := by decide +kernel
theorem dX9_distance_29 : decode cX9_distance 29 = .ok (.new 197, 3) := by decide +kernel
theorem dX9_distance_32 : decode cX9_distance 32 = .ok (.dup, 1) := by decide +kernel
theorem dX9_distance_33 : decode cX9_distance 33 = .ok (.ldc 199, 2) := by decide +kernel
theorem dX9_distance_35 : decode cX9_distance 35 = .ok (.invokespecial 201, 3) := by decide +kernel
theorem dX9_distance_38 : decode cX9_distance 38 = .ok (.athrow, 1) := by decide +kernel
theorem dX9_distance_39 : decode cX9_distance 39 = .ok (.aload_n 0, 1) := by decide +kernel
theorem dX9_distance_40 : decode cX9_distance 40 = .ok (.getfield 40, 3) := by decide +kernel
theorem dX9_distance_43 : decode cX9_distance 43 = .ok (.getfield 153, 3) := by decide +kernel
theorem dX9_distance_46 : decode cX9_distance 46 = .ok (.iload_n 1, 1) := by decide +kernel
theorem dX9_distance_47 : decode cX9_distance 47 = .ok (.iload_n 2, 1) := by decide +kernel
theorem dX9_distance_48 : decode cX9_distance 48 = .ok (.iload_n 3, 1) := by decide +kernel
theorem dX9_distance_49 : decode cX9_distance 49 = .ok (.invokevirtual 202, 3) := by decide +kernel
theorem dX9_distance_52 : decode cX9_distance 52 = .ok (.ireturn, 1) := by decide +kernel
def fX9_distance (M : Mm) (x1 : Int32) (x2 : Int32) (x3 : Int32) : Option (Int32 × Mm) := (fX9_refuse M (fX0_placeFault M 0 x1 x2 x3)).bind fun q1 => (fX3_hasPin q1 0 x1 x2 x3).bind fun q3 => if q3 = 0 then none else (fX3_stepsBack q1 0 x1 x2 x3).bind fun q6 => some (q6, q1)
set_option maxRecDepth 20000 in
set_option maxHeartbeats 2000000 in
theorem sX9_distance {wv : Wv} (M : Mm) (x1 : Int32) (x2 : Int32) (x3 : Int32) {res : (Int32 × Mm)} (h : fX9_distance M x1 x2 x3 = some res) : TF wv yX9_distance cX9_distance 4 (some .int) 2 [.inr (0, 0, 0), .inl (.int x1), .inl (.int x2), .inl (.int x3)] M (some (.int res.1)) res.2 := by
  rw [fX9_distance] at h
  refine TF.go (n := 0) (ls := [some (.inr (0, 0, 0)), some (.inl (.int x1)), some (.inl (.int x2)), some (.inl (.int x3))]) rfl rfl rfl rfl rfl ?_
  refine z_aload_n (i := 0) dX9_distance_0 rfl rfl ?_
  refine z_getR (r' := (9, 0, 0)) dX9_distance_1 fl_X9_40 mk0 rfl rfl ?_
  refine z_iload_n (i := 1) dX9_distance_4 rfl rfl ?_
  refine z_iload_n (i := 2) dX9_distance_5 rfl rfl ?_
  refine z_iload_n (i := 3) dX9_distance_6 rfl rfl ?_
  refine z_fVi (sX0_placeFault M 0 x1 x2 x3 (Nat.le_of_ble_eq_true rfl)) dX9_distance_7 ml_X9_168 cd_X0_placeFault (m9 _ (Nat.le_of_ble_eq_true rfl)) rfl rfl rfl rfl rfl rfl ?_
  obtain ⟨q1, hq2, h⟩ := bnd h
  refine z_fSv (sX9_refuse M (fX0_placeFault M 0 x1 x2 x3) hq2) dX9_distance_10 ml_X9_172 cd_X9_refuse rfl rfl rfl rfl rfl ?_
  refine z_aload_n (i := 0) dX9_distance_13 rfl rfl ?_
  refine z_getR (r' := (9, 0, 0)) dX9_distance_14 fl_X9_40 mk0 rfl rfl ?_
  refine z_getR (r' := (10, 0, 0)) dX9_distance_17 fl_X9_153 (m9 _ (Nat.le_of_ble_eq_true rfl)) rfl rfl ?_
  refine z_iload_n (i := 1) dX9_distance_20 rfl rfl ?_
  refine z_iload_n (i := 2) dX9_distance_21 rfl rfl ?_
  refine z_iload_n (i := 3) dX9_distance_22 rfl rfl ?_
  obtain ⟨q3, hq4, h⟩ := bnd h
  refine z_fVi (sX3_hasPin q1 0 x1 x2 x3 (Nat.le_of_ble_eq_true rfl) hq4) dX9_distance_23 ml_X9_175 cd_X3_hasPin (m10 _ (Nat.le_of_ble_eq_true rfl)) rfl rfl rfl rfl rfl rfl ?_
  refine z_if_ne (tgt := 39) dX9_distance_26 rfl (fun hc5 => ?_) (fun hc5 => ?_)
  · have h := it_f h hc5
    refine z_aload_n (i := 0) dX9_distance_39 rfl rfl ?_
    refine z_getR (r' := (9, 0, 0)) dX9_distance_40 fl_X9_40 mk0 rfl rfl ?_
    refine z_getR (r' := (10, 0, 0)) dX9_distance_43 fl_X9_153 (m9 _ (Nat.le_of_ble_eq_true rfl)) rfl rfl ?_
    refine z_iload_n (i := 1) dX9_distance_46 rfl rfl ?_
    refine z_iload_n (i := 2) dX9_distance_47 rfl rfl ?_
    refine z_iload_n (i := 3) dX9_distance_48 rfl rfl ?_
    obtain ⟨q6, hq7, h⟩ := bnd h
    refine z_fVi (sX3_stepsBack q1 0 x1 x2 x3 (Nat.le_of_ble_eq_true rfl) hq7) dX9_distance_49 ml_X9_202 cd_X3_stepsBack (m10 _ (Nat.le_of_ble_eq_true rfl)) rfl rfl rfl rfl rfl rfl ?_
    cases h
    exact z_iret dX9_distance_52 rfl rfl (Nat.le_refl _) (Nat.le_refl _) ⟨rfl, rfl⟩
  · have h := it_t h hc5
    cases h
theorem dX9_closePins_0 : decode cX9_closePins 0 = .ok (.aload_n 0, 1) := by decide +kernel
theorem dX9_closePins_1 : decode cX9_closePins 1 = .ok (.getfield 40, 3) := by decide +kernel
theorem dX9_closePins_4 : decode cX9_closePins 4 = .ok (.iload_n 1, 1) := by decide +kernel
theorem dX9_closePins_5 : decode cX9_closePins 5 = .ok (.invokevirtual 179, 3) := by decide +kernel
theorem dX9_closePins_8 : decode cX9_closePins 8 = .ok (.invokestatic 172, 3) := by decide +kernel
theorem dX9_closePins_11 : decode cX9_closePins 11 = .ok (.aload_n 0, 1) := by decide +kernel
theorem dX9_closePins_12 : decode cX9_closePins 12 = .ok (.getfield 40, 3) := by decide +kernel
theorem dX9_closePins_15 : decode cX9_closePins 15 = .ok (.iload_n 1, 1) := by decide +kernel
theorem dX9_closePins_16 : decode cX9_closePins 16 = .ok (.invokevirtual 205, 3) := by decide +kernel
theorem dX9_closePins_19 : decode cX9_closePins 19 = .ok (.ireturn, 1) := by decide +kernel
def fX9_closePins (M : Mm) (x1 : Int32) : Option (Int32 × Mm) := (fX9_refuse M (fX0_tuneFault M 0 x1)).bind fun q1 => (fX0_closePinsOf q1 0 x1).bind fun q3 => some (q3, q1)
set_option maxRecDepth 20000 in
set_option maxHeartbeats 2000000 in
theorem sX9_closePins {wv : Wv} (M : Mm) (x1 : Int32) {res : (Int32 × Mm)} (h : fX9_closePins M x1 = some res) : TF wv yX9_closePins cX9_closePins 2 (some .int) 4 [.inr (0, 0, 0), .inl (.int x1)] M (some (.int res.1)) res.2 := by
  rw [fX9_closePins] at h
  refine TF.go (n := 0) (ls := [some (.inr (0, 0, 0)), some (.inl (.int x1))]) rfl rfl rfl rfl rfl ?_
  refine z_aload_n (i := 0) dX9_closePins_0 rfl rfl ?_
  refine z_getR (r' := (9, 0, 0)) dX9_closePins_1 fl_X9_40 mk0 rfl rfl ?_
  refine z_iload_n (i := 1) dX9_closePins_4 rfl rfl ?_
  refine z_fVi (sX0_tuneFault M 0 x1 (Nat.le_of_ble_eq_true rfl)) dX9_closePins_5 ml_X9_179 cd_X0_tuneFault (m9 _ (Nat.le_of_ble_eq_true rfl)) rfl rfl rfl rfl rfl rfl ?_
  obtain ⟨q1, hq2, h⟩ := bnd h
  refine z_fSv (sX9_refuse M (fX0_tuneFault M 0 x1) hq2) dX9_closePins_8 ml_X9_172 cd_X9_refuse rfl rfl rfl rfl rfl ?_
  refine z_aload_n (i := 0) dX9_closePins_11 rfl rfl ?_
  refine z_getR (r' := (9, 0, 0)) dX9_closePins_12 fl_X9_40 mk0 rfl rfl ?_
  refine z_iload_n (i := 1) dX9_closePins_15 rfl rfl ?_
  obtain ⟨q3, hq4, h⟩ := bnd h
  refine z_fVi (sX0_closePinsOf q1 0 x1 (Nat.le_of_ble_eq_true rfl) hq4) dX9_closePins_16 ml_X9_205 cd_X0_closePinsOf (m9 _ (Nat.le_of_ble_eq_true rfl)) rfl rfl rfl rfl rfl rfl ?_
  cases h
  exact z_iret dX9_closePins_19 rfl rfl (Nat.le_refl _) (Nat.le_refl _) ⟨rfl, rfl⟩
theorem dX9_longestRest_0 : decode cX9_longestRest 0 = .ok (.aload_n 0, 1) := by decide +kernel
theorem dX9_longestRest_1 : decode cX9_longestRest 1 = .ok (.getfield 40, 3) := by decide +kernel
theorem dX9_longestRest_4 : decode cX9_longestRest 4 = .ok (.iload_n 1, 1) := by decide +kernel
theorem dX9_longestRest_5 : decode cX9_longestRest 5 = .ok (.invokevirtual 179, 3) := by decide +kernel
theorem dX9_longestRest_8 : decode cX9_longestRest 8 = .ok (.invokestatic 172, 3) := by decide +kernel
theorem dX9_longestRest_11 : decode cX9_longestRest 11 = .ok (.aload_n 0, 1) := by decide +kernel
theorem dX9_longestRest_12 : decode cX9_longestRest 12 = .ok (.getfield 40, 3) := by decide +kernel
theorem dX9_longestRest_15 : decode cX9_longestRest 15 = .ok (.getfield 153, 3) := by decide +kernel
theorem dX9_longestRest_18 : decode cX9_longestRest 18 = .ok (.iload_n 1, 1) := by decide +kernel
theorem dX9_longestRest_19 : decode cX9_longestRest 19 = .ok (.invokevirtual 208, 3) := by decide +kernel
theorem dX9_longestRest_22 : decode cX9_longestRest 22 = .ok (.ireturn, 1) := by decide +kernel
def fX9_longestRest (M : Mm) (x1 : Int32) : Option (Int32 × Mm) := (fX9_refuse M (fX0_tuneFault M 0 x1)).bind fun q1 => (fX3_longestRestOf q1 0 x1).bind fun q3 => some (q3, q1)
set_option maxRecDepth 20000 in
set_option maxHeartbeats 2000000 in
theorem sX9_longestRest {wv : Wv} (M : Mm) (x1 : Int32) {res : (Int32 × Mm)} (h : fX9_longestRest M x1 = some res) : TF wv yX9_longestRest cX9_longestRest 2 (some .int) 3 [.inr (0, 0, 0), .inl (.int x1)] M (some (.int res.1)) res.2 := by
  rw [fX9_longestRest] at h
  refine TF.go (n := 0) (ls := [some (.inr (0, 0, 0)), some (.inl (.int x1))]) rfl rfl rfl rfl rfl ?_
  refine z_aload_n (i := 0) dX9_longestRest_0 rfl rfl ?_
  refine z_getR (r' := (9, 0, 0)) dX9_longestRest_1 fl_X9_40 mk0 rfl rfl ?_
  refine z_iload_n (i := 1) dX9_longestRest_4 rfl rfl ?_
  refine z_fVi (sX0_tuneFault M 0 x1 (Nat.le_of_ble_eq_true rfl)) dX9_longestRest_5 ml_X9_179 cd_X0_tuneFault (m9 _ (Nat.le_of_ble_eq_true rfl)) rfl rfl rfl rfl rfl rfl ?_
  obtain ⟨q1, hq2, h⟩ := bnd h
  refine z_fSv (sX9_refuse M (fX0_tuneFault M 0 x1) hq2) dX9_longestRest_8 ml_X9_172 cd_X9_refuse rfl rfl rfl rfl rfl ?_
  refine z_aload_n (i := 0) dX9_longestRest_11 rfl rfl ?_
  refine z_getR (r' := (9, 0, 0)) dX9_longestRest_12 fl_X9_40 mk0 rfl rfl ?_
  refine z_getR (r' := (10, 0, 0)) dX9_longestRest_15 fl_X9_153 (m9 _ (Nat.le_of_ble_eq_true rfl)) rfl rfl ?_
  refine z_iload_n (i := 1) dX9_longestRest_18 rfl rfl ?_
  obtain ⟨q3, hq4, h⟩ := bnd h
  refine z_fVi (sX3_longestRestOf q1 0 x1 (Nat.le_of_ble_eq_true rfl) hq4) dX9_longestRest_19 ml_X9_208 cd_X3_longestRestOf (m10 _ (Nat.le_of_ble_eq_true rfl)) rfl rfl rfl rfl rfl rfl ?_
  cases h
  exact z_iret dX9_longestRest_22 rfl rfl (Nat.le_refl _) (Nat.le_refl _) ⟨rfl, rfl⟩
theorem dX9_toothCount_0 : decode cX9_toothCount 0 = .ok (.aload_n 0, 1) := by decide +kernel
theorem dX9_toothCount_1 : decode cX9_toothCount 1 = .ok (.getfield 40, 3) := by decide +kernel
theorem dX9_toothCount_4 : decode cX9_toothCount 4 = .ok (.getfield 211, 3) := by decide +kernel
theorem dX9_toothCount_7 : decode cX9_toothCount 7 = .ok (.ireturn, 1) := by decide +kernel
def fX9_toothCount (M : Mm) : Int32 := (M.1 (9, 0, 0) 2)
set_option maxRecDepth 20000 in
set_option maxHeartbeats 2000000 in
theorem tX9_toothCount {wv : Wv} (M : Mm) {res : Int32} (h : fX9_toothCount M  = res) : TF wv yX9_toothCount cX9_toothCount 1 (some .int) 0 [.inr (0, 0, 0)] M (some (.int res)) M := by
  rw [fX9_toothCount] at h
  refine TF.go (n := 0) (ls := [some (.inr (0, 0, 0))]) rfl rfl rfl rfl rfl ?_
  refine z_aload_n (i := 0) dX9_toothCount_0 rfl rfl ?_
  refine z_getR (r' := (9, 0, 0)) dX9_toothCount_1 fl_X9_40 mk0 rfl rfl ?_
  refine z_getI (x := (M.1 (9, 0, 0) 2)) dX9_toothCount_4 fl_X9_211 (m9 _ (Nat.le_of_ble_eq_true rfl)) rfl rfl ?_
  subst h
  exact z_iret dX9_toothCount_7 rfl rfl (Nat.le_refl _) (Nat.le_refl _) ⟨rfl, rfl⟩
theorem sX9_toothCount {wv : Wv} (M : Mm) : TF wv yX9_toothCount cX9_toothCount 1 (some .int) 0 [.inr (0, 0, 0)] M (some (.int (fX9_toothCount M ))) M := tX9_toothCount M   rfl
theorem dX9_soundingPitch_0 : decode cX9_soundingPitch 0 = .ok (.aload_n 0, 1) := by decide +kernel
theorem dX9_soundingPitch_1 : decode cX9_soundingPitch 1 = .ok (.getfield 40, 3) := by decide +kernel
theorem dX9_soundingPitch_4 : decode cX9_soundingPitch 4 = .ok (.iload_n 1, 1) := by decide +kernel
theorem dX9_soundingPitch_5 : decode cX9_soundingPitch 5 = .ok (.invokevirtual 214, 3) := by decide +kernel
theorem dX9_soundingPitch_8 : decode cX9_soundingPitch 8 = .ok (.invokestatic 172, 3) := by decide +kernel
theorem dX9_soundingPitch_11 : decode cX9_soundingPitch 11 = .ok (.aload_n 0, 1) := by decide +kernel
theorem dX9_soundingPitch_12 : decode cX9_soundingPitch 12 = .ok (.getfield 40, 3) := by decide +kernel
theorem dX9_soundingPitch_15 : decode cX9_soundingPitch 15 = .ok (.getfield 217, 3) := by decide +kernel
theorem dX9_soundingPitch_18 : decode cX9_soundingPitch 18 = .ok (.iload_n 1, 1) := by decide +kernel
theorem dX9_soundingPitch_19 : decode cX9_soundingPitch 19 = .ok (.aaload, 1) := by decide +kernel
theorem dX9_soundingPitch_20 : decode cX9_soundingPitch 20 = .ok (.invokevirtual 221, 3) := by decide +kernel
theorem dX9_soundingPitch_23 : decode cX9_soundingPitch 23 = .ok (.ireturn, 1) := by decide +kernel
def fX9_soundingPitch (M : Mm) (x1 : Int32) : Option (Int32 × Mm) := (fX9_refuse M (fX0_toothFault M 0 x1)).bind fun q1 => if x1 < 0 ∨ 12 ≤ x1.toNatClampNeg then none else some ((fX8_pitchNow q1 0 x1.toNatClampNeg), q1)
set_option maxRecDepth 20000 in
set_option maxHeartbeats 2000000 in
theorem sX9_soundingPitch {wv : Wv} (M : Mm) (x1 : Int32) {res : (Int32 × Mm)} (h : fX9_soundingPitch M x1 = some res) : TF wv yX9_soundingPitch cX9_soundingPitch 2 (some .int) 2 [.inr (0, 0, 0), .inl (.int x1)] M (some (.int res.1)) res.2 := by
  rw [fX9_soundingPitch] at h
  refine TF.go (n := 0) (ls := [some (.inr (0, 0, 0)), some (.inl (.int x1))]) rfl rfl rfl rfl rfl ?_
  refine z_aload_n (i := 0) dX9_soundingPitch_0 rfl rfl ?_
  refine z_getR (r' := (9, 0, 0)) dX9_soundingPitch_1 fl_X9_40 mk0 rfl rfl ?_
  refine z_iload_n (i := 1) dX9_soundingPitch_4 rfl rfl ?_
  refine z_fVi (sX0_toothFault M 0 x1 (Nat.le_of_ble_eq_true rfl)) dX9_soundingPitch_5 ml_X9_214 cd_X0_toothFault (m9 _ (Nat.le_of_ble_eq_true rfl)) rfl rfl rfl rfl rfl rfl ?_
  obtain ⟨q1, hq2, h⟩ := bnd h
  refine z_fSv (sX9_refuse M (fX0_toothFault M 0 x1) hq2) dX9_soundingPitch_8 ml_X9_172 cd_X9_refuse rfl rfl rfl rfl rfl ?_
  refine z_aload_n (i := 0) dX9_soundingPitch_11 rfl rfl ?_
  refine z_getR (r' := (9, 0, 0)) dX9_soundingPitch_12 fl_X9_40 mk0 rfl rfl ?_
  refine z_getR (r' := (12, 0, 0)) dX9_soundingPitch_15 fl_X9_217 (m9 _ (Nat.le_of_ble_eq_true rfl)) rfl rfl ?_
  refine z_iload_n (i := 1) dX9_soundingPitch_18 rfl rfl ?_
  obtain ⟨hc3, h⟩ := chk h
  refine z_aald (t := 0) (r' := (13, 0, x1.toNatClampNeg)) dX9_soundingPitch_19 (m12 _ (Nat.le_of_ble_eq_true rfl)) rfl (Nat.le_of_ble_eq_true rfl) hc3 rfl ?_
  refine z_fVi (sX8_pitchNow q1 0 x1.toNatClampNeg (Nat.le_of_ble_eq_true rfl) (ltN hc3)) dX9_soundingPitch_20 ml_X9_221 cd_X8_pitchNow (m13 _ (Nat.le_of_ble_eq_true rfl) _ (ltN hc3)) rfl rfl rfl rfl rfl rfl ?_
  cases h
  exact z_iret dX9_soundingPitch_23 rfl rfl (Nat.le_refl _) (Nat.le_refl _) ⟨rfl, rfl⟩
theorem dX9_bendOf_0 : decode cX9_bendOf 0 = .ok (.aload_n 0, 1) := by decide +kernel
theorem dX9_bendOf_1 : decode cX9_bendOf 1 = .ok (.getfield 40, 3) := by decide +kernel
theorem dX9_bendOf_4 : decode cX9_bendOf 4 = .ok (.iload_n 1, 1) := by decide +kernel
theorem dX9_bendOf_5 : decode cX9_bendOf 5 = .ok (.invokevirtual 214, 3) := by decide +kernel
theorem dX9_bendOf_8 : decode cX9_bendOf 8 = .ok (.invokestatic 172, 3) := by decide +kernel
theorem dX9_bendOf_11 : decode cX9_bendOf 11 = .ok (.aload_n 0, 1) := by decide +kernel
theorem dX9_bendOf_12 : decode cX9_bendOf 12 = .ok (.getfield 40, 3) := by decide +kernel
theorem dX9_bendOf_15 : decode cX9_bendOf 15 = .ok (.getfield 217, 3) := by decide +kernel
theorem dX9_bendOf_18 : decode cX9_bendOf 18 = .ok (.iload_n 1, 1) := by decide +kernel
theorem dX9_bendOf_19 : decode cX9_bendOf 19 = .ok (.aaload, 1) := by decide +kernel
theorem dX9_bendOf_20 : decode cX9_bendOf 20 = .ok (.getfield 226, 3) := by decide +kernel
theorem dX9_bendOf_23 : decode cX9_bendOf 23 = .ok (.ireturn, 1) := by decide +kernel
def fX9_bendOf (M : Mm) (x1 : Int32) : Option (Int32 × Mm) := (fX9_refuse M (fX0_toothFault M 0 x1)).bind fun q1 => if x1 < 0 ∨ 12 ≤ x1.toNatClampNeg then none else some ((q1.1 (13, 0, x1.toNatClampNeg) 1), q1)
set_option maxRecDepth 20000 in
set_option maxHeartbeats 2000000 in
theorem sX9_bendOf {wv : Wv} (M : Mm) (x1 : Int32) {res : (Int32 × Mm)} (h : fX9_bendOf M x1 = some res) : TF wv yX9_bendOf cX9_bendOf 2 (some .int) 2 [.inr (0, 0, 0), .inl (.int x1)] M (some (.int res.1)) res.2 := by
  rw [fX9_bendOf] at h
  refine TF.go (n := 0) (ls := [some (.inr (0, 0, 0)), some (.inl (.int x1))]) rfl rfl rfl rfl rfl ?_
  refine z_aload_n (i := 0) dX9_bendOf_0 rfl rfl ?_
  refine z_getR (r' := (9, 0, 0)) dX9_bendOf_1 fl_X9_40 mk0 rfl rfl ?_
  refine z_iload_n (i := 1) dX9_bendOf_4 rfl rfl ?_
  refine z_fVi (sX0_toothFault M 0 x1 (Nat.le_of_ble_eq_true rfl)) dX9_bendOf_5 ml_X9_214 cd_X0_toothFault (m9 _ (Nat.le_of_ble_eq_true rfl)) rfl rfl rfl rfl rfl rfl ?_
  obtain ⟨q1, hq2, h⟩ := bnd h
  refine z_fSv (sX9_refuse M (fX0_toothFault M 0 x1) hq2) dX9_bendOf_8 ml_X9_172 cd_X9_refuse rfl rfl rfl rfl rfl ?_
  refine z_aload_n (i := 0) dX9_bendOf_11 rfl rfl ?_
  refine z_getR (r' := (9, 0, 0)) dX9_bendOf_12 fl_X9_40 mk0 rfl rfl ?_
  refine z_getR (r' := (12, 0, 0)) dX9_bendOf_15 fl_X9_217 (m9 _ (Nat.le_of_ble_eq_true rfl)) rfl rfl ?_
  refine z_iload_n (i := 1) dX9_bendOf_18 rfl rfl ?_
  obtain ⟨hc3, h⟩ := chk h
  refine z_aald (t := 0) (r' := (13, 0, x1.toNatClampNeg)) dX9_bendOf_19 (m12 _ (Nat.le_of_ble_eq_true rfl)) rfl (Nat.le_of_ble_eq_true rfl) hc3 rfl ?_
  refine z_getI (x := (q1.1 (13, 0, x1.toNatClampNeg) 1)) dX9_bendOf_20 fl_X9_226 (m13 _ (Nat.le_of_ble_eq_true rfl) _ (ltN hc3)) rfl rfl ?_
  cases h
  exact z_iret dX9_bendOf_23 rfl rfl (Nat.le_refl _) (Nat.le_refl _) ⟨rfl, rfl⟩
theorem dX9_gap_0 : decode cX9_gap 0 = .ok (.aload_n 0, 1) := by decide +kernel
theorem dX9_gap_1 : decode cX9_gap 1 = .ok (.getfield 40, 3) := by decide +kernel
theorem dX9_gap_4 : decode cX9_gap 4 = .ok (.iload_n 1, 1) := by decide +kernel
theorem dX9_gap_5 : decode cX9_gap 5 = .ok (.invokevirtual 214, 3) := by decide +kernel
theorem dX9_gap_8 : decode cX9_gap 8 = .ok (.invokestatic 172, 3) := by decide +kernel
theorem dX9_gap_11 : decode cX9_gap 11 = .ok (.aload_n 0, 1) := by decide +kernel
theorem dX9_gap_12 : decode cX9_gap 12 = .ok (.getfield 40, 3) := by decide +kernel
theorem dX9_gap_15 : decode cX9_gap 15 = .ok (.getfield 217, 3) := by decide +kernel
theorem dX9_gap_18 : decode cX9_gap 18 = .ok (.iload_n 1, 1) := by decide +kernel
theorem dX9_gap_19 : decode cX9_gap 19 = .ok (.aaload, 1) := by decide +kernel
theorem dX9_gap_20 : decode cX9_gap 20 = .ok (.getfield 229, 3) := by decide +kernel
theorem dX9_gap_23 : decode cX9_gap 23 = .ok (.ireturn, 1) := by decide +kernel
def fX9_gap (M : Mm) (x1 : Int32) : Option (Int32 × Mm) := (fX9_refuse M (fX0_toothFault M 0 x1)).bind fun q1 => if x1 < 0 ∨ 12 ≤ x1.toNatClampNeg then none else some ((q1.1 (13, 0, x1.toNatClampNeg) 2), q1)
set_option maxRecDepth 20000 in
set_option maxHeartbeats 2000000 in
theorem sX9_gap {wv : Wv} (M : Mm) (x1 : Int32) {res : (Int32 × Mm)} (h : fX9_gap M x1 = some res) : TF wv yX9_gap cX9_gap 2 (some .int) 2 [.inr (0, 0, 0), .inl (.int x1)] M (some (.int res.1)) res.2 := by
  rw [fX9_gap] at h
  refine TF.go (n := 0) (ls := [some (.inr (0, 0, 0)), some (.inl (.int x1))]) rfl rfl rfl rfl rfl ?_
  refine z_aload_n (i := 0) dX9_gap_0 rfl rfl ?_
  refine z_getR (r' := (9, 0, 0)) dX9_gap_1 fl_X9_40 mk0 rfl rfl ?_
  refine z_iload_n (i := 1) dX9_gap_4 rfl rfl ?_
  refine z_fVi (sX0_toothFault M 0 x1 (Nat.le_of_ble_eq_true rfl)) dX9_gap_5 ml_X9_214 cd_X0_toothFault (m9 _ (Nat.le_of_ble_eq_true rfl)) rfl rfl rfl rfl rfl rfl ?_
  obtain ⟨q1, hq2, h⟩ := bnd h
  refine z_fSv (sX9_refuse M (fX0_toothFault M 0 x1) hq2) dX9_gap_8 ml_X9_172 cd_X9_refuse rfl rfl rfl rfl rfl ?_
  refine z_aload_n (i := 0) dX9_gap_11 rfl rfl ?_
  refine z_getR (r' := (9, 0, 0)) dX9_gap_12 fl_X9_40 mk0 rfl rfl ?_
  refine z_getR (r' := (12, 0, 0)) dX9_gap_15 fl_X9_217 (m9 _ (Nat.le_of_ble_eq_true rfl)) rfl rfl ?_
  refine z_iload_n (i := 1) dX9_gap_18 rfl rfl ?_
  obtain ⟨hc3, h⟩ := chk h
  refine z_aald (t := 0) (r' := (13, 0, x1.toNatClampNeg)) dX9_gap_19 (m12 _ (Nat.le_of_ble_eq_true rfl)) rfl (Nat.le_of_ble_eq_true rfl) hc3 rfl ?_
  refine z_getI (x := (q1.1 (13, 0, x1.toNatClampNeg) 2)) dX9_gap_20 fl_X9_229 (m13 _ (Nat.le_of_ble_eq_true rfl) _ (ltN hc3)) rfl rfl ?_
  cases h
  exact z_iret dX9_gap_23 rfl rfl (Nat.le_refl _) (Nat.le_refl _) ⟨rfl, rfl⟩
theorem dX9_wear_0 : decode cX9_wear 0 = .ok (.aload_n 0, 1) := by decide +kernel
theorem dX9_wear_1 : decode cX9_wear 1 = .ok (.getfield 40, 3) := by decide +kernel
theorem dX9_wear_4 : decode cX9_wear 4 = .ok (.iload_n 1, 1) := by decide +kernel
theorem dX9_wear_5 : decode cX9_wear 5 = .ok (.invokevirtual 214, 3) := by decide +kernel
theorem dX9_wear_8 : decode cX9_wear 8 = .ok (.invokestatic 172, 3) := by decide +kernel
theorem dX9_wear_11 : decode cX9_wear 11 = .ok (.aload_n 0, 1) := by decide +kernel
theorem dX9_wear_12 : decode cX9_wear 12 = .ok (.getfield 40, 3) := by decide +kernel
theorem dX9_wear_15 : decode cX9_wear 15 = .ok (.getfield 217, 3) := by decide +kernel
theorem dX9_wear_18 : decode cX9_wear 18 = .ok (.iload_n 1, 1) := by decide +kernel
theorem dX9_wear_19 : decode cX9_wear 19 = .ok (.aaload, 1) := by decide +kernel
theorem dX9_wear_20 : decode cX9_wear 20 = .ok (.getfield 232, 3) := by decide +kernel
theorem dX9_wear_23 : decode cX9_wear 23 = .ok (.ireturn, 1) := by decide +kernel
def fX9_wear (M : Mm) (x1 : Int32) : Option (Int32 × Mm) := (fX9_refuse M (fX0_toothFault M 0 x1)).bind fun q1 => if x1 < 0 ∨ 12 ≤ x1.toNatClampNeg then none else some ((q1.1 (13, 0, x1.toNatClampNeg) 4), q1)
set_option maxRecDepth 20000 in
set_option maxHeartbeats 2000000 in
theorem sX9_wear {wv : Wv} (M : Mm) (x1 : Int32) {res : (Int32 × Mm)} (h : fX9_wear M x1 = some res) : TF wv yX9_wear cX9_wear 2 (some .int) 2 [.inr (0, 0, 0), .inl (.int x1)] M (some (.int res.1)) res.2 := by
  rw [fX9_wear] at h
  refine TF.go (n := 0) (ls := [some (.inr (0, 0, 0)), some (.inl (.int x1))]) rfl rfl rfl rfl rfl ?_
  refine z_aload_n (i := 0) dX9_wear_0 rfl rfl ?_
  refine z_getR (r' := (9, 0, 0)) dX9_wear_1 fl_X9_40 mk0 rfl rfl ?_
  refine z_iload_n (i := 1) dX9_wear_4 rfl rfl ?_
  refine z_fVi (sX0_toothFault M 0 x1 (Nat.le_of_ble_eq_true rfl)) dX9_wear_5 ml_X9_214 cd_X0_toothFault (m9 _ (Nat.le_of_ble_eq_true rfl)) rfl rfl rfl rfl rfl rfl ?_
  obtain ⟨q1, hq2, h⟩ := bnd h
  refine z_fSv (sX9_refuse M (fX0_toothFault M 0 x1) hq2) dX9_wear_8 ml_X9_172 cd_X9_refuse rfl rfl rfl rfl rfl ?_
  refine z_aload_n (i := 0) dX9_wear_11 rfl rfl ?_
  refine z_getR (r' := (9, 0, 0)) dX9_wear_12 fl_X9_40 mk0 rfl rfl ?_
  refine z_getR (r' := (12, 0, 0)) dX9_wear_15 fl_X9_217 (m9 _ (Nat.le_of_ble_eq_true rfl)) rfl rfl ?_
  refine z_iload_n (i := 1) dX9_wear_18 rfl rfl ?_
  obtain ⟨hc3, h⟩ := chk h
  refine z_aald (t := 0) (r' := (13, 0, x1.toNatClampNeg)) dX9_wear_19 (m12 _ (Nat.le_of_ble_eq_true rfl)) rfl (Nat.le_of_ble_eq_true rfl) hc3 rfl ?_
  refine z_getI (x := (q1.1 (13, 0, x1.toNatClampNeg) 4)) dX9_wear_20 fl_X9_232 (m13 _ (Nat.le_of_ble_eq_true rfl) _ (ltN hc3)) rfl rfl ?_
  cases h
  exact z_iret dX9_wear_23 rfl rfl (Nat.le_refl _) (Nat.le_refl _) ⟨rfl, rfl⟩
theorem dX9_silence_0 : decode cX9_silence 0 = .ok (.aload_n 0, 1) := by decide +kernel
theorem dX9_silence_1 : decode cX9_silence 1 = .ok (.getfield 40, 3) := by decide +kernel
theorem dX9_silence_4 : decode cX9_silence 4 = .ok (.iload_n 1, 1) := by decide +kernel
theorem dX9_silence_5 : decode cX9_silence 5 = .ok (.invokevirtual 214, 3) := by decide +kernel
theorem dX9_silence_8 : decode cX9_silence 8 = .ok (.invokestatic 172, 3) := by decide +kernel
theorem dX9_silence_11 : decode cX9_silence 11 = .ok (.aload_n 0, 1) := by decide +kernel
theorem dX9_silence_12 : decode cX9_silence 12 = .ok (.getfield 40, 3) := by decide +kernel
theorem dX9_silence_15 : decode cX9_silence 15 = .ok (.getfield 217, 3) := by decide +kernel
theorem dX9_silence_18 : decode cX9_silence 18 = .ok (.iload_n 1, 1) := by decide +kernel
theorem dX9_silence_19 : decode cX9_silence 19 = .ok (.aaload, 1) := by decide +kernel
theorem dX9_silence_20 : decode cX9_silence 20 = .ok (.getfield 235, 3) := by decide +kernel
theorem dX9_silence_23 : decode cX9_silence 23 = .ok (.ireturn, 1) := by decide +kernel
def fX9_silence (M : Mm) (x1 : Int32) : Option (Int32 × Mm) := (fX9_refuse M (fX0_toothFault M 0 x1)).bind fun q1 => if x1 < 0 ∨ 12 ≤ x1.toNatClampNeg then none else some ((q1.1 (13, 0, x1.toNatClampNeg) 5), q1)
set_option maxRecDepth 20000 in
set_option maxHeartbeats 2000000 in
theorem sX9_silence {wv : Wv} (M : Mm) (x1 : Int32) {res : (Int32 × Mm)} (h : fX9_silence M x1 = some res) : TF wv yX9_silence cX9_silence 2 (some .int) 2 [.inr (0, 0, 0), .inl (.int x1)] M (some (.int res.1)) res.2 := by
  rw [fX9_silence] at h
  refine TF.go (n := 0) (ls := [some (.inr (0, 0, 0)), some (.inl (.int x1))]) rfl rfl rfl rfl rfl ?_
  refine z_aload_n (i := 0) dX9_silence_0 rfl rfl ?_
  refine z_getR (r' := (9, 0, 0)) dX9_silence_1 fl_X9_40 mk0 rfl rfl ?_
  refine z_iload_n (i := 1) dX9_silence_4 rfl rfl ?_
  refine z_fVi (sX0_toothFault M 0 x1 (Nat.le_of_ble_eq_true rfl)) dX9_silence_5 ml_X9_214 cd_X0_toothFault (m9 _ (Nat.le_of_ble_eq_true rfl)) rfl rfl rfl rfl rfl rfl ?_
  obtain ⟨q1, hq2, h⟩ := bnd h
  refine z_fSv (sX9_refuse M (fX0_toothFault M 0 x1) hq2) dX9_silence_8 ml_X9_172 cd_X9_refuse rfl rfl rfl rfl rfl ?_
  refine z_aload_n (i := 0) dX9_silence_11 rfl rfl ?_
  refine z_getR (r' := (9, 0, 0)) dX9_silence_12 fl_X9_40 mk0 rfl rfl ?_
  refine z_getR (r' := (12, 0, 0)) dX9_silence_15 fl_X9_217 (m9 _ (Nat.le_of_ble_eq_true rfl)) rfl rfl ?_
  refine z_iload_n (i := 1) dX9_silence_18 rfl rfl ?_
  obtain ⟨hc3, h⟩ := chk h
  refine z_aald (t := 0) (r' := (13, 0, x1.toNatClampNeg)) dX9_silence_19 (m12 _ (Nat.le_of_ble_eq_true rfl)) rfl (Nat.le_of_ble_eq_true rfl) hc3 rfl ?_
  refine z_getI (x := (q1.1 (13, 0, x1.toNatClampNeg) 5)) dX9_silence_20 fl_X9_235 (m13 _ (Nat.le_of_ble_eq_true rfl) _ (ltN hc3)) rfl rfl ?_
  cases h
  exact z_iret dX9_silence_23 rfl rfl (Nat.le_refl _) (Nat.le_refl _) ⟨rfl, rfl⟩
theorem dX9_isBroken_0 : decode cX9_isBroken 0 = .ok (.aload_n 0, 1) := by decide +kernel
theorem dX9_isBroken_1 : decode cX9_isBroken 1 = .ok (.getfield 40, 3) := by decide +kernel
theorem dX9_isBroken_4 : decode cX9_isBroken 4 = .ok (.iload_n 1, 1) := by decide +kernel
theorem dX9_isBroken_5 : decode cX9_isBroken 5 = .ok (.invokevirtual 214, 3) := by decide +kernel
theorem dX9_isBroken_8 : decode cX9_isBroken 8 = .ok (.invokestatic 172, 3) := by decide +kernel
theorem dX9_isBroken_11 : decode cX9_isBroken 11 = .ok (.aload_n 0, 1) := by decide +kernel
theorem dX9_isBroken_12 : decode cX9_isBroken 12 = .ok (.getfield 40, 3) := by decide +kernel
theorem dX9_isBroken_15 : decode cX9_isBroken 15 = .ok (.getfield 217, 3) := by decide +kernel
theorem dX9_isBroken_18 : decode cX9_isBroken 18 = .ok (.iload_n 1, 1) := by decide +kernel
theorem dX9_isBroken_19 : decode cX9_isBroken 19 = .ok (.aaload, 1) := by decide +kernel
theorem dX9_isBroken_20 : decode cX9_isBroken 20 = .ok (.invokevirtual 238, 3) := by decide +kernel
theorem dX9_isBroken_23 : decode cX9_isBroken 23 = .ok (.ireturn, 1) := by decide +kernel
def fX9_isBroken (M : Mm) (x1 : Int32) : Option (Int32 × Mm) := (fX9_refuse M (fX0_toothFault M 0 x1)).bind fun q1 => if x1 < 0 ∨ 12 ≤ x1.toNatClampNeg then none else some ((bz (fX8_brokenNow q1 0 x1.toNatClampNeg)), q1)
set_option maxRecDepth 20000 in
set_option maxHeartbeats 2000000 in
theorem sX9_isBroken {wv : Wv} (M : Mm) (x1 : Int32) {res : (Int32 × Mm)} (h : fX9_isBroken M x1 = some res) : TF wv yX9_isBroken cX9_isBroken 2 (some .boolean) 2 [.inr (0, 0, 0), .inl (.int x1)] M (some (.int res.1)) res.2 := by
  rw [fX9_isBroken] at h
  refine TF.go (n := 0) (ls := [some (.inr (0, 0, 0)), some (.inl (.int x1))]) rfl rfl rfl rfl rfl ?_
  refine z_aload_n (i := 0) dX9_isBroken_0 rfl rfl ?_
  refine z_getR (r' := (9, 0, 0)) dX9_isBroken_1 fl_X9_40 mk0 rfl rfl ?_
  refine z_iload_n (i := 1) dX9_isBroken_4 rfl rfl ?_
  refine z_fVi (sX0_toothFault M 0 x1 (Nat.le_of_ble_eq_true rfl)) dX9_isBroken_5 ml_X9_214 cd_X0_toothFault (m9 _ (Nat.le_of_ble_eq_true rfl)) rfl rfl rfl rfl rfl rfl ?_
  obtain ⟨q1, hq2, h⟩ := bnd h
  refine z_fSv (sX9_refuse M (fX0_toothFault M 0 x1) hq2) dX9_isBroken_8 ml_X9_172 cd_X9_refuse rfl rfl rfl rfl rfl ?_
  refine z_aload_n (i := 0) dX9_isBroken_11 rfl rfl ?_
  refine z_getR (r' := (9, 0, 0)) dX9_isBroken_12 fl_X9_40 mk0 rfl rfl ?_
  refine z_getR (r' := (12, 0, 0)) dX9_isBroken_15 fl_X9_217 (m9 _ (Nat.le_of_ble_eq_true rfl)) rfl rfl ?_
  refine z_iload_n (i := 1) dX9_isBroken_18 rfl rfl ?_
  obtain ⟨hc3, h⟩ := chk h
  refine z_aald (t := 0) (r' := (13, 0, x1.toNatClampNeg)) dX9_isBroken_19 (m12 _ (Nat.le_of_ble_eq_true rfl)) rfl (Nat.le_of_ble_eq_true rfl) hc3 rfl ?_
  refine z_fVi (sX8_brokenNow q1 0 x1.toNatClampNeg (Nat.le_of_ble_eq_true rfl) (ltN hc3)) dX9_isBroken_20 ml_X9_238 cd_X8_brokenNow (m13 _ (Nat.le_of_ble_eq_true rfl) _ (ltN hc3)) rfl rfl rfl rfl rfl rfl ?_
  cases h
  exact z_iret dX9_isBroken_23 rfl (bz_ok _) (Nat.le_refl _) (Nat.le_refl _) ⟨rfl, rfl⟩
theorem dX9_nextSound_0 : decode cX9_nextSound 0 = .ok (.aload_n 0, 1) := by decide +kernel
theorem dX9_nextSound_1 : decode cX9_nextSound 1 = .ok (.getfield 40, 3) := by decide +kernel
theorem dX9_nextSound_4 : decode cX9_nextSound 4 = .ok (.iload_n 1, 1) := by decide +kernel
theorem dX9_nextSound_5 : decode cX9_nextSound 5 = .ok (.invokevirtual 214, 3) := by decide +kernel
theorem dX9_nextSound_8 : decode cX9_nextSound 8 = .ok (.invokestatic 172, 3) := by decide +kernel
theorem dX9_nextSound_11 : decode cX9_nextSound 11 = .ok (.aload_n 0, 1) := by decide +kernel
theorem dX9_nextSound_12 : decode cX9_nextSound 12 = .ok (.getfield 40, 3) := by decide +kernel
theorem dX9_nextSound_15 : decode cX9_nextSound 15 = .ok (.iload_n 1, 1) := by decide +kernel
theorem dX9_nextSound_16 : decode cX9_nextSound 16 = .ok (.invokevirtual 241, 3) := by decide +kernel
theorem dX9_nextSound_19 : decode cX9_nextSound 19 = .ok (.ireturn, 1) := by decide +kernel
def fX9_nextSound (M : Mm) (x1 : Int32) : Option (Int32 × Mm) := (fX9_refuse M (fX0_toothFault M 0 x1)).bind fun q1 => (fX0_soundOf q1 0 x1).bind fun q3 => some (q3, q1)
set_option maxRecDepth 20000 in
set_option maxHeartbeats 2000000 in
theorem sX9_nextSound {wv : Wv} (M : Mm) (x1 : Int32) {res : (Int32 × Mm)} (h : fX9_nextSound M x1 = some res) : TF wv yX9_nextSound cX9_nextSound 2 (some .int) 2 [.inr (0, 0, 0), .inl (.int x1)] M (some (.int res.1)) res.2 := by
  rw [fX9_nextSound] at h
  refine TF.go (n := 0) (ls := [some (.inr (0, 0, 0)), some (.inl (.int x1))]) rfl rfl rfl rfl rfl ?_
  refine z_aload_n (i := 0) dX9_nextSound_0 rfl rfl ?_
  refine z_getR (r' := (9, 0, 0)) dX9_nextSound_1 fl_X9_40 mk0 rfl rfl ?_
  refine z_iload_n (i := 1) dX9_nextSound_4 rfl rfl ?_
  refine z_fVi (sX0_toothFault M 0 x1 (Nat.le_of_ble_eq_true rfl)) dX9_nextSound_5 ml_X9_214 cd_X0_toothFault (m9 _ (Nat.le_of_ble_eq_true rfl)) rfl rfl rfl rfl rfl rfl ?_
  obtain ⟨q1, hq2, h⟩ := bnd h
  refine z_fSv (sX9_refuse M (fX0_toothFault M 0 x1) hq2) dX9_nextSound_8 ml_X9_172 cd_X9_refuse rfl rfl rfl rfl rfl ?_
  refine z_aload_n (i := 0) dX9_nextSound_11 rfl rfl ?_
  refine z_getR (r' := (9, 0, 0)) dX9_nextSound_12 fl_X9_40 mk0 rfl rfl ?_
  refine z_iload_n (i := 1) dX9_nextSound_15 rfl rfl ?_
  obtain ⟨q3, hq4, h⟩ := bnd h
  refine z_fVi (sX0_soundOf q1 0 x1 (Nat.le_of_ble_eq_true rfl) hq4) dX9_nextSound_16 ml_X9_241 cd_X0_soundOf (m9 _ (Nat.le_of_ble_eq_true rfl)) rfl rfl rfl rfl rfl rfl ?_
  cases h
  exact z_iret dX9_nextSound_19 rfl rfl (Nat.le_refl _) (Nat.le_refl _) ⟨rfl, rfl⟩
theorem dX9_turnsLeft_0 : decode cX9_turnsLeft 0 = .ok (.aload_n 0, 1) := by decide +kernel
theorem dX9_turnsLeft_1 : decode cX9_turnsLeft 1 = .ok (.getfield 40, 3) := by decide +kernel
theorem dX9_turnsLeft_4 : decode cX9_turnsLeft 4 = .ok (.getfield 244, 3) := by decide +kernel
theorem dX9_turnsLeft_7 : decode cX9_turnsLeft 7 = .ok (.ireturn, 1) := by decide +kernel
def fX9_turnsLeft (M : Mm) : Int32 := (M.1 (9, 0, 0) 3)
set_option maxRecDepth 20000 in
set_option maxHeartbeats 2000000 in
theorem tX9_turnsLeft {wv : Wv} (M : Mm) {res : Int32} (h : fX9_turnsLeft M  = res) : TF wv yX9_turnsLeft cX9_turnsLeft 1 (some .int) 0 [.inr (0, 0, 0)] M (some (.int res)) M := by
  rw [fX9_turnsLeft] at h
  refine TF.go (n := 0) (ls := [some (.inr (0, 0, 0))]) rfl rfl rfl rfl rfl ?_
  refine z_aload_n (i := 0) dX9_turnsLeft_0 rfl rfl ?_
  refine z_getR (r' := (9, 0, 0)) dX9_turnsLeft_1 fl_X9_40 mk0 rfl rfl ?_
  refine z_getI (x := (M.1 (9, 0, 0) 3)) dX9_turnsLeft_4 fl_X9_244 (m9 _ (Nat.le_of_ble_eq_true rfl)) rfl rfl ?_
  subst h
  exact z_iret dX9_turnsLeft_7 rfl rfl (Nat.le_refl _) (Nat.le_refl _) ⟨rfl, rfl⟩
theorem sX9_turnsLeft {wv : Wv} (M : Mm) : TF wv yX9_turnsLeft cX9_turnsLeft 1 (some .int) 0 [.inr (0, 0, 0)] M (some (.int (fX9_turnsLeft M ))) M := tX9_turnsLeft M   rfl
