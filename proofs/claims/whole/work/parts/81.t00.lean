theorem dX9_append_0 : decode cX9_append 0 = .ok (.iload_n 1, 1) := by decide +kernel
theorem dX9_append_1 : decode cX9_append 1 = .ok (.invokestatic 98, 3) := by decide +kernel
theorem dX9_append_4 : decode cX9_append 4 = .ok (.iload_n 2, 1) := by decide +kernel
theorem dX9_append_5 : decode cX9_append 5 = .ok (.invokestatic 98, 3) := by decide +kernel
theorem dX9_append_8 : decode cX9_append 8 = .ok (.iadd, 1) := by decide +kernel
theorem dX9_append_9 : decode cX9_append 9 = .ok (.iload_n 3, 1) := by decide +kernel
theorem dX9_append_10 : decode cX9_append 10 = .ok (.invokestatic 98, 3) := by decide +kernel
theorem dX9_append_13 : decode cX9_append 13 = .ok (.iadd, 1) := by decide +kernel
theorem dX9_append_14 : decode cX9_append 14 = .ok (.iload 4, 2) := by decide +kernel
theorem dX9_append_16 : decode cX9_append 16 = .ok (.invokestatic 98, 3) := by decide +kernel
theorem dX9_append_19 : decode cX9_append 19 = .ok (.iadd, 1) := by decide +kernel
theorem dX9_append_20 : decode cX9_append 20 = .ok (.iload 5, 2) := by decide +kernel
theorem dX9_append_22 : decode cX9_append 22 = .ok (.invokestatic 98, 3) := by decide +kernel
theorem dX9_append_25 : decode cX9_append 25 = .ok (.iadd, 1) := by decide +kernel
theorem dX9_append_26 : decode cX9_append 26 = .ok (.istore 6, 2) := by decide +kernel
theorem dX9_append_28 : decode cX9_append 28 = .ok (.aload_n 0, 1) := by decide +kernel
theorem dX9_append_29 : decode cX9_append 29 = .ok (.getfield 14, 3) := by decide +kernel
theorem dX9_append_32 : decode cX9_append 32 = .ok (.getfield 102, 3) := by decide +kernel
theorem dX9_append_35 : decode cX9_append 35 = .ok (.iload 6, 2) := by decide +kernel
theorem dX9_append_37 : decode cX9_append 37 = .ok (.iadd, 1) := by decide +kernel
theorem dX9_append_38 : decode cX9_append 38 = .ok (.sipush 800, 3) := by decide +kernel
theorem dX9_append_41 : decode cX9_append 41 = .ok (.if_icmp .le 13, 3) := by decide +kernel
theorem dX9_append_44 : decode cX9_append 44 = .ok (.new 105, 3) := by decide +kernel
theorem dX9_append_47 : decode cX9_append 47 = .ok (.dup, 1) := by decide +kernel
theorem dX9_append_48 : decode cX9_append 48 = .ok (.ldc 107, 2) := by decide +kernel
theorem dX9_append_50 : decode cX9_append 50 = .ok (.invokespecial 109, 3) := by decide +kernel
theorem dX9_append_53 : decode cX9_append 53 = .ok (.athrow, 1) := by decide +kernel
theorem dX9_append_54 : decode cX9_append 54 = .ok (.aload_n 0, 1) := by decide +kernel
theorem dX9_append_55 : decode cX9_append 55 = .ok (.iload_n 1, 1) := by decide +kernel
theorem dX9_append_56 : decode cX9_append 56 = .ok (.invokevirtual 112, 3) := by decide +kernel
theorem dX9_append_59 : decode cX9_append 59 = .ok (.aload_n 0, 1) := by decide +kernel
theorem dX9_append_60 : decode cX9_append 60 = .ok (.iload_n 2, 1) := by decide +kernel
theorem dX9_append_61 : decode cX9_append 61 = .ok (.invokevirtual 112, 3) := by decide +kernel
theorem dX9_append_64 : decode cX9_append 64 = .ok (.aload_n 0, 1) := by decide +kernel
theorem dX9_append_65 : decode cX9_append 65 = .ok (.iload_n 3, 1) := by decide +kernel
theorem dX9_append_66 : decode cX9_append 66 = .ok (.invokevirtual 112, 3) := by decide +kernel
theorem dX9_append_69 : decode cX9_append 69 = .ok (.aload_n 0, 1) := by decide +kernel
theorem dX9_append_70 : decode cX9_append 70 = .ok (.iload 4, 2) := by decide +kernel
theorem dX9_append_72 : decode cX9_append 72 = .ok (.invokevirtual 112, 3) := by decide +kernel
theorem dX9_append_75 : decode cX9_append 75 = .ok (.aload_n 0, 1) := by decide +kernel
theorem dX9_append_76 : decode cX9_append 76 = .ok (.iload 5, 2) := by decide +kernel
theorem dX9_append_78 : decode cX9_append 78 = .ok (.invokevirtual 112, 3) := by decide +kernel
theorem dX9_append_81 : decode cX9_append 81 = .ok (.aload_n 0, 1) := by decide +kernel
theorem dX9_append_82 : decode cX9_append 82 = .ok (.getfield 14, 3) := by decide +kernel
theorem dX9_append_85 : decode cX9_append 85 = .ok (.getfield 102, 3) := by decide +kernel
theorem dX9_append_88 : decode cX9_append 88 = .ok (.ireturn, 1) := by decide +kernel
def fX9_append (M : Mm) (x1 : Int32) (x2 : Int32) (x3 : Int32) (x4 : Int32) (x5 : Int32) : Option ((Int32 ⊕ Nat) × Mm) := (fX9_bytesIn M x1).bind fun q1 => (fX9_bytesIn M x2).bind fun q3 => (fX9_bytesIn M x3).bind fun q5 => (fX9_bytesIn M x4).bind fun q7 => (fX9_bytesIn M x5).bind fun q9 => if ((M.1 (1, 0, 0) 1) + ((((q1 + q3) + q5) + q7) + q9)) ≤ (800 : Int32) then ((fX9_putBytes M x1).bind fun q12 => (fX9_putBytes q12 x2).bind fun q14 => (fX9_putBytes q14 x3).bind fun q16 => (fX9_putBytes q16 x4).bind fun q18 => (fX9_putBytes q18 x5).bind fun q20 => some (.inl (q20.1 (1, 0, 0) 1), q20)) else some (.inr 0, M)
set_option maxRecDepth 20000 in
set_option maxHeartbeats 2000000 in
theorem sX9_append {wv : Nat} (M : Mm) (x1 : Int32) (x2 : Int32) (x3 : Int32) (x4 : Int32) (x5 : Int32) {res : ((Int32 ⊕ Nat) × Mm)} (h : fX9_append M x1 x2 x3 x4 x5 = some res) : Tri yX9_append (.code yX9_append cX9_append 7 (some .int)) 6 4 24 SH (allR wv) [.inr (0, 0, 0), .inl (.int x1), .inl (.int x2), .inl (.int x3), .inl (.int x4), .inl (.int x5)] M (fun v M9 => ∃ x, res.1 = .inl x ∧ v = some (.int x) ∧ M9 = res.2) (fun E M9 => ∃ e, res.1 = .inr e ∧ exs[e]? = some E ∧ M9 = res.2) := by
  rw [fX9_append] at h
  refine Tri.go (n := 1) (ls := [some (.inr (0, 0, 0)), some (.inl (.int x1)), some (.inl (.int x2)), some (.inl (.int x3)), some (.inl (.int x4)), some (.inl (.int x5)), none]) rfl rfl rfl rfl rfl ?_
  refine z_iload_n (i := 1) dX9_append_0 rfl rfl ?_
  obtain ⟨q1, hq2, h⟩ := bnd h
  refine z_fSi (sX9_bytesIn M x1 hq2) dX9_append_1 ml_X9_98 cd_X9_bytesIn rfl rfl rfl rfl rfl ?_
  refine z_iload_n (i := 2) dX9_append_4 rfl rfl ?_
  obtain ⟨q3, hq4, h⟩ := bnd h
  refine z_fSi (sX9_bytesIn M x2 hq4) dX9_append_5 ml_X9_98 cd_X9_bytesIn rfl rfl rfl rfl rfl ?_
  refine z_iadd dX9_append_8 ?_
  refine z_iload_n (i := 3) dX9_append_9 rfl rfl ?_
  obtain ⟨q5, hq6, h⟩ := bnd h
  refine z_fSi (sX9_bytesIn M x3 hq6) dX9_append_10 ml_X9_98 cd_X9_bytesIn rfl rfl rfl rfl rfl ?_
  refine z_iadd dX9_append_13 ?_
  refine z_iload (i := 4) dX9_append_14 rfl ?_
  obtain ⟨q7, hq8, h⟩ := bnd h
  refine z_fSi (sX9_bytesIn M x4 hq8) dX9_append_16 ml_X9_98 cd_X9_bytesIn rfl rfl rfl rfl rfl ?_
  refine z_iadd dX9_append_19 ?_
  refine z_iload (i := 5) dX9_append_20 rfl ?_
  obtain ⟨q9, hq10, h⟩ := bnd h
  refine z_fSi (sX9_bytesIn M x5 hq10) dX9_append_22 ml_X9_98 cd_X9_bytesIn rfl rfl rfl rfl rfl ?_
  refine z_iadd dX9_append_25 ?_
  refine z_istore (i := 6) dX9_append_26 (Nat.le_of_ble_eq_true rfl) rfl ?_
  refine z_aload_n (i := 0) dX9_append_28 rfl rfl ?_
  refine z_getR (r' := (1, 0, 0)) dX9_append_29 fl_X9_14 mk0 rfl rfl ?_
  refine z_getI (x := (M.1 (1, 0, 0) 1)) dX9_append_32 fl_X9_102 (m1 _ (Nat.le_of_ble_eq_true rfl)) rfl rfl ?_
  refine z_iload (i := 6) dX9_append_35 rfl ?_
  refine z_iadd dX9_append_37 ?_
  refine z_sipush (v := (800 : Int32)) dX9_append_38 ks_800 ?_
  refine z_icmp_le (tgt := 54) dX9_append_41 rfl (fun hc11 => ?_) (fun hc11 => ?_)
  · have h := it_t h hc11
    refine z_aload_n (i := 0) dX9_append_54 rfl rfl ?_
    refine z_iload_n (i := 1) dX9_append_55 rfl rfl ?_
    obtain ⟨q12, hq13, h⟩ := bnd h
    refine z_fVv (sX9_putBytes M x1 hq13) dX9_append_56 ml_X9_112 cd_X9_putBytes mk0 rfl rfl rfl rfl rfl rfl ?_
    refine z_aload_n (i := 0) dX9_append_59 rfl rfl ?_
    refine z_iload_n (i := 2) dX9_append_60 rfl rfl ?_
    obtain ⟨q14, hq15, h⟩ := bnd h
    refine z_fVv (sX9_putBytes q12 x2 hq15) dX9_append_61 ml_X9_112 cd_X9_putBytes mk0 rfl rfl rfl rfl rfl rfl ?_
    refine z_aload_n (i := 0) dX9_append_64 rfl rfl ?_
    refine z_iload_n (i := 3) dX9_append_65 rfl rfl ?_
    obtain ⟨q16, hq17, h⟩ := bnd h
    refine z_fVv (sX9_putBytes q14 x3 hq17) dX9_append_66 ml_X9_112 cd_X9_putBytes mk0 rfl rfl rfl rfl rfl rfl ?_
    refine z_aload_n (i := 0) dX9_append_69 rfl rfl ?_
    refine z_iload (i := 4) dX9_append_70 rfl ?_
    obtain ⟨q18, hq19, h⟩ := bnd h
    refine z_fVv (sX9_putBytes q16 x4 hq19) dX9_append_72 ml_X9_112 cd_X9_putBytes mk0 rfl rfl rfl rfl rfl rfl ?_
    refine z_aload_n (i := 0) dX9_append_75 rfl rfl ?_
    refine z_iload (i := 5) dX9_append_76 rfl ?_
    obtain ⟨q20, hq21, h⟩ := bnd h
    refine z_fVv (sX9_putBytes q18 x5 hq21) dX9_append_78 ml_X9_112 cd_X9_putBytes mk0 rfl rfl rfl rfl rfl rfl ?_
    refine z_aload_n (i := 0) dX9_append_81 rfl rfl ?_
    refine z_getR (r' := (1, 0, 0)) dX9_append_82 fl_X9_14 mk0 rfl rfl ?_
    refine z_getI (x := (q20.1 (1, 0, 0) 1)) dX9_append_85 fl_X9_102 (m1 _ (Nat.le_of_ble_eq_true rfl)) rfl rfl ?_
    cases h
    exact z_iret dX9_append_88 rfl rfl (Nat.le_of_ble_eq_true rfl) (Nat.le_of_ble_eq_true rfl) ⟨_, rfl, rfl, rfl⟩
  · have h := it_f h hc11
    cases h
    exact z_thrS dX9_append_44 dX9_append_47 dX9_append_48 dX9_append_50 dX9_append_53 cl_105 in_109 sr_107 hat_109 gd_109 ft_109 rfl rfl ⟨0, rfl, rfl, rfl⟩
theorem dX9_truncate_0 : decode cX9_truncate 0 = .ok (.iload_n 1, 1) := by decide +kernel
theorem dX9_truncate_1 : decode cX9_truncate 1 = .ok (.ifCond .lt 14, 3) := by decide +kernel
theorem dX9_truncate_4 : decode cX9_truncate 4 = .ok (.iload_n 1, 1) := by decide +kernel
theorem dX9_truncate_5 : decode cX9_truncate 5 = .ok (.aload_n 0, 1) := by decide +kernel
theorem dX9_truncate_6 : decode cX9_truncate 6 = .ok (.getfield 14, 3) := by decide +kernel
theorem dX9_truncate_9 : decode cX9_truncate 9 = .ok (.getfield 102, 3) := by decide +kernel
theorem dX9_truncate_12 : decode cX9_truncate 12 = .ok (.if_icmp .le 13, 3) := by decide +kernel
theorem dX9_truncate_15 : decode cX9_truncate 15 = .ok (.new 115, 3) := by decide +kernel
theorem dX9_truncate_18 : decode cX9_truncate 18 = .ok (.dup, 1) := by decide +kernel
theorem dX9_truncate_19 : decode cX9_truncate 19 = .ok (.ldc 117, 2) := by decide +kernel
theorem dX9_truncate_21 : decode cX9_truncate 21 = .ok (.invokespecial 119, 3) := by decide +kernel
theorem dX9_truncate_24 : decode cX9_truncate 24 = .ok (.athrow, 1) := by decide +kernel
theorem dX9_truncate_25 : decode cX9_truncate 25 = .ok (.aload_n 0, 1) := by decide +kernel
theorem dX9_truncate_26 : decode cX9_truncate 26 = .ok (.getfield 14, 3) := by decide +kernel
theorem dX9_truncate_29 : decode cX9_truncate 29 = .ok (.getfield 102, 3) := by decide +kernel
theorem dX9_truncate_32 : decode cX9_truncate 32 = .ok (.iload_n 1, 1) := by decide +kernel
theorem dX9_truncate_33 : decode cX9_truncate 33 = .ok (.isub, 1) := by decide +kernel
theorem dX9_truncate_34 : decode cX9_truncate 34 = .ok (.istore_n 2, 1) := by decide +kernel
theorem dX9_truncate_35 : decode cX9_truncate 35 = .ok (.aload_n 0, 1) := by decide +kernel
theorem dX9_truncate_36 : decode cX9_truncate 36 = .ok (.getfield 14, 3) := by decide +kernel
theorem dX9_truncate_39 : decode cX9_truncate 39 = .ok (.iload_n 1, 1) := by decide +kernel
theorem dX9_truncate_40 : decode cX9_truncate 40 = .ok (.putfield 102, 3) := by decide +kernel
theorem dX9_truncate_43 : decode cX9_truncate 43 = .ok (.iload_n 2, 1) := by decide +kernel
theorem dX9_truncate_44 : decode cX9_truncate 44 = .ok (.ireturn, 1) := by decide +kernel
def fX9_truncate (M : Mm) (x1 : Int32) : Option ((Int32 ⊕ Nat) × Mm) := if x1 < 0 then some (.inr 1, M) else if x1 ≤ (M.1 (1, 0, 0) 1) then some (.inl ((M.1 (1, 0, 0) 1) - x1), (putI M (1, 0, 0) 1 x1)) else some (.inr 1, M)
set_option maxRecDepth 20000 in
set_option maxHeartbeats 2000000 in
theorem sX9_truncate {wv : Nat} (M : Mm) (x1 : Int32) {res : ((Int32 ⊕ Nat) × Mm)} (h : fX9_truncate M x1 = some res) : Tri yX9_truncate (.code yX9_truncate cX9_truncate 3 (some .int)) 6 4 24 SH (allR wv) [.inr (0, 0, 0), .inl (.int x1)] M (fun v M9 => ∃ x, res.1 = .inl x ∧ v = some (.int x) ∧ M9 = res.2) (fun E M9 => ∃ e, res.1 = .inr e ∧ exs[e]? = some E ∧ M9 = res.2) := by
  rw [fX9_truncate] at h
  refine Tri.go (n := 1) (ls := [some (.inr (0, 0, 0)), some (.inl (.int x1)), none]) rfl rfl rfl rfl rfl ?_
  refine z_iload_n (i := 1) dX9_truncate_0 rfl rfl ?_
  refine z_if_lt (tgt := 15) dX9_truncate_1 rfl (fun hc1 => ?_) (fun hc1 => ?_)
  · have h := it_t h hc1
    cases h
    exact z_thrS dX9_truncate_15 dX9_truncate_18 dX9_truncate_19 dX9_truncate_21 dX9_truncate_24 cl_115 in_119 sr_117 hat_119 gd_119 ft_119 rfl rfl ⟨1, rfl, rfl, rfl⟩
  · have h := it_f h hc1
    refine z_iload_n (i := 1) dX9_truncate_4 rfl rfl ?_
    refine z_aload_n (i := 0) dX9_truncate_5 rfl rfl ?_
    refine z_getR (r' := (1, 0, 0)) dX9_truncate_6 fl_X9_14 mk0 rfl rfl ?_
    refine z_getI (x := (M.1 (1, 0, 0) 1)) dX9_truncate_9 fl_X9_102 (m1 _ (Nat.le_of_ble_eq_true rfl)) rfl rfl ?_
    refine z_icmp_le (tgt := 25) dX9_truncate_12 rfl (fun hc2 => ?_) (fun hc2 => ?_)
    · have h := it_t h hc2
      refine z_aload_n (i := 0) dX9_truncate_25 rfl rfl ?_
      refine z_getR (r' := (1, 0, 0)) dX9_truncate_26 fl_X9_14 mk0 rfl rfl ?_
      refine z_getI (x := (M.1 (1, 0, 0) 1)) dX9_truncate_29 fl_X9_102 (m1 _ (Nat.le_of_ble_eq_true rfl)) rfl rfl ?_
      refine z_iload_n (i := 1) dX9_truncate_32 rfl rfl ?_
      refine z_isub dX9_truncate_33 ?_
      refine z_istore_n (i := 2) dX9_truncate_34 rfl (Nat.le_of_ble_eq_true rfl) rfl ?_
      refine z_aload_n (i := 0) dX9_truncate_35 rfl rfl ?_
      refine z_getR (r' := (1, 0, 0)) dX9_truncate_36 fl_X9_14 mk0 rfl rfl ?_
      refine z_iload_n (i := 1) dX9_truncate_39 rfl rfl ?_
      refine z_putI allR_nd dX9_truncate_40 fl_X9_102 (m1 _ (Nat.le_of_ble_eq_true rfl)) rfl rfl ?_
      refine z_iload_n (i := 2) dX9_truncate_43 rfl rfl ?_
      cases h
      exact z_iret dX9_truncate_44 rfl rfl (Nat.le_of_ble_eq_true rfl) (Nat.le_of_ble_eq_true rfl) ⟨_, rfl, rfl, rfl⟩
    · have h := it_f h hc2
      cases h
      exact z_thrS dX9_truncate_15 dX9_truncate_18 dX9_truncate_19 dX9_truncate_21 dX9_truncate_24 cl_115 in_119 sr_117 hat_119 gd_119 ft_119 rfl rfl ⟨1, rfl, rfl, rfl⟩
theorem dX9_isPin_0 : decode cX9_isPin 0 = .ok (.aload_n 0, 1) := by decide +kernel
theorem dX9_isPin_1 : decode cX9_isPin 1 = .ok (.getfield 40, 3) := by decide +kernel
theorem dX9_isPin_4 : decode cX9_isPin 4 = .ok (.iload_n 1, 1) := by decide +kernel
theorem dX9_isPin_5 : decode cX9_isPin 5 = .ok (.iload_n 2, 1) := by decide +kernel
theorem dX9_isPin_6 : decode cX9_isPin 6 = .ok (.iload_n 3, 1) := by decide +kernel
theorem dX9_isPin_7 : decode cX9_isPin 7 = .ok (.invokevirtual 168, 3) := by decide +kernel
theorem dX9_isPin_10 : decode cX9_isPin 10 = .ok (.invokestatic 172, 3) := by decide +kernel
theorem dX9_isPin_13 : decode cX9_isPin 13 = .ok (.aload_n 0, 1) := by decide +kernel
theorem dX9_isPin_14 : decode cX9_isPin 14 = .ok (.getfield 40, 3) := by decide +kernel
theorem dX9_isPin_17 : decode cX9_isPin 17 = .ok (.getfield 153, 3) := by decide +kernel
theorem dX9_isPin_20 : decode cX9_isPin 20 = .ok (.iload_n 1, 1) := by decide +kernel
theorem dX9_isPin_21 : decode cX9_isPin 21 = .ok (.iload_n 2, 1) := by decide +kernel
theorem dX9_isPin_22 : decode cX9_isPin 22 = .ok (.iload_n 3, 1) := by decide +kernel
theorem dX9_isPin_23 : decode cX9_isPin 23 = .ok (.invokevirtual 175, 3) := by decide +kernel
theorem dX9_isPin_26 : decode cX9_isPin 26 = .ok (.ireturn, 1) := by decide +kernel
def fX9_isPin (M : Mm) (x1 : Int32) (x2 : Int32) (x3 : Int32) : Option ((Int32 ⊕ Nat) × Mm) := thr (rfz (fX0_placeFault M 0 x1 x2 x3)) M ((fX3_hasPin M 0 x1 x2 x3).bind fun q2 => some (.inl (bz q2), M))
set_option maxRecDepth 20000 in
set_option maxHeartbeats 2000000 in
theorem sX9_isPin {wv : Nat} (M : Mm) (x1 : Int32) (x2 : Int32) (x3 : Int32) {res : ((Int32 ⊕ Nat) × Mm)} (h : fX9_isPin M x1 x2 x3 = some res) : Tri yX9_isPin (.code yX9_isPin cX9_isPin 4 (some .boolean)) 7 4 24 SH (allR wv) [.inr (0, 0, 0), .inl (.int x1), .inl (.int x2), .inl (.int x3)] M (fun v M9 => ∃ x, res.1 = .inl x ∧ v = some (.int x) ∧ M9 = res.2) (fun E M9 => ∃ e, res.1 = .inr e ∧ exs[e]? = some E ∧ M9 = res.2) := by
  rw [fX9_isPin] at h
  refine Tri.go (n := 0) (ls := [some (.inr (0, 0, 0)), some (.inl (.int x1)), some (.inl (.int x2)), some (.inl (.int x3))]) rfl rfl rfl rfl rfl ?_
  refine z_aload_n (i := 0) dX9_isPin_0 rfl rfl ?_
  refine z_getR (r' := (9, 0, 0)) dX9_isPin_1 fl_X9_40 mk0 rfl rfl ?_
  refine z_iload_n (i := 1) dX9_isPin_4 rfl rfl ?_
  refine z_iload_n (i := 2) dX9_isPin_5 rfl rfl ?_
  refine z_iload_n (i := 3) dX9_isPin_6 rfl rfl ?_
  refine z_fVi (sX0_placeFault M 0 x1 x2 x3 (Nat.le_of_ble_eq_true rfl)) dX9_isPin_7 ml_X9_168 cd_X0_placeFault (m9 _ (Nat.le_of_ble_eq_true rfl)) rfl rfl rfl rfl rfl rfl ?_
  refine z_refuse dX9_isPin_10 ml_X9_172 rfl rfl rfl (fun hr1 => ?_) (fun e E hr1 h3 => by have h4 := thr_s h hr1; cases h4; exact ⟨e, rfl, h3, rfl⟩)
  have h := thr_n h hr1
  refine z_aload_n (i := 0) dX9_isPin_13 rfl rfl ?_
  refine z_getR (r' := (9, 0, 0)) dX9_isPin_14 fl_X9_40 mk0 rfl rfl ?_
  refine z_getR (r' := (10, 0, 0)) dX9_isPin_17 fl_X9_153 (m9 _ (Nat.le_of_ble_eq_true rfl)) rfl rfl ?_
  refine z_iload_n (i := 1) dX9_isPin_20 rfl rfl ?_
  refine z_iload_n (i := 2) dX9_isPin_21 rfl rfl ?_
  refine z_iload_n (i := 3) dX9_isPin_22 rfl rfl ?_
  obtain ⟨q2, hq3, h⟩ := bnd h
  refine z_fVi (sX3_hasPin M 0 x1 x2 x3 (Nat.le_of_ble_eq_true rfl) hq3) dX9_isPin_23 ml_X9_175 cd_X3_hasPin (m10 _ (Nat.le_of_ble_eq_true rfl)) rfl rfl rfl rfl rfl rfl ?_
  cases h
  exact z_iret dX9_isPin_26 rfl (bz_ok _) (Nat.le_of_ble_eq_true rfl) (Nat.le_of_ble_eq_true rfl) ⟨_, rfl, rfl, rfl⟩
theorem dX9_pinCount_0 : decode cX9_pinCount 0 = .ok (.aload_n 0, 1) := by decide +kernel
theorem dX9_pinCount_1 : decode cX9_pinCount 1 = .ok (.getfield 40, 3) := by decide +kernel
theorem dX9_pinCount_4 : decode cX9_pinCount 4 = .ok (.iload_n 1, 1) := by decide +kernel
theorem dX9_pinCount_5 : decode cX9_pinCount 5 = .ok (.invokevirtual 179, 3) := by decide +kernel
theorem dX9_pinCount_8 : decode cX9_pinCount 8 = .ok (.invokestatic 172, 3) := by decide +kernel
theorem dX9_pinCount_11 : decode cX9_pinCount 11 = .ok (.aload_n 0, 1) := by decide +kernel
theorem dX9_pinCount_12 : decode cX9_pinCount 12 = .ok (.getfield 40, 3) := by decide +kernel
theorem dX9_pinCount_15 : decode cX9_pinCount 15 = .ok (.getfield 153, 3) := by decide +kernel
theorem dX9_pinCount_18 : decode cX9_pinCount 18 = .ok (.iload_n 1, 1) := by decide +kernel
theorem dX9_pinCount_19 : decode cX9_pinCount 19 = .ok (.invokevirtual 182, 3) := by decide +kernel
theorem dX9_pinCount_22 : decode cX9_pinCount 22 = .ok (.ireturn, 1) := by decide +kernel
def fX9_pinCount (M : Mm) (x1 : Int32) : Option ((Int32 ⊕ Nat) × Mm) := thr (rfz (fX0_tuneFault M 0 x1)) M ((fX3_pinsOf M 0 x1).bind fun q2 => some (.inl q2, M))
set_option maxRecDepth 20000 in
set_option maxHeartbeats 2000000 in
theorem sX9_pinCount {wv : Nat} (M : Mm) (x1 : Int32) {res : ((Int32 ⊕ Nat) × Mm)} (h : fX9_pinCount M x1 = some res) : Tri yX9_pinCount (.code yX9_pinCount cX9_pinCount 2 (some .int)) 7 4 24 SH (allR wv) [.inr (0, 0, 0), .inl (.int x1)] M (fun v M9 => ∃ x, res.1 = .inl x ∧ v = some (.int x) ∧ M9 = res.2) (fun E M9 => ∃ e, res.1 = .inr e ∧ exs[e]? = some E ∧ M9 = res.2) := by
  rw [fX9_pinCount] at h
  refine Tri.go (n := 0) (ls := [some (.inr (0, 0, 0)), some (.inl (.int x1))]) rfl rfl rfl rfl rfl ?_
  refine z_aload_n (i := 0) dX9_pinCount_0 rfl rfl ?_
  refine z_getR (r' := (9, 0, 0)) dX9_pinCount_1 fl_X9_40 mk0 rfl rfl ?_
  refine z_iload_n (i := 1) dX9_pinCount_4 rfl rfl ?_
  refine z_fVi (sX0_tuneFault M 0 x1 (Nat.le_of_ble_eq_true rfl)) dX9_pinCount_5 ml_X9_179 cd_X0_tuneFault (m9 _ (Nat.le_of_ble_eq_true rfl)) rfl rfl rfl rfl rfl rfl ?_
  refine z_refuse dX9_pinCount_8 ml_X9_172 rfl rfl rfl (fun hr1 => ?_) (fun e E hr1 h3 => by have h4 := thr_s h hr1; cases h4; exact ⟨e, rfl, h3, rfl⟩)
  have h := thr_n h hr1
  refine z_aload_n (i := 0) dX9_pinCount_11 rfl rfl ?_
  refine z_getR (r' := (9, 0, 0)) dX9_pinCount_12 fl_X9_40 mk0 rfl rfl ?_
  refine z_getR (r' := (10, 0, 0)) dX9_pinCount_15 fl_X9_153 (m9 _ (Nat.le_of_ble_eq_true rfl)) rfl rfl ?_
  refine z_iload_n (i := 1) dX9_pinCount_18 rfl rfl ?_
  obtain ⟨q2, hq3, h⟩ := bnd h
  refine z_fVi (sX3_pinsOf M 0 x1 (Nat.le_of_ble_eq_true rfl) hq3) dX9_pinCount_19 ml_X9_182 cd_X3_pinsOf (m10 _ (Nat.le_of_ble_eq_true rfl)) rfl rfl rfl rfl rfl rfl ?_
  cases h
  exact z_iret dX9_pinCount_22 rfl rfl (Nat.le_of_ble_eq_true rfl) (Nat.le_of_ble_eq_true rfl) ⟨_, rfl, rfl, rfl⟩
theorem dX9_chord_0 : decode cX9_chord 0 = .ok (.aload_n 0, 1) := by decide +kernel
theorem dX9_chord_1 : decode cX9_chord 1 = .ok (.getfield 40, 3) := by decide +kernel
theorem dX9_chord_4 : decode cX9_chord 4 = .ok (.iload_n 1, 1) := by decide +kernel
theorem dX9_chord_5 : decode cX9_chord 5 = .ok (.invokevirtual 179, 3) := by decide +kernel
theorem dX9_chord_8 : decode cX9_chord 8 = .ok (.aload_n 0, 1) := by decide +kernel
theorem dX9_chord_9 : decode cX9_chord 9 = .ok (.getfield 40, 3) := by decide +kernel
theorem dX9_chord_12 : decode cX9_chord 12 = .ok (.iload_n 2, 1) := by decide +kernel
theorem dX9_chord_13 : decode cX9_chord 13 = .ok (.invokevirtual 185, 3) := by decide +kernel
theorem dX9_chord_16 : decode cX9_chord 16 = .ok (.invokestatic 188, 3) := by decide +kernel
theorem dX9_chord_19 : decode cX9_chord 19 = .ok (.invokestatic 172, 3) := by decide +kernel
theorem dX9_chord_22 : decode cX9_chord 22 = .ok (.aload_n 0, 1) := by decide +kernel
theorem dX9_chord_23 : decode cX9_chord 23 = .ok (.getfield 40, 3) := by decide +kernel
theorem dX9_chord_26 : decode cX9_chord 26 = .ok (.getfield 153, 3) := by decide +kernel
theorem dX9_chord_29 : decode cX9_chord 29 = .ok (.iload_n 1, 1) := by decide +kernel
theorem dX9_chord_30 : decode cX9_chord 30 = .ok (.iload_n 2, 1) := by decide +kernel
theorem dX9_chord_31 : decode cX9_chord 31 = .ok (.invokevirtual 194, 3) := by decide +kernel
theorem dX9_chord_34 : decode cX9_chord 34 = .ok (.ireturn, 1) := by decide +kernel
def fX9_chord (M : Mm) (x1 : Int32) (x2 : Int32) : Option ((Int32 ⊕ Nat) × Mm) := thr (rfz (fJ9_max_7cf53 M (fX0_tuneFault M 0 x1) (fX0_stepFault M 0 x2))) M ((fX3_teethAt M 0 x1 x2).bind fun q2 => some (.inl q2, M))
set_option maxRecDepth 20000 in
set_option maxHeartbeats 2000000 in
theorem sX9_chord {wv : Nat} (M : Mm) (x1 : Int32) (x2 : Int32) {res : ((Int32 ⊕ Nat) × Mm)} (h : fX9_chord M x1 x2 = some res) : Tri yX9_chord (.code yX9_chord cX9_chord 3 (some .int)) 7 4 24 SH (allR wv) [.inr (0, 0, 0), .inl (.int x1), .inl (.int x2)] M (fun v M9 => ∃ x, res.1 = .inl x ∧ v = some (.int x) ∧ M9 = res.2) (fun E M9 => ∃ e, res.1 = .inr e ∧ exs[e]? = some E ∧ M9 = res.2) := by
  rw [fX9_chord] at h
  refine Tri.go (n := 0) (ls := [some (.inr (0, 0, 0)), some (.inl (.int x1)), some (.inl (.int x2))]) rfl rfl rfl rfl rfl ?_
  refine z_aload_n (i := 0) dX9_chord_0 rfl rfl ?_
  refine z_getR (r' := (9, 0, 0)) dX9_chord_1 fl_X9_40 mk0 rfl rfl ?_
  refine z_iload_n (i := 1) dX9_chord_4 rfl rfl ?_
  refine z_fVi (sX0_tuneFault M 0 x1 (Nat.le_of_ble_eq_true rfl)) dX9_chord_5 ml_X9_179 cd_X0_tuneFault (m9 _ (Nat.le_of_ble_eq_true rfl)) rfl rfl rfl rfl rfl rfl ?_
  refine z_aload_n (i := 0) dX9_chord_8 rfl rfl ?_
  refine z_getR (r' := (9, 0, 0)) dX9_chord_9 fl_X9_40 mk0 rfl rfl ?_
  refine z_iload_n (i := 2) dX9_chord_12 rfl rfl ?_
  refine z_fVi (sX0_stepFault M 0 x2 (Nat.le_of_ble_eq_true rfl)) dX9_chord_13 ml_X9_185 cd_X0_stepFault (m9 _ (Nat.le_of_ble_eq_true rfl)) rfl rfl rfl rfl rfl rfl ?_
  refine z_fSi (sJ9_max_7cf53 M (fX0_tuneFault M 0 x1) (fX0_stepFault M 0 x2)) dX9_chord_16 ml_X9_188 cd_J9_max_7cf53 rfl rfl rfl rfl rfl ?_
  refine z_refuse dX9_chord_19 ml_X9_172 rfl rfl rfl (fun hr1 => ?_) (fun e E hr1 h3 => by have h4 := thr_s h hr1; cases h4; exact ⟨e, rfl, h3, rfl⟩)
  have h := thr_n h hr1
  refine z_aload_n (i := 0) dX9_chord_22 rfl rfl ?_
  refine z_getR (r' := (9, 0, 0)) dX9_chord_23 fl_X9_40 mk0 rfl rfl ?_
  refine z_getR (r' := (10, 0, 0)) dX9_chord_26 fl_X9_153 (m9 _ (Nat.le_of_ble_eq_true rfl)) rfl rfl ?_
  refine z_iload_n (i := 1) dX9_chord_29 rfl rfl ?_
  refine z_iload_n (i := 2) dX9_chord_30 rfl rfl ?_
  obtain ⟨q2, hq3, h⟩ := bnd h
  refine z_fVi (sX3_teethAt M 0 x1 x2 (Nat.le_of_ble_eq_true rfl) hq3) dX9_chord_31 ml_X9_194 cd_X3_teethAt (m10 _ (Nat.le_of_ble_eq_true rfl)) rfl rfl rfl rfl rfl rfl ?_
  cases h
  exact z_iret dX9_chord_34 rfl rfl (Nat.le_of_ble_eq_true rfl) (Nat.le_of_ble_eq_true rfl) ⟨_, rfl, rfl, rfl⟩
theorem dX9_distance_0 : decode cX9_distance 0 = .ok (.aload_n 0, 1) := by decide +kernel
theorem dX9_distance_1 : decode cX9_distance 1 = .ok (.getfield 40, 3) := by decide +kernel
theorem dX9_distance_4 : decode cX9_distance 4 = .ok (.iload_n 1, 1) := by decide +kernel
theorem dX9_distance_5 : decode cX9_distance 5 = .ok (.iload_n 2, 1) := by decide +kernel
theorem dX9_distance_6 : decode cX9_distance 6 = .ok (.iload_n 3, 1) := by decide +kernel
theorem dX9_distance_7 : decode cX9_distance 7 = .ok (.invokevirtual 168, 3) := by decide +kernel
theorem dX9_distance_10 : decode cX9_distance 10 = .ok (.invokestatic 172, 3) := by decide +kernel
theorem dX9_distance_13 : decode cX9_distance 13 = .ok (.aload_n 0, 1) := by decide +kernel
theorem dX9_distance_14 : decode cX9_distance 14 = .ok (.getfield 40, 3) := by decide +kernel
theorem dX9_distance_17 : decode cX9_distance 17 = .ok (.getfield 153, 3) := by decide +kernel
theorem dX9_distance_20 : decode cX9_distance 20 = .ok (.iload_n 1, 1) := by decide +kernel
theorem dX9_distance_21 : decode cX9_distance 21 = .ok (.iload_n 2, 1) := by decide +kernel
theorem dX9_distance_22 : decode cX9_distance 22 = .ok (.iload_n 3, 1) := by decide +kernel
theorem dX9_distance_23 : decode cX9_distance 23 = .ok (.invokevirtual 175, 3) := by decide +kernel
theorem dX9_distance_26 : decode cX9_distance 26 = .ok (.ifCond .ne 13, 3) := by decide +kernel
theorem dX9_distance_29 : decode cX9_distance 29 = .ok (.new 197, 3) := by decide +kernel
theorem dX9_distance_32 : decode cX9_distance 32 = .ok (.dup, 1) := by decide +kernel
theorem dX9_distance_33 : decode cX9_distance 33 = .ok (.ldc 199, 2) := by decide +kernel
theorem dX9_distance_35 : decode cX9_distance 35 = .ok (.invokespecial 201, 3) := by decide +kernel
theorem dX9_distance_38 : decode cX9_distance 38 = .ok (.athrow, 1) := by decide +kernel
theorem dX9_distance_39 : decode cX9_distance 39 = .ok (.aload_n 0, 1) := by decide +kernel
theorem dX9_distance_40 : decode cX9_distance 40 = .ok (.getfield 40, 3) := by decide +kernel
theorem dX9_distance_43 : decode cX9_distance 43 = .ok (.getfield 153, 3) := by decide +kernel
theorem dX9_distance_46 : decode cX9_distance 46 = .ok (.iload_n 1, 1) := by decide +kernel
theorem dX9_distance_47 : decode cX9_distance 47 = .ok (.iload_n 2, 1) := by decide +kernel
theorem dX9_distance_48 : decode cX9_distance 48 = .ok (.iload_n 3, 1) := by decide +kernel
theorem dX9_distance_49 : decode cX9_distance 49 = .ok (.invokevirtual 202, 3) := by decide +kernel
theorem dX9_distance_52 : decode cX9_distance 52 = .ok (.ireturn, 1) := by decide +kernel
def fX9_distance (M : Mm) (x1 : Int32) (x2 : Int32) (x3 : Int32) : Option ((Int32 ⊕ Nat) × Mm) := thr (rfz (fX0_placeFault M 0 x1 x2 x3)) M ((fX3_hasPin M 0 x1 x2 x3).bind fun q2 => if q2 = 0 then some (.inr 3, M) else (fX3_stepsBack M 0 x1 x2 x3).bind fun q5 => some (.inl q5, M))
set_option maxRecDepth 20000 in
set_option maxHeartbeats 2000000 in
theorem sX9_distance {wv : Nat} (M : Mm) (x1 : Int32) (x2 : Int32) (x3 : Int32) {res : ((Int32 ⊕ Nat) × Mm)} (h : fX9_distance M x1 x2 x3 = some res) : Tri yX9_distance (.code yX9_distance cX9_distance 4 (some .int)) 7 4 24 SH (allR wv) [.inr (0, 0, 0), .inl (.int x1), .inl (.int x2), .inl (.int x3)] M (fun v M9 => ∃ x, res.1 = .inl x ∧ v = some (.int x) ∧ M9 = res.2) (fun E M9 => ∃ e, res.1 = .inr e ∧ exs[e]? = some E ∧ M9 = res.2) := by
  rw [fX9_distance] at h
  refine Tri.go (n := 0) (ls := [some (.inr (0, 0, 0)), some (.inl (.int x1)), some (.inl (.int x2)), some (.inl (.int x3))]) rfl rfl rfl rfl rfl ?_
  refine z_aload_n (i := 0) dX9_distance_0 rfl rfl ?_
  refine z_getR (r' := (9, 0, 0)) dX9_distance_1 fl_X9_40 mk0 rfl rfl ?_
  refine z_iload_n (i := 1) dX9_distance_4 rfl rfl ?_
  refine z_iload_n (i := 2) dX9_distance_5 rfl rfl ?_
  refine z_iload_n (i := 3) dX9_distance_6 rfl rfl ?_
  refine z_fVi (sX0_placeFault M 0 x1 x2 x3 (Nat.le_of_ble_eq_true rfl)) dX9_distance_7 ml_X9_168 cd_X0_placeFault (m9 _ (Nat.le_of_ble_eq_true rfl)) rfl rfl rfl rfl rfl rfl ?_
  refine z_refuse dX9_distance_10 ml_X9_172 rfl rfl rfl (fun hr1 => ?_) (fun e E hr1 h3 => by have h4 := thr_s h hr1; cases h4; exact ⟨e, rfl, h3, rfl⟩)
  have h := thr_n h hr1
  refine z_aload_n (i := 0) dX9_distance_13 rfl rfl ?_
  refine z_getR (r' := (9, 0, 0)) dX9_distance_14 fl_X9_40 mk0 rfl rfl ?_
  refine z_getR (r' := (10, 0, 0)) dX9_distance_17 fl_X9_153 (m9 _ (Nat.le_of_ble_eq_true rfl)) rfl rfl ?_
  refine z_iload_n (i := 1) dX9_distance_20 rfl rfl ?_
  refine z_iload_n (i := 2) dX9_distance_21 rfl rfl ?_
  refine z_iload_n (i := 3) dX9_distance_22 rfl rfl ?_
  obtain ⟨q2, hq3, h⟩ := bnd h
  refine z_fVi (sX3_hasPin M 0 x1 x2 x3 (Nat.le_of_ble_eq_true rfl) hq3) dX9_distance_23 ml_X9_175 cd_X3_hasPin (m10 _ (Nat.le_of_ble_eq_true rfl)) rfl rfl rfl rfl rfl rfl ?_
  refine z_if_ne (tgt := 39) dX9_distance_26 rfl (fun hc4 => ?_) (fun hc4 => ?_)
  · have h := it_f h hc4
    refine z_aload_n (i := 0) dX9_distance_39 rfl rfl ?_
    refine z_getR (r' := (9, 0, 0)) dX9_distance_40 fl_X9_40 mk0 rfl rfl ?_
    refine z_getR (r' := (10, 0, 0)) dX9_distance_43 fl_X9_153 (m9 _ (Nat.le_of_ble_eq_true rfl)) rfl rfl ?_
    refine z_iload_n (i := 1) dX9_distance_46 rfl rfl ?_
    refine z_iload_n (i := 2) dX9_distance_47 rfl rfl ?_
    refine z_iload_n (i := 3) dX9_distance_48 rfl rfl ?_
    obtain ⟨q5, hq6, h⟩ := bnd h
    refine z_fVi (sX3_stepsBack M 0 x1 x2 x3 (Nat.le_of_ble_eq_true rfl) hq6) dX9_distance_49 ml_X9_202 cd_X3_stepsBack (m10 _ (Nat.le_of_ble_eq_true rfl)) rfl rfl rfl rfl rfl rfl ?_
    cases h
    exact z_iret dX9_distance_52 rfl rfl (Nat.le_of_ble_eq_true rfl) (Nat.le_of_ble_eq_true rfl) ⟨_, rfl, rfl, rfl⟩
  · have h := it_t h hc4
    cases h
    exact z_thrNS dX9_distance_29 dX9_distance_32 dX9_distance_33 dX9_distance_35 dX9_distance_38 sr_199 rfl rfl ⟨3, rfl, rfl, rfl⟩
theorem dX9_closePins_0 : decode cX9_closePins 0 = .ok (.aload_n 0, 1) := by decide +kernel
theorem dX9_closePins_1 : decode cX9_closePins 1 = .ok (.getfield 40, 3) := by decide +kernel
theorem dX9_closePins_4 : decode cX9_closePins 4 = .ok (.iload_n 1, 1) := by decide +kernel
theorem dX9_closePins_5 : decode cX9_closePins 5 = .ok (.invokevirtual 179, 3) := by decide +kernel
theorem dX9_closePins_8 : decode cX9_closePins 8 = .ok (.invokestatic 172, 3) := by decide +kernel
theorem dX9_closePins_11 : decode cX9_closePins 11 = .ok (.aload_n 0, 1) := by decide +kernel
theorem dX9_closePins_12 : decode cX9_closePins 12 = .ok (.getfield 40, 3) := by decide +kernel
theorem dX9_closePins_15 : decode cX9_closePins 15 = .ok (.iload_n 1, 1) := by decide +kernel
theorem dX9_closePins_16 : decode cX9_closePins 16 = .ok (.invokevirtual 205, 3) := by decide +kernel
theorem dX9_closePins_19 : decode cX9_closePins 19 = .ok (.ireturn, 1) := by decide +kernel
def fX9_closePins (M : Mm) (x1 : Int32) : Option ((Int32 ⊕ Nat) × Mm) := thr (rfz (fX0_tuneFault M 0 x1)) M ((fX0_closePinsOf M 0 x1).bind fun q2 => some (.inl q2, M))
set_option maxRecDepth 20000 in
set_option maxHeartbeats 2000000 in
theorem sX9_closePins {wv : Nat} (M : Mm) (x1 : Int32) {res : ((Int32 ⊕ Nat) × Mm)} (h : fX9_closePins M x1 = some res) : Tri yX9_closePins (.code yX9_closePins cX9_closePins 2 (some .int)) 7 4 24 SH (allR wv) [.inr (0, 0, 0), .inl (.int x1)] M (fun v M9 => ∃ x, res.1 = .inl x ∧ v = some (.int x) ∧ M9 = res.2) (fun E M9 => ∃ e, res.1 = .inr e ∧ exs[e]? = some E ∧ M9 = res.2) := by
  rw [fX9_closePins] at h
  refine Tri.go (n := 0) (ls := [some (.inr (0, 0, 0)), some (.inl (.int x1))]) rfl rfl rfl rfl rfl ?_
  refine z_aload_n (i := 0) dX9_closePins_0 rfl rfl ?_
  refine z_getR (r' := (9, 0, 0)) dX9_closePins_1 fl_X9_40 mk0 rfl rfl ?_
  refine z_iload_n (i := 1) dX9_closePins_4 rfl rfl ?_
  refine z_fVi (sX0_tuneFault M 0 x1 (Nat.le_of_ble_eq_true rfl)) dX9_closePins_5 ml_X9_179 cd_X0_tuneFault (m9 _ (Nat.le_of_ble_eq_true rfl)) rfl rfl rfl rfl rfl rfl ?_
  refine z_refuse dX9_closePins_8 ml_X9_172 rfl rfl rfl (fun hr1 => ?_) (fun e E hr1 h3 => by have h4 := thr_s h hr1; cases h4; exact ⟨e, rfl, h3, rfl⟩)
  have h := thr_n h hr1
  refine z_aload_n (i := 0) dX9_closePins_11 rfl rfl ?_
  refine z_getR (r' := (9, 0, 0)) dX9_closePins_12 fl_X9_40 mk0 rfl rfl ?_
  refine z_iload_n (i := 1) dX9_closePins_15 rfl rfl ?_
  obtain ⟨q2, hq3, h⟩ := bnd h
  refine z_fVi (sX0_closePinsOf M 0 x1 (Nat.le_of_ble_eq_true rfl) hq3) dX9_closePins_16 ml_X9_205 cd_X0_closePinsOf (m9 _ (Nat.le_of_ble_eq_true rfl)) rfl rfl rfl rfl rfl rfl ?_
  cases h
  exact z_iret dX9_closePins_19 rfl rfl (Nat.le_of_ble_eq_true rfl) (Nat.le_of_ble_eq_true rfl) ⟨_, rfl, rfl, rfl⟩
theorem dX9_longestRest_0 : decode cX9_longestRest 0 = .ok (.aload_n 0, 1) := by decide +kernel
theorem dX9_longestRest_1 : decode cX9_longestRest 1 = .ok (.getfield 40, 3) := by decide +kernel
theorem dX9_longestRest_4 : decode cX9_longestRest 4 = .ok (.iload_n 1, 1) := by decide +kernel
theorem dX9_longestRest_5 : decode cX9_longestRest 5 = .ok (.invokevirtual 179, 3) := by decide +kernel
theorem dX9_longestRest_8 : decode cX9_longestRest 8 = .ok (.invokestatic 172, 3) := by decide +kernel
theorem dX9_longestRest_11 : decode cX9_longestRest 11 = .ok (.aload_n 0, 1) := by decide +kernel
theorem dX9_longestRest_12 : decode cX9_longestRest 12 = .ok (.getfield 40, 3) := by decide +kernel
theorem dX9_longestRest_15 : decode cX9_longestRest 15 = .ok (.getfield 153, 3) := by decide +kernel
theorem dX9_longestRest_18 : decode cX9_longestRest 18 = .ok (.iload_n 1, 1) := by decide +kernel
theorem dX9_longestRest_19 : decode cX9_longestRest 19 = .ok (.invokevirtual 208, 3) := by decide +kernel
theorem dX9_longestRest_22 : decode cX9_longestRest 22 = .ok (.ireturn, 1) := by decide +kernel
def fX9_longestRest (M : Mm) (x1 : Int32) : Option ((Int32 ⊕ Nat) × Mm) := thr (rfz (fX0_tuneFault M 0 x1)) M ((fX3_longestRestOf M 0 x1).bind fun q2 => some (.inl q2, M))
set_option maxRecDepth 20000 in
set_option maxHeartbeats 2000000 in
theorem sX9_longestRest {wv : Nat} (M : Mm) (x1 : Int32) {res : ((Int32 ⊕ Nat) × Mm)} (h : fX9_longestRest M x1 = some res) : Tri yX9_longestRest (.code yX9_longestRest cX9_longestRest 2 (some .int)) 7 4 24 SH (allR wv) [.inr (0, 0, 0), .inl (.int x1)] M (fun v M9 => ∃ x, res.1 = .inl x ∧ v = some (.int x) ∧ M9 = res.2) (fun E M9 => ∃ e, res.1 = .inr e ∧ exs[e]? = some E ∧ M9 = res.2) := by
  rw [fX9_longestRest] at h
  refine Tri.go (n := 0) (ls := [some (.inr (0, 0, 0)), some (.inl (.int x1))]) rfl rfl rfl rfl rfl ?_
  refine z_aload_n (i := 0) dX9_longestRest_0 rfl rfl ?_
  refine z_getR (r' := (9, 0, 0)) dX9_longestRest_1 fl_X9_40 mk0 rfl rfl ?_
  refine z_iload_n (i := 1) dX9_longestRest_4 rfl rfl ?_
  refine z_fVi (sX0_tuneFault M 0 x1 (Nat.le_of_ble_eq_true rfl)) dX9_longestRest_5 ml_X9_179 cd_X0_tuneFault (m9 _ (Nat.le_of_ble_eq_true rfl)) rfl rfl rfl rfl rfl rfl ?_
  refine z_refuse dX9_longestRest_8 ml_X9_172 rfl rfl rfl (fun hr1 => ?_) (fun e E hr1 h3 => by have h4 := thr_s h hr1; cases h4; exact ⟨e, rfl, h3, rfl⟩)
  have h := thr_n h hr1
  refine z_aload_n (i := 0) dX9_longestRest_11 rfl rfl ?_
  refine z_getR (r' := (9, 0, 0)) dX9_longestRest_12 fl_X9_40 mk0 rfl rfl ?_
  refine z_getR (r' := (10, 0, 0)) dX9_longestRest_15 fl_X9_153 (m9 _ (Nat.le_of_ble_eq_true rfl)) rfl rfl ?_
  refine z_iload_n (i := 1) dX9_longestRest_18 rfl rfl ?_
  obtain ⟨q2, hq3, h⟩ := bnd h
  refine z_fVi (sX3_longestRestOf M 0 x1 (Nat.le_of_ble_eq_true rfl) hq3) dX9_longestRest_19 ml_X9_208 cd_X3_longestRestOf (m10 _ (Nat.le_of_ble_eq_true rfl)) rfl rfl rfl rfl rfl rfl ?_
  cases h
  exact z_iret dX9_longestRest_22 rfl rfl (Nat.le_of_ble_eq_true rfl) (Nat.le_of_ble_eq_true rfl) ⟨_, rfl, rfl, rfl⟩
theorem dX9_soundingPitch_0 : decode cX9_soundingPitch 0 = .ok (.aload_n 0, 1) := by decide +kernel
theorem dX9_soundingPitch_1 : decode cX9_soundingPitch 1 = .ok (.getfield 40, 3) := by decide +kernel
theorem dX9_soundingPitch_4 : decode cX9_soundingPitch 4 = .ok (.iload_n 1, 1) := by decide +kernel
theorem dX9_soundingPitch_5 : decode cX9_soundingPitch 5 = .ok (.invokevirtual 214, 3) := by decide +kernel
theorem dX9_soundingPitch_8 : decode cX9_soundingPitch 8 = .ok (.invokestatic 172, 3) := by decide +kernel
theorem dX9_soundingPitch_11 : decode cX9_soundingPitch 11 = .ok (.aload_n 0, 1) := by decide +kernel
theorem dX9_soundingPitch_12 : decode cX9_soundingPitch 12 = .ok (.getfield 40, 3) := by decide +kernel
theorem dX9_soundingPitch_15 : decode cX9_soundingPitch 15 = .ok (.getfield 217, 3) := by decide +kernel
theorem dX9_soundingPitch_18 : decode cX9_soundingPitch 18 = .ok (.iload_n 1, 1) := by decide +kernel
theorem dX9_soundingPitch_19 : decode cX9_soundingPitch 19 = .ok (.aaload, 1) := by decide +kernel
theorem dX9_soundingPitch_20 : decode cX9_soundingPitch 20 = .ok (.invokevirtual 221, 3) := by decide +kernel
theorem dX9_soundingPitch_23 : decode cX9_soundingPitch 23 = .ok (.ireturn, 1) := by decide +kernel
def fX9_soundingPitch (M : Mm) (x1 : Int32) : Option ((Int32 ⊕ Nat) × Mm) := thr (rfz (fX0_toothFault M 0 x1)) M (if x1 < 0 ∨ 12 ≤ x1.toNatClampNeg then none else some (.inl (fX8_pitchNow M 0 x1.toNatClampNeg), M))
set_option maxRecDepth 20000 in
set_option maxHeartbeats 2000000 in
theorem sX9_soundingPitch {wv : Nat} (M : Mm) (x1 : Int32) {res : ((Int32 ⊕ Nat) × Mm)} (h : fX9_soundingPitch M x1 = some res) : Tri yX9_soundingPitch (.code yX9_soundingPitch cX9_soundingPitch 2 (some .int)) 7 4 24 SH (allR wv) [.inr (0, 0, 0), .inl (.int x1)] M (fun v M9 => ∃ x, res.1 = .inl x ∧ v = some (.int x) ∧ M9 = res.2) (fun E M9 => ∃ e, res.1 = .inr e ∧ exs[e]? = some E ∧ M9 = res.2) := by
  rw [fX9_soundingPitch] at h
  refine Tri.go (n := 0) (ls := [some (.inr (0, 0, 0)), some (.inl (.int x1))]) rfl rfl rfl rfl rfl ?_
  refine z_aload_n (i := 0) dX9_soundingPitch_0 rfl rfl ?_
  refine z_getR (r' := (9, 0, 0)) dX9_soundingPitch_1 fl_X9_40 mk0 rfl rfl ?_
  refine z_iload_n (i := 1) dX9_soundingPitch_4 rfl rfl ?_
  refine z_fVi (sX0_toothFault M 0 x1 (Nat.le_of_ble_eq_true rfl)) dX9_soundingPitch_5 ml_X9_214 cd_X0_toothFault (m9 _ (Nat.le_of_ble_eq_true rfl)) rfl rfl rfl rfl rfl rfl ?_
  refine z_refuse dX9_soundingPitch_8 ml_X9_172 rfl rfl rfl (fun hr1 => ?_) (fun e E hr1 h3 => by have h4 := thr_s h hr1; cases h4; exact ⟨e, rfl, h3, rfl⟩)
  have h := thr_n h hr1
  refine z_aload_n (i := 0) dX9_soundingPitch_11 rfl rfl ?_
  refine z_getR (r' := (9, 0, 0)) dX9_soundingPitch_12 fl_X9_40 mk0 rfl rfl ?_
  refine z_getR (r' := (12, 0, 0)) dX9_soundingPitch_15 fl_X9_217 (m9 _ (Nat.le_of_ble_eq_true rfl)) rfl rfl ?_
  refine z_iload_n (i := 1) dX9_soundingPitch_18 rfl rfl ?_
  obtain ⟨hc2, h⟩ := chk h
  refine z_aald (t := 0) (r' := (13, 0, x1.toNatClampNeg)) dX9_soundingPitch_19 (m12 _ (Nat.le_of_ble_eq_true rfl)) rfl (Nat.le_of_ble_eq_true rfl) hc2 rfl ?_
  refine z_fVi (sX8_pitchNow M 0 x1.toNatClampNeg (Nat.le_of_ble_eq_true rfl) (ltN hc2)) dX9_soundingPitch_20 ml_X9_221 cd_X8_pitchNow (m13 _ (Nat.le_of_ble_eq_true rfl) _ (ltN hc2)) rfl rfl rfl rfl rfl rfl ?_
  cases h
  exact z_iret dX9_soundingPitch_23 rfl rfl (Nat.le_of_ble_eq_true rfl) (Nat.le_of_ble_eq_true rfl) ⟨_, rfl, rfl, rfl⟩
theorem dX9_bendOf_0 : decode cX9_bendOf 0 = .ok (.aload_n 0, 1) := by decide +kernel
theorem dX9_bendOf_1 : decode cX9_bendOf 1 = .ok (.getfield 40, 3) := by decide +kernel
theorem dX9_bendOf_4 : decode cX9_bendOf 4 = .ok (.iload_n 1, 1) := by decide +kernel
theorem dX9_bendOf_5 : decode cX9_bendOf 5 = .ok (.invokevirtual 214, 3) := by decide +kernel
theorem dX9_bendOf_8 : decode cX9_bendOf 8 = .ok (.invokestatic 172, 3) := by decide +kernel
theorem dX9_bendOf_11 : decode cX9_bendOf 11 = .ok (.aload_n 0, 1) := by decide +kernel
theorem dX9_bendOf_12 : decode cX9_bendOf 12 = .ok (.getfield 40, 3) := by decide +kernel
theorem dX9_bendOf_15 : decode cX9_bendOf 15 = .ok (.getfield 217, 3) := by decide +kernel
theorem dX9_bendOf_18 : decode cX9_bendOf 18 = .ok (.iload_n 1, 1) := by decide +kernel
theorem dX9_bendOf_19 : decode cX9_bendOf 19 = .ok (.aaload, 1) := by decide +kernel
theorem dX9_bendOf_20 : decode cX9_bendOf 20 = .ok (.getfield 226, 3) := by decide +kernel
theorem dX9_bendOf_23 : decode cX9_bendOf 23 = .ok (.ireturn, 1) := by decide +kernel
def fX9_bendOf (M : Mm) (x1 : Int32) : Option ((Int32 ⊕ Nat) × Mm) := thr (rfz (fX0_toothFault M 0 x1)) M (if x1 < 0 ∨ 12 ≤ x1.toNatClampNeg then none else some (.inl (M.1 (13, 0, x1.toNatClampNeg) 1), M))
set_option maxRecDepth 20000 in
set_option maxHeartbeats 2000000 in
theorem sX9_bendOf {wv : Nat} (M : Mm) (x1 : Int32) {res : ((Int32 ⊕ Nat) × Mm)} (h : fX9_bendOf M x1 = some res) : Tri yX9_bendOf (.code yX9_bendOf cX9_bendOf 2 (some .int)) 7 4 24 SH (allR wv) [.inr (0, 0, 0), .inl (.int x1)] M (fun v M9 => ∃ x, res.1 = .inl x ∧ v = some (.int x) ∧ M9 = res.2) (fun E M9 => ∃ e, res.1 = .inr e ∧ exs[e]? = some E ∧ M9 = res.2) := by
  rw [fX9_bendOf] at h
  refine Tri.go (n := 0) (ls := [some (.inr (0, 0, 0)), some (.inl (.int x1))]) rfl rfl rfl rfl rfl ?_
  refine z_aload_n (i := 0) dX9_bendOf_0 rfl rfl ?_
  refine z_getR (r' := (9, 0, 0)) dX9_bendOf_1 fl_X9_40 mk0 rfl rfl ?_
  refine z_iload_n (i := 1) dX9_bendOf_4 rfl rfl ?_
  refine z_fVi (sX0_toothFault M 0 x1 (Nat.le_of_ble_eq_true rfl)) dX9_bendOf_5 ml_X9_214 cd_X0_toothFault (m9 _ (Nat.le_of_ble_eq_true rfl)) rfl rfl rfl rfl rfl rfl ?_
  refine z_refuse dX9_bendOf_8 ml_X9_172 rfl rfl rfl (fun hr1 => ?_) (fun e E hr1 h3 => by have h4 := thr_s h hr1; cases h4; exact ⟨e, rfl, h3, rfl⟩)
  have h := thr_n h hr1
  refine z_aload_n (i := 0) dX9_bendOf_11 rfl rfl ?_
  refine z_getR (r' := (9, 0, 0)) dX9_bendOf_12 fl_X9_40 mk0 rfl rfl ?_
  refine z_getR (r' := (12, 0, 0)) dX9_bendOf_15 fl_X9_217 (m9 _ (Nat.le_of_ble_eq_true rfl)) rfl rfl ?_
  refine z_iload_n (i := 1) dX9_bendOf_18 rfl rfl ?_
  obtain ⟨hc2, h⟩ := chk h
  refine z_aald (t := 0) (r' := (13, 0, x1.toNatClampNeg)) dX9_bendOf_19 (m12 _ (Nat.le_of_ble_eq_true rfl)) rfl (Nat.le_of_ble_eq_true rfl) hc2 rfl ?_
  refine z_getI (x := (M.1 (13, 0, x1.toNatClampNeg) 1)) dX9_bendOf_20 fl_X9_226 (m13 _ (Nat.le_of_ble_eq_true rfl) _ (ltN hc2)) rfl rfl ?_
  cases h
  exact z_iret dX9_bendOf_23 rfl rfl (Nat.le_of_ble_eq_true rfl) (Nat.le_of_ble_eq_true rfl) ⟨_, rfl, rfl, rfl⟩
theorem dX9_gap_0 : decode cX9_gap 0 = .ok (.aload_n 0, 1) := by decide +kernel
theorem dX9_gap_1 : decode cX9_gap 1 = .ok (.getfield 40, 3) := by decide +kernel
theorem dX9_gap_4 : decode cX9_gap 4 = .ok (.iload_n 1, 1) := by decide +kernel
theorem dX9_gap_5 : decode cX9_gap 5 = .ok (.invokevirtual 214, 3) := by decide +kernel
theorem dX9_gap_8 : decode cX9_gap 8 = .ok (.invokestatic 172, 3) := by decide +kernel
theorem dX9_gap_11 : decode cX9_gap 11 = .ok (.aload_n 0, 1) := by decide +kernel
theorem dX9_gap_12 : decode cX9_gap 12 = .ok (.getfield 40, 3) := by decide +kernel
theorem dX9_gap_15 : decode cX9_gap 15 = .ok (.getfield 217, 3) := by decide +kernel
theorem dX9_gap_18 : decode cX9_gap 18 = .ok (.iload_n 1, 1) := by decide +kernel
theorem dX9_gap_19 : decode cX9_gap 19 = .ok (.aaload, 1) := by decide +kernel
theorem dX9_gap_20 : decode cX9_gap 20 = .ok (.getfield 229, 3) := by decide +kernel
theorem dX9_gap_23 : decode cX9_gap 23 = .ok (.ireturn, 1) := by decide +kernel
def fX9_gap (M : Mm) (x1 : Int32) : Option ((Int32 ⊕ Nat) × Mm) := thr (rfz (fX0_toothFault M 0 x1)) M (if x1 < 0 ∨ 12 ≤ x1.toNatClampNeg then none else some (.inl (M.1 (13, 0, x1.toNatClampNeg) 2), M))
set_option maxRecDepth 20000 in
set_option maxHeartbeats 2000000 in
theorem sX9_gap {wv : Nat} (M : Mm) (x1 : Int32) {res : ((Int32 ⊕ Nat) × Mm)} (h : fX9_gap M x1 = some res) : Tri yX9_gap (.code yX9_gap cX9_gap 2 (some .int)) 7 4 24 SH (allR wv) [.inr (0, 0, 0), .inl (.int x1)] M (fun v M9 => ∃ x, res.1 = .inl x ∧ v = some (.int x) ∧ M9 = res.2) (fun E M9 => ∃ e, res.1 = .inr e ∧ exs[e]? = some E ∧ M9 = res.2) := by
  rw [fX9_gap] at h
  refine Tri.go (n := 0) (ls := [some (.inr (0, 0, 0)), some (.inl (.int x1))]) rfl rfl rfl rfl rfl ?_
  refine z_aload_n (i := 0) dX9_gap_0 rfl rfl ?_
  refine z_getR (r' := (9, 0, 0)) dX9_gap_1 fl_X9_40 mk0 rfl rfl ?_
  refine z_iload_n (i := 1) dX9_gap_4 rfl rfl ?_
  refine z_fVi (sX0_toothFault M 0 x1 (Nat.le_of_ble_eq_true rfl)) dX9_gap_5 ml_X9_214 cd_X0_toothFault (m9 _ (Nat.le_of_ble_eq_true rfl)) rfl rfl rfl rfl rfl rfl ?_
  refine z_refuse dX9_gap_8 ml_X9_172 rfl rfl rfl (fun hr1 => ?_) (fun e E hr1 h3 => by have h4 := thr_s h hr1; cases h4; exact ⟨e, rfl, h3, rfl⟩)
  have h := thr_n h hr1
  refine z_aload_n (i := 0) dX9_gap_11 rfl rfl ?_
  refine z_getR (r' := (9, 0, 0)) dX9_gap_12 fl_X9_40 mk0 rfl rfl ?_
  refine z_getR (r' := (12, 0, 0)) dX9_gap_15 fl_X9_217 (m9 _ (Nat.le_of_ble_eq_true rfl)) rfl rfl ?_
  refine z_iload_n (i := 1) dX9_gap_18 rfl rfl ?_
  obtain ⟨hc2, h⟩ := chk h
  refine z_aald (t := 0) (r' := (13, 0, x1.toNatClampNeg)) dX9_gap_19 (m12 _ (Nat.le_of_ble_eq_true rfl)) rfl (Nat.le_of_ble_eq_true rfl) hc2 rfl ?_
  refine z_getI (x := (M.1 (13, 0, x1.toNatClampNeg) 2)) dX9_gap_20 fl_X9_229 (m13 _ (Nat.le_of_ble_eq_true rfl) _ (ltN hc2)) rfl rfl ?_
  cases h
  exact z_iret dX9_gap_23 rfl rfl (Nat.le_of_ble_eq_true rfl) (Nat.le_of_ble_eq_true rfl) ⟨_, rfl, rfl, rfl⟩
theorem dX9_wear_0 : decode cX9_wear 0 = .ok (.aload_n 0, 1) := by decide +kernel
theorem dX9_wear_1 : decode cX9_wear 1 = .ok (.getfield 40, 3) := by decide +kernel
theorem dX9_wear_4 : decode cX9_wear 4 = .ok (.iload_n 1, 1) := by decide +kernel
theorem dX9_wear_5 : decode cX9_wear 5 = .ok (.invokevirtual 214, 3) := by decide +kernel
theorem dX9_wear_8 : decode cX9_wear 8 = .ok (.invokestatic 172, 3) := by decide +kernel
theorem dX9_wear_11 : decode cX9_wear 11 = .ok (.aload_n 0, 1) := by decide +kernel
theorem dX9_wear_12 : decode cX9_wear 12 = .ok (.getfield 40, 3) := by decide +kernel
theorem dX9_wear_15 : decode cX9_wear 15 = .ok (.getfield 217, 3) := by decide +kernel
theorem dX9_wear_18 : decode cX9_wear 18 = .ok (.iload_n 1, 1) := by decide +kernel
theorem dX9_wear_19 : decode cX9_wear 19 = .ok (.aaload, 1) := by decide +kernel
theorem dX9_wear_20 : decode cX9_wear 20 = .ok (.getfield 232, 3) := by decide +kernel
theorem dX9_wear_23 : decode cX9_wear 23 = .ok (.ireturn, 1) := by decide +kernel
def fX9_wear (M : Mm) (x1 : Int32) : Option ((Int32 ⊕ Nat) × Mm) := thr (rfz (fX0_toothFault M 0 x1)) M (if x1 < 0 ∨ 12 ≤ x1.toNatClampNeg then none else some (.inl (M.1 (13, 0, x1.toNatClampNeg) 4), M))
set_option maxRecDepth 20000 in
set_option maxHeartbeats 2000000 in
theorem sX9_wear {wv : Nat} (M : Mm) (x1 : Int32) {res : ((Int32 ⊕ Nat) × Mm)} (h : fX9_wear M x1 = some res) : Tri yX9_wear (.code yX9_wear cX9_wear 2 (some .int)) 7 4 24 SH (allR wv) [.inr (0, 0, 0), .inl (.int x1)] M (fun v M9 => ∃ x, res.1 = .inl x ∧ v = some (.int x) ∧ M9 = res.2) (fun E M9 => ∃ e, res.1 = .inr e ∧ exs[e]? = some E ∧ M9 = res.2) := by
  rw [fX9_wear] at h
  refine Tri.go (n := 0) (ls := [some (.inr (0, 0, 0)), some (.inl (.int x1))]) rfl rfl rfl rfl rfl ?_
  refine z_aload_n (i := 0) dX9_wear_0 rfl rfl ?_
  refine z_getR (r' := (9, 0, 0)) dX9_wear_1 fl_X9_40 mk0 rfl rfl ?_
  refine z_iload_n (i := 1) dX9_wear_4 rfl rfl ?_
  refine z_fVi (sX0_toothFault M 0 x1 (Nat.le_of_ble_eq_true rfl)) dX9_wear_5 ml_X9_214 cd_X0_toothFault (m9 _ (Nat.le_of_ble_eq_true rfl)) rfl rfl rfl rfl rfl rfl ?_
  refine z_refuse dX9_wear_8 ml_X9_172 rfl rfl rfl (fun hr1 => ?_) (fun e E hr1 h3 => by have h4 := thr_s h hr1; cases h4; exact ⟨e, rfl, h3, rfl⟩)
  have h := thr_n h hr1
  refine z_aload_n (i := 0) dX9_wear_11 rfl rfl ?_
  refine z_getR (r' := (9, 0, 0)) dX9_wear_12 fl_X9_40 mk0 rfl rfl ?_
  refine z_getR (r' := (12, 0, 0)) dX9_wear_15 fl_X9_217 (m9 _ (Nat.le_of_ble_eq_true rfl)) rfl rfl ?_
  refine z_iload_n (i := 1) dX9_wear_18 rfl rfl ?_
  obtain ⟨hc2, h⟩ := chk h
  refine z_aald (t := 0) (r' := (13, 0, x1.toNatClampNeg)) dX9_wear_19 (m12 _ (Nat.le_of_ble_eq_true rfl)) rfl (Nat.le_of_ble_eq_true rfl) hc2 rfl ?_
  refine z_getI (x := (M.1 (13, 0, x1.toNatClampNeg) 4)) dX9_wear_20 fl_X9_232 (m13 _ (Nat.le_of_ble_eq_true rfl) _ (ltN hc2)) rfl rfl ?_
  cases h
  exact z_iret dX9_wear_23 rfl rfl (Nat.le_of_ble_eq_true rfl) (Nat.le_of_ble_eq_true rfl) ⟨_, rfl, rfl, rfl⟩
theorem dX9_silence_0 : decode cX9_silence 0 = .ok (.aload_n 0, 1) := by decide +kernel
theorem dX9_silence_1 : decode cX9_silence 1 = .ok (.getfield 40, 3) := by decide +kernel
theorem dX9_silence_4 : decode cX9_silence 4 = .ok (.iload_n 1, 1) := by decide +kernel
theorem dX9_silence_5 : decode cX9_silence 5 = .ok (.invokevirtual 214, 3) := by decide +kernel
theorem dX9_silence_8 : decode cX9_silence 8 = .ok (.invokestatic 172, 3) := by decide +kernel
theorem dX9_silence_11 : decode cX9_silence 11 = .ok (.aload_n 0, 1) := by decide +kernel
theorem dX9_silence_12 : decode cX9_silence 12 = .ok (.getfield 40, 3) := by decide +kernel
theorem dX9_silence_15 : decode cX9_silence 15 = .ok (.getfield 217, 3) := by decide +kernel
theorem dX9_silence_18 : decode cX9_silence 18 = .ok (.iload_n 1, 1) := by decide +kernel
theorem dX9_silence_19 : decode cX9_silence 19 = .ok (.aaload, 1) := by decide +kernel
theorem dX9_silence_20 : decode cX9_silence 20 = .ok (.getfield 235, 3) := by decide +kernel
theorem dX9_silence_23 : decode cX9_silence 23 = .ok (.ireturn, 1) := by decide +kernel
def fX9_silence (M : Mm) (x1 : Int32) : Option ((Int32 ⊕ Nat) × Mm) := thr (rfz (fX0_toothFault M 0 x1)) M (if x1 < 0 ∨ 12 ≤ x1.toNatClampNeg then none else some (.inl (M.1 (13, 0, x1.toNatClampNeg) 5), M))
set_option maxRecDepth 20000 in
set_option maxHeartbeats 2000000 in
theorem sX9_silence {wv : Nat} (M : Mm) (x1 : Int32) {res : ((Int32 ⊕ Nat) × Mm)} (h : fX9_silence M x1 = some res) : Tri yX9_silence (.code yX9_silence cX9_silence 2 (some .int)) 7 4 24 SH (allR wv) [.inr (0, 0, 0), .inl (.int x1)] M (fun v M9 => ∃ x, res.1 = .inl x ∧ v = some (.int x) ∧ M9 = res.2) (fun E M9 => ∃ e, res.1 = .inr e ∧ exs[e]? = some E ∧ M9 = res.2) := by
  rw [fX9_silence] at h
  refine Tri.go (n := 0) (ls := [some (.inr (0, 0, 0)), some (.inl (.int x1))]) rfl rfl rfl rfl rfl ?_
  refine z_aload_n (i := 0) dX9_silence_0 rfl rfl ?_
  refine z_getR (r' := (9, 0, 0)) dX9_silence_1 fl_X9_40 mk0 rfl rfl ?_
  refine z_iload_n (i := 1) dX9_silence_4 rfl rfl ?_
  refine z_fVi (sX0_toothFault M 0 x1 (Nat.le_of_ble_eq_true rfl)) dX9_silence_5 ml_X9_214 cd_X0_toothFault (m9 _ (Nat.le_of_ble_eq_true rfl)) rfl rfl rfl rfl rfl rfl ?_
  refine z_refuse dX9_silence_8 ml_X9_172 rfl rfl rfl (fun hr1 => ?_) (fun e E hr1 h3 => by have h4 := thr_s h hr1; cases h4; exact ⟨e, rfl, h3, rfl⟩)
  have h := thr_n h hr1
  refine z_aload_n (i := 0) dX9_silence_11 rfl rfl ?_
  refine z_getR (r' := (9, 0, 0)) dX9_silence_12 fl_X9_40 mk0 rfl rfl ?_
  refine z_getR (r' := (12, 0, 0)) dX9_silence_15 fl_X9_217 (m9 _ (Nat.le_of_ble_eq_true rfl)) rfl rfl ?_
  refine z_iload_n (i := 1) dX9_silence_18 rfl rfl ?_
  obtain ⟨hc2, h⟩ := chk h
  refine z_aald (t := 0) (r' := (13, 0, x1.toNatClampNeg)) dX9_silence_19 (m12 _ (Nat.le_of_ble_eq_true rfl)) rfl (Nat.le_of_ble_eq_true rfl) hc2 rfl ?_
  refine z_getI (x := (M.1 (13, 0, x1.toNatClampNeg) 5)) dX9_silence_20 fl_X9_235 (m13 _ (Nat.le_of_ble_eq_true rfl) _ (ltN hc2)) rfl rfl ?_
  cases h
  exact z_iret dX9_silence_23 rfl rfl (Nat.le_of_ble_eq_true rfl) (Nat.le_of_ble_eq_true rfl) ⟨_, rfl, rfl, rfl⟩
theorem dX9_isBroken_0 : decode cX9_isBroken 0 = .ok (.aload_n 0, 1) := by decide +kernel
theorem dX9_isBroken_1 : decode cX9_isBroken 1 = .ok (.getfield 40, 3) := by decide +kernel
theorem dX9_isBroken_4 : decode cX9_isBroken 4 = .ok (.iload_n 1, 1) := by decide +kernel
theorem dX9_isBroken_5 : decode cX9_isBroken 5 = .ok (.invokevirtual 214, 3) := by decide +kernel
theorem dX9_isBroken_8 : decode cX9_isBroken 8 = .ok (.invokestatic 172, 3) := by decide +kernel
theorem dX9_isBroken_11 : decode cX9_isBroken 11 = .ok (.aload_n 0, 1) := by decide +kernel
theorem dX9_isBroken_12 : decode cX9_isBroken 12 = .ok (.getfield 40, 3) := by decide +kernel
theorem dX9_isBroken_15 : decode cX9_isBroken 15 = .ok (.getfield 217, 3) := by decide +kernel
theorem dX9_isBroken_18 : decode cX9_isBroken 18 = .ok (.iload_n 1, 1) := by decide +kernel
theorem dX9_isBroken_19 : decode cX9_isBroken 19 = .ok (.aaload, 1) := by decide +kernel
theorem dX9_isBroken_20 : decode cX9_isBroken 20 = .ok (.invokevirtual 238, 3) := by decide +kernel
theorem dX9_isBroken_23 : decode cX9_isBroken 23 = .ok (.ireturn, 1) := by decide +kernel
def fX9_isBroken (M : Mm) (x1 : Int32) : Option ((Int32 ⊕ Nat) × Mm) := thr (rfz (fX0_toothFault M 0 x1)) M (if x1 < 0 ∨ 12 ≤ x1.toNatClampNeg then none else some (.inl (bz (fX8_brokenNow M 0 x1.toNatClampNeg)), M))
set_option maxRecDepth 20000 in
set_option maxHeartbeats 2000000 in
theorem sX9_isBroken {wv : Nat} (M : Mm) (x1 : Int32) {res : ((Int32 ⊕ Nat) × Mm)} (h : fX9_isBroken M x1 = some res) : Tri yX9_isBroken (.code yX9_isBroken cX9_isBroken 2 (some .boolean)) 7 4 24 SH (allR wv) [.inr (0, 0, 0), .inl (.int x1)] M (fun v M9 => ∃ x, res.1 = .inl x ∧ v = some (.int x) ∧ M9 = res.2) (fun E M9 => ∃ e, res.1 = .inr e ∧ exs[e]? = some E ∧ M9 = res.2) := by
  rw [fX9_isBroken] at h
  refine Tri.go (n := 0) (ls := [some (.inr (0, 0, 0)), some (.inl (.int x1))]) rfl rfl rfl rfl rfl ?_
  refine z_aload_n (i := 0) dX9_isBroken_0 rfl rfl ?_
  refine z_getR (r' := (9, 0, 0)) dX9_isBroken_1 fl_X9_40 mk0 rfl rfl ?_
  refine z_iload_n (i := 1) dX9_isBroken_4 rfl rfl ?_
  refine z_fVi (sX0_toothFault M 0 x1 (Nat.le_of_ble_eq_true rfl)) dX9_isBroken_5 ml_X9_214 cd_X0_toothFault (m9 _ (Nat.le_of_ble_eq_true rfl)) rfl rfl rfl rfl rfl rfl ?_
  refine z_refuse dX9_isBroken_8 ml_X9_172 rfl rfl rfl (fun hr1 => ?_) (fun e E hr1 h3 => by have h4 := thr_s h hr1; cases h4; exact ⟨e, rfl, h3, rfl⟩)
  have h := thr_n h hr1
  refine z_aload_n (i := 0) dX9_isBroken_11 rfl rfl ?_
  refine z_getR (r' := (9, 0, 0)) dX9_isBroken_12 fl_X9_40 mk0 rfl rfl ?_
  refine z_getR (r' := (12, 0, 0)) dX9_isBroken_15 fl_X9_217 (m9 _ (Nat.le_of_ble_eq_true rfl)) rfl rfl ?_
  refine z_iload_n (i := 1) dX9_isBroken_18 rfl rfl ?_
  obtain ⟨hc2, h⟩ := chk h
  refine z_aald (t := 0) (r' := (13, 0, x1.toNatClampNeg)) dX9_isBroken_19 (m12 _ (Nat.le_of_ble_eq_true rfl)) rfl (Nat.le_of_ble_eq_true rfl) hc2 rfl ?_
  refine z_fVi (sX8_brokenNow M 0 x1.toNatClampNeg (Nat.le_of_ble_eq_true rfl) (ltN hc2)) dX9_isBroken_20 ml_X9_238 cd_X8_brokenNow (m13 _ (Nat.le_of_ble_eq_true rfl) _ (ltN hc2)) rfl rfl rfl rfl rfl rfl ?_
  cases h
  exact z_iret dX9_isBroken_23 rfl (bz_ok _) (Nat.le_of_ble_eq_true rfl) (Nat.le_of_ble_eq_true rfl) ⟨_, rfl, rfl, rfl⟩
theorem dX9_nextSound_0 : decode cX9_nextSound 0 = .ok (.aload_n 0, 1) := by decide +kernel
theorem dX9_nextSound_1 : decode cX9_nextSound 1 = .ok (.getfield 40, 3) := by decide +kernel
theorem dX9_nextSound_4 : decode cX9_nextSound 4 = .ok (.iload_n 1, 1) := by decide +kernel
theorem dX9_nextSound_5 : decode cX9_nextSound 5 = .ok (.invokevirtual 214, 3) := by decide +kernel
theorem dX9_nextSound_8 : decode cX9_nextSound 8 = .ok (.invokestatic 172, 3) := by decide +kernel
theorem dX9_nextSound_11 : decode cX9_nextSound 11 = .ok (.aload_n 0, 1) := by decide +kernel
theorem dX9_nextSound_12 : decode cX9_nextSound 12 = .ok (.getfield 40, 3) := by decide +kernel
theorem dX9_nextSound_15 : decode cX9_nextSound 15 = .ok (.iload_n 1, 1) := by decide +kernel
theorem dX9_nextSound_16 : decode cX9_nextSound 16 = .ok (.invokevirtual 241, 3) := by decide +kernel
theorem dX9_nextSound_19 : decode cX9_nextSound 19 = .ok (.ireturn, 1) := by decide +kernel
def fX9_nextSound (M : Mm) (x1 : Int32) : Option ((Int32 ⊕ Nat) × Mm) := thr (rfz (fX0_toothFault M 0 x1)) M ((fX0_soundOf M 0 x1).bind fun q2 => some (.inl q2, M))
set_option maxRecDepth 20000 in
set_option maxHeartbeats 2000000 in
theorem sX9_nextSound {wv : Nat} (M : Mm) (x1 : Int32) {res : ((Int32 ⊕ Nat) × Mm)} (h : fX9_nextSound M x1 = some res) : Tri yX9_nextSound (.code yX9_nextSound cX9_nextSound 2 (some .int)) 7 4 24 SH (allR wv) [.inr (0, 0, 0), .inl (.int x1)] M (fun v M9 => ∃ x, res.1 = .inl x ∧ v = some (.int x) ∧ M9 = res.2) (fun E M9 => ∃ e, res.1 = .inr e ∧ exs[e]? = some E ∧ M9 = res.2) := by
  rw [fX9_nextSound] at h
  refine Tri.go (n := 0) (ls := [some (.inr (0, 0, 0)), some (.inl (.int x1))]) rfl rfl rfl rfl rfl ?_
  refine z_aload_n (i := 0) dX9_nextSound_0 rfl rfl ?_
  refine z_getR (r' := (9, 0, 0)) dX9_nextSound_1 fl_X9_40 mk0 rfl rfl ?_
  refine z_iload_n (i := 1) dX9_nextSound_4 rfl rfl ?_
  refine z_fVi (sX0_toothFault M 0 x1 (Nat.le_of_ble_eq_true rfl)) dX9_nextSound_5 ml_X9_214 cd_X0_toothFault (m9 _ (Nat.le_of_ble_eq_true rfl)) rfl rfl rfl rfl rfl rfl ?_
  refine z_refuse dX9_nextSound_8 ml_X9_172 rfl rfl rfl (fun hr1 => ?_) (fun e E hr1 h3 => by have h4 := thr_s h hr1; cases h4; exact ⟨e, rfl, h3, rfl⟩)
  have h := thr_n h hr1
  refine z_aload_n (i := 0) dX9_nextSound_11 rfl rfl ?_
  refine z_getR (r' := (9, 0, 0)) dX9_nextSound_12 fl_X9_40 mk0 rfl rfl ?_
  refine z_iload_n (i := 1) dX9_nextSound_15 rfl rfl ?_
  obtain ⟨q2, hq3, h⟩ := bnd h
  refine z_fVi (sX0_soundOf M 0 x1 (Nat.le_of_ble_eq_true rfl) hq3) dX9_nextSound_16 ml_X9_241 cd_X0_soundOf (m9 _ (Nat.le_of_ble_eq_true rfl)) rfl rfl rfl rfl rfl rfl ?_
  cases h
  exact z_iret dX9_nextSound_19 rfl rfl (Nat.le_of_ble_eq_true rfl) (Nat.le_of_ble_eq_true rfl) ⟨_, rfl, rfl, rfl⟩
theorem dX9_meanPitch_0 : decode cX9_meanPitch 0 = .ok (.aload_n 0, 1) := by decide +kernel
theorem dX9_meanPitch_1 : decode cX9_meanPitch 1 = .ok (.getfield 40, 3) := by decide +kernel
theorem dX9_meanPitch_4 : decode cX9_meanPitch 4 = .ok (.iload_n 1, 1) := by decide +kernel
theorem dX9_meanPitch_5 : decode cX9_meanPitch 5 = .ok (.invokevirtual 179, 3) := by decide +kernel
theorem dX9_meanPitch_8 : decode cX9_meanPitch 8 = .ok (.invokestatic 172, 3) := by decide +kernel
theorem dX9_meanPitch_11 : decode cX9_meanPitch 11 = .ok (.aload_n 0, 1) := by decide +kernel
theorem dX9_meanPitch_12 : decode cX9_meanPitch 12 = .ok (.getfield 40, 3) := by decide +kernel
theorem dX9_meanPitch_15 : decode cX9_meanPitch 15 = .ok (.getfield 153, 3) := by decide +kernel
theorem dX9_meanPitch_18 : decode cX9_meanPitch 18 = .ok (.iload_n 1, 1) := by decide +kernel
theorem dX9_meanPitch_19 : decode cX9_meanPitch 19 = .ok (.invokevirtual 182, 3) := by decide +kernel
theorem dX9_meanPitch_22 : decode cX9_meanPitch 22 = .ok (.istore_n 2, 1) := by decide +kernel
theorem dX9_meanPitch_23 : decode cX9_meanPitch 23 = .ok (.iload_n 2, 1) := by decide +kernel
theorem dX9_meanPitch_24 : decode cX9_meanPitch 24 = .ok (.ifCond .ne 7, 3) := by decide +kernel
theorem dX9_meanPitch_27 : decode cX9_meanPitch 27 = .ok (.dconst 0, 1) := by decide +kernel
theorem dX9_meanPitch_28 : decode cX9_meanPitch 28 = .ok (.goto 15, 3) := by decide +kernel
theorem dX9_meanPitch_31 : decode cX9_meanPitch 31 = .ok (.aload_n 0, 1) := by decide +kernel
theorem dX9_meanPitch_32 : decode cX9_meanPitch 32 = .ok (.getfield 40, 3) := by decide +kernel
theorem dX9_meanPitch_35 : decode cX9_meanPitch 35 = .ok (.iload_n 1, 1) := by decide +kernel
theorem dX9_meanPitch_36 : decode cX9_meanPitch 36 = .ok (.invokevirtual 281, 3) := by decide +kernel
theorem dX9_meanPitch_39 : decode cX9_meanPitch 39 = .ok (.i2d, 1) := by decide +kernel
theorem dX9_meanPitch_40 : decode cX9_meanPitch 40 = .ok (.iload_n 2, 1) := by decide +kernel
theorem dX9_meanPitch_41 : decode cX9_meanPitch 41 = .ok (.i2d, 1) := by decide +kernel
theorem dX9_meanPitch_42 : decode cX9_meanPitch 42 = .ok (.ddiv, 1) := by decide +kernel
theorem dX9_meanPitch_43 : decode cX9_meanPitch 43 = .ok (.dreturn, 1) := by decide +kernel
def fX9_meanPitch (M : Mm) (x1 : Int32) : Option ((UInt64 ⊕ Nat) × Mm) := thr (rfz (fX0_tuneFault M 0 x1)) M ((fX3_pinsOf M 0 x1).bind fun q2 => if q2 = 0 then some (.inl FP.dconst0, M) else (fX0_pitchSum M 0 x1).bind fun q5 => if (FP.ddiv (FP.i2d q5) (FP.i2d q2)) &&& 0x7fffffffffffffff ≤ 0x7ff0000000000000 then some (.inl (FP.ddiv (FP.i2d q5) (FP.i2d q2)), M) else none)
set_option maxRecDepth 20000 in
set_option maxHeartbeats 2000000 in
theorem sX9_meanPitch {wv : Nat} (M : Mm) (x1 : Int32) {res : ((UInt64 ⊕ Nat) × Mm)} (h : fX9_meanPitch M x1 = some res) : Tri yX9_meanPitch (.code yX9_meanPitch cX9_meanPitch 3 (some .double)) 7 4 24 SH (allR wv) [.inr (0, 0, 0), .inl (.int x1)] M (fun v M9 => ∃ x, res.1 = .inl x ∧ v = some (.double x) ∧ M9 = res.2) (fun E M9 => ∃ e, res.1 = .inr e ∧ exs[e]? = some E ∧ M9 = res.2) := by
  rw [fX9_meanPitch] at h
  refine Tri.go (n := 1) (ls := [some (.inr (0, 0, 0)), some (.inl (.int x1)), none]) rfl rfl rfl rfl rfl ?_
  refine z_aload_n (i := 0) dX9_meanPitch_0 rfl rfl ?_
  refine z_getR (r' := (9, 0, 0)) dX9_meanPitch_1 fl_X9_40 mk0 rfl rfl ?_
  refine z_iload_n (i := 1) dX9_meanPitch_4 rfl rfl ?_
  refine z_fVi (sX0_tuneFault M 0 x1 (Nat.le_of_ble_eq_true rfl)) dX9_meanPitch_5 ml_X9_179 cd_X0_tuneFault (m9 _ (Nat.le_of_ble_eq_true rfl)) rfl rfl rfl rfl rfl rfl ?_
  refine z_refuse dX9_meanPitch_8 ml_X9_172 rfl rfl rfl (fun hr1 => ?_) (fun e E hr1 h3 => by have h4 := thr_s h hr1; cases h4; exact ⟨e, rfl, h3, rfl⟩)
  have h := thr_n h hr1
  refine z_aload_n (i := 0) dX9_meanPitch_11 rfl rfl ?_
  refine z_getR (r' := (9, 0, 0)) dX9_meanPitch_12 fl_X9_40 mk0 rfl rfl ?_
  refine z_getR (r' := (10, 0, 0)) dX9_meanPitch_15 fl_X9_153 (m9 _ (Nat.le_of_ble_eq_true rfl)) rfl rfl ?_
  refine z_iload_n (i := 1) dX9_meanPitch_18 rfl rfl ?_
  obtain ⟨q2, hq3, h⟩ := bnd h
  refine z_fVi (sX3_pinsOf M 0 x1 (Nat.le_of_ble_eq_true rfl) hq3) dX9_meanPitch_19 ml_X9_182 cd_X3_pinsOf (m10 _ (Nat.le_of_ble_eq_true rfl)) rfl rfl rfl rfl rfl rfl ?_
  refine z_istore_n (i := 2) dX9_meanPitch_22 rfl (Nat.le_of_ble_eq_true rfl) rfl ?_
  refine z_iload_n (i := 2) dX9_meanPitch_23 rfl rfl ?_
  refine z_if_ne (tgt := 31) dX9_meanPitch_24 rfl (fun hc4 => ?_) (fun hc4 => ?_)
  · have h := it_f h hc4
    refine z_aload_n (i := 0) dX9_meanPitch_31 rfl rfl ?_
    refine z_getR (r' := (9, 0, 0)) dX9_meanPitch_32 fl_X9_40 mk0 rfl rfl ?_
    refine z_iload_n (i := 1) dX9_meanPitch_35 rfl rfl ?_
    obtain ⟨q5, hq6, h⟩ := bnd h
    refine z_fVi (sX0_pitchSum M 0 x1 (Nat.le_of_ble_eq_true rfl) hq6) dX9_meanPitch_36 ml_X9_281 cd_X0_pitchSum (m9 _ (Nat.le_of_ble_eq_true rfl)) rfl rfl rfl rfl rfl rfl ?_
    refine z_i2d dX9_meanPitch_39 ?_
    refine z_iload_n (i := 2) dX9_meanPitch_40 rfl rfl ?_
    refine z_i2d dX9_meanPitch_41 ?_
    obtain ⟨hc7, h⟩ := chk2 h
    refine z_ddiv dX9_meanPitch_42 hc7 ?_
    cases h
    exact z_dret dX9_meanPitch_43 rfl (Nat.le_of_ble_eq_true rfl) (Nat.le_of_ble_eq_true rfl) ⟨_, rfl, rfl, rfl⟩
  · have h := it_t h hc4
    refine z_dconst0 dX9_meanPitch_27 ?_
    refine z_goto (tgt := 43) dX9_meanPitch_28 rfl ?_
    cases h
    exact z_dret dX9_meanPitch_43 rfl (Nat.le_of_ble_eq_true rfl) (Nat.le_of_ble_eq_true rfl) ⟨_, rfl, rfl, rfl⟩
theorem dX9_density_0 : decode cX9_density 0 = .ok (.aload_n 0, 1) := by decide +kernel
theorem dX9_density_1 : decode cX9_density 1 = .ok (.getfield 40, 3) := by decide +kernel
theorem dX9_density_4 : decode cX9_density 4 = .ok (.iload_n 1, 1) := by decide +kernel
theorem dX9_density_5 : decode cX9_density 5 = .ok (.invokevirtual 179, 3) := by decide +kernel
theorem dX9_density_8 : decode cX9_density 8 = .ok (.invokestatic 172, 3) := by decide +kernel
theorem dX9_density_11 : decode cX9_density 11 = .ok (.aload_n 0, 1) := by decide +kernel
theorem dX9_density_12 : decode cX9_density 12 = .ok (.getfield 40, 3) := by decide +kernel
theorem dX9_density_15 : decode cX9_density 15 = .ok (.getfield 153, 3) := by decide +kernel
theorem dX9_density_18 : decode cX9_density 18 = .ok (.getfield 157, 3) := by decide +kernel
theorem dX9_density_21 : decode cX9_density 21 = .ok (.aload_n 0, 1) := by decide +kernel
theorem dX9_density_22 : decode cX9_density 22 = .ok (.getfield 40, 3) := by decide +kernel
theorem dX9_density_25 : decode cX9_density 25 = .ok (.getfield 211, 3) := by decide +kernel
theorem dX9_density_28 : decode cX9_density 28 = .ok (.imul, 1) := by decide +kernel
theorem dX9_density_29 : decode cX9_density 29 = .ok (.istore_n 2, 1) := by decide +kernel
theorem dX9_density_30 : decode cX9_density 30 = .ok (.iload_n 2, 1) := by decide +kernel
theorem dX9_density_31 : decode cX9_density 31 = .ok (.iconst 1, 1) := by decide +kernel
theorem dX9_density_32 : decode cX9_density 32 = .ok (.if_icmp .ge 7, 3) := by decide +kernel
theorem dX9_density_35 : decode cX9_density 35 = .ok (.fconst 0, 1) := by decide +kernel
theorem dX9_density_36 : decode cX9_density 36 = .ok (.goto 18, 3) := by decide +kernel
theorem dX9_density_39 : decode cX9_density 39 = .ok (.aload_n 0, 1) := by decide +kernel
theorem dX9_density_40 : decode cX9_density 40 = .ok (.getfield 40, 3) := by decide +kernel
theorem dX9_density_43 : decode cX9_density 43 = .ok (.getfield 153, 3) := by decide +kernel
theorem dX9_density_46 : decode cX9_density 46 = .ok (.iload_n 1, 1) := by decide +kernel
theorem dX9_density_47 : decode cX9_density 47 = .ok (.invokevirtual 182, 3) := by decide +kernel
theorem dX9_density_50 : decode cX9_density 50 = .ok (.i2f, 1) := by decide +kernel
theorem dX9_density_51 : decode cX9_density 51 = .ok (.iload_n 2, 1) := by decide +kernel
theorem dX9_density_52 : decode cX9_density 52 = .ok (.i2f, 1) := by decide +kernel
theorem dX9_density_53 : decode cX9_density 53 = .ok (.fdiv, 1) := by decide +kernel
theorem dX9_density_54 : decode cX9_density 54 = .ok (.freturn, 1) := by decide +kernel
def fX9_density (M : Mm) (x1 : Int32) : Option ((UInt32 ⊕ Nat) × Mm) := thr (rfz (fX0_tuneFault M 0 x1)) M (if (1 : Int32) ≤ ((M.1 (10, 0, 0) 1) * (M.1 (9, 0, 0) 2)) then ((fX3_pinsOf M 0 x1).bind fun q3 => if (FP.fdiv (FP.i2f q3) (FP.i2f ((M.1 (10, 0, 0) 1) * (M.1 (9, 0, 0) 2)))) &&& 0x7fffffff ≤ 0x7f800000 then some (.inl (FP.fdiv (FP.i2f q3) (FP.i2f ((M.1 (10, 0, 0) 1) * (M.1 (9, 0, 0) 2)))), M) else none) else some (.inl FP.fconst0, M))
set_option maxRecDepth 20000 in
set_option maxHeartbeats 2000000 in
theorem sX9_density {wv : Nat} (M : Mm) (x1 : Int32) {res : ((UInt32 ⊕ Nat) × Mm)} (h : fX9_density M x1 = some res) : Tri yX9_density (.code yX9_density cX9_density 3 (some .float)) 7 4 24 SH (allR wv) [.inr (0, 0, 0), .inl (.int x1)] M (fun v M9 => ∃ x, res.1 = .inl x ∧ v = some (.float x) ∧ M9 = res.2) (fun E M9 => ∃ e, res.1 = .inr e ∧ exs[e]? = some E ∧ M9 = res.2) := by
  rw [fX9_density] at h
  refine Tri.go (n := 1) (ls := [some (.inr (0, 0, 0)), some (.inl (.int x1)), none]) rfl rfl rfl rfl rfl ?_
  refine z_aload_n (i := 0) dX9_density_0 rfl rfl ?_
  refine z_getR (r' := (9, 0, 0)) dX9_density_1 fl_X9_40 mk0 rfl rfl ?_
  refine z_iload_n (i := 1) dX9_density_4 rfl rfl ?_
  refine z_fVi (sX0_tuneFault M 0 x1 (Nat.le_of_ble_eq_true rfl)) dX9_density_5 ml_X9_179 cd_X0_tuneFault (m9 _ (Nat.le_of_ble_eq_true rfl)) rfl rfl rfl rfl rfl rfl ?_
  refine z_refuse dX9_density_8 ml_X9_172 rfl rfl rfl (fun hr1 => ?_) (fun e E hr1 h3 => by have h4 := thr_s h hr1; cases h4; exact ⟨e, rfl, h3, rfl⟩)
  have h := thr_n h hr1
  refine z_aload_n (i := 0) dX9_density_11 rfl rfl ?_
  refine z_getR (r' := (9, 0, 0)) dX9_density_12 fl_X9_40 mk0 rfl rfl ?_
  refine z_getR (r' := (10, 0, 0)) dX9_density_15 fl_X9_153 (m9 _ (Nat.le_of_ble_eq_true rfl)) rfl rfl ?_
  refine z_getI (x := (M.1 (10, 0, 0) 1)) dX9_density_18 fl_X9_157 (m10 _ (Nat.le_of_ble_eq_true rfl)) rfl rfl ?_
  refine z_aload_n (i := 0) dX9_density_21 rfl rfl ?_
  refine z_getR (r' := (9, 0, 0)) dX9_density_22 fl_X9_40 mk0 rfl rfl ?_
  refine z_getI (x := (M.1 (9, 0, 0) 2)) dX9_density_25 fl_X9_211 (m9 _ (Nat.le_of_ble_eq_true rfl)) rfl rfl ?_
  refine z_imul dX9_density_28 ?_
  refine z_istore_n (i := 2) dX9_density_29 rfl (Nat.le_of_ble_eq_true rfl) rfl ?_
  refine z_iload_n (i := 2) dX9_density_30 rfl rfl ?_
  refine z_iconst (v := (1 : Int32)) dX9_density_31 kc_1 ?_
  refine z_icmp_ge (tgt := 39) dX9_density_32 rfl (fun hc2 => ?_) (fun hc2 => ?_)
  · have h := it_t h hc2
    refine z_aload_n (i := 0) dX9_density_39 rfl rfl ?_
    refine z_getR (r' := (9, 0, 0)) dX9_density_40 fl_X9_40 mk0 rfl rfl ?_
    refine z_getR (r' := (10, 0, 0)) dX9_density_43 fl_X9_153 (m9 _ (Nat.le_of_ble_eq_true rfl)) rfl rfl ?_
    refine z_iload_n (i := 1) dX9_density_46 rfl rfl ?_
    obtain ⟨q3, hq4, h⟩ := bnd h
    refine z_fVi (sX3_pinsOf M 0 x1 (Nat.le_of_ble_eq_true rfl) hq4) dX9_density_47 ml_X9_182 cd_X3_pinsOf (m10 _ (Nat.le_of_ble_eq_true rfl)) rfl rfl rfl rfl rfl rfl ?_
    refine z_i2f dX9_density_50 ?_
    refine z_iload_n (i := 2) dX9_density_51 rfl rfl ?_
    refine z_i2f dX9_density_52 ?_
    obtain ⟨hc5, h⟩ := chk2 h
    refine z_fdiv dX9_density_53 hc5 ?_
    cases h
    exact z_fret dX9_density_54 rfl (Nat.le_of_ble_eq_true rfl) (Nat.le_of_ble_eq_true rfl) ⟨_, rfl, rfl, rfl⟩
  · have h := it_f h hc2
    refine z_fconst0 dX9_density_35 ?_
    refine z_goto (tgt := 54) dX9_density_36 rfl ?_
    cases h
    exact z_fret dX9_density_54 rfl (Nat.le_of_ble_eq_true rfl) (Nat.le_of_ble_eq_true rfl) ⟨_, rfl, rfl, rfl⟩
