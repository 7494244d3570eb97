theorem dX10_feeds_0 : decode cX10_feeds 0 = .ok (.bipush 24, 2) := by decide +kernel
theorem dX10_feeds_2 : decode cX10_feeds 2 = .ok (.istore_n 2, 1) := by decide +kernel
theorem dX10_feeds_3 : decode cX10_feeds 3 = .ok (.iload_n 2, 1) := by decide +kernel
theorem dX10_feeds_4 : decode cX10_feeds 4 = .ok (.ifCond .lt 54, 3) := by decide +kernel
theorem dX10_feeds_7 : decode cX10_feeds 7 = .ok (.iload_n 1, 1) := by decide +kernel
theorem dX10_feeds_8 : decode cX10_feeds 8 = .ok (.iload_n 2, 1) := by decide +kernel
theorem dX10_feeds_9 : decode cX10_feeds 9 = .ok (.ishr, 1) := by decide +kernel
theorem dX10_feeds_10 : decode cX10_feeds 10 = .ok (.sipush 255, 3) := by decide +kernel
theorem dX10_feeds_13 : decode cX10_feeds 13 = .ok (.iand, 1) := by decide +kernel
theorem dX10_feeds_14 : decode cX10_feeds 14 = .ok (.istore_n 3, 1) := by decide +kernel
theorem dX10_feeds_15 : decode cX10_feeds 15 = .ok (.iload_n 3, 1) := by decide +kernel
theorem dX10_feeds_16 : decode cX10_feeds 16 = .ok (.ifCond .ne 6, 3) := by decide +kernel
theorem dX10_feeds_19 : decode cX10_feeds 19 = .ok (.goto 33, 3) := by decide +kernel
theorem dX10_feeds_22 : decode cX10_feeds 22 = .ok (.aload_n 0, 1) := by decide +kernel
theorem dX10_feeds_23 : decode cX10_feeds 23 = .ok (.getfield 70, 3) := by decide +kernel
theorem dX10_feeds_26 : decode cX10_feeds 26 = .ok (.sipush 800, 3) := by decide +kernel
theorem dX10_feeds_29 : decode cX10_feeds 29 = .ok (.if_icmp .ge 13, 3) := by decide +kernel
theorem dX10_feeds_32 : decode cX10_feeds 32 = .ok (.aload_n 0, 1) := by decide +kernel
theorem dX10_feeds_33 : decode cX10_feeds 33 = .ok (.getfield 32, 3) := by decide +kernel
theorem dX10_feeds_36 : decode cX10_feeds 36 = .ok (.aload_n 0, 1) := by decide +kernel
theorem dX10_feeds_37 : decode cX10_feeds 37 = .ok (.getfield 70, 3) := by decide +kernel
theorem dX10_feeds_40 : decode cX10_feeds 40 = .ok (.iload_n 3, 1) := by decide +kernel
theorem dX10_feeds_41 : decode cX10_feeds 41 = .ok (.iastore, 1) := by decide +kernel
theorem dX10_feeds_42 : decode cX10_feeds 42 = .ok (.aload_n 0, 1) := by decide +kernel
theorem dX10_feeds_43 : decode cX10_feeds 43 = .ok (.dup, 1) := by decide +kernel
theorem dX10_feeds_44 : decode cX10_feeds 44 = .ok (.getfield 70, 3) := by decide +kernel
theorem dX10_feeds_47 : decode cX10_feeds 47 = .ok (.iconst 1, 1) := by decide +kernel
theorem dX10_feeds_48 : decode cX10_feeds 48 = .ok (.iadd, 1) := by decide +kernel
theorem dX10_feeds_49 : decode cX10_feeds 49 = .ok (.putfield 70, 3) := by decide +kernel
theorem dX10_feeds_52 : decode cX10_feeds 52 = .ok (.iinc 2 (-8), 3) := by decide +kernel
theorem dX10_feeds_55 : decode cX10_feeds 55 = .ok (.goto (-52), 3) := by decide +kernel
theorem dX10_feeds_58 : decode cX10_feeds 58 = .ok (.return_, 1) := by decide +kernel
def fX10_feeds_L3 (c1 : Int32) (K : Int32 → Mm → Option Mm) : Nat → Int32 → Mm → Option Mm
  | 0, _, _ => none
  | n + 1, v2, M => if v2 < 0 then K v2 M else if ((c1 >>> (v2 &&& 31)) &&& (255 : Int32)) = 0 then fX10_feeds_L3 c1 K n (v2 + (-8 : Int32)) M else if (800 : Int32) ≤ (M.1 (18, 0, 0) 10) then fX10_feeds_L3 c1 K n (v2 + (-8 : Int32)) (putI M (18, 0, 0) 10 ((M.1 (18, 0, 0) 10) + (1 : Int32))) else if (M.1 (18, 0, 0) 10) < 0 ∨ 800 ≤ (M.1 (18, 0, 0) 10).toNatClampNeg then none else fX10_feeds_L3 c1 K n (v2 + (-8 : Int32)) (putI (putI M (19, 6, 0) (M.1 (18, 0, 0) 10).toNatClampNeg ((c1 >>> (v2 &&& 31)) &&& (255 : Int32))) (18, 0, 0) 10 ((M.1 (18, 0, 0) 10) + (1 : Int32)))
def fX10_feeds (M : Mm) (x1 : Int32) : Option Mm := fX10_feeds_L3 x1 (fun w5 M6 => some M6) NF (24 : Int32) M
set_option maxRecDepth 20000 in
set_option maxHeartbeats 2000000 in
theorem sX10_feeds_L3 {wv : Nat} (c1 : Int32) {res : Mm} {K : Int32 → Mm → Option Mm} : ∀ (n : Nat) (v2 : Int32) (M : Mm), fX10_feeds_L3 c1 K n v2 M = some res →
    (∀ (v2 : Int32) (M : Mm), K v2 M = some res → Z RX10 cX10_feeds 4 none [] "feeds" (rmD 0 0 0) (QM SH (allR (wv + 1)) 0 0 (fun v M9 => v = none ∧ M9 = res) (fun _ _ => False)) (allR (wv + 1)) SH 0 0 58 [some (.inr (18, 0, 0)), some (.inl (.int c1)), some (.inl (.int v2)), none] [] M) → Z RX10 cX10_feeds 4 none [] "feeds" (rmD 0 0 0) (QM SH (allR (wv + 1)) 0 0 (fun v M9 => v = none ∧ M9 = res) (fun _ _ => False)) (allR (wv + 1)) SH 0 0 3 [some (.inr (18, 0, 0)), some (.inl (.int c1)), some (.inl (.int v2)), none] [] M := by
  intro n
  induction n with
  | zero => intro v2 M h; cases h
  | succ n ih =>
    intro v2 M h hK
    rw [fX10_feeds_L3] at h
    refine z_iload_n (i := 2) dX10_feeds_3 rfl rfl ?_
    refine z_if_lt (tgt := 58) dX10_feeds_4 rfl (fun hc1 => ?_) (fun hc1 => ?_)
    · have h := it_t h hc1
      exact hK _ _ h
    · have h := it_f h hc1
      refine z_iload_n (i := 1) dX10_feeds_7 rfl rfl ?_
      refine z_iload_n (i := 2) dX10_feeds_8 rfl rfl ?_
      refine z_ishr dX10_feeds_9 ?_
      refine z_sipush (v := (255 : Int32)) dX10_feeds_10 ks_255 ?_
      refine z_iand dX10_feeds_13 ?_
      refine z_istore_n (i := 3) dX10_feeds_14 rfl (Nat.le_of_ble_eq_true rfl) rfl ?_
      refine z_iload_n (i := 3) dX10_feeds_15 rfl rfl ?_
      refine z_if_ne (tgt := 22) dX10_feeds_16 rfl (fun hc2 => ?_) (fun hc2 => ?_)
      · have h := it_f h hc2
        refine z_aload_n (i := 0) dX10_feeds_22 rfl rfl ?_
        refine z_getI (x := (M.1 (18, 0, 0) 10)) dX10_feeds_23 fl_X10_70 mk18 rfl rfl ?_
        refine z_sipush (v := (800 : Int32)) dX10_feeds_26 ks_800 ?_
        refine z_icmp_ge (tgt := 42) dX10_feeds_29 rfl (fun hc3 => ?_) (fun hc3 => ?_)
        · have h := it_t h hc3
          refine z_aload_n (i := 0) dX10_feeds_42 rfl rfl ?_
          refine z_dup dX10_feeds_43 rfl ?_
          refine z_getI (x := (M.1 (18, 0, 0) 10)) dX10_feeds_44 fl_X10_70 mk18 rfl rfl ?_
          refine z_iconst (v := (1 : Int32)) dX10_feeds_47 kc_1 ?_
          refine z_iadd dX10_feeds_48 ?_
          refine z_putI allR_nd dX10_feeds_49 fl_X10_70 mk18 rfl rfl ?_
          refine z_iinc (i := 2) (v := (v2 + (-8 : Int32))) dX10_feeds_52 rfl (iinc_k kc_m8) (Nat.le_of_ble_eq_true rfl) rfl ?_
          refine z_goto (tgt := 3) dX10_feeds_55 rfl ?_
          refine z_fgt (i := 3) ?_
          exact ih _ _ h hK
        · have h := it_f h hc3
          refine z_aload_n (i := 0) dX10_feeds_32 rfl rfl ?_
          refine z_getR (r' := (19, 6, 0)) dX10_feeds_33 fl_X10_32 mk18 rfl rfl ?_
          refine z_aload_n (i := 0) dX10_feeds_36 rfl rfl ?_
          refine z_getI (x := (M.1 (18, 0, 0) 10)) dX10_feeds_37 fl_X10_70 mk18 rfl rfl ?_
          refine z_iload_n (i := 3) dX10_feeds_40 rfl rfl ?_
          obtain ⟨hc4, h⟩ := chk h
          refine z_iast (j := (M.1 (18, 0, 0) 10).toNatClampNeg) allR_nd dX10_feeds_41 (m19 _ (Nat.le_of_ble_eq_true rfl)) rfl hc4 rfl ?_
          refine z_aload_n (i := 0) dX10_feeds_42 rfl rfl ?_
          refine z_dup dX10_feeds_43 rfl ?_
          refine z_getI (x := (M.1 (18, 0, 0) 10)) dX10_feeds_44 fl_X10_70 mk18 rfl rfl ?_
          refine z_iconst (v := (1 : Int32)) dX10_feeds_47 kc_1 ?_
          refine z_iadd dX10_feeds_48 ?_
          refine z_putI allR_nd dX10_feeds_49 fl_X10_70 mk18 rfl rfl ?_
          refine z_iinc (i := 2) (v := (v2 + (-8 : Int32))) dX10_feeds_52 rfl (iinc_k kc_m8) (Nat.le_of_ble_eq_true rfl) rfl ?_
          refine z_goto (tgt := 3) dX10_feeds_55 rfl ?_
          refine z_fgt (i := 3) ?_
          exact ih _ _ h hK
      · have h := it_t h hc2
        refine z_goto (tgt := 52) dX10_feeds_19 rfl ?_
        refine z_iinc (i := 2) (v := (v2 + (-8 : Int32))) dX10_feeds_52 rfl (iinc_k kc_m8) (Nat.le_of_ble_eq_true rfl) rfl ?_
        refine z_goto (tgt := 3) dX10_feeds_55 rfl ?_
        refine z_fgt (i := 3) ?_
        exact ih _ _ h hK
set_option maxRecDepth 20000 in
set_option maxHeartbeats 2000000 in
theorem sX10_feeds {wv : Nat} (M : Mm) (x1 : Int32) {res : Mm} (h : fX10_feeds M x1 = some res) : TF (wv + 1) yX10_feeds cX10_feeds 4 none 0 [.inr (18, 0, 0), .inl (.int x1)] M (none) res := by
  rw [fX10_feeds] at h
  refine TF.go (n := 2) (ls := [some (.inr (18, 0, 0)), some (.inl (.int x1)), none, none]) rfl rfl rfl rfl rfl ?_
  refine z_bipush (v := (24 : Int32)) dX10_feeds_0 kb_24 ?_
  refine z_istore_n (i := 2) dX10_feeds_2 rfl (Nat.le_of_ble_eq_true rfl) rfl ?_
  refine sX10_feeds_L3 x1 NF _ _ h (fun w5 M6 h => ?_)
  cases h
  exact z_vret dX10_feeds_58 rfl (Nat.le_refl _) (Nat.le_refl _) ⟨rfl, rfl⟩
theorem dX10_append_0 : decode cX10_append 0 = .ok (.aload_n 0, 1) := by decide +kernel
theorem dX10_append_1 : decode cX10_append 1 = .ok (.iconst 0, 1) := by decide +kernel
theorem dX10_append_2 : decode cX10_append 2 = .ok (.putfield 79, 3) := by decide +kernel
theorem dX10_append_5 : decode cX10_append 5 = .ok (.aload_n 0, 1) := by decide +kernel
theorem dX10_append_6 : decode cX10_append 6 = .ok (.getfield 70, 3) := by decide +kernel
theorem dX10_append_9 : decode cX10_append 9 = .ok (.istore 6, 2) := by decide +kernel
theorem dX10_append_11 : decode cX10_append 11 = .ok (.aload_n 0, 1) := by decide +kernel
theorem dX10_append_12 : decode cX10_append 12 = .ok (.iload_n 1, 1) := by decide +kernel
theorem dX10_append_13 : decode cX10_append 13 = .ok (.invokevirtual 124, 3) := by decide +kernel
theorem dX10_append_16 : decode cX10_append 16 = .ok (.aload_n 0, 1) := by decide +kernel
theorem dX10_append_17 : decode cX10_append 17 = .ok (.iload_n 2, 1) := by decide +kernel
theorem dX10_append_18 : decode cX10_append 18 = .ok (.invokevirtual 124, 3) := by decide +kernel
theorem dX10_append_21 : decode cX10_append 21 = .ok (.aload_n 0, 1) := by decide +kernel
theorem dX10_append_22 : decode cX10_append 22 = .ok (.iload_n 3, 1) := by decide +kernel
theorem dX10_append_23 : decode cX10_append 23 = .ok (.invokevirtual 124, 3) := by decide +kernel
theorem dX10_append_26 : decode cX10_append 26 = .ok (.aload_n 0, 1) := by decide +kernel
theorem dX10_append_27 : decode cX10_append 27 = .ok (.iload 4, 2) := by decide +kernel
theorem dX10_append_29 : decode cX10_append 29 = .ok (.invokevirtual 124, 3) := by decide +kernel
theorem dX10_append_32 : decode cX10_append 32 = .ok (.aload_n 0, 1) := by decide +kernel
theorem dX10_append_33 : decode cX10_append 33 = .ok (.iload 5, 2) := by decide +kernel
theorem dX10_append_35 : decode cX10_append 35 = .ok (.invokevirtual 124, 3) := by decide +kernel
theorem dX10_append_38 : decode cX10_append 38 = .ok (.aload_n 0, 1) := by decide +kernel
theorem dX10_append_39 : decode cX10_append 39 = .ok (.aload_n 0, 1) := by decide +kernel
theorem dX10_append_40 : decode cX10_append 40 = .ok (.getfield 70, 3) := by decide +kernel
theorem dX10_append_43 : decode cX10_append 43 = .ok (.sipush 800, 3) := by decide +kernel
theorem dX10_append_46 : decode cX10_append 46 = .ok (.if_icmp .gt 7, 3) := by decide +kernel
theorem dX10_append_49 : decode cX10_append 49 = .ok (.iconst 1, 1) := by decide +kernel
theorem dX10_append_50 : decode cX10_append 50 = .ok (.goto 4, 3) := by decide +kernel
theorem dX10_append_53 : decode cX10_append 53 = .ok (.iconst 0, 1) := by decide +kernel
theorem dX10_append_54 : decode cX10_append 54 = .ok (.iconst 1, 1) := by decide +kernel
theorem dX10_append_55 : decode cX10_append 55 = .ok (.invokevirtual 127, 3) := by decide +kernel
theorem dX10_append_58 : decode cX10_append 58 = .ok (.ifCond .eq 8, 3) := by decide +kernel
theorem dX10_append_61 : decode cX10_append 61 = .ok (.aload_n 0, 1) := by decide +kernel
theorem dX10_append_62 : decode cX10_append 62 = .ok (.getfield 70, 3) := by decide +kernel
theorem dX10_append_65 : decode cX10_append 65 = .ok (.ireturn, 1) := by decide +kernel
theorem dX10_append_66 : decode cX10_append 66 = .ok (.aload_n 0, 1) := by decide +kernel
theorem dX10_append_67 : decode cX10_append 67 = .ok (.iload 6, 2) := by decide +kernel
theorem dX10_append_69 : decode cX10_append 69 = .ok (.putfield 70, 3) := by decide +kernel
theorem dX10_append_72 : decode cX10_append 72 = .ok (.iconst 0, 1) := by decide +kernel
theorem dX10_append_73 : decode cX10_append 73 = .ok (.ireturn, 1) := by decide +kernel
def fX10_append (M : Mm) (x1 : Int32) (x2 : Int32) (x3 : Int32) (x4 : Int32) (x5 : Int32) : Option (Int32 × Mm) := (fX10_feeds (putI M (18, 0, 0) 8 (0 : Int32)) x1).bind fun q1 => (fX10_feeds q1 x2).bind fun q3 => (fX10_feeds q3 x3).bind fun q5 => (fX10_feeds q5 x4).bind fun q7 => (fX10_feeds q7 x5).bind fun q9 => if (800 : Int32) < (q9.1 (18, 0, 0) 10) then ((fX10_right q9 (0 : Int32) (1 : Int32)).bind fun q12 => if q12.1 = 0 then some ((0 : Int32), (putI q12.2 (18, 0, 0) 10 (M.1 (18, 0, 0) 10))) else some ((q12.2.1 (18, 0, 0) 10), q12.2)) else (fX10_right q9 (1 : Int32) (1 : Int32)).bind fun q15 => if q15.1 = 0 then some ((0 : Int32), (putI q15.2 (18, 0, 0) 10 (M.1 (18, 0, 0) 10))) else some ((q15.2.1 (18, 0, 0) 10), q15.2)
set_option maxRecDepth 20000 in
set_option maxHeartbeats 2000000 in
theorem sX10_append {wv : Nat} (M : Mm) (x1 : Int32) (x2 : Int32) (x3 : Int32) (x4 : Int32) (x5 : Int32) {res : (Int32 × Mm)} (h : fX10_append M x1 x2 x3 x4 x5 = some res) : TF (wv + 1) yX10_append cX10_append 7 (some .int) 1 [.inr (18, 0, 0), .inl (.int x1), .inl (.int x2), .inl (.int x3), .inl (.int x4), .inl (.int x5)] M (some (.int res.1)) res.2 := by
  rw [fX10_append] at h
  refine TF.go (n := 1) (ls := [some (.inr (18, 0, 0)), some (.inl (.int x1)), some (.inl (.int x2)), some (.inl (.int x3)), some (.inl (.int x4)), some (.inl (.int x5)), none]) rfl rfl rfl rfl rfl ?_
  refine z_aload_n (i := 0) dX10_append_0 rfl rfl ?_
  refine z_iconst (v := (0 : Int32)) dX10_append_1 kc_0 ?_
  refine z_putI allR_nd dX10_append_2 fl_X10_79 mk18 rfl rfl ?_
  refine z_aload_n (i := 0) dX10_append_5 rfl rfl ?_
  refine z_getI (x := (M.1 (18, 0, 0) 10)) dX10_append_6 fl_X10_70 mk18 rfl rfl ?_
  refine z_istore (i := 6) dX10_append_9 (Nat.le_of_ble_eq_true rfl) rfl ?_
  refine z_aload_n (i := 0) dX10_append_11 rfl rfl ?_
  refine z_iload_n (i := 1) dX10_append_12 rfl rfl ?_
  obtain ⟨q1, hq2, h⟩ := bnd h
  refine z_fVv (sX10_feeds (putI M (18, 0, 0) 8 (0 : Int32)) x1 hq2) dX10_append_13 ml_X10_124 cd_X10_feeds mk18 rfl rfl rfl rfl rfl rfl ?_
  refine z_aload_n (i := 0) dX10_append_16 rfl rfl ?_
  refine z_iload_n (i := 2) dX10_append_17 rfl rfl ?_
  obtain ⟨q3, hq4, h⟩ := bnd h
  refine z_fVv (sX10_feeds q1 x2 hq4) dX10_append_18 ml_X10_124 cd_X10_feeds mk18 rfl rfl rfl rfl rfl rfl ?_
  refine z_aload_n (i := 0) dX10_append_21 rfl rfl ?_
  refine z_iload_n (i := 3) dX10_append_22 rfl rfl ?_
  obtain ⟨q5, hq6, h⟩ := bnd h
  refine z_fVv (sX10_feeds q3 x3 hq6) dX10_append_23 ml_X10_124 cd_X10_feeds mk18 rfl rfl rfl rfl rfl rfl ?_
  refine z_aload_n (i := 0) dX10_append_26 rfl rfl ?_
  refine z_iload (i := 4) dX10_append_27 rfl ?_
  obtain ⟨q7, hq8, h⟩ := bnd h
  refine z_fVv (sX10_feeds q5 x4 hq8) dX10_append_29 ml_X10_124 cd_X10_feeds mk18 rfl rfl rfl rfl rfl rfl ?_
  refine z_aload_n (i := 0) dX10_append_32 rfl rfl ?_
  refine z_iload (i := 5) dX10_append_33 rfl ?_
  obtain ⟨q9, hq10, h⟩ := bnd h
  refine z_fVv (sX10_feeds q7 x5 hq10) dX10_append_35 ml_X10_124 cd_X10_feeds mk18 rfl rfl rfl rfl rfl rfl ?_
  refine z_aload_n (i := 0) dX10_append_38 rfl rfl ?_
  refine z_aload_n (i := 0) dX10_append_39 rfl rfl ?_
  refine z_getI (x := (q9.1 (18, 0, 0) 10)) dX10_append_40 fl_X10_70 mk18 rfl rfl ?_
  refine z_sipush (v := (800 : Int32)) dX10_append_43 ks_800 ?_
  refine z_icmp_gt (tgt := 53) dX10_append_46 rfl (fun hc11 => ?_) (fun hc11 => ?_)
  · have h := it_t h hc11
    refine z_iconst (v := (0 : Int32)) dX10_append_53 kc_0 ?_
    refine z_iconst (v := (1 : Int32)) dX10_append_54 kc_1 ?_
    obtain ⟨q12, hq13, h⟩ := bnd h
    refine z_fVi (sX10_right q9 (0 : Int32) (1 : Int32) hq13) dX10_append_55 ml_X10_127 cd_X10_right mk18 rfl rfl rfl rfl rfl rfl ?_
    refine z_if_eq (tgt := 66) dX10_append_58 rfl (fun hc14 => ?_) (fun hc14 => ?_)
    · have h := it_t h hc14
      refine z_aload_n (i := 0) dX10_append_66 rfl rfl ?_
      refine z_iload (i := 6) dX10_append_67 rfl ?_
      refine z_putI allR_nd dX10_append_69 fl_X10_70 mk18 rfl rfl ?_
      refine z_iconst (v := (0 : Int32)) dX10_append_72 kc_0 ?_
      cases h
      exact z_iret dX10_append_73 rfl rfl (Nat.le_refl _) (Nat.le_refl _) ⟨rfl, rfl⟩
    · have h := it_f h hc14
      refine z_aload_n (i := 0) dX10_append_61 rfl rfl ?_
      refine z_getI (x := (q12.2.1 (18, 0, 0) 10)) dX10_append_62 fl_X10_70 mk18 rfl rfl ?_
      cases h
      exact z_iret dX10_append_65 rfl rfl (Nat.le_refl _) (Nat.le_refl _) ⟨rfl, rfl⟩
  · have h := it_f h hc11
    refine z_iconst (v := (1 : Int32)) dX10_append_49 kc_1 ?_
    refine z_goto (tgt := 54) dX10_append_50 rfl ?_
    refine z_iconst (v := (1 : Int32)) dX10_append_54 kc_1 ?_
    obtain ⟨q15, hq16, h⟩ := bnd h
    refine z_fVi (sX10_right q9 (1 : Int32) (1 : Int32) hq16) dX10_append_55 ml_X10_127 cd_X10_right mk18 rfl rfl rfl rfl rfl rfl ?_
    refine z_if_eq (tgt := 66) dX10_append_58 rfl (fun hc17 => ?_) (fun hc17 => ?_)
    · have h := it_t h hc17
      refine z_aload_n (i := 0) dX10_append_66 rfl rfl ?_
      refine z_iload (i := 6) dX10_append_67 rfl ?_
      refine z_putI allR_nd dX10_append_69 fl_X10_70 mk18 rfl rfl ?_
      refine z_iconst (v := (0 : Int32)) dX10_append_72 kc_0 ?_
      cases h
      exact z_iret dX10_append_73 rfl rfl (Nat.le_refl _) (Nat.le_refl _) ⟨rfl, rfl⟩
    · have h := it_f h hc17
      refine z_aload_n (i := 0) dX10_append_61 rfl rfl ?_
      refine z_getI (x := (q15.2.1 (18, 0, 0) 10)) dX10_append_62 fl_X10_70 mk18 rfl rfl ?_
      cases h
      exact z_iret dX10_append_65 rfl rfl (Nat.le_refl _) (Nat.le_refl _) ⟨rfl, rfl⟩
theorem dX10_truncate_0 : decode cX10_truncate 0 = .ok (.aload_n 0, 1) := by decide +kernel
theorem dX10_truncate_1 : decode cX10_truncate 1 = .ok (.iconst 0, 1) := by decide +kernel
theorem dX10_truncate_2 : decode cX10_truncate 2 = .ok (.putfield 79, 3) := by decide +kernel
theorem dX10_truncate_5 : decode cX10_truncate 5 = .ok (.aload_n 0, 1) := by decide +kernel
theorem dX10_truncate_6 : decode cX10_truncate 6 = .ok (.iload_n 1, 1) := by decide +kernel
theorem dX10_truncate_7 : decode cX10_truncate 7 = .ok (.iconst 0, 1) := by decide +kernel
theorem dX10_truncate_8 : decode cX10_truncate 8 = .ok (.aload_n 0, 1) := by decide +kernel
theorem dX10_truncate_9 : decode cX10_truncate 9 = .ok (.getfield 70, 3) := by decide +kernel
theorem dX10_truncate_12 : decode cX10_truncate 12 = .ok (.invokestatic 82, 3) := by decide +kernel
theorem dX10_truncate_15 : decode cX10_truncate 15 = .ok (.iconst 1, 1) := by decide +kernel
theorem dX10_truncate_16 : decode cX10_truncate 16 = .ok (.invokevirtual 127, 3) := by decide +kernel
theorem dX10_truncate_19 : decode cX10_truncate 19 = .ok (.ifCond .ne 5, 3) := by decide +kernel
theorem dX10_truncate_22 : decode cX10_truncate 22 = .ok (.iconst 0, 1) := by decide +kernel
theorem dX10_truncate_23 : decode cX10_truncate 23 = .ok (.ireturn, 1) := by decide +kernel
theorem dX10_truncate_24 : decode cX10_truncate 24 = .ok (.aload_n 0, 1) := by decide +kernel
theorem dX10_truncate_25 : decode cX10_truncate 25 = .ok (.getfield 70, 3) := by decide +kernel
theorem dX10_truncate_28 : decode cX10_truncate 28 = .ok (.iload_n 1, 1) := by decide +kernel
theorem dX10_truncate_29 : decode cX10_truncate 29 = .ok (.isub, 1) := by decide +kernel
theorem dX10_truncate_30 : decode cX10_truncate 30 = .ok (.istore_n 2, 1) := by decide +kernel
theorem dX10_truncate_31 : decode cX10_truncate 31 = .ok (.aload_n 0, 1) := by decide +kernel
theorem dX10_truncate_32 : decode cX10_truncate 32 = .ok (.iload_n 1, 1) := by decide +kernel
theorem dX10_truncate_33 : decode cX10_truncate 33 = .ok (.putfield 70, 3) := by decide +kernel
theorem dX10_truncate_36 : decode cX10_truncate 36 = .ok (.iload_n 2, 1) := by decide +kernel
theorem dX10_truncate_37 : decode cX10_truncate 37 = .ok (.ireturn, 1) := by decide +kernel
def fX10_truncate (M : Mm) (x1 : Int32) : Option (Int32 × Mm) := (fX10_right (putI M (18, 0, 0) 8 (0 : Int32)) (fX10_in (putI M (18, 0, 0) 8 (0 : Int32)) x1 (0 : Int32) (M.1 (18, 0, 0) 10)) (1 : Int32)).bind fun q1 => if q1.1 = 0 then some ((0 : Int32), q1.2) else some (((q1.2.1 (18, 0, 0) 10) - x1), (putI q1.2 (18, 0, 0) 10 x1))
set_option maxRecDepth 20000 in
set_option maxHeartbeats 2000000 in
theorem sX10_truncate {wv : Nat} (M : Mm) (x1 : Int32) {res : (Int32 × Mm)} (h : fX10_truncate M x1 = some res) : TF (wv + 1) yX10_truncate cX10_truncate 3 (some .int) 1 [.inr (18, 0, 0), .inl (.int x1)] M (some (.int res.1)) res.2 := by
  rw [fX10_truncate] at h
  refine TF.go (n := 1) (ls := [some (.inr (18, 0, 0)), some (.inl (.int x1)), none]) rfl rfl rfl rfl rfl ?_
  refine z_aload_n (i := 0) dX10_truncate_0 rfl rfl ?_
  refine z_iconst (v := (0 : Int32)) dX10_truncate_1 kc_0 ?_
  refine z_putI allR_nd dX10_truncate_2 fl_X10_79 mk18 rfl rfl ?_
  refine z_aload_n (i := 0) dX10_truncate_5 rfl rfl ?_
  refine z_iload_n (i := 1) dX10_truncate_6 rfl rfl ?_
  refine z_iconst (v := (0 : Int32)) dX10_truncate_7 kc_0 ?_
  refine z_aload_n (i := 0) dX10_truncate_8 rfl rfl ?_
  refine z_getI (x := (M.1 (18, 0, 0) 10)) dX10_truncate_9 fl_X10_70 mk18 rfl rfl ?_
  refine z_fSi (sX10_in (putI M (18, 0, 0) 8 (0 : Int32)) x1 (0 : Int32) (M.1 (18, 0, 0) 10)) dX10_truncate_12 ml_X10_82 cd_X10_in rfl rfl rfl rfl rfl ?_
  refine z_iconst (v := (1 : Int32)) dX10_truncate_15 kc_1 ?_
  obtain ⟨q1, hq2, h⟩ := bnd h
  refine z_fVi (sX10_right (putI M (18, 0, 0) 8 (0 : Int32)) (fX10_in (putI M (18, 0, 0) 8 (0 : Int32)) x1 (0 : Int32) (M.1 (18, 0, 0) 10)) (1 : Int32) hq2) dX10_truncate_16 ml_X10_127 cd_X10_right mk18 rfl rfl rfl rfl rfl rfl ?_
  refine z_if_ne (tgt := 24) dX10_truncate_19 rfl (fun hc3 => ?_) (fun hc3 => ?_)
  · have h := it_f h hc3
    refine z_aload_n (i := 0) dX10_truncate_24 rfl rfl ?_
    refine z_getI (x := (q1.2.1 (18, 0, 0) 10)) dX10_truncate_25 fl_X10_70 mk18 rfl rfl ?_
    refine z_iload_n (i := 1) dX10_truncate_28 rfl rfl ?_
    refine z_isub dX10_truncate_29 ?_
    refine z_istore_n (i := 2) dX10_truncate_30 rfl (Nat.le_of_ble_eq_true rfl) rfl ?_
    refine z_aload_n (i := 0) dX10_truncate_31 rfl rfl ?_
    refine z_iload_n (i := 1) dX10_truncate_32 rfl rfl ?_
    refine z_putI allR_nd dX10_truncate_33 fl_X10_70 mk18 rfl rfl ?_
    refine z_iload_n (i := 2) dX10_truncate_36 rfl rfl ?_
    cases h
    exact z_iret dX10_truncate_37 rfl rfl (Nat.le_refl _) (Nat.le_refl _) ⟨rfl, rfl⟩
  · have h := it_t h hc3
    refine z_iconst (v := (0 : Int32)) dX10_truncate_22 kc_0 ?_
    cases h
    exact z_iret dX10_truncate_23 rfl rfl (Nat.le_refl _) (Nat.le_refl _) ⟨rfl, rfl⟩
theorem dX10_errorCode_0 : decode cX10_errorCode 0 = .ok (.aload_n 0, 1) := by decide +kernel
theorem dX10_errorCode_1 : decode cX10_errorCode 1 = .ok (.iconst 0, 1) := by decide +kernel
theorem dX10_errorCode_2 : decode cX10_errorCode 2 = .ok (.putfield 79, 3) := by decide +kernel
theorem dX10_errorCode_5 : decode cX10_errorCode 5 = .ok (.aload_n 0, 1) := by decide +kernel
theorem dX10_errorCode_6 : decode cX10_errorCode 6 = .ok (.getfield 131, 3) := by decide +kernel
theorem dX10_errorCode_9 : decode cX10_errorCode 9 = .ok (.ireturn, 1) := by decide +kernel
def fX10_errorCode (M : Mm) : Option (Int32 × Mm) := some ((M.1 (18, 0, 0) 11), (putI M (18, 0, 0) 8 (0 : Int32)))
set_option maxRecDepth 20000 in
set_option maxHeartbeats 2000000 in
theorem sX10_errorCode {wv : Nat} (M : Mm) {res : (Int32 × Mm)} (h : fX10_errorCode M  = some res) : TF (wv + 1) yX10_errorCode cX10_errorCode 1 (some .int) 0 [.inr (18, 0, 0)] M (some (.int res.1)) res.2 := by
  rw [fX10_errorCode] at h
  refine TF.go (n := 0) (ls := [some (.inr (18, 0, 0))]) rfl rfl rfl rfl rfl ?_
  refine z_aload_n (i := 0) dX10_errorCode_0 rfl rfl ?_
  refine z_iconst (v := (0 : Int32)) dX10_errorCode_1 kc_0 ?_
  refine z_putI allR_nd dX10_errorCode_2 fl_X10_79 mk18 rfl rfl ?_
  refine z_aload_n (i := 0) dX10_errorCode_5 rfl rfl ?_
  refine z_getI (x := (M.1 (18, 0, 0) 11)) dX10_errorCode_6 fl_X10_131 mk18 rfl rfl ?_
  cases h
  exact z_iret dX10_errorCode_9 rfl rfl (Nat.le_refl _) (Nat.le_refl _) ⟨rfl, rfl⟩
theorem dX10_errorPosition_0 : decode cX10_errorPosition 0 = .ok (.aload_n 0, 1) := by decide +kernel
theorem dX10_errorPosition_1 : decode cX10_errorPosition 1 = .ok (.iconst 0, 1) := by decide +kernel
theorem dX10_errorPosition_2 : decode cX10_errorPosition 2 = .ok (.putfield 79, 3) := by decide +kernel
theorem dX10_errorPosition_5 : decode cX10_errorPosition 5 = .ok (.aload_n 0, 1) := by decide +kernel
theorem dX10_errorPosition_6 : decode cX10_errorPosition 6 = .ok (.getfield 35, 3) := by decide +kernel
theorem dX10_errorPosition_9 : decode cX10_errorPosition 9 = .ok (.ireturn, 1) := by decide +kernel
def fX10_errorPosition (M : Mm) : Option (Int32 × Mm) := some ((M.1 (18, 0, 0) 12), (putI M (18, 0, 0) 8 (0 : Int32)))
set_option maxRecDepth 20000 in
set_option maxHeartbeats 2000000 in
theorem sX10_errorPosition {wv : Nat} (M : Mm) {res : (Int32 × Mm)} (h : fX10_errorPosition M  = some res) : TF (wv + 1) yX10_errorPosition cX10_errorPosition 1 (some .int) 0 [.inr (18, 0, 0)] M (some (.int res.1)) res.2 := by
  rw [fX10_errorPosition] at h
  refine TF.go (n := 0) (ls := [some (.inr (18, 0, 0))]) rfl rfl rfl rfl rfl ?_
  refine z_aload_n (i := 0) dX10_errorPosition_0 rfl rfl ?_
  refine z_iconst (v := (0 : Int32)) dX10_errorPosition_1 kc_0 ?_
  refine z_putI allR_nd dX10_errorPosition_2 fl_X10_79 mk18 rfl rfl ?_
  refine z_aload_n (i := 0) dX10_errorPosition_5 rfl rfl ?_
  refine z_getI (x := (M.1 (18, 0, 0) 12)) dX10_errorPosition_6 fl_X10_35 mk18 rfl rfl ?_
  cases h
  exact z_iret dX10_errorPosition_9 rfl rfl (Nat.le_refl _) (Nat.le_refl _) ⟨rfl, rfl⟩
theorem dX10_isWhole_0 : decode cX10_isWhole 0 = .ok (.aload_n 0, 1) := by decide +kernel
theorem dX10_isWhole_1 : decode cX10_isWhole 1 = .ok (.iconst 0, 1) := by decide +kernel
theorem dX10_isWhole_2 : decode cX10_isWhole 2 = .ok (.putfield 70, 3) := by decide +kernel
theorem dX10_isWhole_5 : decode cX10_isWhole 5 = .ok (.aload_n 0, 1) := by decide +kernel
theorem dX10_isWhole_6 : decode cX10_isWhole 6 = .ok (.aload_n 0, 1) := by decide +kernel
theorem dX10_isWhole_7 : decode cX10_isWhole 7 = .ok (.getfield 149, 3) := by decide +kernel
theorem dX10_isWhole_10 : decode cX10_isWhole 10 = .ok (.putfield 131, 3) := by decide +kernel
theorem dX10_isWhole_13 : decode cX10_isWhole 13 = .ok (.aload_n 0, 1) := by decide +kernel
theorem dX10_isWhole_14 : decode cX10_isWhole 14 = .ok (.aload_n 0, 1) := by decide +kernel
theorem dX10_isWhole_15 : decode cX10_isWhole 15 = .ok (.getfield 152, 3) := by decide +kernel
theorem dX10_isWhole_18 : decode cX10_isWhole 18 = .ok (.putfield 35, 3) := by decide +kernel
theorem dX10_isWhole_21 : decode cX10_isWhole 21 = .ok (.aload_n 0, 1) := by decide +kernel
theorem dX10_isWhole_22 : decode cX10_isWhole 22 = .ok (.getfield 149, 3) := by decide +kernel
theorem dX10_isWhole_25 : decode cX10_isWhole 25 = .ok (.ifCond .ne 7, 3) := by decide +kernel
theorem dX10_isWhole_28 : decode cX10_isWhole 28 = .ok (.iconst 1, 1) := by decide +kernel
theorem dX10_isWhole_29 : decode cX10_isWhole 29 = .ok (.goto 4, 3) := by decide +kernel
theorem dX10_isWhole_32 : decode cX10_isWhole 32 = .ok (.iconst 0, 1) := by decide +kernel
theorem dX10_isWhole_33 : decode cX10_isWhole 33 = .ok (.ireturn, 1) := by decide +kernel
def fX10_isWhole (M : Mm) : Option (Int32 × Mm) := if (M.1 (18, 0, 0) 17) = 0 then some ((1 : Int32), (putI (putI (putI M (18, 0, 0) 10 (0 : Int32)) (18, 0, 0) 11 (M.1 (18, 0, 0) 17)) (18, 0, 0) 12 (M.1 (18, 0, 0) 18))) else some ((0 : Int32), (putI (putI (putI M (18, 0, 0) 10 (0 : Int32)) (18, 0, 0) 11 (M.1 (18, 0, 0) 17)) (18, 0, 0) 12 (M.1 (18, 0, 0) 18)))
set_option maxRecDepth 20000 in
set_option maxHeartbeats 2000000 in
theorem sX10_isWhole {wv : Nat} (M : Mm) {res : (Int32 × Mm)} (h : fX10_isWhole M  = some res) : TF (wv + 1) yX10_isWhole cX10_isWhole 1 (some .boolean) 0 [.inr (18, 0, 0)] M (some (.int res.1)) res.2 := by
  rw [fX10_isWhole] at h
  refine TF.go (n := 0) (ls := [some (.inr (18, 0, 0))]) rfl rfl rfl rfl rfl ?_
  refine z_aload_n (i := 0) dX10_isWhole_0 rfl rfl ?_
  refine z_iconst (v := (0 : Int32)) dX10_isWhole_1 kc_0 ?_
  refine z_putI allR_nd dX10_isWhole_2 fl_X10_70 mk18 rfl rfl ?_
  refine z_aload_n (i := 0) dX10_isWhole_5 rfl rfl ?_
  refine z_aload_n (i := 0) dX10_isWhole_6 rfl rfl ?_
  refine z_getI (x := (M.1 (18, 0, 0) 17)) dX10_isWhole_7 fl_X10_149 mk18 rfl rfl ?_
  refine z_putI allR_nd dX10_isWhole_10 fl_X10_131 mk18 rfl rfl ?_
  refine z_aload_n (i := 0) dX10_isWhole_13 rfl rfl ?_
  refine z_aload_n (i := 0) dX10_isWhole_14 rfl rfl ?_
  refine z_getI (x := (M.1 (18, 0, 0) 18)) dX10_isWhole_15 fl_X10_152 mk18 rfl rfl ?_
  refine z_putI allR_nd dX10_isWhole_18 fl_X10_35 mk18 rfl rfl ?_
  refine z_aload_n (i := 0) dX10_isWhole_21 rfl rfl ?_
  refine z_getI (x := (M.1 (18, 0, 0) 17)) dX10_isWhole_22 fl_X10_149 mk18 rfl rfl ?_
  refine z_if_ne (tgt := 32) dX10_isWhole_25 rfl (fun hc1 => ?_) (fun hc1 => ?_)
  · have h := it_f h hc1
    refine z_iconst (v := (0 : Int32)) dX10_isWhole_32 kc_0 ?_
    cases h
    exact z_iret dX10_isWhole_33 rfl rfl (Nat.le_refl _) (Nat.le_refl _) ⟨rfl, rfl⟩
  · have h := it_t h hc1
    refine z_iconst (v := (1 : Int32)) dX10_isWhole_28 kc_1 ?_
    refine z_goto (tgt := 33) dX10_isWhole_29 rfl ?_
    cases h
    exact z_iret dX10_isWhole_33 rfl rfl (Nat.le_refl _) (Nat.le_refl _) ⟨rfl, rfl⟩
theorem dX10_load_0 : decode cX10_load 0 = .ok (.aload_n 0, 1) := by decide +kernel
theorem dX10_load_1 : decode cX10_load 1 = .ok (.iconst 0, 1) := by decide +kernel
theorem dX10_load_2 : decode cX10_load 2 = .ok (.putfield 79, 3) := by decide +kernel
theorem dX10_load_5 : decode cX10_load 5 = .ok (.iconst 0, 1) := by decide +kernel
theorem dX10_load_6 : decode cX10_load 6 = .ok (.istore_n 1, 1) := by decide +kernel
theorem dX10_load_7 : decode cX10_load 7 = .ok (.iload_n 1, 1) := by decide +kernel
theorem dX10_load_8 : decode cX10_load 8 = .ok (.sipush 280, 3) := by decide +kernel
theorem dX10_load_11 : decode cX10_load 11 = .ok (.if_icmp .ge 28, 3) := by decide +kernel
theorem dX10_load_14 : decode cX10_load 14 = .ok (.aload_n 0, 1) := by decide +kernel
theorem dX10_load_15 : decode cX10_load 15 = .ok (.getfield 16, 3) := by decide +kernel
theorem dX10_load_18 : decode cX10_load 18 = .ok (.iload_n 1, 1) := by decide +kernel
theorem dX10_load_19 : decode cX10_load 19 = .ok (.aload_n 0, 1) := by decide +kernel
theorem dX10_load_20 : decode cX10_load 20 = .ok (.getfield 7, 3) := by decide +kernel
theorem dX10_load_23 : decode cX10_load 23 = .ok (.iload_n 1, 1) := by decide +kernel
theorem dX10_load_24 : decode cX10_load 24 = .ok (.iaload, 1) := by decide +kernel
theorem dX10_load_25 : decode cX10_load 25 = .ok (.iastore, 1) := by decide +kernel
theorem dX10_load_26 : decode cX10_load 26 = .ok (.aload_n 0, 1) := by decide +kernel
theorem dX10_load_27 : decode cX10_load 27 = .ok (.getfield 7, 3) := by decide +kernel
theorem dX10_load_30 : decode cX10_load 30 = .ok (.iload_n 1, 1) := by decide +kernel
theorem dX10_load_31 : decode cX10_load 31 = .ok (.iconst 0, 1) := by decide +kernel
theorem dX10_load_32 : decode cX10_load 32 = .ok (.iastore, 1) := by decide +kernel
theorem dX10_load_33 : decode cX10_load 33 = .ok (.iinc 1 1, 3) := by decide +kernel
theorem dX10_load_36 : decode cX10_load 36 = .ok (.goto (-29), 3) := by decide +kernel
theorem dX10_load_39 : decode cX10_load 39 = .ok (.aload_n 0, 1) := by decide +kernel
theorem dX10_load_40 : decode cX10_load 40 = .ok (.invokevirtual 73, 3) := by decide +kernel
theorem dX10_load_43 : decode cX10_load 43 = .ok (.aload_n 0, 1) := by decide +kernel
theorem dX10_load_44 : decode cX10_load 44 = .ok (.invokevirtual 76, 3) := by decide +kernel
theorem dX10_load_47 : decode cX10_load 47 = .ok (.aload_n 0, 1) := by decide +kernel
theorem dX10_load_48 : decode cX10_load 48 = .ok (.invokevirtual 196, 3) := by decide +kernel
theorem dX10_load_51 : decode cX10_load 51 = .ok (.ifCond .ne 35, 3) := by decide +kernel
theorem dX10_load_54 : decode cX10_load 54 = .ok (.iconst 0, 1) := by decide +kernel
theorem dX10_load_55 : decode cX10_load 55 = .ok (.istore_n 1, 1) := by decide +kernel
theorem dX10_load_56 : decode cX10_load 56 = .ok (.iload_n 1, 1) := by decide +kernel
theorem dX10_load_57 : decode cX10_load 57 = .ok (.sipush 280, 3) := by decide +kernel
theorem dX10_load_60 : decode cX10_load 60 = .ok (.if_icmp .ge 21, 3) := by decide +kernel
theorem dX10_load_63 : decode cX10_load 63 = .ok (.aload_n 0, 1) := by decide +kernel
theorem dX10_load_64 : decode cX10_load 64 = .ok (.getfield 7, 3) := by decide +kernel
theorem dX10_load_67 : decode cX10_load 67 = .ok (.iload_n 1, 1) := by decide +kernel
theorem dX10_load_68 : decode cX10_load 68 = .ok (.aload_n 0, 1) := by decide +kernel
theorem dX10_load_69 : decode cX10_load 69 = .ok (.getfield 16, 3) := by decide +kernel
theorem dX10_load_72 : decode cX10_load 72 = .ok (.iload_n 1, 1) := by decide +kernel
theorem dX10_load_73 : decode cX10_load 73 = .ok (.iaload, 1) := by decide +kernel
theorem dX10_load_74 : decode cX10_load 74 = .ok (.iastore, 1) := by decide +kernel
theorem dX10_load_75 : decode cX10_load 75 = .ok (.iinc 1 1, 3) := by decide +kernel
theorem dX10_load_78 : decode cX10_load 78 = .ok (.goto (-22), 3) := by decide +kernel
theorem dX10_load_81 : decode cX10_load 81 = .ok (.aload_n 0, 1) := by decide +kernel
theorem dX10_load_82 : decode cX10_load 82 = .ok (.getfield 131, 3) := by decide +kernel
theorem dX10_load_85 : decode cX10_load 85 = .ok (.ireturn, 1) := by decide +kernel
theorem dX10_load_86 : decode cX10_load 86 = .ok (.aload_n 0, 1) := by decide +kernel
theorem dX10_load_87 : decode cX10_load 87 = .ok (.iconst 0, 1) := by decide +kernel
theorem dX10_load_88 : decode cX10_load 88 = .ok (.putfield 200, 3) := by decide +kernel
theorem dX10_load_91 : decode cX10_load 91 = .ok (.aload_n 0, 1) := by decide +kernel
theorem dX10_load_92 : decode cX10_load 92 = .ok (.getfield 28, 3) := by decide +kernel
theorem dX10_load_95 : decode cX10_load 95 = .ok (.iconst 0, 1) := by decide +kernel
theorem dX10_load_96 : decode cX10_load 96 = .ok (.iconst 0, 1) := by decide +kernel
theorem dX10_load_97 : decode cX10_load 97 = .ok (.bastore, 1) := by decide +kernel
theorem dX10_load_98 : decode cX10_load 98 = .ok (.aload_n 0, 1) := by decide +kernel
theorem dX10_load_99 : decode cX10_load 99 = .ok (.getfield 28, 3) := by decide +kernel
theorem dX10_load_102 : decode cX10_load 102 = .ok (.iconst 1, 1) := by decide +kernel
theorem dX10_load_103 : decode cX10_load 103 = .ok (.iconst 0, 1) := by decide +kernel
theorem dX10_load_104 : decode cX10_load 104 = .ok (.bastore, 1) := by decide +kernel
theorem dX10_load_105 : decode cX10_load 105 = .ok (.iconst 0, 1) := by decide +kernel
theorem dX10_load_106 : decode cX10_load 106 = .ok (.ireturn, 1) := by decide +kernel
def fX10_load_L7 (K : Int32 → Mm → Option (Int32 × Mm)) : Nat → Int32 → Mm → Option (Int32 × Mm)
  | 0, _, _ => none
  | n + 1, v1, M => if (280 : Int32) ≤ v1 then K v1 M else if v1 < 0 ∨ 280 ≤ v1.toNatClampNeg then none else if v1 < 0 ∨ 280 ≤ v1.toNatClampNeg then none else if v1 < 0 ∨ 280 ≤ v1.toNatClampNeg then none else fX10_load_L7 K n (v1 + (1 : Int32)) (putI (putI M (19, 2, 0) v1.toNatClampNeg (M.1 (19, 0, 0) v1.toNatClampNeg)) (19, 0, 0) v1.toNatClampNeg (0 : Int32))
def fX10_load_L56 (K : Int32 → Mm → Option (Int32 × Mm)) : Nat → Int32 → Mm → Option (Int32 × Mm)
  | 0, _, _ => none
  | n + 1, v1, M => if (280 : Int32) ≤ v1 then K v1 M else if v1 < 0 ∨ 280 ≤ v1.toNatClampNeg then none else if v1 < 0 ∨ 280 ≤ v1.toNatClampNeg then none else fX10_load_L56 K n (v1 + (1 : Int32)) (putI M (19, 0, 0) v1.toNatClampNeg (M.1 (19, 2, 0) v1.toNatClampNeg))
def fX10_load (M : Mm) : Option (Int32 × Mm) := fX10_load_L7 (fun w5 M6 => (fX10_starts M6).bind fun q7 => (fX10_readsSetup q7).bind fun q9 => (fX10_isWhole q9).bind fun q11 => if q11.1 = 0 then (fX10_load_L56 (fun w17 M18 => some ((M18.1 (18, 0, 0) 11), M18)) NF (0 : Int32) q11.2) else some ((0 : Int32), (putI (putI (putI q11.2 (18, 0, 0) 7 (0 : Int32)) (20, 0, 0) 0 (0 : Int32)) (20, 0, 0) 1 (0 : Int32)))) NF (0 : Int32) (putI M (18, 0, 0) 8 (0 : Int32))
set_option maxRecDepth 20000 in
set_option maxHeartbeats 2000000 in
theorem sX10_load_L7 {wv : Nat} {res : (Int32 × Mm)} {K : Int32 → Mm → Option (Int32 × Mm)} : ∀ (n : Nat) (v1 : Int32) (M : Mm), fX10_load_L7 K n v1 M = some res →
    (∀ (v1 : Int32) (M : Mm), K v1 M = some res → Z RX10 cX10_load 2 (some .int) [] "load" (rmD 10 0 0) (QM SH (allR (wv + 1)) 0 0 (fun v M9 => v = some (.int res.1) ∧ M9 = res.2) (fun _ _ => False)) (allR (wv + 1)) SH 0 0 39 [some (.inr (18, 0, 0)), some (.inl (.int v1))] [] M) → Z RX10 cX10_load 2 (some .int) [] "load" (rmD 10 0 0) (QM SH (allR (wv + 1)) 0 0 (fun v M9 => v = some (.int res.1) ∧ M9 = res.2) (fun _ _ => False)) (allR (wv + 1)) SH 0 0 7 [some (.inr (18, 0, 0)), some (.inl (.int v1))] [] M := by
  intro n
  induction n with
  | zero => intro v1 M h; cases h
  | succ n ih =>
    intro v1 M h hK
    rw [fX10_load_L7] at h
    refine z_iload_n (i := 1) dX10_load_7 rfl rfl ?_
    refine z_sipush (v := (280 : Int32)) dX10_load_8 ks_280 ?_
    refine z_icmp_ge (tgt := 39) dX10_load_11 rfl (fun hc1 => ?_) (fun hc1 => ?_)
    · have h := it_t h hc1
      exact hK _ _ h
    · have h := it_f h hc1
      refine z_aload_n (i := 0) dX10_load_14 rfl rfl ?_
      refine z_getR (r' := (19, 2, 0)) dX10_load_15 fl_X10_16 mk18 rfl rfl ?_
      refine z_iload_n (i := 1) dX10_load_18 rfl rfl ?_
      refine z_aload_n (i := 0) dX10_load_19 rfl rfl ?_
      refine z_getR (r' := (19, 0, 0)) dX10_load_20 fl_X10_7 mk18 rfl rfl ?_
      refine z_iload_n (i := 1) dX10_load_23 rfl rfl ?_
      obtain ⟨hc2, h⟩ := chk h
      refine z_iald (x := (M.1 (19, 0, 0) v1.toNatClampNeg)) dX10_load_24 (m19 _ (Nat.le_of_ble_eq_true rfl)) rfl hc2 rfl ?_
      obtain ⟨hc3, h⟩ := chk h
      refine z_iast (j := v1.toNatClampNeg) allR_nd dX10_load_25 (m19 _ (Nat.le_of_ble_eq_true rfl)) rfl hc3 rfl ?_
      refine z_aload_n (i := 0) dX10_load_26 rfl rfl ?_
      refine z_getR (r' := (19, 0, 0)) dX10_load_27 fl_X10_7 mk18 rfl rfl ?_
      refine z_iload_n (i := 1) dX10_load_30 rfl rfl ?_
      refine z_iconst (v := (0 : Int32)) dX10_load_31 kc_0 ?_
      obtain ⟨hc4, h⟩ := chk h
      refine z_iast (j := v1.toNatClampNeg) allR_nd dX10_load_32 (m19 _ (Nat.le_of_ble_eq_true rfl)) rfl hc4 rfl ?_
      refine z_iinc (i := 1) (v := (v1 + (1 : Int32))) dX10_load_33 rfl (iinc_k kc_1) (Nat.le_of_ble_eq_true rfl) rfl ?_
      refine z_goto (tgt := 7) dX10_load_36 rfl ?_
      exact ih _ _ h hK
set_option maxRecDepth 20000 in
set_option maxHeartbeats 2000000 in
theorem sX10_load_L56 {wv : Nat} {res : (Int32 × Mm)} {K : Int32 → Mm → Option (Int32 × Mm)} : ∀ (n : Nat) (v1 : Int32) (M : Mm), fX10_load_L56 K n v1 M = some res →
    (∀ (v1 : Int32) (M : Mm), K v1 M = some res → Z RX10 cX10_load 2 (some .int) [] "load" (rmD 10 0 0) (QM SH (allR (wv + 1)) 0 0 (fun v M9 => v = some (.int res.1) ∧ M9 = res.2) (fun _ _ => False)) (allR (wv + 1)) SH 0 0 81 [some (.inr (18, 0, 0)), some (.inl (.int v1))] [] M) → Z RX10 cX10_load 2 (some .int) [] "load" (rmD 10 0 0) (QM SH (allR (wv + 1)) 0 0 (fun v M9 => v = some (.int res.1) ∧ M9 = res.2) (fun _ _ => False)) (allR (wv + 1)) SH 0 0 56 [some (.inr (18, 0, 0)), some (.inl (.int v1))] [] M := by
  intro n
  induction n with
  | zero => intro v1 M h; cases h
  | succ n ih =>
    intro v1 M h hK
    rw [fX10_load_L56] at h
    refine z_iload_n (i := 1) dX10_load_56 rfl rfl ?_
    refine z_sipush (v := (280 : Int32)) dX10_load_57 ks_280 ?_
    refine z_icmp_ge (tgt := 81) dX10_load_60 rfl (fun hc14 => ?_) (fun hc14 => ?_)
    · have h := it_t h hc14
      exact hK _ _ h
    · have h := it_f h hc14
      refine z_aload_n (i := 0) dX10_load_63 rfl rfl ?_
      refine z_getR (r' := (19, 0, 0)) dX10_load_64 fl_X10_7 mk18 rfl rfl ?_
      refine z_iload_n (i := 1) dX10_load_67 rfl rfl ?_
      refine z_aload_n (i := 0) dX10_load_68 rfl rfl ?_
      refine z_getR (r' := (19, 2, 0)) dX10_load_69 fl_X10_16 mk18 rfl rfl ?_
      refine z_iload_n (i := 1) dX10_load_72 rfl rfl ?_
      obtain ⟨hc15, h⟩ := chk h
      refine z_iald (x := (M.1 (19, 2, 0) v1.toNatClampNeg)) dX10_load_73 (m19 _ (Nat.le_of_ble_eq_true rfl)) rfl hc15 rfl ?_
      obtain ⟨hc16, h⟩ := chk h
      refine z_iast (j := v1.toNatClampNeg) allR_nd dX10_load_74 (m19 _ (Nat.le_of_ble_eq_true rfl)) rfl hc16 rfl ?_
      refine z_iinc (i := 1) (v := (v1 + (1 : Int32))) dX10_load_75 rfl (iinc_k kc_1) (Nat.le_of_ble_eq_true rfl) rfl ?_
      refine z_goto (tgt := 56) dX10_load_78 rfl ?_
      exact ih _ _ h hK
set_option maxRecDepth 20000 in
set_option maxHeartbeats 2000000 in
theorem sX10_load {wv : Nat} (M : Mm) {res : (Int32 × Mm)} (h : fX10_load M  = some res) : TF (wv + 1) yX10_load cX10_load 2 (some .int) 10 [.inr (18, 0, 0)] M (some (.int res.1)) res.2 := by
  rw [fX10_load] at h
  refine TF.go (n := 1) (ls := [some (.inr (18, 0, 0)), none]) rfl rfl rfl rfl rfl ?_
  refine z_aload_n (i := 0) dX10_load_0 rfl rfl ?_
  refine z_iconst (v := (0 : Int32)) dX10_load_1 kc_0 ?_
  refine z_putI allR_nd dX10_load_2 fl_X10_79 mk18 rfl rfl ?_
  refine z_iconst (v := (0 : Int32)) dX10_load_5 kc_0 ?_
  refine z_istore_n (i := 1) dX10_load_6 rfl (Nat.le_of_ble_eq_true rfl) rfl ?_
  refine sX10_load_L7  NF _ _ h (fun w5 M6 h => ?_)
  refine z_aload_n (i := 0) dX10_load_39 rfl rfl ?_
  obtain ⟨q7, hq8, h⟩ := bnd h
  refine z_fVv (sX10_starts M6 hq8) dX10_load_40 ml_X10_73 cd_X10_starts mk18 rfl rfl rfl rfl rfl rfl ?_
  refine z_aload_n (i := 0) dX10_load_43 rfl rfl ?_
  obtain ⟨q9, hq10, h⟩ := bnd h
  refine z_fVv (sX10_readsSetup q7 hq10) dX10_load_44 ml_X10_76 cd_X10_readsSetup mk18 rfl rfl rfl rfl rfl rfl ?_
  refine z_aload_n (i := 0) dX10_load_47 rfl rfl ?_
  obtain ⟨q11, hq12, h⟩ := bnd h
  refine z_fVi (sX10_isWhole q9 hq12) dX10_load_48 ml_X10_196 cd_X10_isWhole mk18 rfl rfl rfl rfl rfl rfl ?_
  refine z_if_ne (tgt := 86) dX10_load_51 rfl (fun hc13 => ?_) (fun hc13 => ?_)
  · have h := it_f h hc13
    refine z_aload_n (i := 0) dX10_load_86 rfl rfl ?_
    refine z_iconst (v := (0 : Int32)) dX10_load_87 kc_0 ?_
    refine z_putI allR_nd dX10_load_88 fl_X10_200 mk18 rfl rfl ?_
    refine z_aload_n (i := 0) dX10_load_91 rfl rfl ?_
    refine z_getR (r' := (20, 0, 0)) dX10_load_92 fl_X10_28 mk18 rfl rfl ?_
    refine z_iconst (v := (0 : Int32)) dX10_load_95 kc_0 ?_
    refine z_iconst (v := (0 : Int32)) dX10_load_96 kc_0 ?_
    refine z_zast (j := 0) allR_nd dX10_load_97 mk20 rfl (by decide) rfl rfl ?_
    refine z_aload_n (i := 0) dX10_load_98 rfl rfl ?_
    refine z_getR (r' := (20, 0, 0)) dX10_load_99 fl_X10_28 mk18 rfl rfl ?_
    refine z_iconst (v := (1 : Int32)) dX10_load_102 kc_1 ?_
    refine z_iconst (v := (0 : Int32)) dX10_load_103 kc_0 ?_
    refine z_zast (j := 1) allR_nd dX10_load_104 mk20 rfl (by decide) rfl rfl ?_
    refine z_iconst (v := (0 : Int32)) dX10_load_105 kc_0 ?_
    cases h
    exact z_iret dX10_load_106 rfl rfl (Nat.le_refl _) (Nat.le_refl _) ⟨rfl, rfl⟩
  · have h := it_t h hc13
    refine z_iconst (v := (0 : Int32)) dX10_load_54 kc_0 ?_
    refine z_istore_n (i := 1) dX10_load_55 rfl (Nat.le_of_ble_eq_true rfl) rfl ?_
    refine sX10_load_L56  NF _ _ h (fun w17 M18 h => ?_)
    refine z_aload_n (i := 0) dX10_load_81 rfl rfl ?_
    refine z_getI (x := (M18.1 (18, 0, 0) 11)) dX10_load_82 fl_X10_131 mk18 rfl rfl ?_
    cases h
    exact z_iret dX10_load_85 rfl rfl (Nat.le_refl _) (Nat.le_refl _) ⟨rfl, rfl⟩
theorem dX10_commandHere_0 : decode cX10_commandHere 0 = .ok (.aload_n 0, 1) := by decide +kernel
theorem dX10_commandHere_1 : decode cX10_commandHere 1 = .ok (.ldc 183, 2) := by decide +kernel
theorem dX10_commandHere_3 : decode cX10_commandHere 3 = .ok (.invokevirtual 173, 3) := by decide +kernel
theorem dX10_commandHere_6 : decode cX10_commandHere 6 = .ok (.ifCond .eq 5, 3) := by decide +kernel
theorem dX10_commandHere_9 : decode cX10_commandHere 9 = .ok (.iconst 0, 1) := by decide +kernel
theorem dX10_commandHere_10 : decode cX10_commandHere 10 = .ok (.ireturn, 1) := by decide +kernel
theorem dX10_commandHere_11 : decode cX10_commandHere 11 = .ok (.aload_n 0, 1) := by decide +kernel
theorem dX10_commandHere_12 : decode cX10_commandHere 12 = .ok (.ldc 203, 2) := by decide +kernel
theorem dX10_commandHere_14 : decode cX10_commandHere 14 = .ok (.invokevirtual 173, 3) := by decide +kernel
theorem dX10_commandHere_17 : decode cX10_commandHere 17 = .ok (.ifCond .eq 5, 3) := by decide +kernel
theorem dX10_commandHere_20 : decode cX10_commandHere 20 = .ok (.iconst 1, 1) := by decide +kernel
theorem dX10_commandHere_21 : decode cX10_commandHere 21 = .ok (.ireturn, 1) := by decide +kernel
theorem dX10_commandHere_22 : decode cX10_commandHere 22 = .ok (.aload_n 0, 1) := by decide +kernel
theorem dX10_commandHere_23 : decode cX10_commandHere 23 = .ok (.ldc 205, 2) := by decide +kernel
theorem dX10_commandHere_25 : decode cX10_commandHere 25 = .ok (.invokevirtual 173, 3) := by decide +kernel
theorem dX10_commandHere_28 : decode cX10_commandHere 28 = .ok (.ifCond .eq 5, 3) := by decide +kernel
theorem dX10_commandHere_31 : decode cX10_commandHere 31 = .ok (.iconst 2, 1) := by decide +kernel
theorem dX10_commandHere_32 : decode cX10_commandHere 32 = .ok (.ireturn, 1) := by decide +kernel
theorem dX10_commandHere_33 : decode cX10_commandHere 33 = .ok (.aload_n 0, 1) := by decide +kernel
theorem dX10_commandHere_34 : decode cX10_commandHere 34 = .ok (.ldc 207, 2) := by decide +kernel
theorem dX10_commandHere_36 : decode cX10_commandHere 36 = .ok (.invokevirtual 173, 3) := by decide +kernel
theorem dX10_commandHere_39 : decode cX10_commandHere 39 = .ok (.ifCond .eq 5, 3) := by decide +kernel
theorem dX10_commandHere_42 : decode cX10_commandHere 42 = .ok (.iconst 3, 1) := by decide +kernel
theorem dX10_commandHere_43 : decode cX10_commandHere 43 = .ok (.ireturn, 1) := by decide +kernel
theorem dX10_commandHere_44 : decode cX10_commandHere 44 = .ok (.aload_n 0, 1) := by decide +kernel
theorem dX10_commandHere_45 : decode cX10_commandHere 45 = .ok (.ldc 209, 2) := by decide +kernel
theorem dX10_commandHere_47 : decode cX10_commandHere 47 = .ok (.invokevirtual 173, 3) := by decide +kernel
theorem dX10_commandHere_50 : decode cX10_commandHere 50 = .ok (.ifCond .eq 5, 3) := by decide +kernel
theorem dX10_commandHere_53 : decode cX10_commandHere 53 = .ok (.iconst 4, 1) := by decide +kernel
theorem dX10_commandHere_54 : decode cX10_commandHere 54 = .ok (.ireturn, 1) := by decide +kernel
theorem dX10_commandHere_55 : decode cX10_commandHere 55 = .ok (.aload_n 0, 1) := by decide +kernel
theorem dX10_commandHere_56 : decode cX10_commandHere 56 = .ok (.ldc 211, 2) := by decide +kernel
theorem dX10_commandHere_58 : decode cX10_commandHere 58 = .ok (.invokevirtual 173, 3) := by decide +kernel
theorem dX10_commandHere_61 : decode cX10_commandHere 61 = .ok (.ifCond .eq 5, 3) := by decide +kernel
theorem dX10_commandHere_64 : decode cX10_commandHere 64 = .ok (.iconst 5, 1) := by decide +kernel
theorem dX10_commandHere_65 : decode cX10_commandHere 65 = .ok (.ireturn, 1) := by decide +kernel
theorem dX10_commandHere_66 : decode cX10_commandHere 66 = .ok (.aload_n 0, 1) := by decide +kernel
theorem dX10_commandHere_67 : decode cX10_commandHere 67 = .ok (.ldc 213, 2) := by decide +kernel
theorem dX10_commandHere_69 : decode cX10_commandHere 69 = .ok (.invokevirtual 173, 3) := by decide +kernel
theorem dX10_commandHere_72 : decode cX10_commandHere 72 = .ok (.ifCond .eq 6, 3) := by decide +kernel
theorem dX10_commandHere_75 : decode cX10_commandHere 75 = .ok (.bipush 6, 2) := by decide +kernel
theorem dX10_commandHere_77 : decode cX10_commandHere 77 = .ok (.ireturn, 1) := by decide +kernel
theorem dX10_commandHere_78 : decode cX10_commandHere 78 = .ok (.aload_n 0, 1) := by decide +kernel
theorem dX10_commandHere_79 : decode cX10_commandHere 79 = .ok (.ldc 215, 2) := by decide +kernel
theorem dX10_commandHere_81 : decode cX10_commandHere 81 = .ok (.invokevirtual 173, 3) := by decide +kernel
theorem dX10_commandHere_84 : decode cX10_commandHere 84 = .ok (.ifCond .eq 6, 3) := by decide +kernel
theorem dX10_commandHere_87 : decode cX10_commandHere 87 = .ok (.bipush 7, 2) := by decide +kernel
theorem dX10_commandHere_89 : decode cX10_commandHere 89 = .ok (.ireturn, 1) := by decide +kernel
theorem dX10_commandHere_90 : decode cX10_commandHere 90 = .ok (.aload_n 0, 1) := by decide +kernel
theorem dX10_commandHere_91 : decode cX10_commandHere 91 = .ok (.ldc 217, 2) := by decide +kernel
theorem dX10_commandHere_93 : decode cX10_commandHere 93 = .ok (.invokevirtual 173, 3) := by decide +kernel
theorem dX10_commandHere_96 : decode cX10_commandHere 96 = .ok (.ifCond .eq 6, 3) := by decide +kernel
theorem dX10_commandHere_99 : decode cX10_commandHere 99 = .ok (.bipush 8, 2) := by decide +kernel
theorem dX10_commandHere_101 : decode cX10_commandHere 101 = .ok (.ireturn, 1) := by decide +kernel
theorem dX10_commandHere_102 : decode cX10_commandHere 102 = .ok (.aload_n 0, 1) := by decide +kernel
theorem dX10_commandHere_103 : decode cX10_commandHere 103 = .ok (.ldc 219, 2) := by decide +kernel
theorem dX10_commandHere_105 : decode cX10_commandHere 105 = .ok (.invokevirtual 173, 3) := by decide +kernel
theorem dX10_commandHere_108 : decode cX10_commandHere 108 = .ok (.ifCond .eq 8, 3) := by decide +kernel
theorem dX10_commandHere_111 : decode cX10_commandHere 111 = .ok (.bipush 9, 2) := by decide +kernel
theorem dX10_commandHere_113 : decode cX10_commandHere 113 = .ok (.goto 4, 3) := by decide +kernel
theorem dX10_commandHere_116 : decode cX10_commandHere 116 = .ok (.iconst (-1), 1) := by decide +kernel
theorem dX10_commandHere_117 : decode cX10_commandHere 117 = .ok (.ireturn, 1) := by decide +kernel
def fX10_commandHere (M : Mm) : Option Int32 := (fX10_isWord M 3).bind fun q1 => if q1 = 0 then ((fX10_isWord M 4).bind fun q4 => if q4 = 0 then ((fX10_isWord M 5).bind fun q7 => if q7 = 0 then ((fX10_isWord M 6).bind fun q10 => if q10 = 0 then ((fX10_isWord M 7).bind fun q13 => if q13 = 0 then ((fX10_isWord M 8).bind fun q16 => if q16 = 0 then ((fX10_isWord M 9).bind fun q19 => if q19 = 0 then ((fX10_isWord M 10).bind fun q22 => if q22 = 0 then ((fX10_isWord M 11).bind fun q25 => if q25 = 0 then ((fX10_isWord M 12).bind fun q28 => if q28 = 0 then some (-1 : Int32) else some (9 : Int32)) else some (8 : Int32)) else some (7 : Int32)) else some (6 : Int32)) else some (5 : Int32)) else some (4 : Int32)) else some (3 : Int32)) else some (2 : Int32)) else some (1 : Int32)) else some (0 : Int32)
set_option maxRecDepth 20000 in
set_option maxHeartbeats 2000000 in
theorem sX10_commandHere {wv : Nat} (M : Mm) {res : Int32} (h : fX10_commandHere M  = some res) : TF (wv + 1) yX10_commandHere cX10_commandHere 1 (some .int) 8 [.inr (18, 0, 0)] M (some (.int res)) M := by
  rw [fX10_commandHere] at h
  refine TF.go (n := 0) (ls := [some (.inr (18, 0, 0))]) rfl rfl rfl rfl rfl ?_
  refine z_aload_n (i := 0) dX10_commandHere_0 rfl rfl ?_
  refine z_ldcS (j := 3) dX10_commandHere_1 sw_RX10_183 ?_
  obtain ⟨q1, hq2, h⟩ := bnd h
  refine z_fVi (sX10_isWord M 3 (Nat.le_of_ble_eq_true rfl) hq2) dX10_commandHere_3 ml_X10_173 cd_X10_isWord mk18 rfl rfl rfl rfl rfl rfl ?_
  refine z_if_eq (tgt := 11) dX10_commandHere_6 rfl (fun hc3 => ?_) (fun hc3 => ?_)
  · have h := it_t h hc3
    refine z_aload_n (i := 0) dX10_commandHere_11 rfl rfl ?_
    refine z_ldcS (j := 4) dX10_commandHere_12 sw_RX10_203 ?_
    obtain ⟨q4, hq5, h⟩ := bnd h
    refine z_fVi (sX10_isWord M 4 (Nat.le_of_ble_eq_true rfl) hq5) dX10_commandHere_14 ml_X10_173 cd_X10_isWord mk18 rfl rfl rfl rfl rfl rfl ?_
    refine z_if_eq (tgt := 22) dX10_commandHere_17 rfl (fun hc6 => ?_) (fun hc6 => ?_)
    · have h := it_t h hc6
      refine z_aload_n (i := 0) dX10_commandHere_22 rfl rfl ?_
      refine z_ldcS (j := 5) dX10_commandHere_23 sw_RX10_205 ?_
      obtain ⟨q7, hq8, h⟩ := bnd h
      refine z_fVi (sX10_isWord M 5 (Nat.le_of_ble_eq_true rfl) hq8) dX10_commandHere_25 ml_X10_173 cd_X10_isWord mk18 rfl rfl rfl rfl rfl rfl ?_
      refine z_if_eq (tgt := 33) dX10_commandHere_28 rfl (fun hc9 => ?_) (fun hc9 => ?_)
      · have h := it_t h hc9
        refine z_aload_n (i := 0) dX10_commandHere_33 rfl rfl ?_
        refine z_ldcS (j := 6) dX10_commandHere_34 sw_RX10_207 ?_
        obtain ⟨q10, hq11, h⟩ := bnd h
        refine z_fVi (sX10_isWord M 6 (Nat.le_of_ble_eq_true rfl) hq11) dX10_commandHere_36 ml_X10_173 cd_X10_isWord mk18 rfl rfl rfl rfl rfl rfl ?_
        refine z_if_eq (tgt := 44) dX10_commandHere_39 rfl (fun hc12 => ?_) (fun hc12 => ?_)
        · have h := it_t h hc12
          refine z_aload_n (i := 0) dX10_commandHere_44 rfl rfl ?_
          refine z_ldcS (j := 7) dX10_commandHere_45 sw_RX10_209 ?_
          obtain ⟨q13, hq14, h⟩ := bnd h
          refine z_fVi (sX10_isWord M 7 (Nat.le_of_ble_eq_true rfl) hq14) dX10_commandHere_47 ml_X10_173 cd_X10_isWord mk18 rfl rfl rfl rfl rfl rfl ?_
          refine z_if_eq (tgt := 55) dX10_commandHere_50 rfl (fun hc15 => ?_) (fun hc15 => ?_)
          · have h := it_t h hc15
            refine z_aload_n (i := 0) dX10_commandHere_55 rfl rfl ?_
            refine z_ldcS (j := 8) dX10_commandHere_56 sw_RX10_211 ?_
            obtain ⟨q16, hq17, h⟩ := bnd h
            refine z_fVi (sX10_isWord M 8 (Nat.le_of_ble_eq_true rfl) hq17) dX10_commandHere_58 ml_X10_173 cd_X10_isWord mk18 rfl rfl rfl rfl rfl rfl ?_
            refine z_if_eq (tgt := 66) dX10_commandHere_61 rfl (fun hc18 => ?_) (fun hc18 => ?_)
            · have h := it_t h hc18
              refine z_aload_n (i := 0) dX10_commandHere_66 rfl rfl ?_
              refine z_ldcS (j := 9) dX10_commandHere_67 sw_RX10_213 ?_
              obtain ⟨q19, hq20, h⟩ := bnd h
              refine z_fVi (sX10_isWord M 9 (Nat.le_of_ble_eq_true rfl) hq20) dX10_commandHere_69 ml_X10_173 cd_X10_isWord mk18 rfl rfl rfl rfl rfl rfl ?_
              refine z_if_eq (tgt := 78) dX10_commandHere_72 rfl (fun hc21 => ?_) (fun hc21 => ?_)
              · have h := it_t h hc21
                refine z_aload_n (i := 0) dX10_commandHere_78 rfl rfl ?_
                refine z_ldcS (j := 10) dX10_commandHere_79 sw_RX10_215 ?_
                obtain ⟨q22, hq23, h⟩ := bnd h
                refine z_fVi (sX10_isWord M 10 (Nat.le_of_ble_eq_true rfl) hq23) dX10_commandHere_81 ml_X10_173 cd_X10_isWord mk18 rfl rfl rfl rfl rfl rfl ?_
                refine z_if_eq (tgt := 90) dX10_commandHere_84 rfl (fun hc24 => ?_) (fun hc24 => ?_)
                · have h := it_t h hc24
                  refine z_aload_n (i := 0) dX10_commandHere_90 rfl rfl ?_
                  refine z_ldcS (j := 11) dX10_commandHere_91 sw_RX10_217 ?_
                  obtain ⟨q25, hq26, h⟩ := bnd h
                  refine z_fVi (sX10_isWord M 11 (Nat.le_of_ble_eq_true rfl) hq26) dX10_commandHere_93 ml_X10_173 cd_X10_isWord mk18 rfl rfl rfl rfl rfl rfl ?_
                  refine z_if_eq (tgt := 102) dX10_commandHere_96 rfl (fun hc27 => ?_) (fun hc27 => ?_)
                  · have h := it_t h hc27
                    refine z_aload_n (i := 0) dX10_commandHere_102 rfl rfl ?_
                    refine z_ldcS (j := 12) dX10_commandHere_103 sw_RX10_219 ?_
                    obtain ⟨q28, hq29, h⟩ := bnd h
                    refine z_fVi (sX10_isWord M 12 (Nat.le_of_ble_eq_true rfl) hq29) dX10_commandHere_105 ml_X10_173 cd_X10_isWord mk18 rfl rfl rfl rfl rfl rfl ?_
                    refine z_if_eq (tgt := 116) dX10_commandHere_108 rfl (fun hc30 => ?_) (fun hc30 => ?_)
                    · have h := it_t h hc30
                      refine z_iconst (v := (-1 : Int32)) dX10_commandHere_116 kc_m1 ?_
                      cases h
                      exact z_iret dX10_commandHere_117 rfl rfl (Nat.le_refl _) (Nat.le_refl _) ⟨rfl, rfl⟩
                    · have h := it_f h hc30
                      refine z_bipush (v := (9 : Int32)) dX10_commandHere_111 kb_9 ?_
                      refine z_goto (tgt := 117) dX10_commandHere_113 rfl ?_
                      cases h
                      exact z_iret dX10_commandHere_117 rfl rfl (Nat.le_refl _) (Nat.le_refl _) ⟨rfl, rfl⟩
                  · have h := it_f h hc27
                    refine z_bipush (v := (8 : Int32)) dX10_commandHere_99 kb_8 ?_
                    cases h
                    exact z_iret dX10_commandHere_101 rfl rfl (Nat.le_refl _) (Nat.le_refl _) ⟨rfl, rfl⟩
                · have h := it_f h hc24
                  refine z_bipush (v := (7 : Int32)) dX10_commandHere_87 kb_7 ?_
                  cases h
                  exact z_iret dX10_commandHere_89 rfl rfl (Nat.le_refl _) (Nat.le_refl _) ⟨rfl, rfl⟩
              · have h := it_f h hc21
                refine z_bipush (v := (6 : Int32)) dX10_commandHere_75 kb_6 ?_
                cases h
                exact z_iret dX10_commandHere_77 rfl rfl (Nat.le_refl _) (Nat.le_refl _) ⟨rfl, rfl⟩
            · have h := it_f h hc18
              refine z_iconst (v := (5 : Int32)) dX10_commandHere_64 kc_5 ?_
              cases h
              exact z_iret dX10_commandHere_65 rfl rfl (Nat.le_refl _) (Nat.le_refl _) ⟨rfl, rfl⟩
          · have h := it_f h hc15
            refine z_iconst (v := (4 : Int32)) dX10_commandHere_53 kc_4 ?_
            cases h
            exact z_iret dX10_commandHere_54 rfl rfl (Nat.le_refl _) (Nat.le_refl _) ⟨rfl, rfl⟩
        · have h := it_f h hc12
          refine z_iconst (v := (3 : Int32)) dX10_commandHere_42 kc_3 ?_
          cases h
          exact z_iret dX10_commandHere_43 rfl rfl (Nat.le_refl _) (Nat.le_refl _) ⟨rfl, rfl⟩
      · have h := it_f h hc9
        refine z_iconst (v := (2 : Int32)) dX10_commandHere_31 kc_2 ?_
        cases h
        exact z_iret dX10_commandHere_32 rfl rfl (Nat.le_refl _) (Nat.le_refl _) ⟨rfl, rfl⟩
    · have h := it_f h hc6
      refine z_iconst (v := (1 : Int32)) dX10_commandHere_20 kc_1 ?_
      cases h
      exact z_iret dX10_commandHere_21 rfl rfl (Nat.le_refl _) (Nat.le_refl _) ⟨rfl, rfl⟩
  · have h := it_f h hc3
    refine z_iconst (v := (0 : Int32)) dX10_commandHere_9 kc_0 ?_
    cases h
    exact z_iret dX10_commandHere_10 rfl rfl (Nat.le_refl _) (Nat.le_refl _) ⟨rfl, rfl⟩
