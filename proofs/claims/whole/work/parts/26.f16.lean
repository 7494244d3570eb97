theorem dX10_isWhole_0 : decode cX10_isWhole 0 = .ok (.aload_n 0, 1) := by decide +kernel
theorem dX10_isWhole_1 : decode cX10_isWhole 1 = .ok (.iconst 0, 1) := by decide +kernel
theorem dX10_isWhole_2 : decode cX10_isWhole 2 = .ok (.putfield 70, 3) := by decide +kernel
theorem dX10_isWhole_5 : decode cX10_isWhole 5 = .ok (.aload_n 0, 1) := by decide +kernel
theorem dX10_isWhole_6 : decode cX10_isWhole 6 = .ok (.aload_n 0, 1) := by decide +kernel
theorem dX10_isWhole_7 : decode cX10_isWhole 7 = .ok (.getfield 149, 3) := by decide +kernel
theorem dX10_isWhole_10 : decode cX10_isWhole 10 = .ok (.putfield 131, 3) := by decide +kernel
theorem dX10_isWhole_13 : decode cX10_isWhole 13 = .ok (.aload_n 0, 1) := by decide +kernel
theorem dX10_isWhole_14 : decode cX10_isWhole 14 = .ok (.aload_n 0, 1) := by decide +kernel
theorem dX10_isWhole_15 : decode cX10_isWhole 15 = .ok (.getfield 152, 3) := by decide +kernel
theorem dX10_isWhole_18 : decode cX10_isWhole 18 = .ok (.putfield 35, 3) := by decide +kernel
theorem dX10_isWhole_21 : decode cX10_isWhole 21 = .ok (.aload_n 0, 1) := by decide +kernel
theorem dX10_isWhole_22 : decode cX10_isWhole 22 = .ok (.getfield 149, 3) := by decide +kernel
theorem dX10_isWhole_25 : decode cX10_isWhole 25 = .ok (.ifCond .ne 7, 3) := by decide +kernel
theorem dX10_isWhole_28 : decode cX10_isWhole 28 = .ok (.iconst 1, 1) := by decide +kernel
theorem dX10_isWhole_29 : decode cX10_isWhole 29 = .ok (.goto 4, 3) := by decide +kernel
theorem dX10_isWhole_32 : decode cX10_isWhole 32 = .ok (.iconst 0, 1) := by decide +kernel
theorem dX10_isWhole_33 : decode cX10_isWhole 33 = .ok (.ireturn, 1) := by decide +kernel
def fX10_isWhole (M : Mm) : Option (Int32 × Mm) := if (M.1 (18, 0, 0) 17) = 0 then some ((1 : Int32), (putI (putI (putI M (18, 0, 0) 10 (0 : Int32)) (18, 0, 0) 11 (M.1 (18, 0, 0) 17)) (18, 0, 0) 12 (M.1 (18, 0, 0) 18))) else some ((0 : Int32), (putI (putI (putI M (18, 0, 0) 10 (0 : Int32)) (18, 0, 0) 11 (M.1 (18, 0, 0) 17)) (18, 0, 0) 12 (M.1 (18, 0, 0) 18)))
set_option maxRecDepth 20000 in
set_option maxHeartbeats 2000000 in
theorem sX10_isWhole {wv : Nat} (M : Mm) {res : (Int32 × Mm)} (h : fX10_isWhole M  = some res) : TF (wv + 1) yX10_isWhole cX10_isWhole 1 (some .boolean) 0 [.inr (18, 0, 0)] M (some (.int res.1)) res.2 := by
  rw [fX10_isWhole] at h
  refine TF.go (n := 0) (ls := [some (.inr (18, 0, 0))]) rfl rfl rfl rfl rfl ?_
  refine z_aload_n (i := 0) dX10_isWhole_0 rfl rfl ?_
  refine z_iconst (v := (0 : Int32)) dX10_isWhole_1 kc_0 ?_
  refine z_putI allR_nd dX10_isWhole_2 fl_X10_70 mk18 rfl rfl ?_
  refine z_aload_n (i := 0) dX10_isWhole_5 rfl rfl ?_
  refine z_aload_n (i := 0) dX10_isWhole_6 rfl rfl ?_
  refine z_getI (x := (M.1 (18, 0, 0) 17)) dX10_isWhole_7 fl_X10_149 mk18 rfl rfl ?_
  refine z_putI allR_nd dX10_isWhole_10 fl_X10_131 mk18 rfl rfl ?_
  refine z_aload_n (i := 0) dX10_isWhole_13 rfl rfl ?_
  refine z_aload_n (i := 0) dX10_isWhole_14 rfl rfl ?_
  refine z_getI (x := (M.1 (18, 0, 0) 18)) dX10_isWhole_15 fl_X10_152 mk18 rfl rfl ?_
  refine z_putI allR_nd dX10_isWhole_18 fl_X10_35 mk18 rfl rfl ?_
  refine z_aload_n (i := 0) dX10_isWhole_21 rfl rfl ?_
  refine z_getI (x := (M.1 (18, 0, 0) 17)) dX10_isWhole_22 fl_X10_149 mk18 rfl rfl ?_
  refine z_if_ne (tgt := 32) dX10_isWhole_25 rfl (fun hc1 => ?_) (fun hc1 => ?_)
  · have h := it_f h hc1
    refine z_iconst (v := (0 : Int32)) dX10_isWhole_32 kc_0 ?_
    cases h
    exact z_iret dX10_isWhole_33 rfl rfl (Nat.le_refl _) (Nat.le_refl _) ⟨rfl, rfl⟩
  · have h := it_t h hc1
    refine z_iconst (v := (1 : Int32)) dX10_isWhole_28 kc_1 ?_
    refine z_goto (tgt := 33) dX10_isWhole_29 rfl ?_
    cases h
    exact z_iret dX10_isWhole_33 rfl rfl (Nat.le_refl _) (Nat.le_refl _) ⟨rfl, rfl⟩
theorem dX10_load_0 : decode cX10_load 0 = .ok (.aload_n 0, 1) := by decide +kernel
theorem dX10_load_1 : decode cX10_load 1 = .ok (.iconst 0, 1) := by decide +kernel
theorem dX10_load_2 : decode cX10_load 2 = .ok (.putfield 79, 3) := by decide +kernel
theorem dX10_load_5 : decode cX10_load 5 = .ok (.iconst 0, 1) := by decide +kernel
theorem dX10_load_6 : decode cX10_load 6 = .ok (.istore_n 1, 1) := by decide +kernel
theorem dX10_load_7 : decode cX10_load 7 = .ok (.iload_n 1, 1) := by decide +kernel
theorem dX10_load_8 : decode cX10_load 8 = .ok (.sipush 280, 3) := by decide +kernel
theorem dX10_load_11 : decode cX10_load 11 = .ok (.if_icmp .ge 28, 3) := by decide +kernel
theorem dX10_load_14 : decode cX10_load 14 = .ok (.aload_n 0, 1) := by decide +kernel
theorem dX10_load_15 : decode cX10_load 15 = .ok (.getfield 16, 3) := by decide +kernel
theorem dX10_load_18 : decode cX10_load 18 = .ok (.iload_n 1, 1) := by decide +kernel
theorem dX10_load_19 : decode cX10_load 19 = .ok (.aload_n 0, 1) := by decide +kernel
theorem dX10_load_20 : decode cX10_load 20 = .ok (.getfield 7, 3) := by decide +kernel
theorem dX10_load_23 : decode cX10_load 23 = .ok (.iload_n 1, 1) := by decide +kernel
theorem dX10_load_24 : decode cX10_load 24 = .ok (.iaload, 1) := by decide +kernel
theorem dX10_load_25 : decode cX10_load 25 = .ok (.iastore, 1) := by decide +kernel
theorem dX10_load_26 : decode cX10_load 26 = .ok (.aload_n 0, 1) := by decide +kernel
theorem dX10_load_27 : decode cX10_load 27 = .ok (.getfield 7, 3) := by decide +kernel
theorem dX10_load_30 : decode cX10_load 30 = .ok (.iload_n 1, 1) := by decide +kernel
theorem dX10_load_31 : decode cX10_load 31 = .ok (.iconst 0, 1) := by decide +kernel
theorem dX10_load_32 : decode cX10_load 32 = .ok (.iastore, 1) := by decide +kernel
theorem dX10_load_33 : decode cX10_load 33 = .ok (.iinc 1 1, 3) := by decide +kernel
theorem dX10_load_36 : decode cX10_load 36 = .ok (.goto (-29), 3) := by decide +kernel
theorem dX10_load_39 : decode cX10_load 39 = .ok (.aload_n 0, 1) := by decide +kernel
theorem dX10_load_40 : decode cX10_load 40 = .ok (.invokevirtual 73, 3) := by decide +kernel
theorem dX10_load_43 : decode cX10_load 43 = .ok (.aload_n 0, 1) := by decide +kernel
theorem dX10_load_44 : decode cX10_load 44 = .ok (.invokevirtual 76, 3) := by decide +kernel
theorem dX10_load_47 : decode cX10_load 47 = .ok (.aload_n 0, 1) := by decide +kernel
theorem dX10_load_48 : decode cX10_load 48 = .ok (.invokevirtual 196, 3) := by decide +kernel
theorem dX10_load_51 : decode cX10_load 51 = .ok (.ifCond .ne 35, 3) := by decide +kernel
theorem dX10_load_54 : decode cX10_load 54 = .ok (.iconst 0, 1) := by decide +kernel
theorem dX10_load_55 : decode cX10_load 55 = .ok (.istore_n 1, 1) := by decide +kernel
theorem dX10_load_56 : decode cX10_load 56 = .ok (.iload_n 1, 1) := by decide +kernel
theorem dX10_load_57 : decode cX10_load 57 = .ok (.sipush 280, 3) := by decide +kernel
theorem dX10_load_60 : decode cX10_load 60 = .ok (.if_icmp .ge 21, 3) := by decide +kernel
theorem dX10_load_63 : decode cX10_load 63 = .ok (.aload_n 0, 1) := by decide +kernel
theorem dX10_load_64 : decode cX10_load 64 = .ok (.getfield 7, 3) := by decide +kernel
theorem dX10_load_67 : decode cX10_load 67 = .ok (.iload_n 1, 1) := by decide +kernel
theorem dX10_load_68 : decode cX10_load 68 = .ok (.aload_n 0, 1) := by decide +kernel
theorem dX10_load_69 : decode cX10_load 69 = .ok (.getfield 16, 3) := by decide +kernel
theorem dX10_load_72 : decode cX10_load 72 = .ok (.iload_n 1, 1) := by decide +kernel
theorem dX10_load_73 : decode cX10_load 73 = .ok (.iaload, 1) := by decide +kernel
theorem dX10_load_74 : decode cX10_load 74 = .ok (.iastore, 1) := by decide +kernel
theorem dX10_load_75 : decode cX10_load 75 = .ok (.iinc 1 1, 3) := by decide +kernel
theorem dX10_load_78 : decode cX10_load 78 = .ok (.goto (-22), 3) := by decide +kernel
theorem dX10_load_81 : decode cX10_load 81 = .ok (.aload_n 0, 1) := by decide +kernel
theorem dX10_load_82 : decode cX10_load 82 = .ok (.getfield 131, 3) := by decide +kernel
theorem dX10_load_85 : decode cX10_load 85 = .ok (.ireturn, 1) := by decide +kernel
theorem dX10_load_86 : decode cX10_load 86 = .ok (.aload_n 0, 1) := by decide +kernel
theorem dX10_load_87 : decode cX10_load 87 = .ok (.iconst 0, 1) := by decide +kernel
theorem dX10_load_88 : decode cX10_load 88 = .ok (.putfield 200, 3) := by decide +kernel
theorem dX10_load_91 : decode cX10_load 91 = .ok (.aload_n 0, 1) := by decide +kernel
theorem dX10_load_92 : decode cX10_load 92 = .ok (.getfield 28, 3) := by decide +kernel
theorem dX10_load_95 : decode cX10_load 95 = .ok (.iconst 0, 1) := by decide +kernel
theorem dX10_load_96 : decode cX10_load 96 = .ok (.iconst 0, 1) := by decide +kernel
theorem dX10_load_97 : decode cX10_load 97 = .ok (.bastore, 1) := by decide +kernel
theorem dX10_load_98 : decode cX10_load 98 = .ok (.aload_n 0, 1) := by decide +kernel
theorem dX10_load_99 : decode cX10_load 99 = .ok (.getfield 28, 3) := by decide +kernel
theorem dX10_load_102 : decode cX10_load 102 = .ok (.iconst 1, 1) := by decide +kernel
theorem dX10_load_103 : decode cX10_load 103 = .ok (.iconst 0, 1) := by decide +kernel
theorem dX10_load_104 : decode cX10_load 104 = .ok (.bastore, 1) := by decide +kernel
theorem dX10_load_105 : decode cX10_load 105 = .ok (.iconst 0, 1) := by decide +kernel
theorem dX10_load_106 : decode cX10_load 106 = .ok (.ireturn, 1) := by decide +kernel
def fX10_load_L7 (K : Int32 → Mm → Option (Int32 × Mm)) : Nat → Int32 → Mm → Option (Int32 × Mm)
  | 0, _, _ => none
  | n + 1, v1, M => if (280 : Int32) ≤ v1 then K v1 M else if v1 < 0 ∨ 280 ≤ v1.toNatClampNeg then none else if v1 < 0 ∨ 280 ≤ v1.toNatClampNeg then none else if v1 < 0 ∨ 280 ≤ v1.toNatClampNeg then none else fX10_load_L7 K n (v1 + (1 : Int32)) (putI (putI M (19, 2, 0) v1.toNatClampNeg (M.1 (19, 0, 0) v1.toNatClampNeg)) (19, 0, 0) v1.toNatClampNeg (0 : Int32))
def fX10_load_L56 (K : Int32 → Mm → Option (Int32 × Mm)) : Nat → Int32 → Mm → Option (Int32 × Mm)
  | 0, _, _ => none
  | n + 1, v1, M => if (280 : Int32) ≤ v1 then K v1 M else if v1 < 0 ∨ 280 ≤ v1.toNatClampNeg then none else if v1 < 0 ∨ 280 ≤ v1.toNatClampNeg then none else fX10_load_L56 K n (v1 + (1 : Int32)) (putI M (19, 0, 0) v1.toNatClampNeg (M.1 (19, 2, 0) v1.toNatClampNeg))
def fX10_load (M : Mm) : Option (Int32 × Mm) := fX10_load_L7 (fun w5 M6 => (fX10_starts M6).bind fun q7 => (fX10_readsSetup q7).bind fun q9 => (fX10_isWhole q9).bind fun q11 => if q11.1 = 0 then (fX10_load_L56 (fun w17 M18 => some ((M18.1 (18, 0, 0) 11), M18)) NF (0 : Int32) q11.2) else some ((0 : Int32), (putI (putI (putI q11.2 (18, 0, 0) 7 (0 : Int32)) (20, 0, 0) 0 (0 : Int32)) (20, 0, 0) 1 (0 : Int32)))) NF (0 : Int32) (putI M (18, 0, 0) 8 (0 : Int32))
set_option maxRecDepth 20000 in
set_option maxHeartbeats 2000000 in
theorem sX10_load_L7 {wv : Nat} {res : (Int32 × Mm)} {K : Int32 → Mm → Option (Int32 × Mm)} : ∀ (n : Nat) (v1 : Int32) (M : Mm), fX10_load_L7 K n v1 M = some res →
    (∀ (v1 : Int32) (M : Mm), K v1 M = some res → Z RX10 cX10_load 2 (some .int) [] "load" (rmD 10 0 0) (QM SH (allR (wv + 1)) 0 0 (fun v M9 => v = some (.int res.1) ∧ M9 = res.2) (fun _ _ => False)) (allR (wv + 1)) SH 0 0 39 [some (.inr (18, 0, 0)), some (.inl (.int v1))] [] M) → Z RX10 cX10_load 2 (some .int) [] "load" (rmD 10 0 0) (QM SH (allR (wv + 1)) 0 0 (fun v M9 => v = some (.int res.1) ∧ M9 = res.2) (fun _ _ => False)) (allR (wv + 1)) SH 0 0 7 [some (.inr (18, 0, 0)), some (.inl (.int v1))] [] M := by
  intro n
  induction n with
  | zero => intro v1 M h; cases h
  | succ n ih =>
    intro v1 M h hK
    rw [fX10_load_L7] at h
    refine z_iload_n (i := 1) dX10_load_7 rfl rfl ?_
    refine z_sipush (v := (280 : Int32)) dX10_load_8 ks_280 ?_
    refine z_icmp_ge (tgt := 39) dX10_load_11 rfl (fun hc1 => ?_) (fun hc1 => ?_)
    · have h := it_t h hc1
      exact hK _ _ h
    · have h := it_f h hc1
      refine z_aload_n (i := 0) dX10_load_14 rfl rfl ?_
      refine z_getR (r' := (19, 2, 0)) dX10_load_15 fl_X10_16 mk18 rfl rfl ?_
      refine z_iload_n (i := 1) dX10_load_18 rfl rfl ?_
      refine z_aload_n (i := 0) dX10_load_19 rfl rfl ?_
      refine z_getR (r' := (19, 0, 0)) dX10_load_20 fl_X10_7 mk18 rfl rfl ?_
      refine z_iload_n (i := 1) dX10_load_23 rfl rfl ?_
      obtain ⟨hc2, h⟩ := chk h
      refine z_iald (x := (M.1 (19, 0, 0) v1.toNatClampNeg)) dX10_load_24 (m19 _ (Nat.le_of_ble_eq_true rfl)) rfl hc2 rfl ?_
      obtain ⟨hc3, h⟩ := chk h
      refine z_iast (j := v1.toNatClampNeg) allR_nd dX10_load_25 (m19 _ (Nat.le_of_ble_eq_true rfl)) rfl hc3 rfl ?_
      refine z_aload_n (i := 0) dX10_load_26 rfl rfl ?_
      refine z_getR (r' := (19, 0, 0)) dX10_load_27 fl_X10_7 mk18 rfl rfl ?_
      refine z_iload_n (i := 1) dX10_load_30 rfl rfl ?_
      refine z_iconst (v := (0 : Int32)) dX10_load_31 kc_0 ?_
      obtain ⟨hc4, h⟩ := chk h
      refine z_iast (j := v1.toNatClampNeg) allR_nd dX10_load_32 (m19 _ (Nat.le_of_ble_eq_true rfl)) rfl hc4 rfl ?_
      refine z_iinc (i := 1) (v := (v1 + (1 : Int32))) dX10_load_33 rfl (iinc_k kc_1) (Nat.le_of_ble_eq_true rfl) rfl ?_
      refine z_goto (tgt := 7) dX10_load_36 rfl ?_
      exact ih _ _ h hK
set_option maxRecDepth 20000 in
set_option maxHeartbeats 2000000 in
theorem sX10_load_L56 {wv : Nat} {res : (Int32 × Mm)} {K : Int32 → Mm → Option (Int32 × Mm)} : ∀ (n : Nat) (v1 : Int32) (M : Mm), fX10_load_L56 K n v1 M = some res →
    (∀ (v1 : Int32) (M : Mm), K v1 M = some res → Z RX10 cX10_load 2 (some .int) [] "load" (rmD 10 0 0) (QM SH (allR (wv + 1)) 0 0 (fun v M9 => v = some (.int res.1) ∧ M9 = res.2) (fun _ _ => False)) (allR (wv + 1)) SH 0 0 81 [some (.inr (18, 0, 0)), some (.inl (.int v1))] [] M) → Z RX10 cX10_load 2 (some .int) [] "load" (rmD 10 0 0) (QM SH (allR (wv + 1)) 0 0 (fun v M9 => v = some (.int res.1) ∧ M9 = res.2) (fun _ _ => False)) (allR (wv + 1)) SH 0 0 56 [some (.inr (18, 0, 0)), some (.inl (.int v1))] [] M := by
  intro n
  induction n with
  | zero => intro v1 M h; cases h
  | succ n ih =>
    intro v1 M h hK
    rw [fX10_load_L56] at h
    refine z_iload_n (i := 1) dX10_load_56 rfl rfl ?_
    refine z_sipush (v := (280 : Int32)) dX10_load_57 ks_280 ?_
    refine z_icmp_ge (tgt := 81) dX10_load_60 rfl (fun hc14 => ?_) (fun hc14 => ?_)
    · have h := it_t h hc14
      exact hK _ _ h
    · have h := it_f h hc14
      refine z_aload_n (i := 0) dX10_load_63 rfl rfl ?_
      refine z_getR (r' := (19, 0, 0)) dX10_load_64 fl_X10_7 mk18 rfl rfl ?_
      refine z_iload_n (i := 1) dX10_load_67 rfl rfl ?_
      refine z_aload_n (i := 0) dX10_load_68 rfl rfl ?_
      refine z_getR (r' := (19, 2, 0)) dX10_load_69 fl_X10_16 mk18 rfl rfl ?_
      refine z_iload_n (i := 1) dX10_load_72 rfl rfl ?_
      obtain ⟨hc15, h⟩ := chk h
      refine z_iald (x := (M.1 (19, 2, 0) v1.toNatClampNeg)) dX10_load_73 (m19 _ (Nat.le_of_ble_eq_true rfl)) rfl hc15 rfl ?_
      obtain ⟨hc16, h⟩ := chk h
      refine z_iast (j := v1.toNatClampNeg) allR_nd dX10_load_74 (m19 _ (Nat.le_of_ble_eq_true rfl)) rfl hc16 rfl ?_
      refine z_iinc (i := 1) (v := (v1 + (1 : Int32))) dX10_load_75 rfl (iinc_k kc_1) (Nat.le_of_ble_eq_true rfl) rfl ?_
      refine z_goto (tgt := 56) dX10_load_78 rfl ?_
      exact ih _ _ h hK
set_option maxRecDepth 20000 in
set_option maxHeartbeats 2000000 in
theorem sX10_load {wv : Nat} (M : Mm) {res : (Int32 × Mm)} (h : fX10_load M  = some res) : TF (wv + 1) yX10_load cX10_load 2 (some .int) 10 [.inr (18, 0, 0)] M (some (.int res.1)) res.2 := by
  rw [fX10_load] at h
  refine TF.go (n := 1) (ls := [some (.inr (18, 0, 0)), none]) rfl rfl rfl rfl rfl ?_
  refine z_aload_n (i := 0) dX10_load_0 rfl rfl ?_
  refine z_iconst (v := (0 : Int32)) dX10_load_1 kc_0 ?_
  refine z_putI allR_nd dX10_load_2 fl_X10_79 mk18 rfl rfl ?_
  refine z_iconst (v := (0 : Int32)) dX10_load_5 kc_0 ?_
  refine z_istore_n (i := 1) dX10_load_6 rfl (Nat.le_of_ble_eq_true rfl) rfl ?_
  refine sX10_load_L7  NF _ _ h (fun w5 M6 h => ?_)
  refine z_aload_n (i := 0) dX10_load_39 rfl rfl ?_
  obtain ⟨q7, hq8, h⟩ := bnd h
  refine z_fVv (sX10_starts M6 hq8) dX10_load_40 ml_X10_73 cd_X10_starts mk18 rfl rfl rfl rfl rfl rfl ?_
  refine z_aload_n (i := 0) dX10_load_43 rfl rfl ?_
  obtain ⟨q9, hq10, h⟩ := bnd h
  refine z_fVv (sX10_readsSetup q7 hq10) dX10_load_44 ml_X10_76 cd_X10_readsSetup mk18 rfl rfl rfl rfl rfl rfl ?_
  refine z_aload_n (i := 0) dX10_load_47 rfl rfl ?_
  obtain ⟨q11, hq12, h⟩ := bnd h
  refine z_fVi (sX10_isWhole q9 hq12) dX10_load_48 ml_X10_196 cd_X10_isWhole mk18 rfl rfl rfl rfl rfl rfl ?_
  refine z_if_ne (tgt := 86) dX10_load_51 rfl (fun hc13 => ?_) (fun hc13 => ?_)
  · have h := it_f h hc13
    refine z_aload_n (i := 0) dX10_load_86 rfl rfl ?_
    refine z_iconst (v := (0 : Int32)) dX10_load_87 kc_0 ?_
    refine z_putI allR_nd dX10_load_88 fl_X10_200 mk18 rfl rfl ?_
    refine z_aload_n (i := 0) dX10_load_91 rfl rfl ?_
    refine z_getR (r' := (20, 0, 0)) dX10_load_92 fl_X10_28 mk18 rfl rfl ?_
    refine z_iconst (v := (0 : Int32)) dX10_load_95 kc_0 ?_
    refine z_iconst (v := (0 : Int32)) dX10_load_96 kc_0 ?_
    refine z_zast (j := 0) allR_nd dX10_load_97 mk20 rfl (by decide) rfl rfl ?_
    refine z_aload_n (i := 0) dX10_load_98 rfl rfl ?_
    refine z_getR (r' := (20, 0, 0)) dX10_load_99 fl_X10_28 mk18 rfl rfl ?_
    refine z_iconst (v := (1 : Int32)) dX10_load_102 kc_1 ?_
    refine z_iconst (v := (0 : Int32)) dX10_load_103 kc_0 ?_
    refine z_zast (j := 1) allR_nd dX10_load_104 mk20 rfl (by decide) rfl rfl ?_
    refine z_iconst (v := (0 : Int32)) dX10_load_105 kc_0 ?_
    cases h
    exact z_iret dX10_load_106 rfl rfl (Nat.le_refl _) (Nat.le_refl _) ⟨rfl, rfl⟩
  · have h := it_t h hc13
    refine z_iconst (v := (0 : Int32)) dX10_load_54 kc_0 ?_
    refine z_istore_n (i := 1) dX10_load_55 rfl (Nat.le_of_ble_eq_true rfl) rfl ?_
    refine sX10_load_L56  NF _ _ h (fun w17 M18 h => ?_)
    refine z_aload_n (i := 0) dX10_load_81 rfl rfl ?_
    refine z_getI (x := (M18.1 (18, 0, 0) 11)) dX10_load_82 fl_X10_131 mk18 rfl rfl ?_
    cases h
    exact z_iret dX10_load_85 rfl rfl (Nat.le_refl _) (Nat.le_refl _) ⟨rfl, rfl⟩
theorem dX10_commandHere_0 : decode cX10_commandHere 0 = .ok (.aload_n 0, 1) := by decide +kernel
theorem dX10_commandHere_1 : decode cX10_commandHere 1 = .ok (.ldc 183, 2) := by decide +kernel
theorem dX10_commandHere_3 : decode cX10_commandHere 3 = .ok (.invokevirtual 173, 3) := by decide +kernel
theorem dX10_commandHere_6 : decode cX10_commandHere 6 = .ok (.ifCond .eq 5, 3) := by decide +kernel
theorem dX10_commandHere_9 : decode cX10_commandHere 9 = .ok (.iconst 0, 1) := by decide +kernel
theorem dX10_commandHere_10 : decode cX10_commandHere 10 = .ok (.ireturn, 1) := by decide +kernel
theorem dX10_commandHere_11 : decode cX10_commandHere 11 = .ok (.aload_n 0, 1) := by decide +kernel
theorem dX10_commandHere_12 : decode cX10_commandHere 12 = .ok (.ldc 203, 2) := by decide +kernel
theorem dX10_commandHere_14 : decode cX10_commandHere 14 = .ok (.invokevirtual 173, 3) := by decide +kernel
theorem dX10_commandHere_17 : decode cX10_commandHere 17 = .ok (.ifCond .eq 5, 3) := by decide +kernel
theorem dX10_commandHere_20 : decode cX10_commandHere 20 = .ok (.iconst 1, 1) := by decide +kernel
theorem dX10_commandHere_21 : decode cX10_commandHere 21 = .ok (.ireturn, 1) := by decide +kernel
theorem dX10_commandHere_22 : decode cX10_commandHere 22 = .ok (.aload_n 0, 1) := by decide +kernel
theorem dX10_commandHere_23 : decode cX10_commandHere 23 = .ok (.ldc 205, 2) := by decide +kernel
theorem dX10_commandHere_25 : decode cX10_commandHere 25 = .ok (.invokevirtual 173, 3) := by decide +kernel
theorem dX10_commandHere_28 : decode cX10_commandHere 28 = .ok (.ifCond .eq 5, 3) := by decide +kernel
theorem dX10_commandHere_31 : decode cX10_commandHere 31 = .ok (.iconst 2, 1) := by decide +kernel
theorem dX10_commandHere_32 : decode cX10_commandHere 32 = .ok (.ireturn, 1) := by decide +kernel
theorem dX10_commandHere_33 : decode cX10_commandHere 33 = .ok (.aload_n 0, 1) := by decide +kernel
theorem dX10_commandHere_34 : decode cX10_commandHere 34 = .ok (.ldc 207, 2) := by decide +kernel
theorem dX10_commandHere_36 : decode cX10_commandHere 36 = .ok (.invokevirtual 173, 3) := by decide +kernel
theorem dX10_commandHere_39 : decode cX10_commandHere 39 = .ok (.ifCond .eq 5, 3) := by decide +kernel
theorem dX10_commandHere_42 : decode cX10_commandHere 42 = .ok (.iconst 3, 1) := by decide +kernel
theorem dX10_commandHere_43 : decode cX10_commandHere 43 = .ok (.ireturn, 1) := by decide +kernel
theorem dX10_commandHere_44 : decode cX10_commandHere 44 = .ok (.aload_n 0, 1) := by decide +kernel
theorem dX10_commandHere_45 : decode cX10_commandHere 45 = .ok (.ldc 209, 2) := by decide +kernel
theorem dX10_commandHere_47 : decode cX10_commandHere 47 = .ok (.invokevirtual 173, 3) := by decide +kernel
theorem dX10_commandHere_50 : decode cX10_commandHere 50 = .ok (.ifCond .eq 5, 3) := by decide +kernel
theorem dX10_commandHere_53 : decode cX10_commandHere 53 = .ok (.iconst 4, 1) := by decide +kernel
theorem dX10_commandHere_54 : decode cX10_commandHere 54 = .ok (.ireturn, 1) := by decide +kernel
theorem dX10_commandHere_55 : decode cX10_commandHere 55 = .ok (.aload_n 0, 1) := by decide +kernel
theorem dX10_commandHere_56 : decode cX10_commandHere 56 = .ok (.ldc 211, 2) := by decide +kernel
theorem dX10_commandHere_58 : decode cX10_commandHere 58 = .ok (.invokevirtual 173, 3) := by decide +kernel
theorem dX10_commandHere_61 : decode cX10_commandHere 61 = .ok (.ifCond .eq 5, 3) := by decide +kernel
theorem dX10_commandHere_64 : decode cX10_commandHere 64 = .ok (.iconst 5, 1) := by decide +kernel
theorem dX10_commandHere_65 : decode cX10_commandHere 65 = .ok (.ireturn, 1) := by decide +kernel
theorem dX10_commandHere_66 : decode cX10_commandHere 66 = .ok (.aload_n 0, 1) := by decide +kernel
theorem dX10_commandHere_67 : decode cX10_commandHere 67 = .ok (.ldc 213, 2) := by decide +kernel
theorem dX10_commandHere_69 : decode cX10_commandHere 69 = .ok (.invokevirtual 173, 3) := by decide +kernel
theorem dX10_commandHere_72 : decode cX10_commandHere 72 = .ok (.ifCond .eq 6, 3) := by decide +kernel
theorem dX10_commandHere_75 : decode cX10_commandHere 75 = .ok (.bipush 6, 2) := by decide +kernel
theorem dX10_commandHere_77 : decode cX10_commandHere 77 = .ok (.ireturn, 1) := by decide +kernel
theorem dX10_commandHere_78 : decode cX10_commandHere 78 = .ok (.aload_n 0, 1) := by decide +kernel
theorem dX10_commandHere_79 : decode cX10_commandHere 79 = .ok (.ldc 215, 2) := by decide +kernel
theorem dX10_commandHere_81 : decode cX10_commandHere 81 = .ok (.invokevirtual 173, 3) := by decide +kernel
theorem dX10_commandHere_84 : decode cX10_commandHere 84 = .ok (.ifCond .eq 6, 3) := by decide +kernel
theorem dX10_commandHere_87 : decode cX10_commandHere 87 = .ok (.bipush 7, 2) := by decide +kernel
theorem dX10_commandHere_89 : decode cX10_commandHere 89 = .ok (.ireturn, 1) := by decide +kernel
theorem dX10_commandHere_90 : decode cX10_commandHere 90 = .ok (.aload_n 0, 1) := by decide +kernel
theorem dX10_commandHere_91 : decode cX10_commandHere 91 = .ok (.ldc 217, 2) := by decide +kernel
theorem dX10_commandHere_93 : decode cX10_commandHere 93 = .ok (.invokevirtual 173, 3) := by decide +kernel
theorem dX10_commandHere_96 : decode cX10_commandHere 96 = .ok (.ifCond .eq 6, 3) := by decide +kernel
theorem dX10_commandHere_99 : decode cX10_commandHere 99 = .ok (.bipush 8, 2) := by decide +kernel
theorem dX10_commandHere_101 : decode cX10_commandHere 101 = .ok (.ireturn, 1) := by decide +kernel
theorem dX10_commandHere_102 : decode cX10_commandHere 102 = .ok (.aload_n 0, 1) := by decide +kernel
theorem dX10_commandHere_103 : decode cX10_commandHere 103 = .ok (.ldc 219, 2) := by decide +kernel
theorem dX10_commandHere_105 : decode cX10_commandHere 105 = .ok (.invokevirtual 173, 3) := by decide +kernel
theorem dX10_commandHere_108 : decode cX10_commandHere 108 = .ok (.ifCond .eq 8, 3) := by decide +kernel
theorem dX10_commandHere_111 : decode cX10_commandHere 111 = .ok (.bipush 9, 2) := by decide +kernel
theorem dX10_commandHere_113 : decode cX10_commandHere 113 = .ok (.goto 4, 3) := by decide +kernel
theorem dX10_commandHere_116 : decode cX10_commandHere 116 = .ok (.iconst (-1), 1) := by decide +kernel
theorem dX10_commandHere_117 : decode cX10_commandHere 117 = .ok (.ireturn, 1) := by decide +kernel
def fX10_commandHere (M : Mm) : Option Int32 := (fX10_isWord M 3).bind fun q1 => if q1 = 0 then ((fX10_isWord M 4).bind fun q4 => if q4 = 0 then ((fX10_isWord M 5).bind fun q7 => if q7 = 0 then ((fX10_isWord M 6).bind fun q10 => if q10 = 0 then ((fX10_isWord M 7).bind fun q13 => if q13 = 0 then ((fX10_isWord M 8).bind fun q16 => if q16 = 0 then ((fX10_isWord M 9).bind fun q19 => if q19 = 0 then ((fX10_isWord M 10).bind fun q22 => if q22 = 0 then ((fX10_isWord M 11).bind fun q25 => if q25 = 0 then ((fX10_isWord M 12).bind fun q28 => if q28 = 0 then some (-1 : Int32) else some (9 : Int32)) else some (8 : Int32)) else some (7 : Int32)) else some (6 : Int32)) else some (5 : Int32)) else some (4 : Int32)) else some (3 : Int32)) else some (2 : Int32)) else some (1 : Int32)) else some (0 : Int32)
set_option maxRecDepth 20000 in
set_option maxHeartbeats 2000000 in
theorem sX10_commandHere {wv : Nat} (M : Mm) {res : Int32} (h : fX10_commandHere M  = some res) : TF (wv + 1) yX10_commandHere cX10_commandHere 1 (some .int) 8 [.inr (18, 0, 0)] M (some (.int res)) M := by
  rw [fX10_commandHere] at h
  refine TF.go (n := 0) (ls := [some (.inr (18, 0, 0))]) rfl rfl rfl rfl rfl ?_
  refine z_aload_n (i := 0) dX10_commandHere_0 rfl rfl ?_
  refine z_ldcS (j := 3) dX10_commandHere_1 sw_RX10_183 ?_
  obtain ⟨q1, hq2, h⟩ := bnd h
  refine z_fVi (sX10_isWord M 3 (Nat.le_of_ble_eq_true rfl) hq2) dX10_commandHere_3 ml_X10_173 cd_X10_isWord mk18 rfl rfl rfl rfl rfl rfl ?_
  refine z_if_eq (tgt := 11) dX10_commandHere_6 rfl (fun hc3 => ?_) (fun hc3 => ?_)
  · have h := it_t h hc3
    refine z_aload_n (i := 0) dX10_commandHere_11 rfl rfl ?_
    refine z_ldcS (j := 4) dX10_commandHere_12 sw_RX10_203 ?_
    obtain ⟨q4, hq5, h⟩ := bnd h
    refine z_fVi (sX10_isWord M 4 (Nat.le_of_ble_eq_true rfl) hq5) dX10_commandHere_14 ml_X10_173 cd_X10_isWord mk18 rfl rfl rfl rfl rfl rfl ?_
    refine z_if_eq (tgt := 22) dX10_commandHere_17 rfl (fun hc6 => ?_) (fun hc6 => ?_)
    · have h := it_t h hc6
      refine z_aload_n (i := 0) dX10_commandHere_22 rfl rfl ?_
      refine z_ldcS (j := 5) dX10_commandHere_23 sw_RX10_205 ?_
      obtain ⟨q7, hq8, h⟩ := bnd h
      refine z_fVi (sX10_isWord M 5 (Nat.le_of_ble_eq_true rfl) hq8) dX10_commandHere_25 ml_X10_173 cd_X10_isWord mk18 rfl rfl rfl rfl rfl rfl ?_
      refine z_if_eq (tgt := 33) dX10_commandHere_28 rfl (fun hc9 => ?_) (fun hc9 => ?_)
      · have h := it_t h hc9
        refine z_aload_n (i := 0) dX10_commandHere_33 rfl rfl ?_
        refine z_ldcS (j := 6) dX10_commandHere_34 sw_RX10_207 ?_
        obtain ⟨q10, hq11, h⟩ := bnd h
        refine z_fVi (sX10_isWord M 6 (Nat.le_of_ble_eq_true rfl) hq11) dX10_commandHere_36 ml_X10_173 cd_X10_isWord mk18 rfl rfl rfl rfl rfl rfl ?_
        refine z_if_eq (tgt := 44) dX10_commandHere_39 rfl (fun hc12 => ?_) (fun hc12 => ?_)
        · have h := it_t h hc12
          refine z_aload_n (i := 0) dX10_commandHere_44 rfl rfl ?_
          refine z_ldcS (j := 7) dX10_commandHere_45 sw_RX10_209 ?_
          obtain ⟨q13, hq14, h⟩ := bnd h
          refine z_fVi (sX10_isWord M 7 (Nat.le_of_ble_eq_true rfl) hq14) dX10_commandHere_47 ml_X10_173 cd_X10_isWord mk18 rfl rfl rfl rfl rfl rfl ?_
          refine z_if_eq (tgt := 55) dX10_commandHere_50 rfl (fun hc15 => ?_) (fun hc15 => ?_)
          · have h := it_t h hc15
            refine z_aload_n (i := 0) dX10_commandHere_55 rfl rfl ?_
            refine z_ldcS (j := 8) dX10_commandHere_56 sw_RX10_211 ?_
            obtain ⟨q16, hq17, h⟩ := bnd h
            refine z_fVi (sX10_isWord M 8 (Nat.le_of_ble_eq_true rfl) hq17) dX10_commandHere_58 ml_X10_173 cd_X10_isWord mk18 rfl rfl rfl rfl rfl rfl ?_
            refine z_if_eq (tgt := 66) dX10_commandHere_61 rfl (fun hc18 => ?_) (fun hc18 => ?_)
            · have h := it_t h hc18
              refine z_aload_n (i := 0) dX10_commandHere_66 rfl rfl ?_
              refine z_ldcS (j := 9) dX10_commandHere_67 sw_RX10_213 ?_
              obtain ⟨q19, hq20, h⟩ := bnd h
              refine z_fVi (sX10_isWord M 9 (Nat.le_of_ble_eq_true rfl) hq20) dX10_commandHere_69 ml_X10_173 cd_X10_isWord mk18 rfl rfl rfl rfl rfl rfl ?_
              refine z_if_eq (tgt := 78) dX10_commandHere_72 rfl (fun hc21 => ?_) (fun hc21 => ?_)
              · have h := it_t h hc21
                refine z_aload_n (i := 0) dX10_commandHere_78 rfl rfl ?_
                refine z_ldcS (j := 10) dX10_commandHere_79 sw_RX10_215 ?_
                obtain ⟨q22, hq23, h⟩ := bnd h
                refine z_fVi (sX10_isWord M 10 (Nat.le_of_ble_eq_true rfl) hq23) dX10_commandHere_81 ml_X10_173 cd_X10_isWord mk18 rfl rfl rfl rfl rfl rfl ?_
                refine z_if_eq (tgt := 90) dX10_commandHere_84 rfl (fun hc24 => ?_) (fun hc24 => ?_)
                · have h := it_t h hc24
                  refine z_aload_n (i := 0) dX10_commandHere_90 rfl rfl ?_
                  refine z_ldcS (j := 11) dX10_commandHere_91 sw_RX10_217 ?_
                  obtain ⟨q25, hq26, h⟩ := bnd h
                  refine z_fVi (sX10_isWord M 11 (Nat.le_of_ble_eq_true rfl) hq26) dX10_commandHere_93 ml_X10_173 cd_X10_isWord mk18 rfl rfl rfl rfl rfl rfl ?_
                  refine z_if_eq (tgt := 102) dX10_commandHere_96 rfl (fun hc27 => ?_) (fun hc27 => ?_)
                  · have h := it_t h hc27
                    refine z_aload_n (i := 0) dX10_commandHere_102 rfl rfl ?_
                    refine z_ldcS (j := 12) dX10_commandHere_103 sw_RX10_219 ?_
                    obtain ⟨q28, hq29, h⟩ := bnd h
                    refine z_fVi (sX10_isWord M 12 (Nat.le_of_ble_eq_true rfl) hq29) dX10_commandHere_105 ml_X10_173 cd_X10_isWord mk18 rfl rfl rfl rfl rfl rfl ?_
                    refine z_if_eq (tgt := 116) dX10_commandHere_108 rfl (fun hc30 => ?_) (fun hc30 => ?_)
                    · have h := it_t h hc30
                      refine z_iconst (v := (-1 : Int32)) dX10_commandHere_116 kc_m1 ?_
                      cases h
                      exact z_iret dX10_commandHere_117 rfl rfl (Nat.le_refl _) (Nat.le_refl _) ⟨rfl, rfl⟩
                    · have h := it_f h hc30
                      refine z_bipush (v := (9 : Int32)) dX10_commandHere_111 kb_9 ?_
                      refine z_goto (tgt := 117) dX10_commandHere_113 rfl ?_
                      cases h
                      exact z_iret dX10_commandHere_117 rfl rfl (Nat.le_refl _) (Nat.le_refl _) ⟨rfl, rfl⟩
                  · have h := it_f h hc27
                    refine z_bipush (v := (8 : Int32)) dX10_commandHere_99 kb_8 ?_
                    cases h
                    exact z_iret dX10_commandHere_101 rfl rfl (Nat.le_refl _) (Nat.le_refl _) ⟨rfl, rfl⟩
                · have h := it_f h hc24
                  refine z_bipush (v := (7 : Int32)) dX10_commandHere_87 kb_7 ?_
                  cases h
                  exact z_iret dX10_commandHere_89 rfl rfl (Nat.le_refl _) (Nat.le_refl _) ⟨rfl, rfl⟩
              · have h := it_f h hc21
                refine z_bipush (v := (6 : Int32)) dX10_commandHere_75 kb_6 ?_
                cases h
                exact z_iret dX10_commandHere_77 rfl rfl (Nat.le_refl _) (Nat.le_refl _) ⟨rfl, rfl⟩
            · have h := it_f h hc18
              refine z_iconst (v := (5 : Int32)) dX10_commandHere_64 kc_5 ?_
              cases h
              exact z_iret dX10_commandHere_65 rfl rfl (Nat.le_refl _) (Nat.le_refl _) ⟨rfl, rfl⟩
          · have h := it_f h hc15
            refine z_iconst (v := (4 : Int32)) dX10_commandHere_53 kc_4 ?_
            cases h
            exact z_iret dX10_commandHere_54 rfl rfl (Nat.le_refl _) (Nat.le_refl _) ⟨rfl, rfl⟩
        · have h := it_f h hc12
          refine z_iconst (v := (3 : Int32)) dX10_commandHere_42 kc_3 ?_
          cases h
          exact z_iret dX10_commandHere_43 rfl rfl (Nat.le_refl _) (Nat.le_refl _) ⟨rfl, rfl⟩
      · have h := it_f h hc9
        refine z_iconst (v := (2 : Int32)) dX10_commandHere_31 kc_2 ?_
        cases h
        exact z_iret dX10_commandHere_32 rfl rfl (Nat.le_refl _) (Nat.le_refl _) ⟨rfl, rfl⟩
    · have h := it_f h hc6
      refine z_iconst (v := (1 : Int32)) dX10_commandHere_20 kc_1 ?_
      cases h
      exact z_iret dX10_commandHere_21 rfl rfl (Nat.le_refl _) (Nat.le_refl _) ⟨rfl, rfl⟩
  · have h := it_f h hc3
    refine z_iconst (v := (0 : Int32)) dX10_commandHere_9 kc_0 ?_
    cases h
    exact z_iret dX10_commandHere_10 rfl rfl (Nat.le_refl _) (Nat.le_refl _) ⟨rfl, rfl⟩
theorem dX10_readsRepeat_0 : decode cX10_readsRepeat 0 = .ok (.aload_n 0, 1) := by decide +kernel
theorem dX10_readsRepeat_1 : decode cX10_readsRepeat 1 = .ok (.getfield 42, 3) := by decide +kernel
theorem dX10_readsRepeat_4 : decode cX10_readsRepeat 4 = .ok (.iload_n 1, 1) := by decide +kernel
theorem dX10_readsRepeat_5 : decode cX10_readsRepeat 5 = .ok (.aload_n 0, 1) := by decide +kernel
theorem dX10_readsRepeat_6 : decode cX10_readsRepeat 6 = .ok (.iconst 0, 1) := by decide +kernel
theorem dX10_readsRepeat_7 : decode cX10_readsRepeat 7 = .ok (.bipush 20, 2) := by decide +kernel
theorem dX10_readsRepeat_9 : decode cX10_readsRepeat 9 = .ok (.invokevirtual 177, 3) := by decide +kernel
theorem dX10_readsRepeat_12 : decode cX10_readsRepeat 12 = .ok (.iastore, 1) := by decide +kernel
theorem dX10_readsRepeat_13 : decode cX10_readsRepeat 13 = .ok (.aload_n 0, 1) := by decide +kernel
theorem dX10_readsRepeat_14 : decode cX10_readsRepeat 14 = .ok (.aload_n 0, 1) := by decide +kernel
theorem dX10_readsRepeat_15 : decode cX10_readsRepeat 15 = .ok (.bipush 40, 2) := by decide +kernel
theorem dX10_readsRepeat_17 : decode cX10_readsRepeat 17 = .ok (.invokevirtual 158, 3) := by decide +kernel
theorem dX10_readsRepeat_20 : decode cX10_readsRepeat 20 = .ok (.iconst 1, 1) := by decide +kernel
theorem dX10_readsRepeat_21 : decode cX10_readsRepeat 21 = .ok (.invokevirtual 161, 3) := by decide +kernel
theorem dX10_readsRepeat_24 : decode cX10_readsRepeat 24 = .ok (.ifCond .eq 19, 3) := by decide +kernel
theorem dX10_readsRepeat_27 : decode cX10_readsRepeat 27 = .ok (.aload_n 0, 1) := by decide +kernel
theorem dX10_readsRepeat_28 : decode cX10_readsRepeat 28 = .ok (.iload_n 2, 1) := by decide +kernel
theorem dX10_readsRepeat_29 : decode cX10_readsRepeat 29 = .ok (.iconst 2, 1) := by decide +kernel
theorem dX10_readsRepeat_30 : decode cX10_readsRepeat 30 = .ok (.if_icmp .ge 7, 3) := by decide +kernel
theorem dX10_readsRepeat_33 : decode cX10_readsRepeat 33 = .ok (.iconst 1, 1) := by decide +kernel
theorem dX10_readsRepeat_34 : decode cX10_readsRepeat 34 = .ok (.goto 4, 3) := by decide +kernel
theorem dX10_readsRepeat_37 : decode cX10_readsRepeat 37 = .ok (.iconst 0, 1) := by decide +kernel
theorem dX10_readsRepeat_38 : decode cX10_readsRepeat 38 = .ok (.iconst 4, 1) := by decide +kernel
theorem dX10_readsRepeat_39 : decode cX10_readsRepeat 39 = .ok (.invokevirtual 161, 3) := by decide +kernel
theorem dX10_readsRepeat_42 : decode cX10_readsRepeat 42 = .ok (.pop, 1) := by decide +kernel
theorem dX10_readsRepeat_43 : decode cX10_readsRepeat 43 = .ok (.aload_n 0, 1) := by decide +kernel
theorem dX10_readsRepeat_44 : decode cX10_readsRepeat 44 = .ok (.invokevirtual 164, 3) := by decide +kernel
theorem dX10_readsRepeat_47 : decode cX10_readsRepeat 47 = .ok (.aload_n 0, 1) := by decide +kernel
theorem dX10_readsRepeat_48 : decode cX10_readsRepeat 48 = .ok (.iload_n 2, 1) := by decide +kernel
theorem dX10_readsRepeat_49 : decode cX10_readsRepeat 49 = .ok (.iconst 1, 1) := by decide +kernel
theorem dX10_readsRepeat_50 : decode cX10_readsRepeat 50 = .ok (.iadd, 1) := by decide +kernel
theorem dX10_readsRepeat_51 : decode cX10_readsRepeat 51 = .ok (.invokevirtual 221, 3) := by decide +kernel
theorem dX10_readsRepeat_54 : decode cX10_readsRepeat 54 = .ok (.aload_n 0, 1) := by decide +kernel
theorem dX10_readsRepeat_55 : decode cX10_readsRepeat 55 = .ok (.bipush 41, 2) := by decide +kernel
theorem dX10_readsRepeat_57 : decode cX10_readsRepeat 57 = .ok (.invokevirtual 180, 3) := by decide +kernel
theorem dX10_readsRepeat_60 : decode cX10_readsRepeat 60 = .ok (.aload_n 0, 1) := by decide +kernel
theorem dX10_readsRepeat_61 : decode cX10_readsRepeat 61 = .ok (.getfield 45, 3) := by decide +kernel
theorem dX10_readsRepeat_64 : decode cX10_readsRepeat 64 = .ok (.iload_n 1, 1) := by decide +kernel
theorem dX10_readsRepeat_65 : decode cX10_readsRepeat 65 = .ok (.aload_n 0, 1) := by decide +kernel
theorem dX10_readsRepeat_66 : decode cX10_readsRepeat 66 = .ok (.getfield 224, 3) := by decide +kernel
theorem dX10_readsRepeat_69 : decode cX10_readsRepeat 69 = .ok (.iastore, 1) := by decide +kernel
theorem dX10_readsRepeat_70 : decode cX10_readsRepeat 70 = .ok (.return_, 1) := by decide +kernel
def fX10_readsRepeat (rc : Mm → Int32 → Option Mm) (M : Mm) (x1 : Int32) (x2 : Int32) : Option Mm := (fX10_number M (0 : Int32) (20 : Int32)).bind fun q1 => if x1 < 0 ∨ 30 ≤ x1.toNatClampNeg then none else (fX10_isSign (putI q1.2 (19, 8, 0) x1.toNatClampNeg q1.1) (40 : Int32)).bind fun q4 => (fX10_must (putI q1.2 (19, 8, 0) x1.toNatClampNeg q1.1) q4 (1 : Int32)).bind fun q6 => if q6.1 = 0 then ((fX10_goesOn q6.2).bind fun q9 => (rc q9 (x2 + (1 : Int32))).bind fun q11 => (fX10_takesSign q11 (41 : Int32)).bind fun q13 => if x1 < 0 ∨ 30 ≤ x1.toNatClampNeg then none else some (putI q13 (19, 9, 0) x1.toNatClampNeg (q13.1 (18, 0, 0) 23))) else if (2 : Int32) ≤ x2 then ((fX10_must q6.2 (0 : Int32) (4 : Int32)).bind fun q17 => (fX10_goesOn q17.2).bind fun q19 => (rc q19 (x2 + (1 : Int32))).bind fun q21 => (fX10_takesSign q21 (41 : Int32)).bind fun q23 => if x1 < 0 ∨ 30 ≤ x1.toNatClampNeg then none else some (putI q23 (19, 9, 0) x1.toNatClampNeg (q23.1 (18, 0, 0) 23))) else (fX10_must q6.2 (1 : Int32) (4 : Int32)).bind fun q26 => (fX10_goesOn q26.2).bind fun q28 => (rc q28 (x2 + (1 : Int32))).bind fun q30 => (fX10_takesSign q30 (41 : Int32)).bind fun q32 => if x1 < 0 ∨ 30 ≤ x1.toNatClampNeg then none else some (putI q32 (19, 9, 0) x1.toNatClampNeg (q32.1 (18, 0, 0) 23))
set_option maxRecDepth 20000 in
set_option maxHeartbeats 2000000 in
theorem sX10_readsRepeat {wv : Nat} (rc : Mm → Int32 → Option Mm) (dd : Nat) (hrc : ∀ (M : Mm) (x1 : Int32) (res : Mm), rc M x1 = some res → TF (wv + 1) yX10_readsCommands cX10_readsCommands 2 none dd [.inr (18, 0, 0), .inl (.int x1)] M (none) res) (M : Mm) (x1 : Int32) (x2 : Int32) {res : Mm} (h : fX10_readsRepeat rc M x1 x2 = some res) : TF (wv + 1) yX10_readsRepeat cX10_readsRepeat 3 none (dd + 4) [.inr (18, 0, 0), .inl (.int x1), .inl (.int x2)] M (none) res := by
  rw [fX10_readsRepeat] at h
  refine TF.go (n := 0) (ls := [some (.inr (18, 0, 0)), some (.inl (.int x1)), some (.inl (.int x2))]) rfl rfl rfl rfl rfl ?_
  refine z_aload_n (i := 0) dX10_readsRepeat_0 rfl rfl ?_
  refine z_getR (r' := (19, 8, 0)) dX10_readsRepeat_1 fl_X10_42 mk18 rfl rfl ?_
  refine z_iload_n (i := 1) dX10_readsRepeat_4 rfl rfl ?_
  refine z_aload_n (i := 0) dX10_readsRepeat_5 rfl rfl ?_
  refine z_iconst (v := (0 : Int32)) dX10_readsRepeat_6 kc_0 ?_
  refine z_bipush (v := (20 : Int32)) dX10_readsRepeat_7 kb_20 ?_
  obtain ⟨q1, hq2, h⟩ := bnd h
  refine z_fVi (sX10_number M (0 : Int32) (20 : Int32) hq2) dX10_readsRepeat_9 ml_X10_177 cd_X10_number mk18 rfl rfl rfl (rmk_d (by omega) (by decide)) rfl rfl ?_
  obtain ⟨hc3, h⟩ := chk h
  refine z_iast (j := x1.toNatClampNeg) allR_nd dX10_readsRepeat_12 (m19 _ (Nat.le_of_ble_eq_true rfl)) rfl hc3 rfl ?_
  refine z_aload_n (i := 0) dX10_readsRepeat_13 rfl rfl ?_
  refine z_aload_n (i := 0) dX10_readsRepeat_14 rfl rfl ?_
  refine z_bipush (v := (40 : Int32)) dX10_readsRepeat_15 kb_40 ?_
  obtain ⟨q4, hq5, h⟩ := bnd h
  refine z_fVi (sX10_isSign (putI q1.2 (19, 8, 0) x1.toNatClampNeg q1.1) (40 : Int32) hq5) dX10_readsRepeat_17 ml_X10_158 cd_X10_isSign mk18 rfl rfl rfl (rmk_d (by omega) (by decide)) rfl rfl ?_
  refine z_iconst (v := (1 : Int32)) dX10_readsRepeat_20 kc_1 ?_
  obtain ⟨q6, hq7, h⟩ := bnd h
  refine z_fVi (sX10_must (putI q1.2 (19, 8, 0) x1.toNatClampNeg q1.1) q4 (1 : Int32) hq7) dX10_readsRepeat_21 ml_X10_161 cd_X10_must mk18 rfl rfl rfl (rmk_d (by omega) (by decide)) rfl rfl ?_
  refine z_if_eq (tgt := 43) dX10_readsRepeat_24 rfl (fun hc8 => ?_) (fun hc8 => ?_)
  · have h := it_t h hc8
    refine z_aload_n (i := 0) dX10_readsRepeat_43 rfl rfl ?_
    obtain ⟨q9, hq10, h⟩ := bnd h
    refine z_fVv (sX10_goesOn q6.2 hq10) dX10_readsRepeat_44 ml_X10_164 cd_X10_goesOn mk18 rfl rfl rfl (rmk_d (by omega) (by decide)) rfl rfl ?_
    refine z_aload_n (i := 0) dX10_readsRepeat_47 rfl rfl ?_
    refine z_iload_n (i := 2) dX10_readsRepeat_48 rfl rfl ?_
    refine z_iconst (v := (1 : Int32)) dX10_readsRepeat_49 kc_1 ?_
    refine z_iadd dX10_readsRepeat_50 ?_
    obtain ⟨q11, hq12, h⟩ := bnd h
    refine z_fVv (hrc q9 (x2 + (1 : Int32)) _ hq12) dX10_readsRepeat_51 ml_X10_221 cd_X10_readsCommands mk18 rfl rfl rfl (rmk_d (by omega) (by decide)) rfl rfl ?_
    refine z_aload_n (i := 0) dX10_readsRepeat_54 rfl rfl ?_
    refine z_bipush (v := (41 : Int32)) dX10_readsRepeat_55 kb_41 ?_
    obtain ⟨q13, hq14, h⟩ := bnd h
    refine z_fVv (sX10_takesSign q11 (41 : Int32) hq14) dX10_readsRepeat_57 ml_X10_180 cd_X10_takesSign mk18 rfl rfl rfl (rmk_d (by omega) (by decide)) rfl rfl ?_
    refine z_aload_n (i := 0) dX10_readsRepeat_60 rfl rfl ?_
    refine z_getR (r' := (19, 9, 0)) dX10_readsRepeat_61 fl_X10_45 mk18 rfl rfl ?_
    refine z_iload_n (i := 1) dX10_readsRepeat_64 rfl rfl ?_
    refine z_aload_n (i := 0) dX10_readsRepeat_65 rfl rfl ?_
    refine z_getI (x := (q13.1 (18, 0, 0) 23)) dX10_readsRepeat_66 fl_X10_224 mk18 rfl rfl ?_
    obtain ⟨hc15, h⟩ := chk h
    refine z_iast (j := x1.toNatClampNeg) allR_nd dX10_readsRepeat_69 (m19 _ (Nat.le_of_ble_eq_true rfl)) rfl hc15 rfl ?_
    cases h
    exact z_vret dX10_readsRepeat_70 rfl (Nat.le_refl _) (Nat.le_refl _) ⟨rfl, rfl⟩
  · have h := it_f h hc8
    refine z_aload_n (i := 0) dX10_readsRepeat_27 rfl rfl ?_
    refine z_iload_n (i := 2) dX10_readsRepeat_28 rfl rfl ?_
    refine z_iconst (v := (2 : Int32)) dX10_readsRepeat_29 kc_2 ?_
    refine z_icmp_ge (tgt := 37) dX10_readsRepeat_30 rfl (fun hc16 => ?_) (fun hc16 => ?_)
    · have h := it_t h hc16
      refine z_iconst (v := (0 : Int32)) dX10_readsRepeat_37 kc_0 ?_
      refine z_iconst (v := (4 : Int32)) dX10_readsRepeat_38 kc_4 ?_
      obtain ⟨q17, hq18, h⟩ := bnd h
      refine z_fVi (sX10_must q6.2 (0 : Int32) (4 : Int32) hq18) dX10_readsRepeat_39 ml_X10_161 cd_X10_must mk18 rfl rfl rfl (rmk_d (by omega) (by decide)) rfl rfl ?_
      refine z_pop dX10_readsRepeat_42 rfl ?_
      refine z_aload_n (i := 0) dX10_readsRepeat_43 rfl rfl ?_
      obtain ⟨q19, hq20, h⟩ := bnd h
      refine z_fVv (sX10_goesOn q17.2 hq20) dX10_readsRepeat_44 ml_X10_164 cd_X10_goesOn mk18 rfl rfl rfl (rmk_d (by omega) (by decide)) rfl rfl ?_
      refine z_aload_n (i := 0) dX10_readsRepeat_47 rfl rfl ?_
      refine z_iload_n (i := 2) dX10_readsRepeat_48 rfl rfl ?_
      refine z_iconst (v := (1 : Int32)) dX10_readsRepeat_49 kc_1 ?_
      refine z_iadd dX10_readsRepeat_50 ?_
      obtain ⟨q21, hq22, h⟩ := bnd h
      refine z_fVv (hrc q19 (x2 + (1 : Int32)) _ hq22) dX10_readsRepeat_51 ml_X10_221 cd_X10_readsCommands mk18 rfl rfl rfl (rmk_d (by omega) (by decide)) rfl rfl ?_
      refine z_aload_n (i := 0) dX10_readsRepeat_54 rfl rfl ?_
      refine z_bipush (v := (41 : Int32)) dX10_readsRepeat_55 kb_41 ?_
      obtain ⟨q23, hq24, h⟩ := bnd h
      refine z_fVv (sX10_takesSign q21 (41 : Int32) hq24) dX10_readsRepeat_57 ml_X10_180 cd_X10_takesSign mk18 rfl rfl rfl (rmk_d (by omega) (by decide)) rfl rfl ?_
      refine z_aload_n (i := 0) dX10_readsRepeat_60 rfl rfl ?_
      refine z_getR (r' := (19, 9, 0)) dX10_readsRepeat_61 fl_X10_45 mk18 rfl rfl ?_
      refine z_iload_n (i := 1) dX10_readsRepeat_64 rfl rfl ?_
      refine z_aload_n (i := 0) dX10_readsRepeat_65 rfl rfl ?_
      refine z_getI (x := (q23.1 (18, 0, 0) 23)) dX10_readsRepeat_66 fl_X10_224 mk18 rfl rfl ?_
      obtain ⟨hc25, h⟩ := chk h
      refine z_iast (j := x1.toNatClampNeg) allR_nd dX10_readsRepeat_69 (m19 _ (Nat.le_of_ble_eq_true rfl)) rfl hc25 rfl ?_
      cases h
      exact z_vret dX10_readsRepeat_70 rfl (Nat.le_refl _) (Nat.le_refl _) ⟨rfl, rfl⟩
    · have h := it_f h hc16
      refine z_iconst (v := (1 : Int32)) dX10_readsRepeat_33 kc_1 ?_
      refine z_goto (tgt := 38) dX10_readsRepeat_34 rfl ?_
      refine z_iconst (v := (4 : Int32)) dX10_readsRepeat_38 kc_4 ?_
      obtain ⟨q26, hq27, h⟩ := bnd h
      refine z_fVi (sX10_must q6.2 (1 : Int32) (4 : Int32) hq27) dX10_readsRepeat_39 ml_X10_161 cd_X10_must mk18 rfl rfl rfl (rmk_d (by omega) (by decide)) rfl rfl ?_
      refine z_pop dX10_readsRepeat_42 rfl ?_
      refine z_aload_n (i := 0) dX10_readsRepeat_43 rfl rfl ?_
      obtain ⟨q28, hq29, h⟩ := bnd h
      refine z_fVv (sX10_goesOn q26.2 hq29) dX10_readsRepeat_44 ml_X10_164 cd_X10_goesOn mk18 rfl rfl rfl (rmk_d (by omega) (by decide)) rfl rfl ?_
      refine z_aload_n (i := 0) dX10_readsRepeat_47 rfl rfl ?_
      refine z_iload_n (i := 2) dX10_readsRepeat_48 rfl rfl ?_
      refine z_iconst (v := (1 : Int32)) dX10_readsRepeat_49 kc_1 ?_
      refine z_iadd dX10_readsRepeat_50 ?_
      obtain ⟨q30, hq31, h⟩ := bnd h
      refine z_fVv (hrc q28 (x2 + (1 : Int32)) _ hq31) dX10_readsRepeat_51 ml_X10_221 cd_X10_readsCommands mk18 rfl rfl rfl (rmk_d (by omega) (by decide)) rfl rfl ?_
      refine z_aload_n (i := 0) dX10_readsRepeat_54 rfl rfl ?_
      refine z_bipush (v := (41 : Int32)) dX10_readsRepeat_55 kb_41 ?_
      obtain ⟨q32, hq33, h⟩ := bnd h
      refine z_fVv (sX10_takesSign q30 (41 : Int32) hq33) dX10_readsRepeat_57 ml_X10_180 cd_X10_takesSign mk18 rfl rfl rfl (rmk_d (by omega) (by decide)) rfl rfl ?_
      refine z_aload_n (i := 0) dX10_readsRepeat_60 rfl rfl ?_
      refine z_getR (r' := (19, 9, 0)) dX10_readsRepeat_61 fl_X10_45 mk18 rfl rfl ?_
      refine z_iload_n (i := 1) dX10_readsRepeat_64 rfl rfl ?_
      refine z_aload_n (i := 0) dX10_readsRepeat_65 rfl rfl ?_
      refine z_getI (x := (q32.1 (18, 0, 0) 23)) dX10_readsRepeat_66 fl_X10_224 mk18 rfl rfl ?_
      obtain ⟨hc34, h⟩ := chk h
      refine z_iast (j := x1.toNatClampNeg) allR_nd dX10_readsRepeat_69 (m19 _ (Nat.le_of_ble_eq_true rfl)) rfl hc34 rfl ?_
      cases h
      exact z_vret dX10_readsRepeat_70 rfl (Nat.le_refl _) (Nat.le_refl _) ⟨rfl, rfl⟩
theorem dX10_takesDirection_0 : decode cX10_takesDirection 0 = .ok (.aload_n 0, 1) := by decide +kernel
theorem dX10_takesDirection_1 : decode cX10_takesDirection 1 = .ok (.ldc 227, 2) := by decide +kernel
theorem dX10_takesDirection_3 : decode cX10_takesDirection 3 = .ok (.invokevirtual 173, 3) := by decide +kernel
theorem dX10_takesDirection_6 : decode cX10_takesDirection 6 = .ok (.ifCond .eq 7, 3) := by decide +kernel
theorem dX10_takesDirection_9 : decode cX10_takesDirection 9 = .ok (.iconst 1, 1) := by decide +kernel
theorem dX10_takesDirection_10 : decode cX10_takesDirection 10 = .ok (.goto 4, 3) := by decide +kernel
theorem dX10_takesDirection_13 : decode cX10_takesDirection 13 = .ok (.iconst (-1), 1) := by decide +kernel
theorem dX10_takesDirection_14 : decode cX10_takesDirection 14 = .ok (.istore_n 1, 1) := by decide +kernel
theorem dX10_takesDirection_15 : decode cX10_takesDirection 15 = .ok (.aload_n 0, 1) := by decide +kernel
theorem dX10_takesDirection_16 : decode cX10_takesDirection 16 = .ok (.iload_n 1, 1) := by decide +kernel
theorem dX10_takesDirection_17 : decode cX10_takesDirection 17 = .ok (.iconst 1, 1) := by decide +kernel
theorem dX10_takesDirection_18 : decode cX10_takesDirection 18 = .ok (.if_icmp .eq 12, 3) := by decide +kernel
theorem dX10_takesDirection_21 : decode cX10_takesDirection 21 = .ok (.aload_n 0, 1) := by decide +kernel
theorem dX10_takesDirection_22 : decode cX10_takesDirection 22 = .ok (.ldc 229, 2) := by decide +kernel
theorem dX10_takesDirection_24 : decode cX10_takesDirection 24 = .ok (.invokevirtual 173, 3) := by decide +kernel
theorem dX10_takesDirection_27 : decode cX10_takesDirection 27 = .ok (.ifCond .eq 7, 3) := by decide +kernel
theorem dX10_takesDirection_30 : decode cX10_takesDirection 30 = .ok (.iconst 1, 1) := by decide +kernel
theorem dX10_takesDirection_31 : decode cX10_takesDirection 31 = .ok (.goto 4, 3) := by decide +kernel
theorem dX10_takesDirection_34 : decode cX10_takesDirection 34 = .ok (.iconst 0, 1) := by decide +kernel
theorem dX10_takesDirection_35 : decode cX10_takesDirection 35 = .ok (.iconst 1, 1) := by decide +kernel
theorem dX10_takesDirection_36 : decode cX10_takesDirection 36 = .ok (.invokevirtual 161, 3) := by decide +kernel
theorem dX10_takesDirection_39 : decode cX10_takesDirection 39 = .ok (.pop, 1) := by decide +kernel
theorem dX10_takesDirection_40 : decode cX10_takesDirection 40 = .ok (.aload_n 0, 1) := by decide +kernel
theorem dX10_takesDirection_41 : decode cX10_takesDirection 41 = .ok (.invokevirtual 164, 3) := by decide +kernel
theorem dX10_takesDirection_44 : decode cX10_takesDirection 44 = .ok (.iload_n 1, 1) := by decide +kernel
theorem dX10_takesDirection_45 : decode cX10_takesDirection 45 = .ok (.ireturn, 1) := by decide +kernel
def fX10_takesDirection (M : Mm) : Option (Int32 × Mm) := (fX10_isWord M 13).bind fun q1 => if q1 = 0 then (if (-1 : Int32) = (1 : Int32) then ((fX10_must M (1 : Int32) (1 : Int32)).bind fun q5 => (fX10_goesOn q5.2).bind fun q7 => some ((-1 : Int32), q7)) else (fX10_isWord M 14).bind fun q9 => if q9 = 0 then ((fX10_must M (0 : Int32) (1 : Int32)).bind fun q12 => (fX10_goesOn q12.2).bind fun q14 => some ((-1 : Int32), q14)) else (fX10_must M (1 : Int32) (1 : Int32)).bind fun q16 => (fX10_goesOn q16.2).bind fun q18 => some ((-1 : Int32), q18)) else if (1 : Int32) = (1 : Int32) then ((fX10_must M (1 : Int32) (1 : Int32)).bind fun q21 => (fX10_goesOn q21.2).bind fun q23 => some ((1 : Int32), q23)) else (fX10_isWord M 14).bind fun q25 => if q25 = 0 then ((fX10_must M (0 : Int32) (1 : Int32)).bind fun q28 => (fX10_goesOn q28.2).bind fun q30 => some ((1 : Int32), q30)) else (fX10_must M (1 : Int32) (1 : Int32)).bind fun q32 => (fX10_goesOn q32.2).bind fun q34 => some ((1 : Int32), q34)
set_option maxRecDepth 20000 in
set_option maxHeartbeats 2000000 in
theorem sX10_takesDirection {wv : Nat} (M : Mm) {res : (Int32 × Mm)} (h : fX10_takesDirection M  = some res) : TF (wv + 1) yX10_takesDirection cX10_takesDirection 2 (some .int) 8 [.inr (18, 0, 0)] M (some (.int res.1)) res.2 := by
  rw [fX10_takesDirection] at h
  refine TF.go (n := 1) (ls := [some (.inr (18, 0, 0)), none]) rfl rfl rfl rfl rfl ?_
  refine z_aload_n (i := 0) dX10_takesDirection_0 rfl rfl ?_
  refine z_ldcS (j := 13) dX10_takesDirection_1 sw_RX10_227 ?_
  obtain ⟨q1, hq2, h⟩ := bnd h
  refine z_fVi (sX10_isWord M 13 (Nat.le_of_ble_eq_true rfl) hq2) dX10_takesDirection_3 ml_X10_173 cd_X10_isWord mk18 rfl rfl rfl rfl rfl rfl ?_
  refine z_if_eq (tgt := 13) dX10_takesDirection_6 rfl (fun hc3 => ?_) (fun hc3 => ?_)
  · have h := it_t h hc3
    refine z_iconst (v := (-1 : Int32)) dX10_takesDirection_13 kc_m1 ?_
    refine z_istore_n (i := 1) dX10_takesDirection_14 rfl (Nat.le_of_ble_eq_true rfl) rfl ?_
    refine z_aload_n (i := 0) dX10_takesDirection_15 rfl rfl ?_
    refine z_iload_n (i := 1) dX10_takesDirection_16 rfl rfl ?_
    refine z_iconst (v := (1 : Int32)) dX10_takesDirection_17 kc_1 ?_
    refine z_icmp_eq (tgt := 30) dX10_takesDirection_18 rfl (fun hc4 => ?_) (fun hc4 => ?_)
    · have h := it_t h hc4
      refine z_iconst (v := (1 : Int32)) dX10_takesDirection_30 kc_1 ?_
      refine z_goto (tgt := 35) dX10_takesDirection_31 rfl ?_
      refine z_iconst (v := (1 : Int32)) dX10_takesDirection_35 kc_1 ?_
      obtain ⟨q5, hq6, h⟩ := bnd h
      refine z_fVi (sX10_must M (1 : Int32) (1 : Int32) hq6) dX10_takesDirection_36 ml_X10_161 cd_X10_must mk18 rfl rfl rfl rfl rfl rfl ?_
      refine z_pop dX10_takesDirection_39 rfl ?_
      refine z_aload_n (i := 0) dX10_takesDirection_40 rfl rfl ?_
      obtain ⟨q7, hq8, h⟩ := bnd h
      refine z_fVv (sX10_goesOn q5.2 hq8) dX10_takesDirection_41 ml_X10_164 cd_X10_goesOn mk18 rfl rfl rfl rfl rfl rfl ?_
      refine z_iload_n (i := 1) dX10_takesDirection_44 rfl rfl ?_
      cases h
      exact z_iret dX10_takesDirection_45 rfl rfl (Nat.le_refl _) (Nat.le_refl _) ⟨rfl, rfl⟩
    · have h := it_f h hc4
      refine z_aload_n (i := 0) dX10_takesDirection_21 rfl rfl ?_
      refine z_ldcS (j := 14) dX10_takesDirection_22 sw_RX10_229 ?_
      obtain ⟨q9, hq10, h⟩ := bnd h
      refine z_fVi (sX10_isWord M 14 (Nat.le_of_ble_eq_true rfl) hq10) dX10_takesDirection_24 ml_X10_173 cd_X10_isWord mk18 rfl rfl rfl rfl rfl rfl ?_
      refine z_if_eq (tgt := 34) dX10_takesDirection_27 rfl (fun hc11 => ?_) (fun hc11 => ?_)
      · have h := it_t h hc11
        refine z_iconst (v := (0 : Int32)) dX10_takesDirection_34 kc_0 ?_
        refine z_iconst (v := (1 : Int32)) dX10_takesDirection_35 kc_1 ?_
        obtain ⟨q12, hq13, h⟩ := bnd h
        refine z_fVi (sX10_must M (0 : Int32) (1 : Int32) hq13) dX10_takesDirection_36 ml_X10_161 cd_X10_must mk18 rfl rfl rfl rfl rfl rfl ?_
        refine z_pop dX10_takesDirection_39 rfl ?_
        refine z_aload_n (i := 0) dX10_takesDirection_40 rfl rfl ?_
        obtain ⟨q14, hq15, h⟩ := bnd h
        refine z_fVv (sX10_goesOn q12.2 hq15) dX10_takesDirection_41 ml_X10_164 cd_X10_goesOn mk18 rfl rfl rfl rfl rfl rfl ?_
        refine z_iload_n (i := 1) dX10_takesDirection_44 rfl rfl ?_
        cases h
        exact z_iret dX10_takesDirection_45 rfl rfl (Nat.le_refl _) (Nat.le_refl _) ⟨rfl, rfl⟩
      · have h := it_f h hc11
        refine z_iconst (v := (1 : Int32)) dX10_takesDirection_30 kc_1 ?_
        refine z_goto (tgt := 35) dX10_takesDirection_31 rfl ?_
        refine z_iconst (v := (1 : Int32)) dX10_takesDirection_35 kc_1 ?_
        obtain ⟨q16, hq17, h⟩ := bnd h
        refine z_fVi (sX10_must M (1 : Int32) (1 : Int32) hq17) dX10_takesDirection_36 ml_X10_161 cd_X10_must mk18 rfl rfl rfl rfl rfl rfl ?_
        refine z_pop dX10_takesDirection_39 rfl ?_
        refine z_aload_n (i := 0) dX10_takesDirection_40 rfl rfl ?_
        obtain ⟨q18, hq19, h⟩ := bnd h
        refine z_fVv (sX10_goesOn q16.2 hq19) dX10_takesDirection_41 ml_X10_164 cd_X10_goesOn mk18 rfl rfl rfl rfl rfl rfl ?_
        refine z_iload_n (i := 1) dX10_takesDirection_44 rfl rfl ?_
        cases h
        exact z_iret dX10_takesDirection_45 rfl rfl (Nat.le_refl _) (Nat.le_refl _) ⟨rfl, rfl⟩
  · have h := it_f h hc3
    refine z_iconst (v := (1 : Int32)) dX10_takesDirection_9 kc_1 ?_
    refine z_goto (tgt := 14) dX10_takesDirection_10 rfl ?_
    refine z_istore_n (i := 1) dX10_takesDirection_14 rfl (Nat.le_of_ble_eq_true rfl) rfl ?_
    refine z_aload_n (i := 0) dX10_takesDirection_15 rfl rfl ?_
    refine z_iload_n (i := 1) dX10_takesDirection_16 rfl rfl ?_
    refine z_iconst (v := (1 : Int32)) dX10_takesDirection_17 kc_1 ?_
    refine z_icmp_eq (tgt := 30) dX10_takesDirection_18 rfl (fun hc20 => ?_) (fun hc20 => ?_)
    · have h := it_t h hc20
      refine z_iconst (v := (1 : Int32)) dX10_takesDirection_30 kc_1 ?_
      refine z_goto (tgt := 35) dX10_takesDirection_31 rfl ?_
      refine z_iconst (v := (1 : Int32)) dX10_takesDirection_35 kc_1 ?_
      obtain ⟨q21, hq22, h⟩ := bnd h
      refine z_fVi (sX10_must M (1 : Int32) (1 : Int32) hq22) dX10_takesDirection_36 ml_X10_161 cd_X10_must mk18 rfl rfl rfl rfl rfl rfl ?_
      refine z_pop dX10_takesDirection_39 rfl ?_
      refine z_aload_n (i := 0) dX10_takesDirection_40 rfl rfl ?_
      obtain ⟨q23, hq24, h⟩ := bnd h
      refine z_fVv (sX10_goesOn q21.2 hq24) dX10_takesDirection_41 ml_X10_164 cd_X10_goesOn mk18 rfl rfl rfl rfl rfl rfl ?_
      refine z_iload_n (i := 1) dX10_takesDirection_44 rfl rfl ?_
      cases h
      exact z_iret dX10_takesDirection_45 rfl rfl (Nat.le_refl _) (Nat.le_refl _) ⟨rfl, rfl⟩
    · have h := it_f h hc20
      refine z_aload_n (i := 0) dX10_takesDirection_21 rfl rfl ?_
      refine z_ldcS (j := 14) dX10_takesDirection_22 sw_RX10_229 ?_
      obtain ⟨q25, hq26, h⟩ := bnd h
      refine z_fVi (sX10_isWord M 14 (Nat.le_of_ble_eq_true rfl) hq26) dX10_takesDirection_24 ml_X10_173 cd_X10_isWord mk18 rfl rfl rfl rfl rfl rfl ?_
      refine z_if_eq (tgt := 34) dX10_takesDirection_27 rfl (fun hc27 => ?_) (fun hc27 => ?_)
      · have h := it_t h hc27
        refine z_iconst (v := (0 : Int32)) dX10_takesDirection_34 kc_0 ?_
        refine z_iconst (v := (1 : Int32)) dX10_takesDirection_35 kc_1 ?_
        obtain ⟨q28, hq29, h⟩ := bnd h
        refine z_fVi (sX10_must M (0 : Int32) (1 : Int32) hq29) dX10_takesDirection_36 ml_X10_161 cd_X10_must mk18 rfl rfl rfl rfl rfl rfl ?_
        refine z_pop dX10_takesDirection_39 rfl ?_
        refine z_aload_n (i := 0) dX10_takesDirection_40 rfl rfl ?_
        obtain ⟨q30, hq31, h⟩ := bnd h
        refine z_fVv (sX10_goesOn q28.2 hq31) dX10_takesDirection_41 ml_X10_164 cd_X10_goesOn mk18 rfl rfl rfl rfl rfl rfl ?_
        refine z_iload_n (i := 1) dX10_takesDirection_44 rfl rfl ?_
        cases h
        exact z_iret dX10_takesDirection_45 rfl rfl (Nat.le_refl _) (Nat.le_refl _) ⟨rfl, rfl⟩
      · have h := it_f h hc27
        refine z_iconst (v := (1 : Int32)) dX10_takesDirection_30 kc_1 ?_
        refine z_goto (tgt := 35) dX10_takesDirection_31 rfl ?_
        refine z_iconst (v := (1 : Int32)) dX10_takesDirection_35 kc_1 ?_
        obtain ⟨q32, hq33, h⟩ := bnd h
        refine z_fVi (sX10_must M (1 : Int32) (1 : Int32) hq33) dX10_takesDirection_36 ml_X10_161 cd_X10_must mk18 rfl rfl rfl rfl rfl rfl ?_
        refine z_pop dX10_takesDirection_39 rfl ?_
        refine z_aload_n (i := 0) dX10_takesDirection_40 rfl rfl ?_
        obtain ⟨q34, hq35, h⟩ := bnd h
        refine z_fVv (sX10_goesOn q32.2 hq35) dX10_takesDirection_41 ml_X10_164 cd_X10_goesOn mk18 rfl rfl rfl rfl rfl rfl ?_
        refine z_iload_n (i := 1) dX10_takesDirection_44 rfl rfl ?_
        cases h
        exact z_iret dX10_takesDirection_45 rfl rfl (Nat.le_refl _) (Nat.le_refl _) ⟨rfl, rfl⟩
