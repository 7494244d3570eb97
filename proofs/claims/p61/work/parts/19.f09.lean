theorem dX9_vane_0 : decode cX9_vane 0 = .ok (.aload_n 0, 1) := by decide +kernel
theorem dX9_vane_1 : decode cX9_vane 1 = .ok (.getfield 40, 3) := by decide +kernel
theorem dX9_vane_4 : decode cX9_vane 4 = .ok (.getfield 247, 3) := by decide +kernel
theorem dX9_vane_7 : decode cX9_vane 7 = .ok (.ireturn, 1) := by decide +kernel
def fX9_vane (M : Mm) : Int32 := (M.1 (9, 0, 0) 4)
set_option maxRecDepth 20000 in
set_option maxHeartbeats 2000000 in
theorem tX9_vane {wv : Wv} (M : Mm) {res : Int32} (h : fX9_vane M  = res) : TF wv yX9_vane cX9_vane 1 (some .int) 0 [.inr (0, 0, 0)] M (some (.int res)) M := by
  rw [fX9_vane] at h
  refine TF.go (n := 0) (ls := [some (.inr (0, 0, 0))]) rfl rfl rfl rfl rfl ?_
  refine z_aload_n (i := 0) dX9_vane_0 rfl rfl ?_
  refine z_getR (r' := (9, 0, 0)) dX9_vane_1 fl_X9_40 mk0 rfl rfl ?_
  refine z_getI (x := (M.1 (9, 0, 0) 4)) dX9_vane_4 fl_X9_247 (m9 _ (Nat.le_of_ble_eq_true rfl)) rfl rfl ?_
  subst h
  exact z_iret dX9_vane_7 rfl rfl (Nat.le_refl _) (Nat.le_refl _) ⟨rfl, rfl⟩
theorem sX9_vane {wv : Wv} (M : Mm) : TF wv yX9_vane cX9_vane 1 (some .int) 0 [.inr (0, 0, 0)] M (some (.int (fX9_vane M ))) M := tX9_vane M   rfl
theorem dX9_tempo_0 : decode cX9_tempo 0 = .ok (.aload_n 0, 1) := by decide +kernel
theorem dX9_tempo_1 : decode cX9_tempo 1 = .ok (.getfield 40, 3) := by decide +kernel
theorem dX9_tempo_4 : decode cX9_tempo 4 = .ok (.invokevirtual 250, 3) := by decide +kernel
theorem dX9_tempo_7 : decode cX9_tempo 7 = .ok (.ireturn, 1) := by decide +kernel
def fX9_tempo (M : Mm) : Int32 := (fX0_stepsPerMinute M 0)
set_option maxRecDepth 20000 in
set_option maxHeartbeats 2000000 in
theorem tX9_tempo {wv : Wv} (M : Mm) {res : Int32} (h : fX9_tempo M  = res) : TF wv yX9_tempo cX9_tempo 1 (some .int) 1 [.inr (0, 0, 0)] M (some (.int res)) M := by
  rw [fX9_tempo] at h
  refine TF.go (n := 0) (ls := [some (.inr (0, 0, 0))]) rfl rfl rfl rfl rfl ?_
  refine z_aload_n (i := 0) dX9_tempo_0 rfl rfl ?_
  refine z_getR (r' := (9, 0, 0)) dX9_tempo_1 fl_X9_40 mk0 rfl rfl ?_
  refine z_fVi (sX0_stepsPerMinute M 0 (Nat.le_of_ble_eq_true rfl)) dX9_tempo_4 ml_X9_250 cd_X0_stepsPerMinute (m9 _ (Nat.le_of_ble_eq_true rfl)) rfl rfl rfl rfl rfl rfl ?_
  subst h
  exact z_iret dX9_tempo_7 rfl rfl (Nat.le_refl _) (Nat.le_refl _) ⟨rfl, rfl⟩
theorem sX9_tempo {wv : Wv} (M : Mm) : TF wv yX9_tempo cX9_tempo 1 (some .int) 1 [.inr (0, 0, 0)] M (some (.int (fX9_tempo M ))) M := tX9_tempo M   rfl
theorem dX9_secondsPerStep_0 : decode cX9_secondsPerStep 0 = .ok (.aload_n 0, 1) := by decide +kernel
theorem dX9_secondsPerStep_1 : decode cX9_secondsPerStep 1 = .ok (.getfield 40, 3) := by decide +kernel
theorem dX9_secondsPerStep_4 : decode cX9_secondsPerStep 4 = .ok (.invokevirtual 250, 3) := by decide +kernel
theorem dX9_secondsPerStep_7 : decode cX9_secondsPerStep 7 = .ok (.istore_n 1, 1) := by decide +kernel
theorem dX9_secondsPerStep_8 : decode cX9_secondsPerStep 8 = .ok (.iload_n 1, 1) := by decide +kernel
theorem dX9_secondsPerStep_9 : decode cX9_secondsPerStep 9 = .ok (.iconst 1, 1) := by decide +kernel
theorem dX9_secondsPerStep_10 : decode cX9_secondsPerStep 10 = .ok (.if_icmp .ge 7, 3) := by decide +kernel
theorem dX9_secondsPerStep_13 : decode cX9_secondsPerStep 13 = .ok (.dconst 0, 1) := by decide +kernel
theorem dX9_secondsPerStep_14 : decode cX9_secondsPerStep 14 = .ok (.goto 9, 3) := by decide +kernel
theorem dX9_secondsPerStep_17 : decode cX9_secondsPerStep 17 = .ok (.ldc2_w 253, 3) := by decide +kernel
theorem dX9_secondsPerStep_20 : decode cX9_secondsPerStep 20 = .ok (.iload_n 1, 1) := by decide +kernel
theorem dX9_secondsPerStep_21 : decode cX9_secondsPerStep 21 = .ok (.i2d, 1) := by decide +kernel
theorem dX9_secondsPerStep_22 : decode cX9_secondsPerStep 22 = .ok (.ddiv, 1) := by decide +kernel
theorem dX9_secondsPerStep_23 : decode cX9_secondsPerStep 23 = .ok (.dreturn, 1) := by decide +kernel
def fX9_secondsPerStep (M : Mm) : Option UInt64 := if (1 : Int32) ≤ (fX0_stepsPerMinute M 0) then (if (FP.ddiv (4633641066610819072 : UInt64) (FP.i2d (fX0_stepsPerMinute M 0))) &&& 0x7fffffffffffffff ≤ 0x7ff0000000000000 then some (FP.ddiv (4633641066610819072 : UInt64) (FP.i2d (fX0_stepsPerMinute M 0))) else none) else some (FP.dconst0)
set_option maxRecDepth 20000 in
set_option maxHeartbeats 2000000 in
theorem sX9_secondsPerStep {wv : Wv} (M : Mm) {res : UInt64} (h : fX9_secondsPerStep M  = some res) : TF wv yX9_secondsPerStep cX9_secondsPerStep 2 (some .double) 1 [.inr (0, 0, 0)] M (some (.double res)) M := by
  rw [fX9_secondsPerStep] at h
  refine TF.go (n := 1) (ls := [some (.inr (0, 0, 0)), none]) rfl rfl rfl rfl rfl ?_
  refine z_aload_n (i := 0) dX9_secondsPerStep_0 rfl rfl ?_
  refine z_getR (r' := (9, 0, 0)) dX9_secondsPerStep_1 fl_X9_40 mk0 rfl rfl ?_
  refine z_fVi (sX0_stepsPerMinute M 0 (Nat.le_of_ble_eq_true rfl)) dX9_secondsPerStep_4 ml_X9_250 cd_X0_stepsPerMinute (m9 _ (Nat.le_of_ble_eq_true rfl)) rfl rfl rfl rfl rfl rfl ?_
  refine z_istore_n (i := 1) dX9_secondsPerStep_7 rfl (Nat.le_of_ble_eq_true rfl) rfl ?_
  refine z_iload_n (i := 1) dX9_secondsPerStep_8 rfl rfl ?_
  refine z_iconst (v := (1 : Int32)) dX9_secondsPerStep_9 kc_1 ?_
  refine z_icmp_ge (tgt := 17) dX9_secondsPerStep_10 rfl (fun hc1 => ?_) (fun hc1 => ?_)
  · have h := it_t h hc1
    refine z_ldc2d (v := (4633641066610819072 : UInt64)) dX9_secondsPerStep_17 (al_mem 1050 (by decide +kernel) rfl) ?_
    refine z_iload_n (i := 1) dX9_secondsPerStep_20 rfl rfl ?_
    refine z_i2d dX9_secondsPerStep_21 ?_
    obtain ⟨hc2, h⟩ := chk2 h
    refine z_ddiv dX9_secondsPerStep_22 hc2 ?_
    cases h
    exact z_dret dX9_secondsPerStep_23 rfl (Nat.le_refl _) (Nat.le_refl _) ⟨rfl, rfl⟩
  · have h := it_f h hc1
    refine z_dconst0 dX9_secondsPerStep_13 ?_
    refine z_goto (tgt := 23) dX9_secondsPerStep_14 rfl ?_
    cases h
    exact z_dret dX9_secondsPerStep_23 rfl (Nat.le_refl _) (Nat.le_refl _) ⟨rfl, rfl⟩
theorem dX9_bitsOfPositive_0 : decode cX9_bitsOfPositive 0 = .ok (.dload_n 0, 1) := by decide +kernel
theorem dX9_bitsOfPositive_1 : decode cX9_bitsOfPositive 1 = .ok (.dstore_n 2, 1) := by decide +kernel
theorem dX9_bitsOfPositive_2 : decode cX9_bitsOfPositive 2 = .ok (.ldc2_w 263, 3) := by decide +kernel
theorem dX9_bitsOfPositive_5 : decode cX9_bitsOfPositive 5 = .ok (.lstore 4, 2) := by decide +kernel
theorem dX9_bitsOfPositive_7 : decode cX9_bitsOfPositive 7 = .ok (.iconst 0, 1) := by decide +kernel
theorem dX9_bitsOfPositive_8 : decode cX9_bitsOfPositive 8 = .ok (.istore 6, 2) := by decide +kernel
theorem dX9_bitsOfPositive_10 : decode cX9_bitsOfPositive 10 = .ok (.iload 6, 2) := by decide +kernel
theorem dX9_bitsOfPositive_12 : decode cX9_bitsOfPositive 12 = .ok (.sipush 1023, 3) := by decide +kernel
theorem dX9_bitsOfPositive_15 : decode cX9_bitsOfPositive 15 = .ok (.if_icmp .ge 29, 3) := by decide +kernel
theorem dX9_bitsOfPositive_18 : decode cX9_bitsOfPositive 18 = .ok (.dload_n 2, 1) := by decide +kernel
theorem dX9_bitsOfPositive_19 : decode cX9_bitsOfPositive 19 = .ok (.ldc2_w 265, 3) := by decide +kernel
theorem dX9_bitsOfPositive_22 : decode cX9_bitsOfPositive 22 = .ok (.dcmp .l, 1) := by decide +kernel
theorem dX9_bitsOfPositive_23 : decode cX9_bitsOfPositive 23 = .ok (.ifCond .lt 21, 3) := by decide +kernel
theorem dX9_bitsOfPositive_26 : decode cX9_bitsOfPositive 26 = .ok (.dload_n 2, 1) := by decide +kernel
theorem dX9_bitsOfPositive_27 : decode cX9_bitsOfPositive 27 = .ok (.ldc2_w 265, 3) := by decide +kernel
theorem dX9_bitsOfPositive_30 : decode cX9_bitsOfPositive 30 = .ok (.ddiv, 1) := by decide +kernel
theorem dX9_bitsOfPositive_31 : decode cX9_bitsOfPositive 31 = .ok (.dstore_n 2, 1) := by decide +kernel
theorem dX9_bitsOfPositive_32 : decode cX9_bitsOfPositive 32 = .ok (.lload 4, 2) := by decide +kernel
theorem dX9_bitsOfPositive_34 : decode cX9_bitsOfPositive 34 = .ok (.lconst 1, 1) := by decide +kernel
theorem dX9_bitsOfPositive_35 : decode cX9_bitsOfPositive 35 = .ok (.ladd, 1) := by decide +kernel
theorem dX9_bitsOfPositive_36 : decode cX9_bitsOfPositive 36 = .ok (.lstore 4, 2) := by decide +kernel
theorem dX9_bitsOfPositive_38 : decode cX9_bitsOfPositive 38 = .ok (.iinc 6 1, 3) := by decide +kernel
theorem dX9_bitsOfPositive_41 : decode cX9_bitsOfPositive 41 = .ok (.goto (-31), 3) := by decide +kernel
theorem dX9_bitsOfPositive_44 : decode cX9_bitsOfPositive 44 = .ok (.iconst 0, 1) := by decide +kernel
theorem dX9_bitsOfPositive_45 : decode cX9_bitsOfPositive 45 = .ok (.istore 6, 2) := by decide +kernel
theorem dX9_bitsOfPositive_47 : decode cX9_bitsOfPositive 47 = .ok (.iload 6, 2) := by decide +kernel
theorem dX9_bitsOfPositive_49 : decode cX9_bitsOfPositive 49 = .ok (.sipush 1023, 3) := by decide +kernel
theorem dX9_bitsOfPositive_52 : decode cX9_bitsOfPositive 52 = .ok (.if_icmp .ge 27, 3) := by decide +kernel
theorem dX9_bitsOfPositive_55 : decode cX9_bitsOfPositive 55 = .ok (.dload_n 2, 1) := by decide +kernel
theorem dX9_bitsOfPositive_56 : decode cX9_bitsOfPositive 56 = .ok (.dconst 1, 1) := by decide +kernel
theorem dX9_bitsOfPositive_57 : decode cX9_bitsOfPositive 57 = .ok (.dcmp .g, 1) := by decide +kernel
theorem dX9_bitsOfPositive_58 : decode cX9_bitsOfPositive 58 = .ok (.ifCond .ge 21, 3) := by decide +kernel
theorem dX9_bitsOfPositive_61 : decode cX9_bitsOfPositive 61 = .ok (.dload_n 2, 1) := by decide +kernel
theorem dX9_bitsOfPositive_62 : decode cX9_bitsOfPositive 62 = .ok (.ldc2_w 265, 3) := by decide +kernel
theorem dX9_bitsOfPositive_65 : decode cX9_bitsOfPositive 65 = .ok (.dmul, 1) := by decide +kernel
theorem dX9_bitsOfPositive_66 : decode cX9_bitsOfPositive 66 = .ok (.dstore_n 2, 1) := by decide +kernel
theorem dX9_bitsOfPositive_67 : decode cX9_bitsOfPositive 67 = .ok (.lload 4, 2) := by decide +kernel
theorem dX9_bitsOfPositive_69 : decode cX9_bitsOfPositive 69 = .ok (.lconst 1, 1) := by decide +kernel
theorem dX9_bitsOfPositive_70 : decode cX9_bitsOfPositive 70 = .ok (.lsub, 1) := by decide +kernel
theorem dX9_bitsOfPositive_71 : decode cX9_bitsOfPositive 71 = .ok (.lstore 4, 2) := by decide +kernel
theorem dX9_bitsOfPositive_73 : decode cX9_bitsOfPositive 73 = .ok (.iinc 6 1, 3) := by decide +kernel
theorem dX9_bitsOfPositive_76 : decode cX9_bitsOfPositive 76 = .ok (.goto (-29), 3) := by decide +kernel
theorem dX9_bitsOfPositive_79 : decode cX9_bitsOfPositive 79 = .ok (.dload_n 2, 1) := by decide +kernel
theorem dX9_bitsOfPositive_80 : decode cX9_bitsOfPositive 80 = .ok (.dconst 1, 1) := by decide +kernel
theorem dX9_bitsOfPositive_81 : decode cX9_bitsOfPositive 81 = .ok (.dsub, 1) := by decide +kernel
theorem dX9_bitsOfPositive_82 : decode cX9_bitsOfPositive 82 = .ok (.ldc2_w 267, 3) := by decide +kernel
theorem dX9_bitsOfPositive_85 : decode cX9_bitsOfPositive 85 = .ok (.dmul, 1) := by decide +kernel
theorem dX9_bitsOfPositive_86 : decode cX9_bitsOfPositive 86 = .ok (.d2l, 1) := by decide +kernel
theorem dX9_bitsOfPositive_87 : decode cX9_bitsOfPositive 87 = .ok (.lstore 6, 2) := by decide +kernel
theorem dX9_bitsOfPositive_89 : decode cX9_bitsOfPositive 89 = .ok (.lload 4, 2) := by decide +kernel
theorem dX9_bitsOfPositive_91 : decode cX9_bitsOfPositive 91 = .ok (.bipush 52, 2) := by decide +kernel
theorem dX9_bitsOfPositive_93 : decode cX9_bitsOfPositive 93 = .ok (.lshl, 1) := by decide +kernel
theorem dX9_bitsOfPositive_94 : decode cX9_bitsOfPositive 94 = .ok (.lload 6, 2) := by decide +kernel
theorem dX9_bitsOfPositive_96 : decode cX9_bitsOfPositive 96 = .ok (.ladd, 1) := by decide +kernel
theorem dX9_bitsOfPositive_97 : decode cX9_bitsOfPositive 97 = .ok (.lreturn, 1) := by decide +kernel
def fX9_bitsOfPositive_L10 (M : Mm) (K : UInt64 → Int64 → Int32 → Option Int64) : Nat → UInt64 → Int64 → Int32 → Option Int64
  | 0, _, _, _ => none
  | n + 1, v2, v4, v6 => if (1023 : Int32) ≤ v6 then K v2 v4 v6 else if (Op.cmpValue (FP.dcmp v2 (4611686018427387904 : UInt64)) .l) < 0 then K v2 v4 v6 else if (FP.ddiv v2 (4611686018427387904 : UInt64)) &&& 0x7fffffffffffffff ≤ 0x7ff0000000000000 then fX9_bitsOfPositive_L10 M K n (FP.ddiv v2 (4611686018427387904 : UInt64)) (v4 + (1 : Int64)) (v6 + (1 : Int32)) else none
def fX9_bitsOfPositive_L47 (M : Mm) (K : UInt64 → Int64 → Int32 → Option Int64) : Nat → UInt64 → Int64 → Int32 → Option Int64
  | 0, _, _, _ => none
  | n + 1, v2, v4, v6 => if (1023 : Int32) ≤ v6 then K v2 v4 v6 else if 0 ≤ (Op.cmpValue (FP.dcmp v2 FP.dconst1) .g) then K v2 v4 v6 else if (FP.dmul v2 (4611686018427387904 : UInt64)) &&& 0x7fffffffffffffff ≤ 0x7ff0000000000000 then fX9_bitsOfPositive_L47 M K n (FP.dmul v2 (4611686018427387904 : UInt64)) (v4 - (1 : Int64)) (v6 + (1 : Int32)) else none
def fX9_bitsOfPositive (M : Mm) (x1 : UInt64) : Option Int64 := fX9_bitsOfPositive_L10 M (fun w4 w5 w6 => fX9_bitsOfPositive_L47 M (fun w10 w11 w12 => if (FP.dsub w10 FP.dconst1) &&& 0x7fffffffffffffff ≤ 0x7ff0000000000000 then if (FP.dmul (FP.dsub w10 FP.dconst1) (4841369599423283200 : UInt64)) &&& 0x7fffffffffffffff ≤ 0x7ff0000000000000 then some ((w11 <<< ((52 : Int32).toInt64 &&& 63)) + (FP.d2l (FP.dmul (FP.dsub w10 FP.dconst1) (4841369599423283200 : UInt64)))) else none else none) NF w4 w5 (0 : Int32)) NF x1 (1023 : Int64) (0 : Int32)
set_option maxRecDepth 20000 in
set_option maxHeartbeats 2000000 in
theorem sX9_bitsOfPositive_L10 {wv : Wv} (M : Mm) {res : Int64} {K : UInt64 → Int64 → Int32 → Option Int64} : ∀ (n : Nat) (v2 : UInt64) (v4 : Int64) (v6 : Int32), fX9_bitsOfPositive_L10 M K n v2 v4 v6 = some res →
    (∀ (v2 : UInt64) (v4 : Int64) (v6 : Int32), K v2 v4 v6 = some res → Z RX9 cX9_bitsOfPositive 8 (some .long) [] "bitsOfPositive" (rmD 0 0 0) (QM SH (allR wv) 0 0 (fun v M9 => v = some (.long res) ∧ M9 = M) (fun _ _ => False)) (allR wv) SH 0 0 44 [none, none, some (.inl (.double v2)), none, some (.inl (.long v4)), none, some (.inl (.int v6)), none] [] M) → Z RX9 cX9_bitsOfPositive 8 (some .long) [] "bitsOfPositive" (rmD 0 0 0) (QM SH (allR wv) 0 0 (fun v M9 => v = some (.long res) ∧ M9 = M) (fun _ _ => False)) (allR wv) SH 0 0 10 [none, none, some (.inl (.double v2)), none, some (.inl (.long v4)), none, some (.inl (.int v6)), none] [] M := by
  intro n
  induction n with
  | zero => intro v2 v4 v6 h; cases h
  | succ n ih =>
    intro v2 v4 v6 h hK
    rw [fX9_bitsOfPositive_L10] at h
    refine z_iload (i := 6) dX9_bitsOfPositive_10 rfl ?_
    refine z_sipush (v := (1023 : Int32)) dX9_bitsOfPositive_12 ks_1023 ?_
    refine z_icmp_ge (tgt := 44) dX9_bitsOfPositive_15 rfl (fun hc1 => ?_) (fun hc1 => ?_)
    · have h := it_t h hc1
      exact hK _ _ _ h
    · have h := it_f h hc1
      refine z_dload_n (i := 2) dX9_bitsOfPositive_18 rfl rfl ?_
      refine z_ldc2d (v := (4611686018427387904 : UInt64)) dX9_bitsOfPositive_19 (al_mem 1061 (by decide +kernel) rfl) ?_
      refine z_dcmp dX9_bitsOfPositive_22 ?_
      refine z_if_lt (tgt := 44) dX9_bitsOfPositive_23 rfl (fun hc2 => ?_) (fun hc2 => ?_)
      · have h := it_t h hc2
        exact hK _ _ _ h
      · have h := it_f h hc2
        refine z_dload_n (i := 2) dX9_bitsOfPositive_26 rfl rfl ?_
        refine z_ldc2d (v := (4611686018427387904 : UInt64)) dX9_bitsOfPositive_27 (al_mem 1061 (by decide +kernel) rfl) ?_
        obtain ⟨hc3, h⟩ := chk2 h
        refine z_ddiv dX9_bitsOfPositive_30 hc3 ?_
        refine z_dstore_n (i := 2) dX9_bitsOfPositive_31 rfl (Nat.le_of_ble_eq_true rfl) rfl ?_
        refine z_lload (i := 4) dX9_bitsOfPositive_32 rfl ?_
        refine z_lconst (v := (1 : Int64)) dX9_bitsOfPositive_34 (by decide) ?_
        refine z_ladd dX9_bitsOfPositive_35 ?_
        refine z_lstore (i := 4) dX9_bitsOfPositive_36 (Nat.le_of_ble_eq_true rfl) rfl ?_
        refine z_iinc (i := 6) (v := (v6 + (1 : Int32))) dX9_bitsOfPositive_38 rfl (iinc_k kc_1) (Nat.le_of_ble_eq_true rfl) rfl ?_
        refine z_goto (tgt := 10) dX9_bitsOfPositive_41 rfl ?_
        exact ih _ _ _ h hK
set_option maxRecDepth 20000 in
set_option maxHeartbeats 2000000 in
theorem sX9_bitsOfPositive_L47 {wv : Wv} (M : Mm) {res : Int64} {K : UInt64 → Int64 → Int32 → Option Int64} : ∀ (n : Nat) (v2 : UInt64) (v4 : Int64) (v6 : Int32), fX9_bitsOfPositive_L47 M K n v2 v4 v6 = some res →
    (∀ (v2 : UInt64) (v4 : Int64) (v6 : Int32), K v2 v4 v6 = some res → Z RX9 cX9_bitsOfPositive 8 (some .long) [] "bitsOfPositive" (rmD 0 0 0) (QM SH (allR wv) 0 0 (fun v M9 => v = some (.long res) ∧ M9 = M) (fun _ _ => False)) (allR wv) SH 0 0 79 [none, none, some (.inl (.double v2)), none, some (.inl (.long v4)), none, some (.inl (.int v6)), none] [] M) → Z RX9 cX9_bitsOfPositive 8 (some .long) [] "bitsOfPositive" (rmD 0 0 0) (QM SH (allR wv) 0 0 (fun v M9 => v = some (.long res) ∧ M9 = M) (fun _ _ => False)) (allR wv) SH 0 0 47 [none, none, some (.inl (.double v2)), none, some (.inl (.long v4)), none, some (.inl (.int v6)), none] [] M := by
  intro n
  induction n with
  | zero => intro v2 v4 v6 h; cases h
  | succ n ih =>
    intro v2 v4 v6 h hK
    rw [fX9_bitsOfPositive_L47] at h
    refine z_iload (i := 6) dX9_bitsOfPositive_47 rfl ?_
    refine z_sipush (v := (1023 : Int32)) dX9_bitsOfPositive_49 ks_1023 ?_
    refine z_icmp_ge (tgt := 79) dX9_bitsOfPositive_52 rfl (fun hc7 => ?_) (fun hc7 => ?_)
    · have h := it_t h hc7
      exact hK _ _ _ h
    · have h := it_f h hc7
      refine z_dload_n (i := 2) dX9_bitsOfPositive_55 rfl rfl ?_
      refine z_dconst1 dX9_bitsOfPositive_56 ?_
      refine z_dcmp dX9_bitsOfPositive_57 ?_
      refine z_if_ge (tgt := 79) dX9_bitsOfPositive_58 rfl (fun hc8 => ?_) (fun hc8 => ?_)
      · have h := it_t h hc8
        exact hK _ _ _ h
      · have h := it_f h hc8
        refine z_dload_n (i := 2) dX9_bitsOfPositive_61 rfl rfl ?_
        refine z_ldc2d (v := (4611686018427387904 : UInt64)) dX9_bitsOfPositive_62 (al_mem 1061 (by decide +kernel) rfl) ?_
        obtain ⟨hc9, h⟩ := chk2 h
        refine z_dmul dX9_bitsOfPositive_65 hc9 ?_
        refine z_dstore_n (i := 2) dX9_bitsOfPositive_66 rfl (Nat.le_of_ble_eq_true rfl) rfl ?_
        refine z_lload (i := 4) dX9_bitsOfPositive_67 rfl ?_
        refine z_lconst (v := (1 : Int64)) dX9_bitsOfPositive_69 (by decide) ?_
        refine z_lsub dX9_bitsOfPositive_70 ?_
        refine z_lstore (i := 4) dX9_bitsOfPositive_71 (Nat.le_of_ble_eq_true rfl) rfl ?_
        refine z_iinc (i := 6) (v := (v6 + (1 : Int32))) dX9_bitsOfPositive_73 rfl (iinc_k kc_1) (Nat.le_of_ble_eq_true rfl) rfl ?_
        refine z_goto (tgt := 47) dX9_bitsOfPositive_76 rfl ?_
        exact ih _ _ _ h hK
set_option maxRecDepth 20000 in
set_option maxHeartbeats 2000000 in
theorem sX9_bitsOfPositive {wv : Wv} (M : Mm) (x1 : UInt64) {res : Int64} (h : fX9_bitsOfPositive M x1 = some res) : TF wv yX9_bitsOfPositive cX9_bitsOfPositive 8 (some .long) 0 [.inl (.double x1)] M (some (.long res)) M := by
  rw [fX9_bitsOfPositive] at h
  refine TF.go (n := 6) (ls := [some (.inl (.double x1)), none, none, none, none, none, none, none]) rfl rfl rfl rfl rfl ?_
  refine z_dload_n (i := 0) dX9_bitsOfPositive_0 rfl rfl ?_
  refine z_dstore_n (i := 2) dX9_bitsOfPositive_1 rfl (Nat.le_of_ble_eq_true rfl) rfl ?_
  refine z_ldc2 (v := (1023 : Int64)) dX9_bitsOfPositive_2 (al_mem 1060 (by decide +kernel) rfl) ?_
  refine z_lstore (i := 4) dX9_bitsOfPositive_5 (Nat.le_of_ble_eq_true rfl) rfl ?_
  refine z_iconst (v := (0 : Int32)) dX9_bitsOfPositive_7 kc_0 ?_
  refine z_istore (i := 6) dX9_bitsOfPositive_8 (Nat.le_of_ble_eq_true rfl) rfl ?_
  refine z_fgt (i := 0) ?_
  refine sX9_bitsOfPositive_L10 M NF _ _ _ h (fun w4 w5 w6 h => ?_)
  refine z_iconst (v := (0 : Int32)) dX9_bitsOfPositive_44 kc_0 ?_
  refine z_istore (i := 6) dX9_bitsOfPositive_45 (Nat.le_of_ble_eq_true rfl) rfl ?_
  refine sX9_bitsOfPositive_L47 M NF _ _ _ h (fun w10 w11 w12 h => ?_)
  refine z_dload_n (i := 2) dX9_bitsOfPositive_79 rfl rfl ?_
  refine z_dconst1 dX9_bitsOfPositive_80 ?_
  obtain ⟨hc13, h⟩ := chk2 h
  refine z_dsub dX9_bitsOfPositive_81 hc13 ?_
  refine z_ldc2d (v := (4841369599423283200 : UInt64)) dX9_bitsOfPositive_82 (al_mem 1062 (by decide +kernel) rfl) ?_
  obtain ⟨hc14, h⟩ := chk2 h
  refine z_dmul dX9_bitsOfPositive_85 hc14 ?_
  refine z_d2l dX9_bitsOfPositive_86 ?_
  refine z_lstore (i := 6) dX9_bitsOfPositive_87 (Nat.le_of_ble_eq_true rfl) rfl ?_
  refine z_lload (i := 4) dX9_bitsOfPositive_89 rfl ?_
  refine z_bipush (v := (52 : Int32)) dX9_bitsOfPositive_91 kb_52 ?_
  refine z_lshl dX9_bitsOfPositive_93 ?_
  refine z_lload (i := 6) dX9_bitsOfPositive_94 rfl ?_
  refine z_ladd dX9_bitsOfPositive_96 ?_
  cases h
  exact z_lret dX9_bitsOfPositive_97 rfl (Nat.le_refl _) (Nat.le_refl _) ⟨rfl, rfl⟩
theorem dX9_secondsPerStepBits_0 : decode cX9_secondsPerStepBits 0 = .ok (.aload_n 0, 1) := by decide +kernel
theorem dX9_secondsPerStepBits_1 : decode cX9_secondsPerStepBits 1 = .ok (.invokevirtual 255, 3) := by decide +kernel
theorem dX9_secondsPerStepBits_4 : decode cX9_secondsPerStepBits 4 = .ok (.invokestatic 259, 3) := by decide +kernel
theorem dX9_secondsPerStepBits_7 : decode cX9_secondsPerStepBits 7 = .ok (.lreturn, 1) := by decide +kernel
def fX9_secondsPerStepBits (M : Mm) : Option Int64 := (fX9_secondsPerStep M).bind fun q1 => (fX9_bitsOfPositive M q1).bind fun q3 => some q3
set_option maxRecDepth 20000 in
set_option maxHeartbeats 2000000 in
theorem sX9_secondsPerStepBits {wv : Wv} (M : Mm) {res : Int64} (h : fX9_secondsPerStepBits M  = some res) : TF wv yX9_secondsPerStepBits cX9_secondsPerStepBits 1 (some .long) 2 [.inr (0, 0, 0)] M (some (.long res)) M := by
  rw [fX9_secondsPerStepBits] at h
  refine TF.go (n := 0) (ls := [some (.inr (0, 0, 0))]) rfl rfl rfl rfl rfl ?_
  refine z_aload_n (i := 0) dX9_secondsPerStepBits_0 rfl rfl ?_
  obtain ⟨q1, hq2, h⟩ := bnd h
  refine z_fVd (sX9_secondsPerStep M hq2) dX9_secondsPerStepBits_1 ml_X9_255 cd_X9_secondsPerStep mk0 rfl rfl rfl rfl rfl rfl ?_
  obtain ⟨q3, hq4, h⟩ := bnd h
  refine z_fSl (sX9_bitsOfPositive M q1 hq4) dX9_secondsPerStepBits_4 ml_X9_259 cd_X9_bitsOfPositive rfl rfl rfl rfl rfl ?_
  cases h
  exact z_lret dX9_secondsPerStepBits_7 rfl (Nat.le_refl _) (Nat.le_refl _) ⟨rfl, rfl⟩
theorem dX9_noteCount_0 : decode cX9_noteCount 0 = .ok (.aload_n 0, 1) := by decide +kernel
theorem dX9_noteCount_1 : decode cX9_noteCount 1 = .ok (.getfield 40, 3) := by decide +kernel
theorem dX9_noteCount_4 : decode cX9_noteCount 4 = .ok (.getfield 269, 3) := by decide +kernel
theorem dX9_noteCount_7 : decode cX9_noteCount 7 = .ok (.ireturn, 1) := by decide +kernel
def fX9_noteCount (M : Mm) : Int32 := (M.1 (9, 0, 0) 5)
set_option maxRecDepth 20000 in
set_option maxHeartbeats 2000000 in
theorem tX9_noteCount {wv : Wv} (M : Mm) {res : Int32} (h : fX9_noteCount M  = res) : TF wv yX9_noteCount cX9_noteCount 1 (some .int) 0 [.inr (0, 0, 0)] M (some (.int res)) M := by
  rw [fX9_noteCount] at h
  refine TF.go (n := 0) (ls := [some (.inr (0, 0, 0))]) rfl rfl rfl rfl rfl ?_
  refine z_aload_n (i := 0) dX9_noteCount_0 rfl rfl ?_
  refine z_getR (r' := (9, 0, 0)) dX9_noteCount_1 fl_X9_40 mk0 rfl rfl ?_
  refine z_getI (x := (M.1 (9, 0, 0) 5)) dX9_noteCount_4 fl_X9_269 (m9 _ (Nat.le_of_ble_eq_true rfl)) rfl rfl ?_
  subst h
  exact z_iret dX9_noteCount_7 rfl rfl (Nat.le_refl _) (Nat.le_refl _) ⟨rfl, rfl⟩
theorem sX9_noteCount {wv : Wv} (M : Mm) : TF wv yX9_noteCount cX9_noteCount 1 (some .int) 0 [.inr (0, 0, 0)] M (some (.int (fX9_noteCount M ))) M := tX9_noteCount M   rfl
theorem dX9_squeakCount_0 : decode cX9_squeakCount 0 = .ok (.aload_n 0, 1) := by decide +kernel
theorem dX9_squeakCount_1 : decode cX9_squeakCount 1 = .ok (.getfield 40, 3) := by decide +kernel
theorem dX9_squeakCount_4 : decode cX9_squeakCount 4 = .ok (.getfield 272, 3) := by decide +kernel
theorem dX9_squeakCount_7 : decode cX9_squeakCount 7 = .ok (.ireturn, 1) := by decide +kernel
def fX9_squeakCount (M : Mm) : Int32 := (M.1 (9, 0, 0) 6)
set_option maxRecDepth 20000 in
set_option maxHeartbeats 2000000 in
theorem tX9_squeakCount {wv : Wv} (M : Mm) {res : Int32} (h : fX9_squeakCount M  = res) : TF wv yX9_squeakCount cX9_squeakCount 1 (some .int) 0 [.inr (0, 0, 0)] M (some (.int res)) M := by
  rw [fX9_squeakCount] at h
  refine TF.go (n := 0) (ls := [some (.inr (0, 0, 0))]) rfl rfl rfl rfl rfl ?_
  refine z_aload_n (i := 0) dX9_squeakCount_0 rfl rfl ?_
  refine z_getR (r' := (9, 0, 0)) dX9_squeakCount_1 fl_X9_40 mk0 rfl rfl ?_
  refine z_getI (x := (M.1 (9, 0, 0) 6)) dX9_squeakCount_4 fl_X9_272 (m9 _ (Nat.le_of_ble_eq_true rfl)) rfl rfl ?_
  subst h
  exact z_iret dX9_squeakCount_7 rfl rfl (Nat.le_refl _) (Nat.le_refl _) ⟨rfl, rfl⟩
theorem sX9_squeakCount {wv : Wv} (M : Mm) : TF wv yX9_squeakCount cX9_squeakCount 1 (some .int) 0 [.inr (0, 0, 0)] M (some (.int (fX9_squeakCount M ))) M := tX9_squeakCount M   rfl
theorem dX9_stepsPlayed_0 : decode cX9_stepsPlayed 0 = .ok (.aload_n 0, 1) := by decide +kernel
theorem dX9_stepsPlayed_1 : decode cX9_stepsPlayed 1 = .ok (.getfield 40, 3) := by decide +kernel
theorem dX9_stepsPlayed_4 : decode cX9_stepsPlayed 4 = .ok (.getfield 275, 3) := by decide +kernel
theorem dX9_stepsPlayed_7 : decode cX9_stepsPlayed 7 = .ok (.ireturn, 1) := by decide +kernel
def fX9_stepsPlayed (M : Mm) : Int32 := (M.1 (9, 0, 0) 7)
set_option maxRecDepth 20000 in
set_option maxHeartbeats 2000000 in
theorem tX9_stepsPlayed {wv : Wv} (M : Mm) {res : Int32} (h : fX9_stepsPlayed M  = res) : TF wv yX9_stepsPlayed cX9_stepsPlayed 1 (some .int) 0 [.inr (0, 0, 0)] M (some (.int res)) M := by
  rw [fX9_stepsPlayed] at h
  refine TF.go (n := 0) (ls := [some (.inr (0, 0, 0))]) rfl rfl rfl rfl rfl ?_
  refine z_aload_n (i := 0) dX9_stepsPlayed_0 rfl rfl ?_
  refine z_getR (r' := (9, 0, 0)) dX9_stepsPlayed_1 fl_X9_40 mk0 rfl rfl ?_
  refine z_getI (x := (M.1 (9, 0, 0) 7)) dX9_stepsPlayed_4 fl_X9_275 (m9 _ (Nat.le_of_ble_eq_true rfl)) rfl rfl ?_
  subst h
  exact z_iret dX9_stepsPlayed_7 rfl rfl (Nat.le_refl _) (Nat.le_refl _) ⟨rfl, rfl⟩
theorem sX9_stepsPlayed {wv : Wv} (M : Mm) : TF wv yX9_stepsPlayed cX9_stepsPlayed 1 (some .int) 0 [.inr (0, 0, 0)] M (some (.int (fX9_stepsPlayed M ))) M := tX9_stepsPlayed M   rfl
theorem dX9_brokenTeeth_0 : decode cX9_brokenTeeth 0 = .ok (.aload_n 0, 1) := by decide +kernel
theorem dX9_brokenTeeth_1 : decode cX9_brokenTeeth 1 = .ok (.getfield 40, 3) := by decide +kernel
theorem dX9_brokenTeeth_4 : decode cX9_brokenTeeth 4 = .ok (.invokevirtual 278, 3) := by decide +kernel
theorem dX9_brokenTeeth_7 : decode cX9_brokenTeeth 7 = .ok (.ireturn, 1) := by decide +kernel
def fX9_brokenTeeth (M : Mm) : Option Int32 := (fX0_brokenCount M 0).bind fun q1 => some q1
set_option maxRecDepth 20000 in
set_option maxHeartbeats 2000000 in
theorem sX9_brokenTeeth {wv : Wv} (M : Mm) {res : Int32} (h : fX9_brokenTeeth M  = some res) : TF wv yX9_brokenTeeth cX9_brokenTeeth 1 (some .int) 2 [.inr (0, 0, 0)] M (some (.int res)) M := by
  rw [fX9_brokenTeeth] at h
  refine TF.go (n := 0) (ls := [some (.inr (0, 0, 0))]) rfl rfl rfl rfl rfl ?_
  refine z_aload_n (i := 0) dX9_brokenTeeth_0 rfl rfl ?_
  refine z_getR (r' := (9, 0, 0)) dX9_brokenTeeth_1 fl_X9_40 mk0 rfl rfl ?_
  obtain ⟨q1, hq2, h⟩ := bnd h
  refine z_fVi (sX0_brokenCount M 0 (Nat.le_of_ble_eq_true rfl) hq2) dX9_brokenTeeth_4 ml_X9_278 cd_X0_brokenCount (m9 _ (Nat.le_of_ble_eq_true rfl)) rfl rfl rfl rfl rfl rfl ?_
  cases h
  exact z_iret dX9_brokenTeeth_7 rfl rfl (Nat.le_refl _) (Nat.le_refl _) ⟨rfl, rfl⟩
theorem dX9_meanPitch_0 : decode cX9_meanPitch 0 = .ok (.aload_n 0, 1) := by decide +kernel
theorem dX9_meanPitch_1 : decode cX9_meanPitch 1 = .ok (.getfield 40, 3) := by decide +kernel
theorem dX9_meanPitch_4 : decode cX9_meanPitch 4 = .ok (.iload_n 1, 1) := by decide +kernel
theorem dX9_meanPitch_5 : decode cX9_meanPitch 5 = .ok (.invokevirtual 179, 3) := by decide +kernel
theorem dX9_meanPitch_8 : decode cX9_meanPitch 8 = .ok (.invokestatic 172, 3) := by decide +kernel
theorem dX9_meanPitch_11 : decode cX9_meanPitch 11 = .ok (.aload_n 0, 1) := by decide +kernel
theorem dX9_meanPitch_12 : decode cX9_meanPitch 12 = .ok (.getfield 40, 3) := by decide +kernel
theorem dX9_meanPitch_15 : decode cX9_meanPitch 15 = .ok (.getfield 153, 3) := by decide +kernel
theorem dX9_meanPitch_18 : decode cX9_meanPitch 18 = .ok (.iload_n 1, 1) := by decide +kernel
theorem dX9_meanPitch_19 : decode cX9_meanPitch 19 = .ok (.invokevirtual 182, 3) := by decide +kernel
theorem dX9_meanPitch_22 : decode cX9_meanPitch 22 = .ok (.istore_n 2, 1) := by decide +kernel
theorem dX9_meanPitch_23 : decode cX9_meanPitch 23 = .ok (.iload_n 2, 1) := by decide +kernel
theorem dX9_meanPitch_24 : decode cX9_meanPitch 24 = .ok (.ifCond .ne 7, 3) := by decide +kernel
theorem dX9_meanPitch_27 : decode cX9_meanPitch 27 = .ok (.dconst 0, 1) := by decide +kernel
theorem dX9_meanPitch_28 : decode cX9_meanPitch 28 = .ok (.goto 15, 3) := by decide +kernel
theorem dX9_meanPitch_31 : decode cX9_meanPitch 31 = .ok (.aload_n 0, 1) := by decide +kernel
theorem dX9_meanPitch_32 : decode cX9_meanPitch 32 = .ok (.getfield 40, 3) := by decide +kernel
theorem dX9_meanPitch_35 : decode cX9_meanPitch 35 = .ok (.iload_n 1, 1) := by decide +kernel
theorem dX9_meanPitch_36 : decode cX9_meanPitch 36 = .ok (.invokevirtual 281, 3) := by decide +kernel
theorem dX9_meanPitch_39 : decode cX9_meanPitch 39 = .ok (.i2d, 1) := by decide +kernel
theorem dX9_meanPitch_40 : decode cX9_meanPitch 40 = .ok (.iload_n 2, 1) := by decide +kernel
theorem dX9_meanPitch_41 : decode cX9_meanPitch 41 = .ok (.i2d, 1) := by decide +kernel
theorem dX9_meanPitch_42 : decode cX9_meanPitch 42 = .ok (.ddiv, 1) := by decide +kernel
theorem dX9_meanPitch_43 : decode cX9_meanPitch 43 = .ok (.dreturn, 1) := by decide +kernel
def fX9_meanPitch (M : Mm) (x1 : Int32) : Option (UInt64 × Mm) := (fX9_refuse M (fX0_tuneFault M 0 x1)).bind fun q1 => (fX3_pinsOf q1 0 x1).bind fun q3 => if q3 = 0 then some (FP.dconst0, q1) else (fX0_pitchSum q1 0 x1).bind fun q6 => if (FP.ddiv (FP.i2d q6) (FP.i2d q3)) &&& 0x7fffffffffffffff ≤ 0x7ff0000000000000 then some ((FP.ddiv (FP.i2d q6) (FP.i2d q3)), q1) else none
set_option maxRecDepth 20000 in
set_option maxHeartbeats 2000000 in
theorem sX9_meanPitch {wv : Wv} (M : Mm) (x1 : Int32) {res : (UInt64 × Mm)} (h : fX9_meanPitch M x1 = some res) : TF wv yX9_meanPitch cX9_meanPitch 3 (some .double) 3 [.inr (0, 0, 0), .inl (.int x1)] M (some (.double res.1)) res.2 := by
  rw [fX9_meanPitch] at h
  refine TF.go (n := 1) (ls := [some (.inr (0, 0, 0)), some (.inl (.int x1)), none]) rfl rfl rfl rfl rfl ?_
  refine z_aload_n (i := 0) dX9_meanPitch_0 rfl rfl ?_
  refine z_getR (r' := (9, 0, 0)) dX9_meanPitch_1 fl_X9_40 mk0 rfl rfl ?_
  refine z_iload_n (i := 1) dX9_meanPitch_4 rfl rfl ?_
  refine z_fVi (sX0_tuneFault M 0 x1 (Nat.le_of_ble_eq_true rfl)) dX9_meanPitch_5 ml_X9_179 cd_X0_tuneFault (m9 _ (Nat.le_of_ble_eq_true rfl)) rfl rfl rfl rfl rfl rfl ?_
  obtain ⟨q1, hq2, h⟩ := bnd h
  refine z_fSv (sX9_refuse M (fX0_tuneFault M 0 x1) hq2) dX9_meanPitch_8 ml_X9_172 cd_X9_refuse rfl rfl rfl rfl rfl ?_
  refine z_aload_n (i := 0) dX9_meanPitch_11 rfl rfl ?_
  refine z_getR (r' := (9, 0, 0)) dX9_meanPitch_12 fl_X9_40 mk0 rfl rfl ?_
  refine z_getR (r' := (10, 0, 0)) dX9_meanPitch_15 fl_X9_153 (m9 _ (Nat.le_of_ble_eq_true rfl)) rfl rfl ?_
  refine z_iload_n (i := 1) dX9_meanPitch_18 rfl rfl ?_
  obtain ⟨q3, hq4, h⟩ := bnd h
  refine z_fVi (sX3_pinsOf q1 0 x1 (Nat.le_of_ble_eq_true rfl) hq4) dX9_meanPitch_19 ml_X9_182 cd_X3_pinsOf (m10 _ (Nat.le_of_ble_eq_true rfl)) rfl rfl rfl rfl rfl rfl ?_
  refine z_istore_n (i := 2) dX9_meanPitch_22 rfl (Nat.le_of_ble_eq_true rfl) rfl ?_
  refine z_iload_n (i := 2) dX9_meanPitch_23 rfl rfl ?_
  refine z_if_ne (tgt := 31) dX9_meanPitch_24 rfl (fun hc5 => ?_) (fun hc5 => ?_)
  · have h := it_f h hc5
    refine z_aload_n (i := 0) dX9_meanPitch_31 rfl rfl ?_
    refine z_getR (r' := (9, 0, 0)) dX9_meanPitch_32 fl_X9_40 mk0 rfl rfl ?_
    refine z_iload_n (i := 1) dX9_meanPitch_35 rfl rfl ?_
    obtain ⟨q6, hq7, h⟩ := bnd h
    refine z_fVi (sX0_pitchSum q1 0 x1 (Nat.le_of_ble_eq_true rfl) hq7) dX9_meanPitch_36 ml_X9_281 cd_X0_pitchSum (m9 _ (Nat.le_of_ble_eq_true rfl)) rfl rfl rfl rfl rfl rfl ?_
    refine z_i2d dX9_meanPitch_39 ?_
    refine z_iload_n (i := 2) dX9_meanPitch_40 rfl rfl ?_
    refine z_i2d dX9_meanPitch_41 ?_
    obtain ⟨hc8, h⟩ := chk2 h
    refine z_ddiv dX9_meanPitch_42 hc8 ?_
    cases h
    exact z_dret dX9_meanPitch_43 rfl (Nat.le_refl _) (Nat.le_refl _) ⟨rfl, rfl⟩
  · have h := it_t h hc5
    refine z_dconst0 dX9_meanPitch_27 ?_
    refine z_goto (tgt := 43) dX9_meanPitch_28 rfl ?_
    cases h
    exact z_dret dX9_meanPitch_43 rfl (Nat.le_refl _) (Nat.le_refl _) ⟨rfl, rfl⟩
theorem dX9_density_0 : decode cX9_density 0 = .ok (.aload_n 0, 1) := by decide +kernel
theorem dX9_density_1 : decode cX9_density 1 = .ok (.getfield 40, 3) := by decide +kernel
theorem dX9_density_4 : decode cX9_density 4 = .ok (.iload_n 1, 1) := by decide +kernel
theorem dX9_density_5 : decode cX9_density 5 = .ok (.invokevirtual 179, 3) := by decide +kernel
theorem dX9_density_8 : decode cX9_density 8 = .ok (.invokestatic 172, 3) := by decide +kernel
theorem dX9_density_11 : decode cX9_density 11 = .ok (.aload_n 0, 1) := by decide +kernel
theorem dX9_density_12 : decode cX9_density 12 = .ok (.getfield 40, 3) := by decide +kernel
theorem dX9_density_15 : decode cX9_density 15 = .ok (.getfield 153, 3) := by decide +kernel
theorem dX9_density_18 : decode cX9_density 18 = .ok (.getfield 157, 3) := by decide +kernel
theorem dX9_density_21 : decode cX9_density 21 = .ok (.aload_n 0, 1) := by decide +kernel
theorem dX9_density_22 : decode cX9_density 22 = .ok (.getfield 40, 3) := by decide +kernel
theorem dX9_density_25 : decode cX9_density 25 = .ok (.getfield 211, 3) := by decide +kernel
theorem dX9_density_28 : decode cX9_density 28 = .ok (.imul, 1) := by decide +kernel
theorem dX9_density_29 : decode cX9_density 29 = .ok (.istore_n 2, 1) := by decide +kernel
theorem dX9_density_30 : decode cX9_density 30 = .ok (.iload_n 2, 1) := by decide +kernel
theorem dX9_density_31 : decode cX9_density 31 = .ok (.iconst 1, 1) := by decide +kernel
theorem dX9_density_32 : decode cX9_density 32 = .ok (.if_icmp .ge 7, 3) := by decide +kernel
theorem dX9_density_35 : decode cX9_density 35 = .ok (.fconst 0, 1) := by decide +kernel
theorem dX9_density_36 : decode cX9_density 36 = .ok (.goto 18, 3) := by decide +kernel
theorem dX9_density_39 : decode cX9_density 39 = .ok (.aload_n 0, 1) := by decide +kernel
theorem dX9_density_40 : decode cX9_density 40 = .ok (.getfield 40, 3) := by decide +kernel
theorem dX9_density_43 : decode cX9_density 43 = .ok (.getfield 153, 3) := by decide +kernel
theorem dX9_density_46 : decode cX9_density 46 = .ok (.iload_n 1, 1) := by decide +kernel
theorem dX9_density_47 : decode cX9_density 47 = .ok (.invokevirtual 182, 3) := by decide +kernel
theorem dX9_density_50 : decode cX9_density 50 = .ok (.i2f, 1) := by decide +kernel
theorem dX9_density_51 : decode cX9_density 51 = .ok (.iload_n 2, 1) := by decide +kernel
theorem dX9_density_52 : decode cX9_density 52 = .ok (.i2f, 1) := by decide +kernel
theorem dX9_density_53 : decode cX9_density 53 = .ok (.fdiv, 1) := by decide +kernel
theorem dX9_density_54 : decode cX9_density 54 = .ok (.freturn, 1) := by decide +kernel
def fX9_density (M : Mm) (x1 : Int32) : Option (UInt32 × Mm) := (fX9_refuse M (fX0_tuneFault M 0 x1)).bind fun q1 => if (1 : Int32) ≤ ((q1.1 (10, 0, 0) 1) * (q1.1 (9, 0, 0) 2)) then ((fX3_pinsOf q1 0 x1).bind fun q4 => if (FP.fdiv (FP.i2f q4) (FP.i2f ((q1.1 (10, 0, 0) 1) * (q1.1 (9, 0, 0) 2)))) &&& 0x7fffffff ≤ 0x7f800000 then some ((FP.fdiv (FP.i2f q4) (FP.i2f ((q1.1 (10, 0, 0) 1) * (q1.1 (9, 0, 0) 2)))), q1) else none) else some (FP.fconst0, q1)
set_option maxRecDepth 20000 in
set_option maxHeartbeats 2000000 in
theorem sX9_density {wv : Wv} (M : Mm) (x1 : Int32) {res : (UInt32 × Mm)} (h : fX9_density M x1 = some res) : TF wv yX9_density cX9_density 3 (some .float) 3 [.inr (0, 0, 0), .inl (.int x1)] M (some (.float res.1)) res.2 := by
  rw [fX9_density] at h
  refine TF.go (n := 1) (ls := [some (.inr (0, 0, 0)), some (.inl (.int x1)), none]) rfl rfl rfl rfl rfl ?_
  refine z_aload_n (i := 0) dX9_density_0 rfl rfl ?_
  refine z_getR (r' := (9, 0, 0)) dX9_density_1 fl_X9_40 mk0 rfl rfl ?_
  refine z_iload_n (i := 1) dX9_density_4 rfl rfl ?_
  refine z_fVi (sX0_tuneFault M 0 x1 (Nat.le_of_ble_eq_true rfl)) dX9_density_5 ml_X9_179 cd_X0_tuneFault (m9 _ (Nat.le_of_ble_eq_true rfl)) rfl rfl rfl rfl rfl rfl ?_
  obtain ⟨q1, hq2, h⟩ := bnd h
  refine z_fSv (sX9_refuse M (fX0_tuneFault M 0 x1) hq2) dX9_density_8 ml_X9_172 cd_X9_refuse rfl rfl rfl rfl rfl ?_
  refine z_aload_n (i := 0) dX9_density_11 rfl rfl ?_
  refine z_getR (r' := (9, 0, 0)) dX9_density_12 fl_X9_40 mk0 rfl rfl ?_
  refine z_getR (r' := (10, 0, 0)) dX9_density_15 fl_X9_153 (m9 _ (Nat.le_of_ble_eq_true rfl)) rfl rfl ?_
  refine z_getI (x := (q1.1 (10, 0, 0) 1)) dX9_density_18 fl_X9_157 (m10 _ (Nat.le_of_ble_eq_true rfl)) rfl rfl ?_
  refine z_aload_n (i := 0) dX9_density_21 rfl rfl ?_
  refine z_getR (r' := (9, 0, 0)) dX9_density_22 fl_X9_40 mk0 rfl rfl ?_
  refine z_getI (x := (q1.1 (9, 0, 0) 2)) dX9_density_25 fl_X9_211 (m9 _ (Nat.le_of_ble_eq_true rfl)) rfl rfl ?_
  refine z_imul dX9_density_28 ?_
  refine z_istore_n (i := 2) dX9_density_29 rfl (Nat.le_of_ble_eq_true rfl) rfl ?_
  refine z_iload_n (i := 2) dX9_density_30 rfl rfl ?_
  refine z_iconst (v := (1 : Int32)) dX9_density_31 kc_1 ?_
  refine z_icmp_ge (tgt := 39) dX9_density_32 rfl (fun hc3 => ?_) (fun hc3 => ?_)
  · have h := it_t h hc3
    refine z_aload_n (i := 0) dX9_density_39 rfl rfl ?_
    refine z_getR (r' := (9, 0, 0)) dX9_density_40 fl_X9_40 mk0 rfl rfl ?_
    refine z_getR (r' := (10, 0, 0)) dX9_density_43 fl_X9_153 (m9 _ (Nat.le_of_ble_eq_true rfl)) rfl rfl ?_
    refine z_iload_n (i := 1) dX9_density_46 rfl rfl ?_
    obtain ⟨q4, hq5, h⟩ := bnd h
    refine z_fVi (sX3_pinsOf q1 0 x1 (Nat.le_of_ble_eq_true rfl) hq5) dX9_density_47 ml_X9_182 cd_X3_pinsOf (m10 _ (Nat.le_of_ble_eq_true rfl)) rfl rfl rfl rfl rfl rfl ?_
    refine z_i2f dX9_density_50 ?_
    refine z_iload_n (i := 2) dX9_density_51 rfl rfl ?_
    refine z_i2f dX9_density_52 ?_
    obtain ⟨hc6, h⟩ := chk2 h
    refine z_fdiv dX9_density_53 hc6 ?_
    cases h
    exact z_fret dX9_density_54 rfl (Nat.le_refl _) (Nat.le_refl _) ⟨rfl, rfl⟩
  · have h := it_f h hc3
    refine z_fconst0 dX9_density_35 ?_
    refine z_goto (tgt := 54) dX9_density_36 rfl ?_
    cases h
    exact z_fret dX9_density_54 rfl (Nat.le_refl _) (Nat.le_refl _) ⟨rfl, rfl⟩
theorem dX9_contradictions_0 : decode cX9_contradictions 0 = .ok (.aload_n 0, 1) := by decide +kernel
theorem dX9_contradictions_1 : decode cX9_contradictions 1 = .ok (.getfield 40, 3) := by decide +kernel
theorem dX9_contradictions_4 : decode cX9_contradictions 4 = .ok (.invokevirtual 284, 3) := by decide +kernel
theorem dX9_contradictions_7 : decode cX9_contradictions 7 = .ok (.aload_n 0, 1) := by decide +kernel
theorem dX9_contradictions_8 : decode cX9_contradictions 8 = .ok (.getfield 40, 3) := by decide +kernel
theorem dX9_contradictions_11 : decode cX9_contradictions 11 = .ok (.invokevirtual 287, 3) := by decide +kernel
theorem dX9_contradictions_14 : decode cX9_contradictions 14 = .ok (.iadd, 1) := by decide +kernel
theorem dX9_contradictions_15 : decode cX9_contradictions 15 = .ok (.ireturn, 1) := by decide +kernel
def fX9_contradictions (M : Mm) : Option Int32 := (fX0_unexplainedWear M 0).bind fun q1 => (fX0_brokenTooEarly M 0).bind fun q3 => some (q1 + q3)
set_option maxRecDepth 20000 in
set_option maxHeartbeats 2000000 in
theorem sX9_contradictions {wv : Wv} (M : Mm) {res : Int32} (h : fX9_contradictions M  = some res) : TF wv yX9_contradictions cX9_contradictions 1 (some .int) 2 [.inr (0, 0, 0)] M (some (.int res)) M := by
  rw [fX9_contradictions] at h
  refine TF.go (n := 0) (ls := [some (.inr (0, 0, 0))]) rfl rfl rfl rfl rfl ?_
  refine z_aload_n (i := 0) dX9_contradictions_0 rfl rfl ?_
  refine z_getR (r' := (9, 0, 0)) dX9_contradictions_1 fl_X9_40 mk0 rfl rfl ?_
  obtain ⟨q1, hq2, h⟩ := bnd h
  refine z_fVi (sX0_unexplainedWear M 0 (Nat.le_of_ble_eq_true rfl) hq2) dX9_contradictions_4 ml_X9_284 cd_X0_unexplainedWear (m9 _ (Nat.le_of_ble_eq_true rfl)) rfl rfl rfl rfl rfl rfl ?_
  refine z_aload_n (i := 0) dX9_contradictions_7 rfl rfl ?_
  refine z_getR (r' := (9, 0, 0)) dX9_contradictions_8 fl_X9_40 mk0 rfl rfl ?_
  obtain ⟨q3, hq4, h⟩ := bnd h
  refine z_fVi (sX0_brokenTooEarly M 0 (Nat.le_of_ble_eq_true rfl) hq4) dX9_contradictions_11 ml_X9_287 cd_X0_brokenTooEarly (m9 _ (Nat.le_of_ble_eq_true rfl)) rfl rfl rfl rfl rfl rfl ?_
  refine z_iadd dX9_contradictions_14 ?_
  cases h
  exact z_iret dX9_contradictions_15 rfl rfl (Nat.le_refl _) (Nat.le_refl _) ⟨rfl, rfl⟩
theorem dX9_stepsLeft_0 : decode cX9_stepsLeft 0 = .ok (.aload_n 0, 1) := by decide +kernel
theorem dX9_stepsLeft_1 : decode cX9_stepsLeft 1 = .ok (.getfield 40, 3) := by decide +kernel
theorem dX9_stepsLeft_4 : decode cX9_stepsLeft 4 = .ok (.invokevirtual 290, 3) := by decide +kernel
theorem dX9_stepsLeft_7 : decode cX9_stepsLeft 7 = .ok (.ireturn, 1) := by decide +kernel
def fX9_stepsLeft (M : Mm) : Int32 := (fX0_playableSteps M 0)
set_option maxRecDepth 20000 in
set_option maxHeartbeats 2000000 in
theorem tX9_stepsLeft {wv : Wv} (M : Mm) {res : Int32} (h : fX9_stepsLeft M  = res) : TF wv yX9_stepsLeft cX9_stepsLeft 1 (some .int) 1 [.inr (0, 0, 0)] M (some (.int res)) M := by
  rw [fX9_stepsLeft] at h
  refine TF.go (n := 0) (ls := [some (.inr (0, 0, 0))]) rfl rfl rfl rfl rfl ?_
  refine z_aload_n (i := 0) dX9_stepsLeft_0 rfl rfl ?_
  refine z_getR (r' := (9, 0, 0)) dX9_stepsLeft_1 fl_X9_40 mk0 rfl rfl ?_
  refine z_fVi (sX0_playableSteps M 0 (Nat.le_of_ble_eq_true rfl)) dX9_stepsLeft_4 ml_X9_290 cd_X0_playableSteps (m9 _ (Nat.le_of_ble_eq_true rfl)) rfl rfl rfl rfl rfl rfl ?_
  subst h
  exact z_iret dX9_stepsLeft_7 rfl rfl (Nat.le_refl _) (Nat.le_refl _) ⟨rfl, rfl⟩
theorem sX9_stepsLeft {wv : Wv} (M : Mm) : TF wv yX9_stepsLeft cX9_stepsLeft 1 (some .int) 1 [.inr (0, 0, 0)] M (some (.int (fX9_stepsLeft M ))) M := tX9_stepsLeft M   rfl
theorem dX9_stepsUntilBroken_0 : decode cX9_stepsUntilBroken 0 = .ok (.aload_n 0, 1) := by decide +kernel
theorem dX9_stepsUntilBroken_1 : decode cX9_stepsUntilBroken 1 = .ok (.getfield 40, 3) := by decide +kernel
theorem dX9_stepsUntilBroken_4 : decode cX9_stepsUntilBroken 4 = .ok (.iload_n 1, 1) := by decide +kernel
theorem dX9_stepsUntilBroken_5 : decode cX9_stepsUntilBroken 5 = .ok (.invokevirtual 214, 3) := by decide +kernel
theorem dX9_stepsUntilBroken_8 : decode cX9_stepsUntilBroken 8 = .ok (.invokestatic 172, 3) := by decide +kernel
theorem dX9_stepsUntilBroken_11 : decode cX9_stepsUntilBroken 11 = .ok (.aload_n 0, 1) := by decide +kernel
theorem dX9_stepsUntilBroken_12 : decode cX9_stepsUntilBroken 12 = .ok (.getfield 44, 3) := by decide +kernel
theorem dX9_stepsUntilBroken_15 : decode cX9_stepsUntilBroken 15 = .ok (.aload_n 0, 1) := by decide +kernel
theorem dX9_stepsUntilBroken_16 : decode cX9_stepsUntilBroken 16 = .ok (.getfield 40, 3) := by decide +kernel
theorem dX9_stepsUntilBroken_19 : decode cX9_stepsUntilBroken 19 = .ok (.invokevirtual 127, 3) := by decide +kernel
theorem dX9_stepsUntilBroken_22 : decode cX9_stepsUntilBroken 22 = .ok (.aload_n 0, 1) := by decide +kernel
theorem dX9_stepsUntilBroken_23 : decode cX9_stepsUntilBroken 23 = .ok (.getfield 44, 3) := by decide +kernel
theorem dX9_stepsUntilBroken_26 : decode cX9_stepsUntilBroken 26 = .ok (.invokevirtual 290, 3) := by decide +kernel
theorem dX9_stepsUntilBroken_29 : decode cX9_stepsUntilBroken 29 = .ok (.istore_n 2, 1) := by decide +kernel
theorem dX9_stepsUntilBroken_30 : decode cX9_stepsUntilBroken 30 = .ok (.iconst 0, 1) := by decide +kernel
theorem dX9_stepsUntilBroken_31 : decode cX9_stepsUntilBroken 31 = .ok (.istore_n 3, 1) := by decide +kernel
theorem dX9_stepsUntilBroken_32 : decode cX9_stepsUntilBroken 32 = .ok (.iload_n 3, 1) := by decide +kernel
theorem dX9_stepsUntilBroken_33 : decode cX9_stepsUntilBroken 33 = .ok (.iload_n 2, 1) := by decide +kernel
theorem dX9_stepsUntilBroken_34 : decode cX9_stepsUntilBroken 34 = .ok (.if_icmp .gt 35, 3) := by decide +kernel
theorem dX9_stepsUntilBroken_37 : decode cX9_stepsUntilBroken 37 = .ok (.aload_n 0, 1) := by decide +kernel
theorem dX9_stepsUntilBroken_38 : decode cX9_stepsUntilBroken 38 = .ok (.getfield 44, 3) := by decide +kernel
theorem dX9_stepsUntilBroken_41 : decode cX9_stepsUntilBroken 41 = .ok (.getfield 217, 3) := by decide +kernel
theorem dX9_stepsUntilBroken_44 : decode cX9_stepsUntilBroken 44 = .ok (.iload_n 1, 1) := by decide +kernel
theorem dX9_stepsUntilBroken_45 : decode cX9_stepsUntilBroken 45 = .ok (.aaload, 1) := by decide +kernel
theorem dX9_stepsUntilBroken_46 : decode cX9_stepsUntilBroken 46 = .ok (.invokevirtual 238, 3) := by decide +kernel
theorem dX9_stepsUntilBroken_49 : decode cX9_stepsUntilBroken 49 = .ok (.ifCond .eq 5, 3) := by decide +kernel
theorem dX9_stepsUntilBroken_52 : decode cX9_stepsUntilBroken 52 = .ok (.iload_n 3, 1) := by decide +kernel
theorem dX9_stepsUntilBroken_53 : decode cX9_stepsUntilBroken 53 = .ok (.ireturn, 1) := by decide +kernel
theorem dX9_stepsUntilBroken_54 : decode cX9_stepsUntilBroken 54 = .ok (.aload_n 0, 1) := by decide +kernel
theorem dX9_stepsUntilBroken_55 : decode cX9_stepsUntilBroken 55 = .ok (.getfield 44, 3) := by decide +kernel
theorem dX9_stepsUntilBroken_58 : decode cX9_stepsUntilBroken 58 = .ok (.iconst 1, 1) := by decide +kernel
theorem dX9_stepsUntilBroken_59 : decode cX9_stepsUntilBroken 59 = .ok (.invokevirtual 293, 3) := by decide +kernel
theorem dX9_stepsUntilBroken_62 : decode cX9_stepsUntilBroken 62 = .ok (.pop, 1) := by decide +kernel
theorem dX9_stepsUntilBroken_63 : decode cX9_stepsUntilBroken 63 = .ok (.iinc 3 1, 3) := by decide +kernel
theorem dX9_stepsUntilBroken_66 : decode cX9_stepsUntilBroken 66 = .ok (.goto (-34), 3) := by decide +kernel
theorem dX9_stepsUntilBroken_69 : decode cX9_stepsUntilBroken 69 = .ok (.iconst (-1), 1) := by decide +kernel
theorem dX9_stepsUntilBroken_70 : decode cX9_stepsUntilBroken 70 = .ok (.ireturn, 1) := by decide +kernel
def fX9_stepsUntilBroken_L32 (c1 : Int32) (c2 : Int32) (K : Int32 → Mm → Option (Int32 × Mm)) : Nat → Int32 → Mm → Option (Int32 × Mm)
  | 0, _, _ => none
  | n + 1, v3, M => if c2 < v3 then K v3 M else if c1 < 0 ∨ 12 ≤ c1.toNatClampNeg then none else if (fX8_brokenNow M 1 c1.toNatClampNeg) = 0 then ((fX0_playSteps M 1 (1 : Int32)).bind fun q8 => fX9_stepsUntilBroken_L32 c1 c2 K n (v3 + (1 : Int32)) q8.2) else some (v3, M)
def fX9_stepsUntilBroken (M : Mm) (x1 : Int32) : Option (Int32 × Mm) := (fX9_refuse M (fX0_toothFault M 0 x1)).bind fun q1 => (fX0_copyFrom q1 1 0).bind fun q3 => fX9_stepsUntilBroken_L32 x1 (fX0_playableSteps q3 1) (fun w10 M11 => some ((-1 : Int32), M11)) NF (0 : Int32) q3
set_option maxRecDepth 20000 in
set_option maxHeartbeats 2000000 in
theorem sX9_stepsUntilBroken_L32 {wv : Wv} (c1 : Int32) (c2 : Int32) {res : (Int32 × Mm)} {K : Int32 → Mm → Option (Int32 × Mm)} : ∀ (n : Nat) (v3 : Int32) (M : Mm), fX9_stepsUntilBroken_L32 c1 c2 K n v3 M = some res →
    (∀ (v3 : Int32) (M : Mm), K v3 M = some res → Z RX9 cX9_stepsUntilBroken 4 (some .int) [] "stepsUntilBroken" (rmD 4 0 0) (QM SH (allR wv) 0 0 (fun v M9 => v = some (.int res.1) ∧ M9 = res.2) (fun _ _ => False)) (allR wv) SH 0 0 69 [some (.inr (0, 0, 0)), some (.inl (.int c1)), some (.inl (.int c2)), some (.inl (.int v3))] [] M) → Z RX9 cX9_stepsUntilBroken 4 (some .int) [] "stepsUntilBroken" (rmD 4 0 0) (QM SH (allR wv) 0 0 (fun v M9 => v = some (.int res.1) ∧ M9 = res.2) (fun _ _ => False)) (allR wv) SH 0 0 32 [some (.inr (0, 0, 0)), some (.inl (.int c1)), some (.inl (.int c2)), some (.inl (.int v3))] [] M := by
  intro n
  induction n with
  | zero => intro v3 M h; cases h
  | succ n ih =>
    intro v3 M h hK
    rw [fX9_stepsUntilBroken_L32] at h
    refine z_iload_n (i := 3) dX9_stepsUntilBroken_32 rfl rfl ?_
    refine z_iload_n (i := 2) dX9_stepsUntilBroken_33 rfl rfl ?_
    refine z_icmp_gt (tgt := 69) dX9_stepsUntilBroken_34 rfl (fun hc5 => ?_) (fun hc5 => ?_)
    · have h := it_t h hc5
      exact hK _ _ h
    · have h := it_f h hc5
      refine z_aload_n (i := 0) dX9_stepsUntilBroken_37 rfl rfl ?_
      refine z_getR (r' := (9, 1, 0)) dX9_stepsUntilBroken_38 fl_X9_44 mk0 rfl rfl ?_
      refine z_getR (r' := (12, 1, 0)) dX9_stepsUntilBroken_41 fl_X9_217 (m9 _ (Nat.le_of_ble_eq_true rfl)) rfl rfl ?_
      refine z_iload_n (i := 1) dX9_stepsUntilBroken_44 rfl rfl ?_
      obtain ⟨hc6, h⟩ := chk h
      refine z_aald (t := 0) (r' := (13, 1, c1.toNatClampNeg)) dX9_stepsUntilBroken_45 (m12 _ (Nat.le_of_ble_eq_true rfl)) rfl (Nat.le_of_ble_eq_true rfl) hc6 rfl ?_
      refine z_fVi (sX8_brokenNow M 1 c1.toNatClampNeg (Nat.le_of_ble_eq_true rfl) (ltN hc6)) dX9_stepsUntilBroken_46 ml_X9_238 cd_X8_brokenNow (m13 _ (Nat.le_of_ble_eq_true rfl) _ (ltN hc6)) rfl rfl rfl rfl rfl rfl ?_
      refine z_if_eq (tgt := 54) dX9_stepsUntilBroken_49 rfl (fun hc7 => ?_) (fun hc7 => ?_)
      · have h := it_t h hc7
        refine z_aload_n (i := 0) dX9_stepsUntilBroken_54 rfl rfl ?_
        refine z_getR (r' := (9, 1, 0)) dX9_stepsUntilBroken_55 fl_X9_44 mk0 rfl rfl ?_
        refine z_iconst (v := (1 : Int32)) dX9_stepsUntilBroken_58 kc_1 ?_
        obtain ⟨q8, hq9, h⟩ := bnd h
        refine z_fVi (sX0_playSteps M 1 (1 : Int32) (Nat.le_of_ble_eq_true rfl) hq9) dX9_stepsUntilBroken_59 ml_X9_293 cd_X0_playSteps (m9 _ (Nat.le_of_ble_eq_true rfl)) rfl rfl rfl rfl rfl rfl ?_
        refine z_pop dX9_stepsUntilBroken_62 rfl ?_
        refine z_iinc (i := 3) (v := (v3 + (1 : Int32))) dX9_stepsUntilBroken_63 rfl (iinc_k kc_1) (Nat.le_of_ble_eq_true rfl) rfl ?_
        refine z_goto (tgt := 32) dX9_stepsUntilBroken_66 rfl ?_
        exact ih _ _ h hK
      · have h := it_f h hc7
        refine z_iload_n (i := 3) dX9_stepsUntilBroken_52 rfl rfl ?_
        cases h
        exact z_iret dX9_stepsUntilBroken_53 rfl rfl (Nat.le_refl _) (Nat.le_refl _) ⟨rfl, rfl⟩
set_option maxRecDepth 20000 in
set_option maxHeartbeats 2000000 in
theorem sX9_stepsUntilBroken {wv : Wv} (M : Mm) (x1 : Int32) {res : (Int32 × Mm)} (h : fX9_stepsUntilBroken M x1 = some res) : TF wv yX9_stepsUntilBroken cX9_stepsUntilBroken 4 (some .int) 4 [.inr (0, 0, 0), .inl (.int x1)] M (some (.int res.1)) res.2 := by
  rw [fX9_stepsUntilBroken] at h
  refine TF.go (n := 2) (ls := [some (.inr (0, 0, 0)), some (.inl (.int x1)), none, none]) rfl rfl rfl rfl rfl ?_
  refine z_aload_n (i := 0) dX9_stepsUntilBroken_0 rfl rfl ?_
  refine z_getR (r' := (9, 0, 0)) dX9_stepsUntilBroken_1 fl_X9_40 mk0 rfl rfl ?_
  refine z_iload_n (i := 1) dX9_stepsUntilBroken_4 rfl rfl ?_
  refine z_fVi (sX0_toothFault M 0 x1 (Nat.le_of_ble_eq_true rfl)) dX9_stepsUntilBroken_5 ml_X9_214 cd_X0_toothFault (m9 _ (Nat.le_of_ble_eq_true rfl)) rfl rfl rfl rfl rfl rfl ?_
  obtain ⟨q1, hq2, h⟩ := bnd h
  refine z_fSv (sX9_refuse M (fX0_toothFault M 0 x1) hq2) dX9_stepsUntilBroken_8 ml_X9_172 cd_X9_refuse rfl rfl rfl rfl rfl ?_
  refine z_aload_n (i := 0) dX9_stepsUntilBroken_11 rfl rfl ?_
  refine z_getR (r' := (9, 1, 0)) dX9_stepsUntilBroken_12 fl_X9_44 mk0 rfl rfl ?_
  refine z_aload_n (i := 0) dX9_stepsUntilBroken_15 rfl rfl ?_
  refine z_getR (r' := (9, 0, 0)) dX9_stepsUntilBroken_16 fl_X9_40 mk0 rfl rfl ?_
  obtain ⟨q3, hq4, h⟩ := bnd h
  refine z_fVv (sX0_copyFrom q1 1 0 (Nat.le_of_ble_eq_true rfl) (Nat.le_of_ble_eq_true rfl) hq4) dX9_stepsUntilBroken_19 ml_X9_127 cd_X0_copyFrom (m9 _ (Nat.le_of_ble_eq_true rfl)) rfl rfl rfl rfl rfl rfl ?_
  refine z_aload_n (i := 0) dX9_stepsUntilBroken_22 rfl rfl ?_
  refine z_getR (r' := (9, 1, 0)) dX9_stepsUntilBroken_23 fl_X9_44 mk0 rfl rfl ?_
  refine z_fVi (sX0_playableSteps q3 1 (Nat.le_of_ble_eq_true rfl)) dX9_stepsUntilBroken_26 ml_X9_290 cd_X0_playableSteps (m9 _ (Nat.le_of_ble_eq_true rfl)) rfl rfl rfl rfl rfl rfl ?_
  refine z_istore_n (i := 2) dX9_stepsUntilBroken_29 rfl (Nat.le_of_ble_eq_true rfl) rfl ?_
  refine z_iconst (v := (0 : Int32)) dX9_stepsUntilBroken_30 kc_0 ?_
  refine z_istore_n (i := 3) dX9_stepsUntilBroken_31 rfl (Nat.le_of_ble_eq_true rfl) rfl ?_
  refine sX9_stepsUntilBroken_L32 x1 (fX0_playableSteps q3 1) NF _ _ h (fun w10 M11 h => ?_)
  refine z_iconst (v := (-1 : Int32)) dX9_stepsUntilBroken_69 kc_m1 ?_
  cases h
  exact z_iret dX9_stepsUntilBroken_70 rfl rfl (Nat.le_refl _) (Nat.le_refl _) ⟨rfl, rfl⟩
theorem dX9_notesIn_0 : decode cX9_notesIn 0 = .ok (.iload_n 1, 1) := by decide +kernel
theorem dX9_notesIn_1 : decode cX9_notesIn 1 = .ok (.iconst 0, 1) := by decide +kernel
theorem dX9_notesIn_2 : decode cX9_notesIn 2 = .ok (.sipush 300, 3) := by decide +kernel
theorem dX9_notesIn_5 : decode cX9_notesIn 5 = .ok (.invokestatic 296, 3) := by decide +kernel
theorem dX9_notesIn_8 : decode cX9_notesIn 8 = .ok (.invokestatic 172, 3) := by decide +kernel
theorem dX9_notesIn_11 : decode cX9_notesIn 11 = .ok (.aload_n 0, 1) := by decide +kernel
theorem dX9_notesIn_12 : decode cX9_notesIn 12 = .ok (.getfield 44, 3) := by decide +kernel
theorem dX9_notesIn_15 : decode cX9_notesIn 15 = .ok (.aload_n 0, 1) := by decide +kernel
theorem dX9_notesIn_16 : decode cX9_notesIn 16 = .ok (.getfield 40, 3) := by decide +kernel
theorem dX9_notesIn_19 : decode cX9_notesIn 19 = .ok (.invokevirtual 127, 3) := by decide +kernel
theorem dX9_notesIn_22 : decode cX9_notesIn 22 = .ok (.aload_n 0, 1) := by decide +kernel
theorem dX9_notesIn_23 : decode cX9_notesIn 23 = .ok (.getfield 44, 3) := by decide +kernel
theorem dX9_notesIn_26 : decode cX9_notesIn 26 = .ok (.iload_n 1, 1) := by decide +kernel
theorem dX9_notesIn_27 : decode cX9_notesIn 27 = .ok (.invokevirtual 293, 3) := by decide +kernel
theorem dX9_notesIn_30 : decode cX9_notesIn 30 = .ok (.pop, 1) := by decide +kernel
theorem dX9_notesIn_31 : decode cX9_notesIn 31 = .ok (.aload_n 0, 1) := by decide +kernel
theorem dX9_notesIn_32 : decode cX9_notesIn 32 = .ok (.getfield 44, 3) := by decide +kernel
theorem dX9_notesIn_35 : decode cX9_notesIn 35 = .ok (.getfield 269, 3) := by decide +kernel
theorem dX9_notesIn_38 : decode cX9_notesIn 38 = .ok (.aload_n 0, 1) := by decide +kernel
theorem dX9_notesIn_39 : decode cX9_notesIn 39 = .ok (.getfield 40, 3) := by decide +kernel
theorem dX9_notesIn_42 : decode cX9_notesIn 42 = .ok (.getfield 269, 3) := by decide +kernel
theorem dX9_notesIn_45 : decode cX9_notesIn 45 = .ok (.isub, 1) := by decide +kernel
theorem dX9_notesIn_46 : decode cX9_notesIn 46 = .ok (.ireturn, 1) := by decide +kernel
def fX9_notesIn (M : Mm) (x1 : Int32) : Option (Int32 × Mm) := (fX9_refuse M (fX9_rangeFault M x1 (0 : Int32) (300 : Int32))).bind fun q1 => (fX0_copyFrom q1 1 0).bind fun q3 => (fX0_playSteps q3 1 x1).bind fun q5 => some (((q5.2.1 (9, 1, 0) 5) - (q5.2.1 (9, 0, 0) 5)), q5.2)
set_option maxRecDepth 20000 in
set_option maxHeartbeats 2000000 in
theorem sX9_notesIn {wv : Wv} (M : Mm) (x1 : Int32) {res : (Int32 × Mm)} (h : fX9_notesIn M x1 = some res) : TF wv yX9_notesIn cX9_notesIn 2 (some .int) 4 [.inr (0, 0, 0), .inl (.int x1)] M (some (.int res.1)) res.2 := by
  rw [fX9_notesIn] at h
  refine TF.go (n := 0) (ls := [some (.inr (0, 0, 0)), some (.inl (.int x1))]) rfl rfl rfl rfl rfl ?_
  refine z_iload_n (i := 1) dX9_notesIn_0 rfl rfl ?_
  refine z_iconst (v := (0 : Int32)) dX9_notesIn_1 kc_0 ?_
  refine z_sipush (v := (300 : Int32)) dX9_notesIn_2 ks_300 ?_
  refine z_fSi (sX9_rangeFault M x1 (0 : Int32) (300 : Int32)) dX9_notesIn_5 ml_X9_296 cd_X9_rangeFault rfl rfl rfl rfl rfl ?_
  obtain ⟨q1, hq2, h⟩ := bnd h
  refine z_fSv (sX9_refuse M (fX9_rangeFault M x1 (0 : Int32) (300 : Int32)) hq2) dX9_notesIn_8 ml_X9_172 cd_X9_refuse rfl rfl rfl rfl rfl ?_
  refine z_aload_n (i := 0) dX9_notesIn_11 rfl rfl ?_
  refine z_getR (r' := (9, 1, 0)) dX9_notesIn_12 fl_X9_44 mk0 rfl rfl ?_
  refine z_aload_n (i := 0) dX9_notesIn_15 rfl rfl ?_
  refine z_getR (r' := (9, 0, 0)) dX9_notesIn_16 fl_X9_40 mk0 rfl rfl ?_
  obtain ⟨q3, hq4, h⟩ := bnd h
  refine z_fVv (sX0_copyFrom q1 1 0 (Nat.le_of_ble_eq_true rfl) (Nat.le_of_ble_eq_true rfl) hq4) dX9_notesIn_19 ml_X9_127 cd_X0_copyFrom (m9 _ (Nat.le_of_ble_eq_true rfl)) rfl rfl rfl rfl rfl rfl ?_
  refine z_aload_n (i := 0) dX9_notesIn_22 rfl rfl ?_
  refine z_getR (r' := (9, 1, 0)) dX9_notesIn_23 fl_X9_44 mk0 rfl rfl ?_
  refine z_iload_n (i := 1) dX9_notesIn_26 rfl rfl ?_
  obtain ⟨q5, hq6, h⟩ := bnd h
  refine z_fVi (sX0_playSteps q3 1 x1 (Nat.le_of_ble_eq_true rfl) hq6) dX9_notesIn_27 ml_X9_293 cd_X0_playSteps (m9 _ (Nat.le_of_ble_eq_true rfl)) rfl rfl rfl rfl rfl rfl ?_
  refine z_pop dX9_notesIn_30 rfl ?_
  refine z_aload_n (i := 0) dX9_notesIn_31 rfl rfl ?_
  refine z_getR (r' := (9, 1, 0)) dX9_notesIn_32 fl_X9_44 mk0 rfl rfl ?_
  refine z_getI (x := (q5.2.1 (9, 1, 0) 5)) dX9_notesIn_35 fl_X9_269 (m9 _ (Nat.le_of_ble_eq_true rfl)) rfl rfl ?_
  refine z_aload_n (i := 0) dX9_notesIn_38 rfl rfl ?_
  refine z_getR (r' := (9, 0, 0)) dX9_notesIn_39 fl_X9_40 mk0 rfl rfl ?_
  refine z_getI (x := (q5.2.1 (9, 0, 0) 5)) dX9_notesIn_42 fl_X9_269 (m9 _ (Nat.le_of_ble_eq_true rfl)) rfl rfl ?_
  refine z_isub dX9_notesIn_45 ?_
  cases h
  exact z_iret dX9_notesIn_46 rfl rfl (Nat.le_refl _) (Nat.le_refl _) ⟨rfl, rfl⟩
theorem dX9_squeaksIn_0 : decode cX9_squeaksIn 0 = .ok (.iload_n 1, 1) := by decide +kernel
theorem dX9_squeaksIn_1 : decode cX9_squeaksIn 1 = .ok (.iconst 0, 1) := by decide +kernel
theorem dX9_squeaksIn_2 : decode cX9_squeaksIn 2 = .ok (.sipush 300, 3) := by decide +kernel
theorem dX9_squeaksIn_5 : decode cX9_squeaksIn 5 = .ok (.invokestatic 296, 3) := by decide +kernel
theorem dX9_squeaksIn_8 : decode cX9_squeaksIn 8 = .ok (.invokestatic 172, 3) := by decide +kernel
theorem dX9_squeaksIn_11 : decode cX9_squeaksIn 11 = .ok (.aload_n 0, 1) := by decide +kernel
theorem dX9_squeaksIn_12 : decode cX9_squeaksIn 12 = .ok (.getfield 44, 3) := by decide +kernel
theorem dX9_squeaksIn_15 : decode cX9_squeaksIn 15 = .ok (.aload_n 0, 1) := by decide +kernel
theorem dX9_squeaksIn_16 : decode cX9_squeaksIn 16 = .ok (.getfield 40, 3) := by decide +kernel
theorem dX9_squeaksIn_19 : decode cX9_squeaksIn 19 = .ok (.invokevirtual 127, 3) := by decide +kernel
theorem dX9_squeaksIn_22 : decode cX9_squeaksIn 22 = .ok (.aload_n 0, 1) := by decide +kernel
theorem dX9_squeaksIn_23 : decode cX9_squeaksIn 23 = .ok (.getfield 44, 3) := by decide +kernel
theorem dX9_squeaksIn_26 : decode cX9_squeaksIn 26 = .ok (.iload_n 1, 1) := by decide +kernel
theorem dX9_squeaksIn_27 : decode cX9_squeaksIn 27 = .ok (.invokevirtual 293, 3) := by decide +kernel
theorem dX9_squeaksIn_30 : decode cX9_squeaksIn 30 = .ok (.pop, 1) := by decide +kernel
theorem dX9_squeaksIn_31 : decode cX9_squeaksIn 31 = .ok (.aload_n 0, 1) := by decide +kernel
theorem dX9_squeaksIn_32 : decode cX9_squeaksIn 32 = .ok (.getfield 44, 3) := by decide +kernel
theorem dX9_squeaksIn_35 : decode cX9_squeaksIn 35 = .ok (.getfield 272, 3) := by decide +kernel
theorem dX9_squeaksIn_38 : decode cX9_squeaksIn 38 = .ok (.aload_n 0, 1) := by decide +kernel
theorem dX9_squeaksIn_39 : decode cX9_squeaksIn 39 = .ok (.getfield 40, 3) := by decide +kernel
theorem dX9_squeaksIn_42 : decode cX9_squeaksIn 42 = .ok (.getfield 272, 3) := by decide +kernel
theorem dX9_squeaksIn_45 : decode cX9_squeaksIn 45 = .ok (.isub, 1) := by decide +kernel
theorem dX9_squeaksIn_46 : decode cX9_squeaksIn 46 = .ok (.ireturn, 1) := by decide +kernel
def fX9_squeaksIn (M : Mm) (x1 : Int32) : Option (Int32 × Mm) := (fX9_refuse M (fX9_rangeFault M x1 (0 : Int32) (300 : Int32))).bind fun q1 => (fX0_copyFrom q1 1 0).bind fun q3 => (fX0_playSteps q3 1 x1).bind fun q5 => some (((q5.2.1 (9, 1, 0) 6) - (q5.2.1 (9, 0, 0) 6)), q5.2)
set_option maxRecDepth 20000 in
set_option maxHeartbeats 2000000 in
theorem sX9_squeaksIn {wv : Wv} (M : Mm) (x1 : Int32) {res : (Int32 × Mm)} (h : fX9_squeaksIn M x1 = some res) : TF wv yX9_squeaksIn cX9_squeaksIn 2 (some .int) 4 [.inr (0, 0, 0), .inl (.int x1)] M (some (.int res.1)) res.2 := by
  rw [fX9_squeaksIn] at h
  refine TF.go (n := 0) (ls := [some (.inr (0, 0, 0)), some (.inl (.int x1))]) rfl rfl rfl rfl rfl ?_
  refine z_iload_n (i := 1) dX9_squeaksIn_0 rfl rfl ?_
  refine z_iconst (v := (0 : Int32)) dX9_squeaksIn_1 kc_0 ?_
  refine z_sipush (v := (300 : Int32)) dX9_squeaksIn_2 ks_300 ?_
  refine z_fSi (sX9_rangeFault M x1 (0 : Int32) (300 : Int32)) dX9_squeaksIn_5 ml_X9_296 cd_X9_rangeFault rfl rfl rfl rfl rfl ?_
  obtain ⟨q1, hq2, h⟩ := bnd h
  refine z_fSv (sX9_refuse M (fX9_rangeFault M x1 (0 : Int32) (300 : Int32)) hq2) dX9_squeaksIn_8 ml_X9_172 cd_X9_refuse rfl rfl rfl rfl rfl ?_
  refine z_aload_n (i := 0) dX9_squeaksIn_11 rfl rfl ?_
  refine z_getR (r' := (9, 1, 0)) dX9_squeaksIn_12 fl_X9_44 mk0 rfl rfl ?_
  refine z_aload_n (i := 0) dX9_squeaksIn_15 rfl rfl ?_
  refine z_getR (r' := (9, 0, 0)) dX9_squeaksIn_16 fl_X9_40 mk0 rfl rfl ?_
  obtain ⟨q3, hq4, h⟩ := bnd h
  refine z_fVv (sX0_copyFrom q1 1 0 (Nat.le_of_ble_eq_true rfl) (Nat.le_of_ble_eq_true rfl) hq4) dX9_squeaksIn_19 ml_X9_127 cd_X0_copyFrom (m9 _ (Nat.le_of_ble_eq_true rfl)) rfl rfl rfl rfl rfl rfl ?_
  refine z_aload_n (i := 0) dX9_squeaksIn_22 rfl rfl ?_
  refine z_getR (r' := (9, 1, 0)) dX9_squeaksIn_23 fl_X9_44 mk0 rfl rfl ?_
  refine z_iload_n (i := 1) dX9_squeaksIn_26 rfl rfl ?_
  obtain ⟨q5, hq6, h⟩ := bnd h
  refine z_fVi (sX0_playSteps q3 1 x1 (Nat.le_of_ble_eq_true rfl) hq6) dX9_squeaksIn_27 ml_X9_293 cd_X0_playSteps (m9 _ (Nat.le_of_ble_eq_true rfl)) rfl rfl rfl rfl rfl rfl ?_
  refine z_pop dX9_squeaksIn_30 rfl ?_
  refine z_aload_n (i := 0) dX9_squeaksIn_31 rfl rfl ?_
  refine z_getR (r' := (9, 1, 0)) dX9_squeaksIn_32 fl_X9_44 mk0 rfl rfl ?_
  refine z_getI (x := (q5.2.1 (9, 1, 0) 6)) dX9_squeaksIn_35 fl_X9_272 (m9 _ (Nat.le_of_ble_eq_true rfl)) rfl rfl ?_
  refine z_aload_n (i := 0) dX9_squeaksIn_38 rfl rfl ?_
  refine z_getR (r' := (9, 0, 0)) dX9_squeaksIn_39 fl_X9_40 mk0 rfl rfl ?_
  refine z_getI (x := (q5.2.1 (9, 0, 0) 6)) dX9_squeaksIn_42 fl_X9_272 (m9 _ (Nat.le_of_ble_eq_true rfl)) rfl rfl ?_
  refine z_isub dX9_squeaksIn_45 ?_
  cases h
  exact z_iret dX9_squeaksIn_46 rfl rfl (Nat.le_refl _) (Nat.le_refl _) ⟨rfl, rfl⟩
theorem dX9_addPin_0 : decode cX9_addPin 0 = .ok (.aload_n 0, 1) := by decide +kernel
theorem dX9_addPin_1 : decode cX9_addPin 1 = .ok (.getfield 40, 3) := by decide +kernel
theorem dX9_addPin_4 : decode cX9_addPin 4 = .ok (.iload_n 1, 1) := by decide +kernel
theorem dX9_addPin_5 : decode cX9_addPin 5 = .ok (.iload_n 2, 1) := by decide +kernel
theorem dX9_addPin_6 : decode cX9_addPin 6 = .ok (.iload_n 3, 1) := by decide +kernel
theorem dX9_addPin_7 : decode cX9_addPin 7 = .ok (.invokevirtual 299, 3) := by decide +kernel
theorem dX9_addPin_10 : decode cX9_addPin 10 = .ok (.invokestatic 172, 3) := by decide +kernel
theorem dX9_addPin_13 : decode cX9_addPin 13 = .ok (.aload_n 0, 1) := by decide +kernel
theorem dX9_addPin_14 : decode cX9_addPin 14 = .ok (.getfield 68, 3) := by decide +kernel
theorem dX9_addPin_17 : decode cX9_addPin 17 = .ok (.aload_n 0, 1) := by decide +kernel
theorem dX9_addPin_18 : decode cX9_addPin 18 = .ok (.getfield 40, 3) := by decide +kernel
theorem dX9_addPin_21 : decode cX9_addPin 21 = .ok (.invokevirtual 137, 3) := by decide +kernel
theorem dX9_addPin_24 : decode cX9_addPin 24 = .ok (.aload_n 0, 1) := by decide +kernel
theorem dX9_addPin_25 : decode cX9_addPin 25 = .ok (.getfield 40, 3) := by decide +kernel
theorem dX9_addPin_28 : decode cX9_addPin 28 = .ok (.getfield 153, 3) := by decide +kernel
theorem dX9_addPin_31 : decode cX9_addPin 31 = .ok (.iload_n 1, 1) := by decide +kernel
theorem dX9_addPin_32 : decode cX9_addPin 32 = .ok (.iload_n 2, 1) := by decide +kernel
theorem dX9_addPin_33 : decode cX9_addPin 33 = .ok (.iload_n 3, 1) := by decide +kernel
theorem dX9_addPin_34 : decode cX9_addPin 34 = .ok (.invokevirtual 302, 3) := by decide +kernel
theorem dX9_addPin_37 : decode cX9_addPin 37 = .ok (.aload_n 0, 1) := by decide +kernel
theorem dX9_addPin_38 : decode cX9_addPin 38 = .ok (.getfield 40, 3) := by decide +kernel
theorem dX9_addPin_41 : decode cX9_addPin 41 = .ok (.getfield 153, 3) := by decide +kernel
theorem dX9_addPin_44 : decode cX9_addPin 44 = .ok (.iload_n 1, 1) := by decide +kernel
theorem dX9_addPin_45 : decode cX9_addPin 45 = .ok (.invokevirtual 182, 3) := by decide +kernel
theorem dX9_addPin_48 : decode cX9_addPin 48 = .ok (.ireturn, 1) := by decide +kernel
def fX9_addPin (M : Mm) (x1 : Int32) (x2 : Int32) (x3 : Int32) : Option (Int32 × Mm) := (fX0_putPinFault M 0 x1 x2 x3).bind fun q1 => (fX9_refuse M q1).bind fun q3 => (fX2_remember q3 0).bind fun q5 => (fX3_putPin q5 0 x1 x2 x3).bind fun q7 => (fX3_pinsOf q7 0 x1).bind fun q9 => some (q9, q7)
set_option maxRecDepth 20000 in
set_option maxHeartbeats 2000000 in
theorem sX9_addPin {wv : Wv} (M : Mm) (x1 : Int32) (x2 : Int32) (x3 : Int32) {res : (Int32 × Mm)} (h : fX9_addPin M x1 x2 x3 = some res) : TF wv yX9_addPin cX9_addPin 4 (some .int) 4 [.inr (0, 0, 0), .inl (.int x1), .inl (.int x2), .inl (.int x3)] M (some (.int res.1)) res.2 := by
  rw [fX9_addPin] at h
  refine TF.go (n := 0) (ls := [some (.inr (0, 0, 0)), some (.inl (.int x1)), some (.inl (.int x2)), some (.inl (.int x3))]) rfl rfl rfl rfl rfl ?_
  refine z_aload_n (i := 0) dX9_addPin_0 rfl rfl ?_
  refine z_getR (r' := (9, 0, 0)) dX9_addPin_1 fl_X9_40 mk0 rfl rfl ?_
  refine z_iload_n (i := 1) dX9_addPin_4 rfl rfl ?_
  refine z_iload_n (i := 2) dX9_addPin_5 rfl rfl ?_
  refine z_iload_n (i := 3) dX9_addPin_6 rfl rfl ?_
  obtain ⟨q1, hq2, h⟩ := bnd h
  refine z_fVi (sX0_putPinFault M 0 x1 x2 x3 (Nat.le_of_ble_eq_true rfl) hq2) dX9_addPin_7 ml_X9_299 cd_X0_putPinFault (m9 _ (Nat.le_of_ble_eq_true rfl)) rfl rfl rfl rfl rfl rfl ?_
  obtain ⟨q3, hq4, h⟩ := bnd h
  refine z_fSv (sX9_refuse M q1 hq4) dX9_addPin_10 ml_X9_172 cd_X9_refuse rfl rfl rfl rfl rfl ?_
  refine z_aload_n (i := 0) dX9_addPin_13 rfl rfl ?_
  refine z_getR (r' := (14, 0, 0)) dX9_addPin_14 fl_X9_68 mk0 rfl rfl ?_
  refine z_aload_n (i := 0) dX9_addPin_17 rfl rfl ?_
  refine z_getR (r' := (9, 0, 0)) dX9_addPin_18 fl_X9_40 mk0 rfl rfl ?_
  obtain ⟨q5, hq6, h⟩ := bnd h
  refine z_fVv (sX2_remember q3 0 (Nat.le_of_ble_eq_true rfl) hq6) dX9_addPin_21 ml_X9_137 cd_X2_remember mk14 rfl rfl rfl rfl rfl rfl ?_
  refine z_aload_n (i := 0) dX9_addPin_24 rfl rfl ?_
  refine z_getR (r' := (9, 0, 0)) dX9_addPin_25 fl_X9_40 mk0 rfl rfl ?_
  refine z_getR (r' := (10, 0, 0)) dX9_addPin_28 fl_X9_153 (m9 _ (Nat.le_of_ble_eq_true rfl)) rfl rfl ?_
  refine z_iload_n (i := 1) dX9_addPin_31 rfl rfl ?_
  refine z_iload_n (i := 2) dX9_addPin_32 rfl rfl ?_
  refine z_iload_n (i := 3) dX9_addPin_33 rfl rfl ?_
  obtain ⟨q7, hq8, h⟩ := bnd h
  refine z_fVv (sX3_putPin q5 0 x1 x2 x3 (Nat.le_of_ble_eq_true rfl) hq8) dX9_addPin_34 ml_X9_302 cd_X3_putPin (m10 _ (Nat.le_of_ble_eq_true rfl)) rfl rfl rfl rfl rfl rfl ?_
  refine z_aload_n (i := 0) dX9_addPin_37 rfl rfl ?_
  refine z_getR (r' := (9, 0, 0)) dX9_addPin_38 fl_X9_40 mk0 rfl rfl ?_
  refine z_getR (r' := (10, 0, 0)) dX9_addPin_41 fl_X9_153 (m9 _ (Nat.le_of_ble_eq_true rfl)) rfl rfl ?_
  refine z_iload_n (i := 1) dX9_addPin_44 rfl rfl ?_
  obtain ⟨q9, hq10, h⟩ := bnd h
  refine z_fVi (sX3_pinsOf q7 0 x1 (Nat.le_of_ble_eq_true rfl) hq10) dX9_addPin_45 ml_X9_182 cd_X3_pinsOf (m10 _ (Nat.le_of_ble_eq_true rfl)) rfl rfl rfl rfl rfl rfl ?_
  cases h
  exact z_iret dX9_addPin_48 rfl rfl (Nat.le_refl _) (Nat.le_refl _) ⟨rfl, rfl⟩
