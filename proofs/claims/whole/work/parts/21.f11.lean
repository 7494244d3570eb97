theorem dX9_bitsOfPositive_0 : decode cX9_bitsOfPositive 0 = .ok (.dload_n 0, 1) := by decide +kernel
theorem dX9_bitsOfPositive_1 : decode cX9_bitsOfPositive 1 = .ok (.dstore_n 2, 1) := by decide +kernel
theorem dX9_bitsOfPositive_2 : decode cX9_bitsOfPositive 2 = .ok (.ldc2_w 263, 3) := by decide +kernel
theorem dX9_bitsOfPositive_5 : decode cX9_bitsOfPositive 5 = .ok (.lstore 4, 2) := by decide +kernel
theorem dX9_bitsOfPositive_7 : decode cX9_bitsOfPositive 7 = .ok (.iconst 0, 1) := by decide +kernel
theorem dX9_bitsOfPositive_8 : decode cX9_bitsOfPositive 8 = .ok (.istore 6, 2) := by decide +kernel
theorem dX9_bitsOfPositive_10 : decode cX9_bitsOfPositive 10 = .ok (.iload 6, 2) := by decide +kernel
theorem dX9_bitsOfPositive_12 : decode cX9_bitsOfPositive 12 = .ok (.sipush 1023, 3) := by decide +kernel
theorem dX9_bitsOfPositive_15 : decode cX9_bitsOfPositive 15 = .ok (.if_icmp .ge 29, 3) := by decide +kernel
theorem dX9_bitsOfPositive_18 : decode cX9_bitsOfPositive 18 = .ok (.dload_n 2, 1) := by decide +kernel
theorem dX9_bitsOfPositive_19 : decode cX9_bitsOfPositive 19 = .ok (.ldc2_w 265, 3) := by decide +kernel
theorem dX9_bitsOfPositive_22 : decode cX9_bitsOfPositive 22 = .ok (.dcmp .l, 1) := by decide +kernel
theorem dX9_bitsOfPositive_23 : decode cX9_bitsOfPositive 23 = .ok (.ifCond .lt 21, 3) := by decide +kernel
theorem dX9_bitsOfPositive_26 : decode cX9_bitsOfPositive 26 = .ok (.dload_n 2, 1) := by decide +kernel
theorem dX9_bitsOfPositive_27 : decode cX9_bitsOfPositive 27 = .ok (.ldc2_w 265, 3) := by decide +kernel
theorem dX9_bitsOfPositive_30 : decode cX9_bitsOfPositive 30 = .ok (.ddiv, 1) := by decide +kernel
theorem dX9_bitsOfPositive_31 : decode cX9_bitsOfPositive 31 = .ok (.dstore_n 2, 1) := by decide +kernel
theorem dX9_bitsOfPositive_32 : decode cX9_bitsOfPositive 32 = .ok (.lload 4, 2) := by decide +kernel
theorem dX9_bitsOfPositive_34 : decode cX9_bitsOfPositive 34 = .ok (.lconst 1, 1) := by decide +kernel
theorem dX9_bitsOfPositive_35 : decode cX9_bitsOfPositive 35 = .ok (.ladd, 1) := by decide +kernel
theorem dX9_bitsOfPositive_36 : decode cX9_bitsOfPositive 36 = .ok (.lstore 4, 2) := by decide +kernel
theorem dX9_bitsOfPositive_38 : decode cX9_bitsOfPositive 38 = .ok (.iinc 6 1, 3) := by decide +kernel
theorem dX9_bitsOfPositive_41 : decode cX9_bitsOfPositive 41 = .ok (.goto (-31), 3) := by decide +kernel
theorem dX9_bitsOfPositive_44 : decode cX9_bitsOfPositive 44 = .ok (.iconst 0, 1) := by decide +kernel
theorem dX9_bitsOfPositive_45 : decode cX9_bitsOfPositive 45 = .ok (.istore 6, 2) := by decide +kernel
theorem dX9_bitsOfPositive_47 : decode cX9_bitsOfPositive 47 = .ok (.iload 6, 2) := by decide +kernel
theorem dX9_bitsOfPositive_49 : decode cX9_bitsOfPositive 49 = .ok (.sipush 1023, 3) := by decide +kernel
theorem dX9_bitsOfPositive_52 : decode cX9_bitsOfPositive 52 = .ok (.if_icmp .ge 27, 3) := by decide +kernel
theorem dX9_bitsOfPositive_55 : decode cX9_bitsOfPositive 55 = .ok (.dload_n 2, 1) := by decide +kernel
theorem dX9_bitsOfPositive_56 : decode cX9_bitsOfPositive 56 = .ok (.dconst 1, 1) := by decide +kernel
theorem dX9_bitsOfPositive_57 : decode cX9_bitsOfPositive 57 = .ok (.dcmp .g, 1) := by decide +kernel
theorem dX9_bitsOfPositive_58 : decode cX9_bitsOfPositive 58 = .ok (.ifCond .ge 21, 3) := by decide +kernel
theorem dX9_bitsOfPositive_61 : decode cX9_bitsOfPositive 61 = .ok (.dload_n 2, 1) := by decide +kernel
theorem dX9_bitsOfPositive_62 : decode cX9_bitsOfPositive 62 = .ok (.ldc2_w 265, 3) := by decide +kernel
theorem dX9_bitsOfPositive_65 : decode cX9_bitsOfPositive 65 = .ok (.dmul, 1) := by decide +kernel
theorem dX9_bitsOfPositive_66 : decode cX9_bitsOfPositive 66 = .ok (.dstore_n 2, 1) := by decide +kernel
theorem dX9_bitsOfPositive_67 : decode cX9_bitsOfPositive 67 = .ok (.lload 4, 2) := by decide +kernel
theorem dX9_bitsOfPositive_69 : decode cX9_bitsOfPositive 69 = .ok (.lconst 1, 1) := by decide +kernel
theorem dX9_bitsOfPositive_70 : decode cX9_bitsOfPositive 70 = .ok (.lsub, 1) := by decide +kernel
theorem dX9_bitsOfPositive_71 : decode cX9_bitsOfPositive 71 = .ok (.lstore 4, 2) := by decide +kernel
theorem dX9_bitsOfPositive_73 : decode cX9_bitsOfPositive 73 = .ok (.iinc 6 1, 3) := by decide +kernel
theorem dX9_bitsOfPositive_76 : decode cX9_bitsOfPositive 76 = .ok (.goto (-29), 3) := by decide +kernel
theorem dX9_bitsOfPositive_79 : decode cX9_bitsOfPositive 79 = .ok (.dload_n 2, 1) := by decide +kernel
theorem dX9_bitsOfPositive_80 : decode cX9_bitsOfPositive 80 = .ok (.dconst 1, 1) := by decide +kernel
theorem dX9_bitsOfPositive_81 : decode cX9_bitsOfPositive 81 = .ok (.dsub, 1) := by decide +kernel
theorem dX9_bitsOfPositive_82 : decode cX9_bitsOfPositive 82 = .ok (.ldc2_w 267, 3) := by decide +kernel
theorem dX9_bitsOfPositive_85 : decode cX9_bitsOfPositive 85 = .ok (.dmul, 1) := by decide +kernel
theorem dX9_bitsOfPositive_86 : decode cX9_bitsOfPositive 86 = .ok (.d2l, 1) := by decide +kernel
theorem dX9_bitsOfPositive_87 : decode cX9_bitsOfPositive 87 = .ok (.lstore 6, 2) := by decide +kernel
theorem dX9_bitsOfPositive_89 : decode cX9_bitsOfPositive 89 = .ok (.lload 4, 2) := by decide +kernel
theorem dX9_bitsOfPositive_91 : decode cX9_bitsOfPositive 91 = .ok (.bipush 52, 2) := by decide +kernel
theorem dX9_bitsOfPositive_93 : decode cX9_bitsOfPositive 93 = .ok (.lshl, 1) := by decide +kernel
theorem dX9_bitsOfPositive_94 : decode cX9_bitsOfPositive 94 = .ok (.lload 6, 2) := by decide +kernel
theorem dX9_bitsOfPositive_96 : decode cX9_bitsOfPositive 96 = .ok (.ladd, 1) := by decide +kernel
theorem dX9_bitsOfPositive_97 : decode cX9_bitsOfPositive 97 = .ok (.lreturn, 1) := by decide +kernel
def fX9_bitsOfPositive_L10 (M : Mm) (K : UInt64 → Int64 → Int32 → Option Int64) : Nat → UInt64 → Int64 → Int32 → Option Int64
  | 0, _, _, _ => none
  | n + 1, v2, v4, v6 => if (1023 : Int32) ≤ v6 then K v2 v4 v6 else if (Op.cmpValue (FP.dcmp v2 (4611686018427387904 : UInt64)) .l) < 0 then K v2 v4 v6 else if (FP.ddiv v2 (4611686018427387904 : UInt64)) &&& 0x7fffffffffffffff ≤ 0x7ff0000000000000 then fX9_bitsOfPositive_L10 M K n (FP.ddiv v2 (4611686018427387904 : UInt64)) (v4 + (1 : Int64)) (v6 + (1 : Int32)) else none
def fX9_bitsOfPositive_L47 (M : Mm) (K : UInt64 → Int64 → Int32 → Option Int64) : Nat → UInt64 → Int64 → Int32 → Option Int64
  | 0, _, _, _ => none
  | n + 1, v2, v4, v6 => if (1023 : Int32) ≤ v6 then K v2 v4 v6 else if 0 ≤ (Op.cmpValue (FP.dcmp v2 FP.dconst1) .g) then K v2 v4 v6 else if (FP.dmul v2 (4611686018427387904 : UInt64)) &&& 0x7fffffffffffffff ≤ 0x7ff0000000000000 then fX9_bitsOfPositive_L47 M K n (FP.dmul v2 (4611686018427387904 : UInt64)) (v4 - (1 : Int64)) (v6 + (1 : Int32)) else none
def fX9_bitsOfPositive (M : Mm) (x1 : UInt64) : Option Int64 := fX9_bitsOfPositive_L10 M (fun w4 w5 w6 => fX9_bitsOfPositive_L47 M (fun w10 w11 w12 => if (FP.dsub w10 FP.dconst1) &&& 0x7fffffffffffffff ≤ 0x7ff0000000000000 then if (FP.dmul (FP.dsub w10 FP.dconst1) (4841369599423283200 : UInt64)) &&& 0x7fffffffffffffff ≤ 0x7ff0000000000000 then some ((w11 <<< ((52 : Int32).toInt64 &&& 63)) + (FP.d2l (FP.dmul (FP.dsub w10 FP.dconst1) (4841369599423283200 : UInt64)))) else none else none) NF w4 w5 (0 : Int32)) NF x1 (1023 : Int64) (0 : Int32)
set_option maxRecDepth 20000 in
set_option maxHeartbeats 2000000 in
theorem sX9_bitsOfPositive_L10 {wv : Nat} (M : Mm) {res : Int64} {K : UInt64 → Int64 → Int32 → Option Int64} : ∀ (n : Nat) (v2 : UInt64) (v4 : Int64) (v6 : Int32), fX9_bitsOfPositive_L10 M K n v2 v4 v6 = some res →
    (∀ (v2 : UInt64) (v4 : Int64) (v6 : Int32), K v2 v4 v6 = some res → Z RX9 cX9_bitsOfPositive 8 (some .long) [] "bitsOfPositive" (rmD 0 0 0) (QM SH (allR wv) 0 0 (fun v M9 => v = some (.long res) ∧ M9 = M) (fun _ _ => False)) (allR wv) SH 0 0 44 [none, none, some (.inl (.double v2)), none, some (.inl (.long v4)), none, some (.inl (.int v6)), none] [] M) → Z RX9 cX9_bitsOfPositive 8 (some .long) [] "bitsOfPositive" (rmD 0 0 0) (QM SH (allR wv) 0 0 (fun v M9 => v = some (.long res) ∧ M9 = M) (fun _ _ => False)) (allR wv) SH 0 0 10 [none, none, some (.inl (.double v2)), none, some (.inl (.long v4)), none, some (.inl (.int v6)), none] [] M := by
  intro n
  induction n with
  | zero => intro v2 v4 v6 h; cases h
  | succ n ih =>
    intro v2 v4 v6 h hK
    rw [fX9_bitsOfPositive_L10] at h
    refine z_iload (i := 6) dX9_bitsOfPositive_10 rfl ?_
    refine z_sipush (v := (1023 : Int32)) dX9_bitsOfPositive_12 ks_1023 ?_
    refine z_icmp_ge (tgt := 44) dX9_bitsOfPositive_15 rfl (fun hc1 => ?_) (fun hc1 => ?_)
    · have h := it_t h hc1
      exact hK _ _ _ h
    · have h := it_f h hc1
      refine z_dload_n (i := 2) dX9_bitsOfPositive_18 rfl rfl ?_
      refine z_ldc2d (v := (4611686018427387904 : UInt64)) dX9_bitsOfPositive_19 (al_mem 839 (by decide +kernel) rfl) ?_
      refine z_dcmp dX9_bitsOfPositive_22 ?_
      refine z_if_lt (tgt := 44) dX9_bitsOfPositive_23 rfl (fun hc2 => ?_) (fun hc2 => ?_)
      · have h := it_t h hc2
        exact hK _ _ _ h
      · have h := it_f h hc2
        refine z_dload_n (i := 2) dX9_bitsOfPositive_26 rfl rfl ?_
        refine z_ldc2d (v := (4611686018427387904 : UInt64)) dX9_bitsOfPositive_27 (al_mem 839 (by decide +kernel) rfl) ?_
        obtain ⟨hc3, h⟩ := chk2 h
        refine z_ddiv dX9_bitsOfPositive_30 hc3 ?_
        refine z_dstore_n (i := 2) dX9_bitsOfPositive_31 rfl (Nat.le_of_ble_eq_true rfl) rfl ?_
        refine z_lload (i := 4) dX9_bitsOfPositive_32 rfl ?_
        refine z_lconst (v := (1 : Int64)) dX9_bitsOfPositive_34 (by decide) ?_
        refine z_ladd dX9_bitsOfPositive_35 ?_
        refine z_lstore (i := 4) dX9_bitsOfPositive_36 (Nat.le_of_ble_eq_true rfl) rfl ?_
        refine z_iinc (i := 6) (v := (v6 + (1 : Int32))) dX9_bitsOfPositive_38 rfl (iinc_k kc_1) (Nat.le_of_ble_eq_true rfl) rfl ?_
        refine z_goto (tgt := 10) dX9_bitsOfPositive_41 rfl ?_
        exact ih _ _ _ h hK
set_option maxRecDepth 20000 in
set_option maxHeartbeats 2000000 in
theorem sX9_bitsOfPositive_L47 {wv : Nat} (M : Mm) {res : Int64} {K : UInt64 → Int64 → Int32 → Option Int64} : ∀ (n : Nat) (v2 : UInt64) (v4 : Int64) (v6 : Int32), fX9_bitsOfPositive_L47 M K n v2 v4 v6 = some res →
    (∀ (v2 : UInt64) (v4 : Int64) (v6 : Int32), K v2 v4 v6 = some res → Z RX9 cX9_bitsOfPositive 8 (some .long) [] "bitsOfPositive" (rmD 0 0 0) (QM SH (allR wv) 0 0 (fun v M9 => v = some (.long res) ∧ M9 = M) (fun _ _ => False)) (allR wv) SH 0 0 79 [none, none, some (.inl (.double v2)), none, some (.inl (.long v4)), none, some (.inl (.int v6)), none] [] M) → Z RX9 cX9_bitsOfPositive 8 (some .long) [] "bitsOfPositive" (rmD 0 0 0) (QM SH (allR wv) 0 0 (fun v M9 => v = some (.long res) ∧ M9 = M) (fun _ _ => False)) (allR wv) SH 0 0 47 [none, none, some (.inl (.double v2)), none, some (.inl (.long v4)), none, some (.inl (.int v6)), none] [] M := by
  intro n
  induction n with
  | zero => intro v2 v4 v6 h; cases h
  | succ n ih =>
    intro v2 v4 v6 h hK
    rw [fX9_bitsOfPositive_L47] at h
    refine z_iload (i := 6) dX9_bitsOfPositive_47 rfl ?_
    refine z_sipush (v := (1023 : Int32)) dX9_bitsOfPositive_49 ks_1023 ?_
    refine z_icmp_ge (tgt := 79) dX9_bitsOfPositive_52 rfl (fun hc7 => ?_) (fun hc7 => ?_)
    · have h := it_t h hc7
      exact hK _ _ _ h
    · have h := it_f h hc7
      refine z_dload_n (i := 2) dX9_bitsOfPositive_55 rfl rfl ?_
      refine z_dconst1 dX9_bitsOfPositive_56 ?_
      refine z_dcmp dX9_bitsOfPositive_57 ?_
      refine z_if_ge (tgt := 79) dX9_bitsOfPositive_58 rfl (fun hc8 => ?_) (fun hc8 => ?_)
      · have h := it_t h hc8
        exact hK _ _ _ h
      · have h := it_f h hc8
        refine z_dload_n (i := 2) dX9_bitsOfPositive_61 rfl rfl ?_
        refine z_ldc2d (v := (4611686018427387904 : UInt64)) dX9_bitsOfPositive_62 (al_mem 839 (by decide +kernel) rfl) ?_
        obtain ⟨hc9, h⟩ := chk2 h
        refine z_dmul dX9_bitsOfPositive_65 hc9 ?_
        refine z_dstore_n (i := 2) dX9_bitsOfPositive_66 rfl (Nat.le_of_ble_eq_true rfl) rfl ?_
        refine z_lload (i := 4) dX9_bitsOfPositive_67 rfl ?_
        refine z_lconst (v := (1 : Int64)) dX9_bitsOfPositive_69 (by decide) ?_
        refine z_lsub dX9_bitsOfPositive_70 ?_
        refine z_lstore (i := 4) dX9_bitsOfPositive_71 (Nat.le_of_ble_eq_true rfl) rfl ?_
        refine z_iinc (i := 6) (v := (v6 + (1 : Int32))) dX9_bitsOfPositive_73 rfl (iinc_k kc_1) (Nat.le_of_ble_eq_true rfl) rfl ?_
        refine z_goto (tgt := 47) dX9_bitsOfPositive_76 rfl ?_
        exact ih _ _ _ h hK
set_option maxRecDepth 20000 in
set_option maxHeartbeats 2000000 in
theorem sX9_bitsOfPositive {wv : Nat} (M : Mm) (x1 : UInt64) {res : Int64} (h : fX9_bitsOfPositive M x1 = some res) : TF wv yX9_bitsOfPositive cX9_bitsOfPositive 8 (some .long) 0 [.inl (.double x1)] M (some (.long res)) M := by
  rw [fX9_bitsOfPositive] at h
  refine TF.go (n := 6) (ls := [some (.inl (.double x1)), none, none, none, none, none, none, none]) rfl rfl rfl rfl rfl ?_
  refine z_dload_n (i := 0) dX9_bitsOfPositive_0 rfl rfl ?_
  refine z_dstore_n (i := 2) dX9_bitsOfPositive_1 rfl (Nat.le_of_ble_eq_true rfl) rfl ?_
  refine z_ldc2 (v := (1023 : Int64)) dX9_bitsOfPositive_2 (al_mem 838 (by decide +kernel) rfl) ?_
  refine z_lstore (i := 4) dX9_bitsOfPositive_5 (Nat.le_of_ble_eq_true rfl) rfl ?_
  refine z_iconst (v := (0 : Int32)) dX9_bitsOfPositive_7 kc_0 ?_
  refine z_istore (i := 6) dX9_bitsOfPositive_8 (Nat.le_of_ble_eq_true rfl) rfl ?_
  refine z_fgt (i := 0) ?_
  refine sX9_bitsOfPositive_L10 M NF _ _ _ h (fun w4 w5 w6 h => ?_)
  refine z_iconst (v := (0 : Int32)) dX9_bitsOfPositive_44 kc_0 ?_
  refine z_istore (i := 6) dX9_bitsOfPositive_45 (Nat.le_of_ble_eq_true rfl) rfl ?_
  refine sX9_bitsOfPositive_L47 M NF _ _ _ h (fun w10 w11 w12 h => ?_)
  refine z_dload_n (i := 2) dX9_bitsOfPositive_79 rfl rfl ?_
  refine z_dconst1 dX9_bitsOfPositive_80 ?_
  obtain ⟨hc13, h⟩ := chk2 h
  refine z_dsub dX9_bitsOfPositive_81 hc13 ?_
  refine z_ldc2d (v := (4841369599423283200 : UInt64)) dX9_bitsOfPositive_82 (al_mem 840 (by decide +kernel) rfl) ?_
  obtain ⟨hc14, h⟩ := chk2 h
  refine z_dmul dX9_bitsOfPositive_85 hc14 ?_
  refine z_d2l dX9_bitsOfPositive_86 ?_
  refine z_lstore (i := 6) dX9_bitsOfPositive_87 (Nat.le_of_ble_eq_true rfl) rfl ?_
  refine z_lload (i := 4) dX9_bitsOfPositive_89 rfl ?_
  refine z_bipush (v := (52 : Int32)) dX9_bitsOfPositive_91 kb_52 ?_
  refine z_lshl dX9_bitsOfPositive_93 ?_
  refine z_lload (i := 6) dX9_bitsOfPositive_94 rfl ?_
  refine z_ladd dX9_bitsOfPositive_96 ?_
  cases h
  exact z_lret dX9_bitsOfPositive_97 rfl (Nat.le_refl _) (Nat.le_refl _) ⟨rfl, rfl⟩
theorem dX9_secondsPerStepBits_0 : decode cX9_secondsPerStepBits 0 = .ok (.aload_n 0, 1) := by decide +kernel
theorem dX9_secondsPerStepBits_1 : decode cX9_secondsPerStepBits 1 = .ok (.invokevirtual 255, 3) := by decide +kernel
theorem dX9_secondsPerStepBits_4 : decode cX9_secondsPerStepBits 4 = .ok (.invokestatic 259, 3) := by decide +kernel
theorem dX9_secondsPerStepBits_7 : decode cX9_secondsPerStepBits 7 = .ok (.lreturn, 1) := by decide +kernel
def fX9_secondsPerStepBits (M : Mm) : Option Int64 := (fX9_secondsPerStep M).bind fun q1 => (fX9_bitsOfPositive M q1).bind fun q3 => some q3
set_option maxRecDepth 20000 in
set_option maxHeartbeats 2000000 in
theorem sX9_secondsPerStepBits {wv : Nat} (M : Mm) {res : Int64} (h : fX9_secondsPerStepBits M  = some res) : TF wv yX9_secondsPerStepBits cX9_secondsPerStepBits 1 (some .long) 2 [.inr (0, 0, 0)] M (some (.long res)) M := by
  rw [fX9_secondsPerStepBits] at h
  refine TF.go (n := 0) (ls := [some (.inr (0, 0, 0))]) rfl rfl rfl rfl rfl ?_
  refine z_aload_n (i := 0) dX9_secondsPerStepBits_0 rfl rfl ?_
  obtain ⟨q1, hq2, h⟩ := bnd h
  refine z_fVd (sX9_secondsPerStep M hq2) dX9_secondsPerStepBits_1 ml_X9_255 cd_X9_secondsPerStep mk0 rfl rfl rfl rfl rfl rfl ?_
  obtain ⟨q3, hq4, h⟩ := bnd h
  refine z_fSl (sX9_bitsOfPositive M q1 hq4) dX9_secondsPerStepBits_4 ml_X9_259 cd_X9_bitsOfPositive rfl rfl rfl rfl rfl ?_
  cases h
  exact z_lret dX9_secondsPerStepBits_7 rfl (Nat.le_refl _) (Nat.le_refl _) ⟨rfl, rfl⟩
theorem dX9_noteCount_0 : decode cX9_noteCount 0 = .ok (.aload_n 0, 1) := by decide +kernel
theorem dX9_noteCount_1 : decode cX9_noteCount 1 = .ok (.getfield 40, 3) := by decide +kernel
theorem dX9_noteCount_4 : decode cX9_noteCount 4 = .ok (.getfield 269, 3) := by decide +kernel
theorem dX9_noteCount_7 : decode cX9_noteCount 7 = .ok (.ireturn, 1) := by decide +kernel
def fX9_noteCount (M : Mm) : Int32 := (M.1 (9, 0, 0) 5)
set_option maxRecDepth 20000 in
set_option maxHeartbeats 2000000 in
theorem tX9_noteCount {wv : Nat} (M : Mm) {res : Int32} (h : fX9_noteCount M  = res) : TF wv yX9_noteCount cX9_noteCount 1 (some .int) 0 [.inr (0, 0, 0)] M (some (.int res)) M := by
  rw [fX9_noteCount] at h
  refine TF.go (n := 0) (ls := [some (.inr (0, 0, 0))]) rfl rfl rfl rfl rfl ?_
  refine z_aload_n (i := 0) dX9_noteCount_0 rfl rfl ?_
  refine z_getR (r' := (9, 0, 0)) dX9_noteCount_1 fl_X9_40 mk0 rfl rfl ?_
  refine z_getI (x := (M.1 (9, 0, 0) 5)) dX9_noteCount_4 fl_X9_269 (m9 _ (Nat.le_of_ble_eq_true rfl)) rfl rfl ?_
  subst h
  exact z_iret dX9_noteCount_7 rfl rfl (Nat.le_refl _) (Nat.le_refl _) ⟨rfl, rfl⟩
theorem sX9_noteCount {wv : Nat} (M : Mm) : TF wv yX9_noteCount cX9_noteCount 1 (some .int) 0 [.inr (0, 0, 0)] M (some (.int (fX9_noteCount M ))) M := tX9_noteCount M   rfl
theorem dX9_squeakCount_0 : decode cX9_squeakCount 0 = .ok (.aload_n 0, 1) := by decide +kernel
theorem dX9_squeakCount_1 : decode cX9_squeakCount 1 = .ok (.getfield 40, 3) := by decide +kernel
theorem dX9_squeakCount_4 : decode cX9_squeakCount 4 = .ok (.getfield 272, 3) := by decide +kernel
theorem dX9_squeakCount_7 : decode cX9_squeakCount 7 = .ok (.ireturn, 1) := by decide +kernel
def fX9_squeakCount (M : Mm) : Int32 := (M.1 (9, 0, 0) 6)
set_option maxRecDepth 20000 in
set_option maxHeartbeats 2000000 in
theorem tX9_squeakCount {wv : Nat} (M : Mm) {res : Int32} (h : fX9_squeakCount M  = res) : TF wv yX9_squeakCount cX9_squeakCount 1 (some .int) 0 [.inr (0, 0, 0)] M (some (.int res)) M := by
  rw [fX9_squeakCount] at h
  refine TF.go (n := 0) (ls := [some (.inr (0, 0, 0))]) rfl rfl rfl rfl rfl ?_
  refine z_aload_n (i := 0) dX9_squeakCount_0 rfl rfl ?_
  refine z_getR (r' := (9, 0, 0)) dX9_squeakCount_1 fl_X9_40 mk0 rfl rfl ?_
  refine z_getI (x := (M.1 (9, 0, 0) 6)) dX9_squeakCount_4 fl_X9_272 (m9 _ (Nat.le_of_ble_eq_true rfl)) rfl rfl ?_
  subst h
  exact z_iret dX9_squeakCount_7 rfl rfl (Nat.le_refl _) (Nat.le_refl _) ⟨rfl, rfl⟩
theorem sX9_squeakCount {wv : Nat} (M : Mm) : TF wv yX9_squeakCount cX9_squeakCount 1 (some .int) 0 [.inr (0, 0, 0)] M (some (.int (fX9_squeakCount M ))) M := tX9_squeakCount M   rfl
theorem dX9_stepsPlayed_0 : decode cX9_stepsPlayed 0 = .ok (.aload_n 0, 1) := by decide +kernel
theorem dX9_stepsPlayed_1 : decode cX9_stepsPlayed 1 = .ok (.getfield 40, 3) := by decide +kernel
theorem dX9_stepsPlayed_4 : decode cX9_stepsPlayed 4 = .ok (.getfield 275, 3) := by decide +kernel
theorem dX9_stepsPlayed_7 : decode cX9_stepsPlayed 7 = .ok (.ireturn, 1) := by decide +kernel
def fX9_stepsPlayed (M : Mm) : Int32 := (M.1 (9, 0, 0) 7)
set_option maxRecDepth 20000 in
set_option maxHeartbeats 2000000 in
theorem tX9_stepsPlayed {wv : Nat} (M : Mm) {res : Int32} (h : fX9_stepsPlayed M  = res) : TF wv yX9_stepsPlayed cX9_stepsPlayed 1 (some .int) 0 [.inr (0, 0, 0)] M (some (.int res)) M := by
  rw [fX9_stepsPlayed] at h
  refine TF.go (n := 0) (ls := [some (.inr (0, 0, 0))]) rfl rfl rfl rfl rfl ?_
  refine z_aload_n (i := 0) dX9_stepsPlayed_0 rfl rfl ?_
  refine z_getR (r' := (9, 0, 0)) dX9_stepsPlayed_1 fl_X9_40 mk0 rfl rfl ?_
  refine z_getI (x := (M.1 (9, 0, 0) 7)) dX9_stepsPlayed_4 fl_X9_275 (m9 _ (Nat.le_of_ble_eq_true rfl)) rfl rfl ?_
  subst h
  exact z_iret dX9_stepsPlayed_7 rfl rfl (Nat.le_refl _) (Nat.le_refl _) ⟨rfl, rfl⟩
theorem sX9_stepsPlayed {wv : Nat} (M : Mm) : TF wv yX9_stepsPlayed cX9_stepsPlayed 1 (some .int) 0 [.inr (0, 0, 0)] M (some (.int (fX9_stepsPlayed M ))) M := tX9_stepsPlayed M   rfl
theorem dX9_brokenTeeth_0 : decode cX9_brokenTeeth 0 = .ok (.aload_n 0, 1) := by decide +kernel
theorem dX9_brokenTeeth_1 : decode cX9_brokenTeeth 1 = .ok (.getfield 40, 3) := by decide +kernel
theorem dX9_brokenTeeth_4 : decode cX9_brokenTeeth 4 = .ok (.invokevirtual 278, 3) := by decide +kernel
theorem dX9_brokenTeeth_7 : decode cX9_brokenTeeth 7 = .ok (.ireturn, 1) := by decide +kernel
def fX9_brokenTeeth (M : Mm) : Option Int32 := (fX0_brokenCount M 0).bind fun q1 => some q1
set_option maxRecDepth 20000 in
set_option maxHeartbeats 2000000 in
theorem sX9_brokenTeeth {wv : Nat} (M : Mm) {res : Int32} (h : fX9_brokenTeeth M  = some res) : TF wv yX9_brokenTeeth cX9_brokenTeeth 1 (some .int) 2 [.inr (0, 0, 0)] M (some (.int res)) M := by
  rw [fX9_brokenTeeth] at h
  refine TF.go (n := 0) (ls := [some (.inr (0, 0, 0))]) rfl rfl rfl rfl rfl ?_
  refine z_aload_n (i := 0) dX9_brokenTeeth_0 rfl rfl ?_
  refine z_getR (r' := (9, 0, 0)) dX9_brokenTeeth_1 fl_X9_40 mk0 rfl rfl ?_
  obtain ⟨q1, hq2, h⟩ := bnd h
  refine z_fVi (sX0_brokenCount M 0 (Nat.le_of_ble_eq_true rfl) hq2) dX9_brokenTeeth_4 ml_X9_278 cd_X0_brokenCount (m9 _ (Nat.le_of_ble_eq_true rfl)) rfl rfl rfl rfl rfl rfl ?_
  cases h
  exact z_iret dX9_brokenTeeth_7 rfl rfl (Nat.le_refl _) (Nat.le_refl _) ⟨rfl, rfl⟩
theorem dX9_contradictions_0 : decode cX9_contradictions 0 = .ok (.aload_n 0, 1) := by decide +kernel
theorem dX9_contradictions_1 : decode cX9_contradictions 1 = .ok (.getfield 40, 3) := by decide +kernel
theorem dX9_contradictions_4 : decode cX9_contradictions 4 = .ok (.invokevirtual 284, 3) := by decide +kernel
theorem dX9_contradictions_7 : decode cX9_contradictions 7 = .ok (.aload_n 0, 1) := by decide +kernel
theorem dX9_contradictions_8 : decode cX9_contradictions 8 = .ok (.getfield 40, 3) := by decide +kernel
theorem dX9_contradictions_11 : decode cX9_contradictions 11 = .ok (.invokevirtual 287, 3) := by decide +kernel
theorem dX9_contradictions_14 : decode cX9_contradictions 14 = .ok (.iadd, 1) := by decide +kernel
theorem dX9_contradictions_15 : decode cX9_contradictions 15 = .ok (.ireturn, 1) := by decide +kernel
def fX9_contradictions (M : Mm) : Option Int32 := (fX0_unexplainedWear M 0).bind fun q1 => (fX0_brokenTooEarly M 0).bind fun q3 => some (q1 + q3)
set_option maxRecDepth 20000 in
set_option maxHeartbeats 2000000 in
theorem sX9_contradictions {wv : Nat} (M : Mm) {res : Int32} (h : fX9_contradictions M  = some res) : TF wv yX9_contradictions cX9_contradictions 1 (some .int) 2 [.inr (0, 0, 0)] M (some (.int res)) M := by
  rw [fX9_contradictions] at h
  refine TF.go (n := 0) (ls := [some (.inr (0, 0, 0))]) rfl rfl rfl rfl rfl ?_
  refine z_aload_n (i := 0) dX9_contradictions_0 rfl rfl ?_
  refine z_getR (r' := (9, 0, 0)) dX9_contradictions_1 fl_X9_40 mk0 rfl rfl ?_
  obtain ⟨q1, hq2, h⟩ := bnd h
  refine z_fVi (sX0_unexplainedWear M 0 (Nat.le_of_ble_eq_true rfl) hq2) dX9_contradictions_4 ml_X9_284 cd_X0_unexplainedWear (m9 _ (Nat.le_of_ble_eq_true rfl)) rfl rfl rfl rfl rfl rfl ?_
  refine z_aload_n (i := 0) dX9_contradictions_7 rfl rfl ?_
  refine z_getR (r' := (9, 0, 0)) dX9_contradictions_8 fl_X9_40 mk0 rfl rfl ?_
  obtain ⟨q3, hq4, h⟩ := bnd h
  refine z_fVi (sX0_brokenTooEarly M 0 (Nat.le_of_ble_eq_true rfl) hq4) dX9_contradictions_11 ml_X9_287 cd_X0_brokenTooEarly (m9 _ (Nat.le_of_ble_eq_true rfl)) rfl rfl rfl rfl rfl rfl ?_
  refine z_iadd dX9_contradictions_14 ?_
  cases h
  exact z_iret dX9_contradictions_15 rfl rfl (Nat.le_refl _) (Nat.le_refl _) ⟨rfl, rfl⟩
theorem dX9_stepsLeft_0 : decode cX9_stepsLeft 0 = .ok (.aload_n 0, 1) := by decide +kernel
theorem dX9_stepsLeft_1 : decode cX9_stepsLeft 1 = .ok (.getfield 40, 3) := by decide +kernel
theorem dX9_stepsLeft_4 : decode cX9_stepsLeft 4 = .ok (.invokevirtual 290, 3) := by decide +kernel
theorem dX9_stepsLeft_7 : decode cX9_stepsLeft 7 = .ok (.ireturn, 1) := by decide +kernel
def fX9_stepsLeft (M : Mm) : Int32 := (fX0_playableSteps M 0)
set_option maxRecDepth 20000 in
set_option maxHeartbeats 2000000 in
theorem tX9_stepsLeft {wv : Nat} (M : Mm) {res : Int32} (h : fX9_stepsLeft M  = res) : TF wv yX9_stepsLeft cX9_stepsLeft 1 (some .int) 1 [.inr (0, 0, 0)] M (some (.int res)) M := by
  rw [fX9_stepsLeft] at h
  refine TF.go (n := 0) (ls := [some (.inr (0, 0, 0))]) rfl rfl rfl rfl rfl ?_
  refine z_aload_n (i := 0) dX9_stepsLeft_0 rfl rfl ?_
  refine z_getR (r' := (9, 0, 0)) dX9_stepsLeft_1 fl_X9_40 mk0 rfl rfl ?_
  refine z_fVi (sX0_playableSteps M 0 (Nat.le_of_ble_eq_true rfl)) dX9_stepsLeft_4 ml_X9_290 cd_X0_playableSteps (m9 _ (Nat.le_of_ble_eq_true rfl)) rfl rfl rfl rfl rfl rfl ?_
  subst h
  exact z_iret dX9_stepsLeft_7 rfl rfl (Nat.le_refl _) (Nat.le_refl _) ⟨rfl, rfl⟩
theorem sX9_stepsLeft {wv : Nat} (M : Mm) : TF wv yX9_stepsLeft cX9_stepsLeft 1 (some .int) 1 [.inr (0, 0, 0)] M (some (.int (fX9_stepsLeft M ))) M := tX9_stepsLeft M   rfl
theorem dX9_writeComb_0 : decode cX9_writeComb 0 = .ok (.aload_n 0, 1) := by decide +kernel
theorem dX9_writeComb_1 : decode cX9_writeComb 1 = .ok (.getfield 18, 3) := by decide +kernel
theorem dX9_writeComb_4 : decode cX9_writeComb 4 = .ok (.iconst 0, 1) := by decide +kernel
theorem dX9_writeComb_5 : decode cX9_writeComb 5 = .ok (.putfield 102, 3) := by decide +kernel
theorem dX9_writeComb_8 : decode cX9_writeComb 8 = .ok (.iconst 0, 1) := by decide +kernel
theorem dX9_writeComb_9 : decode cX9_writeComb 9 = .ok (.istore_n 1, 1) := by decide +kernel
theorem dX9_writeComb_10 : decode cX9_writeComb 10 = .ok (.iload_n 1, 1) := by decide +kernel
theorem dX9_writeComb_11 : decode cX9_writeComb 11 = .ok (.aload_n 0, 1) := by decide +kernel
theorem dX9_writeComb_12 : decode cX9_writeComb 12 = .ok (.getfield 40, 3) := by decide +kernel
theorem dX9_writeComb_15 : decode cX9_writeComb 15 = .ok (.getfield 211, 3) := by decide +kernel
theorem dX9_writeComb_18 : decode cX9_writeComb 18 = .ok (.if_icmp .ge 68, 3) := by decide +kernel
theorem dX9_writeComb_21 : decode cX9_writeComb 21 = .ok (.iload_n 1, 1) := by decide +kernel
theorem dX9_writeComb_22 : decode cX9_writeComb 22 = .ok (.ifCond .le 12, 3) := by decide +kernel
theorem dX9_writeComb_25 : decode cX9_writeComb 25 = .ok (.aload_n 0, 1) := by decide +kernel
theorem dX9_writeComb_26 : decode cX9_writeComb 26 = .ok (.getfield 18, 3) := by decide +kernel
theorem dX9_writeComb_29 : decode cX9_writeComb 29 = .ok (.bipush 32, 2) := by decide +kernel
theorem dX9_writeComb_31 : decode cX9_writeComb 31 = .ok (.invokevirtual 92, 3) := by decide +kernel
theorem dX9_writeComb_34 : decode cX9_writeComb 34 = .ok (.aload_n 0, 1) := by decide +kernel
theorem dX9_writeComb_35 : decode cX9_writeComb 35 = .ok (.getfield 40, 3) := by decide +kernel
theorem dX9_writeComb_38 : decode cX9_writeComb 38 = .ok (.getfield 217, 3) := by decide +kernel
theorem dX9_writeComb_41 : decode cX9_writeComb 41 = .ok (.iload_n 1, 1) := by decide +kernel
theorem dX9_writeComb_42 : decode cX9_writeComb 42 = .ok (.aaload, 1) := by decide +kernel
theorem dX9_writeComb_43 : decode cX9_writeComb 43 = .ok (.invokevirtual 238, 3) := by decide +kernel
theorem dX9_writeComb_46 : decode cX9_writeComb 46 = .ok (.ifCond .eq 15, 3) := by decide +kernel
theorem dX9_writeComb_49 : decode cX9_writeComb 49 = .ok (.aload_n 0, 1) := by decide +kernel
theorem dX9_writeComb_50 : decode cX9_writeComb 50 = .ok (.getfield 18, 3) := by decide +kernel
theorem dX9_writeComb_53 : decode cX9_writeComb 53 = .ok (.bipush 120, 2) := by decide +kernel
theorem dX9_writeComb_55 : decode cX9_writeComb 55 = .ok (.invokevirtual 92, 3) := by decide +kernel
theorem dX9_writeComb_58 : decode cX9_writeComb 58 = .ok (.goto 22, 3) := by decide +kernel
theorem dX9_writeComb_61 : decode cX9_writeComb 61 = .ok (.aload_n 0, 1) := by decide +kernel
theorem dX9_writeComb_62 : decode cX9_writeComb 62 = .ok (.getfield 18, 3) := by decide +kernel
theorem dX9_writeComb_65 : decode cX9_writeComb 65 = .ok (.aload_n 0, 1) := by decide +kernel
theorem dX9_writeComb_66 : decode cX9_writeComb 66 = .ok (.getfield 40, 3) := by decide +kernel
theorem dX9_writeComb_69 : decode cX9_writeComb 69 = .ok (.getfield 217, 3) := by decide +kernel
theorem dX9_writeComb_72 : decode cX9_writeComb 72 = .ok (.iload_n 1, 1) := by decide +kernel
theorem dX9_writeComb_73 : decode cX9_writeComb 73 = .ok (.aaload, 1) := by decide +kernel
theorem dX9_writeComb_74 : decode cX9_writeComb 74 = .ok (.invokevirtual 221, 3) := by decide +kernel
theorem dX9_writeComb_77 : decode cX9_writeComb 77 = .ok (.invokevirtual 346, 3) := by decide +kernel
theorem dX9_writeComb_80 : decode cX9_writeComb 80 = .ok (.iinc 1 1, 3) := by decide +kernel
theorem dX9_writeComb_83 : decode cX9_writeComb 83 = .ok (.goto (-73), 3) := by decide +kernel
theorem dX9_writeComb_86 : decode cX9_writeComb 86 = .ok (.aload_n 0, 1) := by decide +kernel
theorem dX9_writeComb_87 : decode cX9_writeComb 87 = .ok (.getfield 18, 3) := by decide +kernel
theorem dX9_writeComb_90 : decode cX9_writeComb 90 = .ok (.getfield 102, 3) := by decide +kernel
theorem dX9_writeComb_93 : decode cX9_writeComb 93 = .ok (.ireturn, 1) := by decide +kernel
def fX9_writeComb_L10 (K : Int32 → Mm → Option (Int32 × Mm)) : Nat → Int32 → Mm → Option (Int32 × Mm)
  | 0, _, _ => none
  | n + 1, v1, M => if (M.1 (9, 0, 0) 2) ≤ v1 then K v1 M else if v1 ≤ 0 then (if v1 < 0 ∨ 12 ≤ v1.toNatClampNeg then none else if (fX8_brokenNow M 0 v1.toNatClampNeg) = 0 then (if v1 < 0 ∨ 12 ≤ v1.toNatClampNeg then none else (fX1_putNumber M 1 (fX8_pitchNow M 0 v1.toNatClampNeg)).bind fun q6 => fX9_writeComb_L10 K n (v1 + (1 : Int32)) q6) else (fX1_put M 1 (120 : Int32)).bind fun q8 => fX9_writeComb_L10 K n (v1 + (1 : Int32)) q8) else (fX1_put M 1 (32 : Int32)).bind fun q10 => if v1 < 0 ∨ 12 ≤ v1.toNatClampNeg then none else if (fX8_brokenNow q10 0 v1.toNatClampNeg) = 0 then (if v1 < 0 ∨ 12 ≤ v1.toNatClampNeg then none else (fX1_putNumber q10 1 (fX8_pitchNow q10 0 v1.toNatClampNeg)).bind fun q15 => fX9_writeComb_L10 K n (v1 + (1 : Int32)) q15) else (fX1_put q10 1 (120 : Int32)).bind fun q17 => fX9_writeComb_L10 K n (v1 + (1 : Int32)) q17
def fX9_writeComb (M : Mm) : Option (Int32 × Mm) := fX9_writeComb_L10 (fun w19 M20 => some ((M20.1 (1, 1, 0) 1), M20)) NF (0 : Int32) (putI M (1, 1, 0) 1 (0 : Int32))
set_option maxRecDepth 20000 in
set_option maxHeartbeats 2000000 in
theorem sX9_writeComb_L10 {wv : Nat} {res : (Int32 × Mm)} {K : Int32 → Mm → Option (Int32 × Mm)} : ∀ (n : Nat) (v1 : Int32) (M : Mm), fX9_writeComb_L10 K n v1 M = some res →
    (∀ (v1 : Int32) (M : Mm), K v1 M = some res → Z RX9 cX9_writeComb 2 (some .int) [] "writeComb" (rmD 2 0 0) (QM SH (allR wv) 0 0 (fun v M9 => v = some (.int res.1) ∧ M9 = res.2) (fun _ _ => False)) (allR wv) SH 0 0 86 [some (.inr (0, 0, 0)), some (.inl (.int v1))] [] M) → Z RX9 cX9_writeComb 2 (some .int) [] "writeComb" (rmD 2 0 0) (QM SH (allR wv) 0 0 (fun v M9 => v = some (.int res.1) ∧ M9 = res.2) (fun _ _ => False)) (allR wv) SH 0 0 10 [some (.inr (0, 0, 0)), some (.inl (.int v1))] [] M := by
  intro n
  induction n with
  | zero => intro v1 M h; cases h
  | succ n ih =>
    intro v1 M h hK
    rw [fX9_writeComb_L10] at h
    refine z_iload_n (i := 1) dX9_writeComb_10 rfl rfl ?_
    refine z_aload_n (i := 0) dX9_writeComb_11 rfl rfl ?_
    refine z_getR (r' := (9, 0, 0)) dX9_writeComb_12 fl_X9_40 mk0 rfl rfl ?_
    refine z_getI (x := (M.1 (9, 0, 0) 2)) dX9_writeComb_15 fl_X9_211 (m9 _ (Nat.le_of_ble_eq_true rfl)) rfl rfl ?_
    refine z_icmp_ge (tgt := 86) dX9_writeComb_18 rfl (fun hc1 => ?_) (fun hc1 => ?_)
    · have h := it_t h hc1
      exact hK _ _ h
    · have h := it_f h hc1
      refine z_iload_n (i := 1) dX9_writeComb_21 rfl rfl ?_
      refine z_if_le (tgt := 34) dX9_writeComb_22 rfl (fun hc2 => ?_) (fun hc2 => ?_)
      · have h := it_t h hc2
        refine z_aload_n (i := 0) dX9_writeComb_34 rfl rfl ?_
        refine z_getR (r' := (9, 0, 0)) dX9_writeComb_35 fl_X9_40 mk0 rfl rfl ?_
        refine z_getR (r' := (12, 0, 0)) dX9_writeComb_38 fl_X9_217 (m9 _ (Nat.le_of_ble_eq_true rfl)) rfl rfl ?_
        refine z_iload_n (i := 1) dX9_writeComb_41 rfl rfl ?_
        obtain ⟨hc3, h⟩ := chk h
        refine z_aald (t := 0) (r' := (13, 0, v1.toNatClampNeg)) dX9_writeComb_42 (m12 _ (Nat.le_of_ble_eq_true rfl)) rfl (Nat.le_of_ble_eq_true rfl) hc3 rfl ?_
        refine z_fVi (sX8_brokenNow M 0 v1.toNatClampNeg (Nat.le_of_ble_eq_true rfl) (ltN hc3)) dX9_writeComb_43 ml_X9_238 cd_X8_brokenNow (m13 _ (Nat.le_of_ble_eq_true rfl) _ (ltN hc3)) rfl rfl rfl rfl rfl rfl ?_
        refine z_if_eq (tgt := 61) dX9_writeComb_46 rfl (fun hc4 => ?_) (fun hc4 => ?_)
        · have h := it_t h hc4
          refine z_aload_n (i := 0) dX9_writeComb_61 rfl rfl ?_
          refine z_getR (r' := (1, 1, 0)) dX9_writeComb_62 fl_X9_18 mk0 rfl rfl ?_
          refine z_aload_n (i := 0) dX9_writeComb_65 rfl rfl ?_
          refine z_getR (r' := (9, 0, 0)) dX9_writeComb_66 fl_X9_40 mk0 rfl rfl ?_
          refine z_getR (r' := (12, 0, 0)) dX9_writeComb_69 fl_X9_217 (m9 _ (Nat.le_of_ble_eq_true rfl)) rfl rfl ?_
          refine z_iload_n (i := 1) dX9_writeComb_72 rfl rfl ?_
          obtain ⟨hc5, h⟩ := chk h
          refine z_aald (t := 0) (r' := (13, 0, v1.toNatClampNeg)) dX9_writeComb_73 (m12 _ (Nat.le_of_ble_eq_true rfl)) rfl (Nat.le_of_ble_eq_true rfl) hc5 rfl ?_
          refine z_fVi (sX8_pitchNow M 0 v1.toNatClampNeg (Nat.le_of_ble_eq_true rfl) (ltN hc5)) dX9_writeComb_74 ml_X9_221 cd_X8_pitchNow (m13 _ (Nat.le_of_ble_eq_true rfl) _ (ltN hc5)) rfl rfl rfl rfl rfl rfl ?_
          obtain ⟨q6, hq7, h⟩ := bnd h
          refine z_fVv (sX1_putNumber M 1 (fX8_pitchNow M 0 v1.toNatClampNeg) (Nat.le_of_ble_eq_true rfl) hq7) dX9_writeComb_77 ml_X9_346 cd_X1_putNumber (m1 _ (Nat.le_of_ble_eq_true rfl)) rfl rfl rfl rfl rfl rfl ?_
          refine z_iinc (i := 1) (v := (v1 + (1 : Int32))) dX9_writeComb_80 rfl (iinc_k kc_1) (Nat.le_of_ble_eq_true rfl) rfl ?_
          refine z_goto (tgt := 10) dX9_writeComb_83 rfl ?_
          exact ih _ _ h hK
        · have h := it_f h hc4
          refine z_aload_n (i := 0) dX9_writeComb_49 rfl rfl ?_
          refine z_getR (r' := (1, 1, 0)) dX9_writeComb_50 fl_X9_18 mk0 rfl rfl ?_
          refine z_bipush (v := (120 : Int32)) dX9_writeComb_53 kb_120 ?_
          obtain ⟨q8, hq9, h⟩ := bnd h
          refine z_fVv (sX1_put M 1 (120 : Int32) (Nat.le_of_ble_eq_true rfl) hq9) dX9_writeComb_55 ml_X9_92 cd_X1_put (m1 _ (Nat.le_of_ble_eq_true rfl)) rfl rfl rfl rfl rfl rfl ?_
          refine z_goto (tgt := 80) dX9_writeComb_58 rfl ?_
          refine z_iinc (i := 1) (v := (v1 + (1 : Int32))) dX9_writeComb_80 rfl (iinc_k kc_1) (Nat.le_of_ble_eq_true rfl) rfl ?_
          refine z_goto (tgt := 10) dX9_writeComb_83 rfl ?_
          exact ih _ _ h hK
      · have h := it_f h hc2
        refine z_aload_n (i := 0) dX9_writeComb_25 rfl rfl ?_
        refine z_getR (r' := (1, 1, 0)) dX9_writeComb_26 fl_X9_18 mk0 rfl rfl ?_
        refine z_bipush (v := (32 : Int32)) dX9_writeComb_29 kb_32 ?_
        obtain ⟨q10, hq11, h⟩ := bnd h
        refine z_fVv (sX1_put M 1 (32 : Int32) (Nat.le_of_ble_eq_true rfl) hq11) dX9_writeComb_31 ml_X9_92 cd_X1_put (m1 _ (Nat.le_of_ble_eq_true rfl)) rfl rfl rfl rfl rfl rfl ?_
        refine z_aload_n (i := 0) dX9_writeComb_34 rfl rfl ?_
        refine z_getR (r' := (9, 0, 0)) dX9_writeComb_35 fl_X9_40 mk0 rfl rfl ?_
        refine z_getR (r' := (12, 0, 0)) dX9_writeComb_38 fl_X9_217 (m9 _ (Nat.le_of_ble_eq_true rfl)) rfl rfl ?_
        refine z_iload_n (i := 1) dX9_writeComb_41 rfl rfl ?_
        obtain ⟨hc12, h⟩ := chk h
        refine z_aald (t := 0) (r' := (13, 0, v1.toNatClampNeg)) dX9_writeComb_42 (m12 _ (Nat.le_of_ble_eq_true rfl)) rfl (Nat.le_of_ble_eq_true rfl) hc12 rfl ?_
        refine z_fVi (sX8_brokenNow q10 0 v1.toNatClampNeg (Nat.le_of_ble_eq_true rfl) (ltN hc12)) dX9_writeComb_43 ml_X9_238 cd_X8_brokenNow (m13 _ (Nat.le_of_ble_eq_true rfl) _ (ltN hc12)) rfl rfl rfl rfl rfl rfl ?_
        refine z_if_eq (tgt := 61) dX9_writeComb_46 rfl (fun hc13 => ?_) (fun hc13 => ?_)
        · have h := it_t h hc13
          refine z_aload_n (i := 0) dX9_writeComb_61 rfl rfl ?_
          refine z_getR (r' := (1, 1, 0)) dX9_writeComb_62 fl_X9_18 mk0 rfl rfl ?_
          refine z_aload_n (i := 0) dX9_writeComb_65 rfl rfl ?_
          refine z_getR (r' := (9, 0, 0)) dX9_writeComb_66 fl_X9_40 mk0 rfl rfl ?_
          refine z_getR (r' := (12, 0, 0)) dX9_writeComb_69 fl_X9_217 (m9 _ (Nat.le_of_ble_eq_true rfl)) rfl rfl ?_
          refine z_iload_n (i := 1) dX9_writeComb_72 rfl rfl ?_
          obtain ⟨hc14, h⟩ := chk h
          refine z_aald (t := 0) (r' := (13, 0, v1.toNatClampNeg)) dX9_writeComb_73 (m12 _ (Nat.le_of_ble_eq_true rfl)) rfl (Nat.le_of_ble_eq_true rfl) hc14 rfl ?_
          refine z_fVi (sX8_pitchNow q10 0 v1.toNatClampNeg (Nat.le_of_ble_eq_true rfl) (ltN hc14)) dX9_writeComb_74 ml_X9_221 cd_X8_pitchNow (m13 _ (Nat.le_of_ble_eq_true rfl) _ (ltN hc14)) rfl rfl rfl rfl rfl rfl ?_
          obtain ⟨q15, hq16, h⟩ := bnd h
          refine z_fVv (sX1_putNumber q10 1 (fX8_pitchNow q10 0 v1.toNatClampNeg) (Nat.le_of_ble_eq_true rfl) hq16) dX9_writeComb_77 ml_X9_346 cd_X1_putNumber (m1 _ (Nat.le_of_ble_eq_true rfl)) rfl rfl rfl rfl rfl rfl ?_
          refine z_iinc (i := 1) (v := (v1 + (1 : Int32))) dX9_writeComb_80 rfl (iinc_k kc_1) (Nat.le_of_ble_eq_true rfl) rfl ?_
          refine z_goto (tgt := 10) dX9_writeComb_83 rfl ?_
          exact ih _ _ h hK
        · have h := it_f h hc13
          refine z_aload_n (i := 0) dX9_writeComb_49 rfl rfl ?_
          refine z_getR (r' := (1, 1, 0)) dX9_writeComb_50 fl_X9_18 mk0 rfl rfl ?_
          refine z_bipush (v := (120 : Int32)) dX9_writeComb_53 kb_120 ?_
          obtain ⟨q17, hq18, h⟩ := bnd h
          refine z_fVv (sX1_put q10 1 (120 : Int32) (Nat.le_of_ble_eq_true rfl) hq18) dX9_writeComb_55 ml_X9_92 cd_X1_put (m1 _ (Nat.le_of_ble_eq_true rfl)) rfl rfl rfl rfl rfl rfl ?_
          refine z_goto (tgt := 80) dX9_writeComb_58 rfl ?_
          refine z_iinc (i := 1) (v := (v1 + (1 : Int32))) dX9_writeComb_80 rfl (iinc_k kc_1) (Nat.le_of_ble_eq_true rfl) rfl ?_
          refine z_goto (tgt := 10) dX9_writeComb_83 rfl ?_
          exact ih _ _ h hK
set_option maxRecDepth 20000 in
set_option maxHeartbeats 2000000 in
theorem sX9_writeComb {wv : Nat} (M : Mm) {res : (Int32 × Mm)} (h : fX9_writeComb M  = some res) : TF wv yX9_writeComb cX9_writeComb 2 (some .int) 2 [.inr (0, 0, 0)] M (some (.int res.1)) res.2 := by
  rw [fX9_writeComb] at h
  refine TF.go (n := 1) (ls := [some (.inr (0, 0, 0)), none]) rfl rfl rfl rfl rfl ?_
  refine z_aload_n (i := 0) dX9_writeComb_0 rfl rfl ?_
  refine z_getR (r' := (1, 1, 0)) dX9_writeComb_1 fl_X9_18 mk0 rfl rfl ?_
  refine z_iconst (v := (0 : Int32)) dX9_writeComb_4 kc_0 ?_
  refine z_putI allR_nd dX9_writeComb_5 fl_X9_102 (m1 _ (Nat.le_of_ble_eq_true rfl)) rfl rfl ?_
  refine z_iconst (v := (0 : Int32)) dX9_writeComb_8 kc_0 ?_
  refine z_istore_n (i := 1) dX9_writeComb_9 rfl (Nat.le_of_ble_eq_true rfl) rfl ?_
  refine sX9_writeComb_L10  NF _ _ h (fun w19 M20 h => ?_)
  refine z_aload_n (i := 0) dX9_writeComb_86 rfl rfl ?_
  refine z_getR (r' := (1, 1, 0)) dX9_writeComb_87 fl_X9_18 mk0 rfl rfl ?_
  refine z_getI (x := (M20.1 (1, 1, 0) 1)) dX9_writeComb_90 fl_X9_102 (m1 _ (Nat.le_of_ble_eq_true rfl)) rfl rfl ?_
  cases h
  exact z_iret dX9_writeComb_93 rfl rfl (Nat.le_refl _) (Nat.le_refl _) ⟨rfl, rfl⟩
theorem dX9_outputByte_0 : decode cX9_outputByte 0 = .ok (.aload_n 0, 1) := by decide +kernel
theorem dX9_outputByte_1 : decode cX9_outputByte 1 = .ok (.getfield 18, 3) := by decide +kernel
theorem dX9_outputByte_4 : decode cX9_outputByte 4 = .ok (.iload_n 1, 1) := by decide +kernel
theorem dX9_outputByte_5 : decode cX9_outputByte 5 = .ok (.invokevirtual 349, 3) := by decide +kernel
theorem dX9_outputByte_8 : decode cX9_outputByte 8 = .ok (.ireturn, 1) := by decide +kernel
def fX9_outputByte (M : Mm) (x1 : Int32) : Option Int32 := (fX1_at M 1 x1).bind fun q1 => some q1
set_option maxRecDepth 20000 in
set_option maxHeartbeats 2000000 in
theorem sX9_outputByte {wv : Nat} (M : Mm) (x1 : Int32) {res : Int32} (h : fX9_outputByte M x1 = some res) : TF wv yX9_outputByte cX9_outputByte 2 (some .int) 1 [.inr (0, 0, 0), .inl (.int x1)] M (some (.int res)) M := by
  rw [fX9_outputByte] at h
  refine TF.go (n := 0) (ls := [some (.inr (0, 0, 0)), some (.inl (.int x1))]) rfl rfl rfl rfl rfl ?_
  refine z_aload_n (i := 0) dX9_outputByte_0 rfl rfl ?_
  refine z_getR (r' := (1, 1, 0)) dX9_outputByte_1 fl_X9_18 mk0 rfl rfl ?_
  refine z_iload_n (i := 1) dX9_outputByte_4 rfl rfl ?_
  obtain ⟨q1, hq2, h⟩ := bnd h
  refine z_fVi (sX1_at M 1 x1 (Nat.le_of_ble_eq_true rfl) hq2) dX9_outputByte_5 ml_X9_349 cd_X1_at (m1 _ (Nat.le_of_ble_eq_true rfl)) rfl rfl rfl rfl rfl rfl ?_
  cases h
  exact z_iret dX9_outputByte_8 rfl rfl (Nat.le_refl _) (Nat.le_refl _) ⟨rfl, rfl⟩
theorem dX9_undoCount_0 : decode cX9_undoCount 0 = .ok (.aload_n 0, 1) := by decide +kernel
theorem dX9_undoCount_1 : decode cX9_undoCount 1 = .ok (.getfield 68, 3) := by decide +kernel
theorem dX9_undoCount_4 : decode cX9_undoCount 4 = .ok (.getfield 352, 3) := by decide +kernel
theorem dX9_undoCount_7 : decode cX9_undoCount 7 = .ok (.ireturn, 1) := by decide +kernel
def fX9_undoCount (M : Mm) : Int32 := (M.1 (14, 0, 0) 1)
set_option maxRecDepth 20000 in
set_option maxHeartbeats 2000000 in
theorem tX9_undoCount {wv : Nat} (M : Mm) {res : Int32} (h : fX9_undoCount M  = res) : TF wv yX9_undoCount cX9_undoCount 1 (some .int) 0 [.inr (0, 0, 0)] M (some (.int res)) M := by
  rw [fX9_undoCount] at h
  refine TF.go (n := 0) (ls := [some (.inr (0, 0, 0))]) rfl rfl rfl rfl rfl ?_
  refine z_aload_n (i := 0) dX9_undoCount_0 rfl rfl ?_
  refine z_getR (r' := (14, 0, 0)) dX9_undoCount_1 fl_X9_68 mk0 rfl rfl ?_
  refine z_getI (x := (M.1 (14, 0, 0) 1)) dX9_undoCount_4 fl_X9_352 mk14 rfl rfl ?_
  subst h
  exact z_iret dX9_undoCount_7 rfl rfl (Nat.le_refl _) (Nat.le_refl _) ⟨rfl, rfl⟩
theorem sX9_undoCount {wv : Nat} (M : Mm) : TF wv yX9_undoCount cX9_undoCount 1 (some .int) 0 [.inr (0, 0, 0)] M (some (.int (fX9_undoCount M ))) M := tX9_undoCount M   rfl
theorem dX9_slotFault_0 : decode cX9_slotFault 0 = .ok (.iload_n 0, 1) := by decide +kernel
theorem dX9_slotFault_1 : decode cX9_slotFault 1 = .ok (.ifCond .lt 8, 3) := by decide +kernel
theorem dX9_slotFault_4 : decode cX9_slotFault 4 = .ok (.iload_n 0, 1) := by decide +kernel
theorem dX9_slotFault_5 : decode cX9_slotFault 5 = .ok (.iconst 2, 1) := by decide +kernel
theorem dX9_slotFault_6 : decode cX9_slotFault 6 = .ok (.if_icmp .lt 7, 3) := by decide +kernel
theorem dX9_slotFault_9 : decode cX9_slotFault 9 = .ok (.iconst 1, 1) := by decide +kernel
theorem dX9_slotFault_10 : decode cX9_slotFault 10 = .ok (.goto 4, 3) := by decide +kernel
theorem dX9_slotFault_13 : decode cX9_slotFault 13 = .ok (.iconst 0, 1) := by decide +kernel
theorem dX9_slotFault_14 : decode cX9_slotFault 14 = .ok (.ireturn, 1) := by decide +kernel
def fX9_slotFault (M : Mm) (x1 : Int32) : Int32 := if x1 < 0 then (1 : Int32) else if x1 < (2 : Int32) then (0 : Int32) else (1 : Int32)
set_option maxRecDepth 20000 in
set_option maxHeartbeats 2000000 in
theorem tX9_slotFault {wv : Nat} (M : Mm) (x1 : Int32) {res : Int32} (h : fX9_slotFault M x1 = res) : TF wv yX9_slotFault cX9_slotFault 1 (some .int) 0 [.inl (.int x1)] M (some (.int res)) M := by
  rw [fX9_slotFault] at h
  refine TF.go (n := 0) (ls := [some (.inl (.int x1))]) rfl rfl rfl rfl rfl ?_
  refine z_iload_n (i := 0) dX9_slotFault_0 rfl rfl ?_
  refine z_if_lt (tgt := 9) dX9_slotFault_1 rfl (fun hc1 => ?_) (fun hc1 => ?_)
  · have h := it_t h hc1
    refine z_iconst (v := (1 : Int32)) dX9_slotFault_9 kc_1 ?_
    refine z_goto (tgt := 14) dX9_slotFault_10 rfl ?_
    subst h
    exact z_iret dX9_slotFault_14 rfl rfl (Nat.le_refl _) (Nat.le_refl _) ⟨rfl, rfl⟩
  · have h := it_f h hc1
    refine z_iload_n (i := 0) dX9_slotFault_4 rfl rfl ?_
    refine z_iconst (v := (2 : Int32)) dX9_slotFault_5 kc_2 ?_
    refine z_icmp_lt (tgt := 13) dX9_slotFault_6 rfl (fun hc2 => ?_) (fun hc2 => ?_)
    · have h := it_t h hc2
      refine z_iconst (v := (0 : Int32)) dX9_slotFault_13 kc_0 ?_
      subst h
      exact z_iret dX9_slotFault_14 rfl rfl (Nat.le_refl _) (Nat.le_refl _) ⟨rfl, rfl⟩
    · have h := it_f h hc2
      refine z_iconst (v := (1 : Int32)) dX9_slotFault_9 kc_1 ?_
      refine z_goto (tgt := 14) dX9_slotFault_10 rfl ?_
      subst h
      exact z_iret dX9_slotFault_14 rfl rfl (Nat.le_refl _) (Nat.le_refl _) ⟨rfl, rfl⟩
theorem sX9_slotFault {wv : Nat} (M : Mm) (x1 : Int32) : TF wv yX9_slotFault cX9_slotFault 1 (some .int) 0 [.inl (.int x1)] M (some (.int (fX9_slotFault M x1))) M := tX9_slotFault M x1  rfl
theorem dX10_seen_0 : decode cX10_seen 0 = .ok (.iload_n 1, 1) := by decide +kernel
theorem dX10_seen_1 : decode cX10_seen 1 = .ok (.aload_n 0, 1) := by decide +kernel
theorem dX10_seen_2 : decode cX10_seen 2 = .ok (.getfield 70, 3) := by decide +kernel
theorem dX10_seen_5 : decode cX10_seen 5 = .ok (.if_icmp .ge 12, 3) := by decide +kernel
theorem dX10_seen_8 : decode cX10_seen 8 = .ok (.aload_n 0, 1) := by decide +kernel
theorem dX10_seen_9 : decode cX10_seen 9 = .ok (.getfield 32, 3) := by decide +kernel
theorem dX10_seen_12 : decode cX10_seen 12 = .ok (.iload_n 1, 1) := by decide +kernel
theorem dX10_seen_13 : decode cX10_seen 13 = .ok (.iaload, 1) := by decide +kernel
theorem dX10_seen_14 : decode cX10_seen 14 = .ok (.goto 4, 3) := by decide +kernel
theorem dX10_seen_17 : decode cX10_seen 17 = .ok (.iconst (-1), 1) := by decide +kernel
theorem dX10_seen_18 : decode cX10_seen 18 = .ok (.ireturn, 1) := by decide +kernel
def fX10_seen (M : Mm) (x1 : Int32) : Option Int32 := if (M.1 (18, 0, 0) 10) ≤ x1 then some (-1 : Int32) else if x1 < 0 ∨ 800 ≤ x1.toNatClampNeg then none else some (M.1 (19, 6, 0) x1.toNatClampNeg)
set_option maxRecDepth 20000 in
set_option maxHeartbeats 2000000 in
theorem sX10_seen {wv : Nat} (M : Mm) (x1 : Int32) {res : Int32} (h : fX10_seen M x1 = some res) : TF (wv + 1) yX10_seen cX10_seen 2 (some .int) 0 [.inr (18, 0, 0), .inl (.int x1)] M (some (.int res)) M := by
  rw [fX10_seen] at h
  refine TF.go (n := 0) (ls := [some (.inr (18, 0, 0)), some (.inl (.int x1))]) rfl rfl rfl rfl rfl ?_
  refine z_iload_n (i := 1) dX10_seen_0 rfl rfl ?_
  refine z_aload_n (i := 0) dX10_seen_1 rfl rfl ?_
  refine z_getI (x := (M.1 (18, 0, 0) 10)) dX10_seen_2 fl_X10_70 mk18 rfl rfl ?_
  refine z_icmp_ge (tgt := 17) dX10_seen_5 rfl (fun hc1 => ?_) (fun hc1 => ?_)
  · have h := it_t h hc1
    refine z_iconst (v := (-1 : Int32)) dX10_seen_17 kc_m1 ?_
    cases h
    exact z_iret dX10_seen_18 rfl rfl (Nat.le_refl _) (Nat.le_refl _) ⟨rfl, rfl⟩
  · have h := it_f h hc1
    refine z_aload_n (i := 0) dX10_seen_8 rfl rfl ?_
    refine z_getR (r' := (19, 6, 0)) dX10_seen_9 fl_X10_32 mk18 rfl rfl ?_
    refine z_iload_n (i := 1) dX10_seen_12 rfl rfl ?_
    obtain ⟨hc2, h⟩ := chk h
    refine z_iald (x := (M.1 (19, 6, 0) x1.toNatClampNeg)) dX10_seen_13 (m19 _ (Nat.le_of_ble_eq_true rfl)) rfl hc2 rfl ?_
    refine z_goto (tgt := 18) dX10_seen_14 rfl ?_
    cases h
    exact z_iret dX10_seen_18 rfl rfl (Nat.le_refl _) (Nat.le_refl _) ⟨rfl, rfl⟩
theorem dX10_in_0 : decode cX10_in 0 = .ok (.iload_n 1, 1) := by decide +kernel
theorem dX10_in_1 : decode cX10_in 1 = .ok (.iload_n 0, 1) := by decide +kernel
theorem dX10_in_2 : decode cX10_in 2 = .ok (.if_icmp .gt 12, 3) := by decide +kernel
theorem dX10_in_5 : decode cX10_in 5 = .ok (.iload_n 0, 1) := by decide +kernel
theorem dX10_in_6 : decode cX10_in 6 = .ok (.iload_n 2, 1) := by decide +kernel
theorem dX10_in_7 : decode cX10_in 7 = .ok (.if_icmp .gt 7, 3) := by decide +kernel
theorem dX10_in_10 : decode cX10_in 10 = .ok (.iconst 1, 1) := by decide +kernel
theorem dX10_in_11 : decode cX10_in 11 = .ok (.goto 4, 3) := by decide +kernel
theorem dX10_in_14 : decode cX10_in 14 = .ok (.iconst 0, 1) := by decide +kernel
theorem dX10_in_15 : decode cX10_in 15 = .ok (.ireturn, 1) := by decide +kernel
def fX10_in (M : Mm) (x1 : Int32) (x2 : Int32) (x3 : Int32) : Int32 := if x1 < x2 then (0 : Int32) else if x3 < x1 then (0 : Int32) else (1 : Int32)
set_option maxRecDepth 20000 in
set_option maxHeartbeats 2000000 in
theorem tX10_in {wv : Nat} (M : Mm) (x1 : Int32) (x2 : Int32) (x3 : Int32) {res : Int32} (h : fX10_in M x1 x2 x3 = res) : TF (wv + 1) yX10_in cX10_in 3 (some .boolean) 0 [.inl (.int x1), .inl (.int x2), .inl (.int x3)] M (some (.int res)) M := by
  rw [fX10_in] at h
  refine TF.go (n := 0) (ls := [some (.inl (.int x1)), some (.inl (.int x2)), some (.inl (.int x3))]) rfl rfl rfl rfl rfl ?_
  refine z_iload_n (i := 1) dX10_in_0 rfl rfl ?_
  refine z_iload_n (i := 0) dX10_in_1 rfl rfl ?_
  refine z_icmp_gt (tgt := 14) dX10_in_2 rfl (fun hc1 => ?_) (fun hc1 => ?_)
  · have h := it_t h hc1
    refine z_iconst (v := (0 : Int32)) dX10_in_14 kc_0 ?_
    subst h
    exact z_iret dX10_in_15 rfl rfl (Nat.le_refl _) (Nat.le_refl _) ⟨rfl, rfl⟩
  · have h := it_f h hc1
    refine z_iload_n (i := 0) dX10_in_5 rfl rfl ?_
    refine z_iload_n (i := 2) dX10_in_6 rfl rfl ?_
    refine z_icmp_gt (tgt := 14) dX10_in_7 rfl (fun hc2 => ?_) (fun hc2 => ?_)
    · have h := it_t h hc2
      refine z_iconst (v := (0 : Int32)) dX10_in_14 kc_0 ?_
      subst h
      exact z_iret dX10_in_15 rfl rfl (Nat.le_refl _) (Nat.le_refl _) ⟨rfl, rfl⟩
    · have h := it_f h hc2
      refine z_iconst (v := (1 : Int32)) dX10_in_10 kc_1 ?_
      refine z_goto (tgt := 15) dX10_in_11 rfl ?_
      subst h
      exact z_iret dX10_in_15 rfl rfl (Nat.le_refl _) (Nat.le_refl _) ⟨rfl, rfl⟩
theorem sX10_in {wv : Nat} (M : Mm) (x1 : Int32) (x2 : Int32) (x3 : Int32) : TF (wv + 1) yX10_in cX10_in 3 (some .boolean) 0 [.inl (.int x1), .inl (.int x2), .inl (.int x3)] M (some (.int (fX10_in M x1 x2 x3))) M := tX10_in M x1 x2 x3  rfl
