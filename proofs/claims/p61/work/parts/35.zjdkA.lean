theorem kb_m10 : (Int8.ofInt (-10)).toInt32 = (-10 : Int32) := by decide
theorem kb_m100 : (Int8.ofInt (-100)).toInt32 = (-100 : Int32) := by decide
theorem kb_m9 : (Int8.ofInt (-9)).toInt32 = (-9 : Int32) := by decide
set_option maxRecDepth 20000 in
theorem gs_J0_38 : Cond.fieldLink RJ0 38 "java/lang/String" "COMPACT_STRINGS" "Z" ∈ AL := al_mc al_c2 45 rfl (by decide +kernel)
set_option maxRecDepth 20000 in
theorem gs_J5_18 : Cond.fieldLink RJ5 18 "java/lang/String" "COMPACT_STRINGS" "Z" ∈ AL := al_mc al_c4 18 rfl (by decide +kernel)
set_option maxRecDepth 20000 in
theorem gs_J6_83 : Cond.fieldLink RJ6 83 "java/lang/Integer" "DigitOnes" "[B" ∈ AL := al_mc al_c4 154 rfl (by decide +kernel)
set_option maxRecDepth 20000 in
theorem gs_J6_87 : Cond.fieldLink RJ6 87 "java/lang/Integer" "DigitTens" "[B" ∈ AL := al_mc al_c4 156 rfl (by decide +kernel)
set_option maxRecDepth 20000 in
theorem lp_J5_397 : lkP RJ5 397 yJ5_inflateIfNeededFor_a7421 := ⟨al_mc al_c4 110 rfl (by decide +kernel), al_mc al_c4 112 rfl (by decide +kernel), al_mc al_c1 19 rfl (by decide +kernel), by decide +kernel, rfl⟩
set_option maxRecDepth 20000 in
theorem lw_J4_343 : lkW RJ4 343 yJ5_length_8abf5 := ⟨al_mc al_c4 190 rfl (by decide +kernel), al_mc al_c4 186 rfl (by decide +kernel), al_mc al_c4 38 rfl (by decide +kernel), al_mc al_c4 185 rfl (by decide +kernel), al_mc al_c1 19 rfl (by decide +kernel), rfl⟩
set_option maxRecDepth 20000 in
theorem ml_J0_212A : Cond.methodLink RJ0 212 arraycopyName ∈ AL := al_mc al_c4 138 rfl (by decide +kernel)
set_option maxRecDepth 20000 in
theorem hzl : Cond.selects RJ4 yJ5_isLatin1_aae02 yJ5_isLatin1_aae02 ∈ AL ∧ Cond.instanceMethod yJ5_isLatin1_aae02 ∈ AL := ⟨al_mc al_c4 88 rfl (by decide +kernel), al_mc al_c4 86 rfl (by decide +kernel)⟩
/-- a byte put into a row -/
def bsOk (M : Mm) (r : Rf) (i v : Int32) : Bool := decide (¬ (i < 0 ∨ (M.1 r LG).toNatClampNeg ≤ i.toNatClampNeg)) && decide ((M.1 r LG).toNatClampNeg ≤ LG) && decide (vp_nar .byte v = v)
theorem bsOk_i {M : Mm} {r : Rf} {i v : Int32} (h : bsOk M r i v = true) : ¬ (i < 0 ∨ (M.1 r LG).toNatClampNeg ≤ i.toNatClampNeg) := by
  simp only [bsOk, Bool.and_eq_true, decide_eq_true_eq] at h; exact h.1.1
theorem bsOk_l {M : Mm} {r : Rf} {i v : Int32} (h : bsOk M r i v = true) : (M.1 r LG).toNatClampNeg ≤ LG := by
  simp only [bsOk, Bool.and_eq_true, decide_eq_true_eq] at h; exact h.1.2
theorem bsOk_n {M : Mm} {r : Rf} {i v : Int32} (h : bsOk M r i v = true) : vp_nar .byte v = v := by
  simp only [bsOk, Bool.and_eq_true, decide_eq_true_eq] at h; exact h.2
/-- a constant's bytes put into a row -/
def akOk (M : Mm) (j : Nat) (r2 : Rf) (dp : Int32) : Bool := decide (¬ dp < 0) && decide (dp.toNatClampNeg + (sby j).length ≤ (M.1 r2 LG).toNatClampNeg) && decide ((M.1 r2 LG).toNatClampNeg ≤ LG)
theorem akOk_1 {M : Mm} {j : Nat} {r2 : Rf} {dp : Int32} (h : akOk M j r2 dp = true) : ¬ dp < 0 := by
  simp only [akOk, Bool.and_eq_true, decide_eq_true_eq] at h; exact h.1.1
theorem akOk_2 {M : Mm} {j : Nat} {r2 : Rf} {dp : Int32} (h : akOk M j r2 dp = true) : dp.toNatClampNeg + (sby j).length ≤ (M.1 r2 LG).toNatClampNeg := by
  simp only [akOk, Bool.and_eq_true, decide_eq_true_eq] at h; exact h.1.2
theorem akOk_3 {M : Mm} {j : Nat} {r2 : Rf} {dp : Int32} (h : akOk M j r2 dp = true) : (M.1 r2 LG).toNatClampNeg ≤ LG := by
  simp only [akOk, Bool.and_eq_true, decide_eq_true_eq] at h; exact h.2
/-- a row's bytes put into a row -/
def abOk (M : Mm) (r1 r2 : Rf) (dp n : Int32) : Bool := decide (¬ dp < 0) && decide (¬ n < 0) && decide (n.toNatClampNeg ≤ (M.1 r1 LG).toNatClampNeg) && decide (dp.toNatClampNeg + n.toNatClampNeg ≤ (M.1 r2 LG).toNatClampNeg) && decide ((M.1 r2 LG).toNatClampNeg ≤ LG) && fitB (M.1 r1) n.toNatClampNeg
theorem abOk_s {M : Mm} {r1 r2 : Rf} {dp n : Int32} (h : abOk M r1 r2 dp n = true) : ((((¬ dp < 0 ∧ ¬ n < 0) ∧ n.toNatClampNeg ≤ (M.1 r1 LG).toNatClampNeg) ∧ dp.toNatClampNeg + n.toNatClampNeg ≤ (M.1 r2 LG).toNatClampNeg) ∧ (M.1 r2 LG).toNatClampNeg ≤ LG) ∧ fitB (M.1 r1) n.toNatClampNeg = true := by
  simp only [abOk, Bool.and_eq_true, decide_eq_true_eq] at h; exact h
theorem abOk_1 {M : Mm} {r1 r2 : Rf} {dp n : Int32} (h : abOk M r1 r2 dp n = true) : ¬ dp < 0 := (abOk_s h).1.1.1.1.1
theorem abOk_2 {M : Mm} {r1 r2 : Rf} {dp n : Int32} (h : abOk M r1 r2 dp n = true) : ¬ n < 0 := (abOk_s h).1.1.1.1.2
theorem abOk_3 {M : Mm} {r1 r2 : Rf} {dp n : Int32} (h : abOk M r1 r2 dp n = true) : n.toNatClampNeg ≤ (M.1 r1 LG).toNatClampNeg := (abOk_s h).1.1.1.2
theorem abOk_4 {M : Mm} {r1 r2 : Rf} {dp n : Int32} (h : abOk M r1 r2 dp n = true) : dp.toNatClampNeg + n.toNatClampNeg ≤ (M.1 r2 LG).toNatClampNeg := (abOk_s h).1.1.2
theorem abOk_5 {M : Mm} {r1 r2 : Rf} {dp n : Int32} (h : abOk M r1 r2 dp n = true) : (M.1 r2 LG).toNatClampNeg ≤ LG := (abOk_s h).1.2
theorem abOk_6 {M : Mm} {r1 r2 : Rf} {dp n : Int32} (h : abOk M r1 r2 dp n = true) : fitB (M.1 r1) n.toNatClampNeg = true := (abOk_s h).2
section ZTV
variable {own : String} {cc : ByteArray} {nL : Nat} {rt : Option FieldType} {xt : List ExceptionTableEntry} {nme : String} {R : Room} {Q : QF} {cells slots pc : Nat} {ls : List (Option MV)} {st stk : List MV} {M M2 : Mm}
theorem z_fTv {wv : Wv} {idx n1 d j n : Nat} {y : MethodName} {c1 : ByteArray} {rt1 : Option FieldType} {av : List MV} (hT : TF wv y c1 n1 rt1 d (.inr (30, j, 0) :: av) M none M2) (hd : decode cc pc = .ok (.invokevirtual idx, 3)) (hw : lkV own idx y) (hcd : Cond.code y c1 n1 rt1 ∈ AL) (hj : j < 15) (hn : av.length = n) (hy : (mhOk y n && (y.cls == "java/lang/String")) = true)
    (hrm : rmk d n1 R cells slots = true) (hst : (mcs st).ble 8 = true) (hstk : stk = av.reverse ++ .inr (30, j, 0) :: st)
    (kk : Z own cc nL rt xt nme R Q (allR wv) SH cells slots (pc + 3) ls st M2) : Z own cc nL rt xt nme R Q (allR wv) SH cells slots pc ls stk M := by
  subst hn
  simp only [Bool.and_eq_true, beq_iff_eq] at hy
  exact z_callT hT hd hw hcd hj hy.2 hy.1 hrm hst hstk kk
end ZTV

theorem dJ8_newLength_cabcc_0 : decode cJ8_newLength_cabcc 0 = .ok (.iload_n 0, 1) := by decide +kernel
theorem dJ8_newLength_cabcc_1 : decode cJ8_newLength_cabcc 1 = .ok (.iload_n 1, 1) := by decide +kernel
theorem dJ8_newLength_cabcc_2 : decode cJ8_newLength_cabcc 2 = .ok (.iload_n 2, 1) := by decide +kernel
theorem dJ8_newLength_cabcc_3 : decode cJ8_newLength_cabcc 3 = .ok (.invokestatic 194, 3) := by decide +kernel
theorem dJ8_newLength_cabcc_6 : decode cJ8_newLength_cabcc 6 = .ok (.iadd, 1) := by decide +kernel
theorem dJ8_newLength_cabcc_7 : decode cJ8_newLength_cabcc 7 = .ok (.istore_n 3, 1) := by decide +kernel
theorem dJ8_newLength_cabcc_8 : decode cJ8_newLength_cabcc 8 = .ok (.iconst 0, 1) := by decide +kernel
theorem dJ8_newLength_cabcc_9 : decode cJ8_newLength_cabcc 9 = .ok (.iload_n 3, 1) := by decide +kernel
theorem dJ8_newLength_cabcc_10 : decode cJ8_newLength_cabcc 10 = .ok (.if_icmp .ge 11, 3) := by decide +kernel
theorem dJ8_newLength_cabcc_13 : decode cJ8_newLength_cabcc 13 = .ok (.iload_n 3, 1) := by decide +kernel
theorem dJ8_newLength_cabcc_14 : decode cJ8_newLength_cabcc 14 = .ok (.ldc 200, 2) := by decide +kernel
theorem dJ8_newLength_cabcc_16 : decode cJ8_newLength_cabcc 16 = .ok (.if_icmp .gt 5, 3) := by decide +kernel
theorem dJ8_newLength_cabcc_19 : decode cJ8_newLength_cabcc 19 = .ok (.iload_n 3, 1) := by decide +kernel
theorem dJ8_newLength_cabcc_20 : decode cJ8_newLength_cabcc 20 = .ok (.ireturn, 1) := by decide +kernel
theorem dJ8_newLength_cabcc_21 : decode cJ8_newLength_cabcc 21 = .ok (.iload_n 0, 1) := by decide +kernel
theorem dJ8_newLength_cabcc_22 : decode cJ8_newLength_cabcc 22 = .ok (.iload_n 1, 1) := by decide +kernel
theorem dJ8_newLength_cabcc_23 : decode cJ8_newLength_cabcc 23 = .ok (.invokestatic 201, 3) := by decide +kernel
theorem dJ8_newLength_cabcc_26 : decode cJ8_newLength_cabcc 26 = .ok (.ireturn, 1) := by decide +kernel
def fJ8_newLength_cabcc (M : Mm) (x1 : Int32) (x2 : Int32) (x3 : Int32) : Option Int32 := if (x1 + (fJ9_max_7cf53 M x2 x3)) ≤ (0 : Int32) then none else if (2147483639 : Int32) < (x1 + (fJ9_max_7cf53 M x2 x3)) then none else some (x1 + (fJ9_max_7cf53 M x2 x3))
set_option maxRecDepth 20000 in
set_option maxHeartbeats 2000000 in
theorem sJ8_newLength_cabcc {wv : Wv} (M : Mm) (x1 : Int32) (x2 : Int32) (x3 : Int32) {res : Int32} (h : fJ8_newLength_cabcc M x1 x2 x3 = some res) : TF wv yJ8_newLength_cabcc cJ8_newLength_cabcc 4 (some .int) 1 [.inl (.int x1), .inl (.int x2), .inl (.int x3)] M (some (.int res)) M := by
  rw [fJ8_newLength_cabcc] at h
  refine TF.go (n := 1) (ls := [some (.inl (.int x1)), some (.inl (.int x2)), some (.inl (.int x3)), none]) (by decide +kernel) rfl rfl rfl rfl ?_
  refine z_iload_n (i := 0) dJ8_newLength_cabcc_0 rfl rfl ?_
  refine z_iload_n (i := 1) dJ8_newLength_cabcc_1 rfl rfl ?_
  refine z_iload_n (i := 2) dJ8_newLength_cabcc_2 rfl rfl ?_
  refine z_fSi (sJ9_max_7cf53 M x2 x3) dJ8_newLength_cabcc_3 ml_J8_194 cd_J9_max_7cf53 rfl rfl rfl rfl rfl ?_
  refine z_iadd dJ8_newLength_cabcc_6 ?_
  refine z_istore_n (i := 3) dJ8_newLength_cabcc_7 rfl (Nat.le_of_ble_eq_true rfl) rfl ?_
  refine z_iconst (v := (0 : Int32)) dJ8_newLength_cabcc_8 kc_0 ?_
  refine z_iload_n (i := 3) dJ8_newLength_cabcc_9 rfl rfl ?_
  refine z_icmp_ge (tgt := 21) dJ8_newLength_cabcc_10 rfl (fun hc1 => ?_) (fun hc1 => ?_)
  · have h := it_t h hc1
    refine z_iload_n (i := 0) dJ8_newLength_cabcc_21 rfl rfl ?_
    refine z_iload_n (i := 1) dJ8_newLength_cabcc_22 rfl rfl ?_
    cases h
  · have h := it_f h hc1
    refine z_iload_n (i := 3) dJ8_newLength_cabcc_13 rfl rfl ?_
    refine z_ldc (v := (2147483639 : Int32)) dJ8_newLength_cabcc_14 (al_mem 791 (by decide +kernel) rfl) ?_
    refine z_icmp_gt (tgt := 21) dJ8_newLength_cabcc_16 rfl (fun hc2 => ?_) (fun hc2 => ?_)
    · have h := it_t h hc2
      refine z_iload_n (i := 0) dJ8_newLength_cabcc_21 rfl rfl ?_
      refine z_iload_n (i := 1) dJ8_newLength_cabcc_22 rfl rfl ?_
      cases h
    · have h := it_f h hc2
      refine z_iload_n (i := 3) dJ8_newLength_cabcc_19 rfl rfl ?_
      obtain rfl := Option.some.inj h
      exact z_iret dJ8_newLength_cabcc_20 rfl rfl (Nat.le_refl _) (Nat.le_refl _) ⟨rfl, rfl⟩
theorem dJ5_isLatin1_aae02_0 : decode cJ5_isLatin1_aae02 0 = .ok (.getstatic 18, 3) := by decide +kernel
theorem dJ5_isLatin1_aae02_3 : decode cJ5_isLatin1_aae02 3 = .ok (.ifCond .eq 14, 3) := by decide +kernel
theorem dJ5_isLatin1_aae02_6 : decode cJ5_isLatin1_aae02 6 = .ok (.aload_n 0, 1) := by decide +kernel
theorem dJ5_isLatin1_aae02_7 : decode cJ5_isLatin1_aae02 7 = .ok (.getfield 22, 3) := by decide +kernel
theorem dJ5_isLatin1_aae02_10 : decode cJ5_isLatin1_aae02 10 = .ok (.ifCond .ne 7, 3) := by decide +kernel
theorem dJ5_isLatin1_aae02_13 : decode cJ5_isLatin1_aae02 13 = .ok (.iconst 1, 1) := by decide +kernel
theorem dJ5_isLatin1_aae02_14 : decode cJ5_isLatin1_aae02 14 = .ok (.goto 4, 3) := by decide +kernel
theorem dJ5_isLatin1_aae02_17 : decode cJ5_isLatin1_aae02 17 = .ok (.iconst 0, 1) := by decide +kernel
theorem dJ5_isLatin1_aae02_18 : decode cJ5_isLatin1_aae02 18 = .ok (.ireturn, 1) := by decide +kernel
def fJ5_isLatin1_aae02 (M : Mm) (z : Nat) : Option Int32 := if (M.1 (24, z, 0) 1) = (0 : Int32) then some (1 : Int32) else none
set_option maxRecDepth 20000 in
set_option maxHeartbeats 2000000 in
theorem sJ5_isLatin1_aae02 {wv : Wv} (M : Mm) (z : Nat) (hz : TbI wv z) {res : Int32} (h : fJ5_isLatin1_aae02 M z = some res) : TF wv yJ5_isLatin1_aae02 cJ5_isLatin1_aae02 1 (some .boolean) 0 [.inr (24, z, 0)] M (some (.int res)) M := by
  rw [fJ5_isLatin1_aae02] at h
  refine TF.go (n := 0) (ls := [some (.inr (24, z, 0))]) (by decide +kernel) rfl rfl rfl rfl ?_
  refine z_scom dJ5_isLatin1_aae02_0 gs_J5_18 ?_
  refine z_if_eq (tgt := 17) dJ5_isLatin1_aae02_3 rfl (fun hc1 => absurd hc1 (by decide)) (fun hc1 => ?_)
  refine z_aload_n (i := 0) dJ5_isLatin1_aae02_6 rfl rfl ?_
  obtain ⟨hc2, h⟩ := chk2 h
  refine z_getI (x := (0 : Int32)) dJ5_isLatin1_aae02_7 fl_J5_22 hz.1 rfl hc2 ?_
  refine z_if_ne (tgt := 17) dJ5_isLatin1_aae02_10 rfl (fun hc3 => absurd hc3 (by decide)) (fun hc3 => ?_)
  refine z_iconst (v := (1 : Int32)) dJ5_isLatin1_aae02_13 kc_1 ?_
  refine z_goto (tgt := 18) dJ5_isLatin1_aae02_14 rfl ?_
  obtain rfl := Option.some.inj h
  exact z_iret dJ5_isLatin1_aae02_18 rfl rfl (Nat.le_refl _) (Nat.le_refl _) ⟨rfl, rfl⟩
theorem dJ5_newCapacity_0f7a4_0 : decode cJ5_newCapacity_0f7a4 0 = .ok (.aload_n 0, 1) := by decide +kernel
theorem dJ5_newCapacity_0f7a4_1 : decode cJ5_newCapacity_0f7a4 1 = .ok (.getfield 15, 3) := by decide +kernel
theorem dJ5_newCapacity_0f7a4_4 : decode cJ5_newCapacity_0f7a4 4 = .ok (.arraylength, 1) := by decide +kernel
theorem dJ5_newCapacity_0f7a4_5 : decode cJ5_newCapacity_0f7a4 5 = .ok (.istore_n 2, 1) := by decide +kernel
theorem dJ5_newCapacity_0f7a4_6 : decode cJ5_newCapacity_0f7a4 6 = .ok (.iload_n 1, 1) := by decide +kernel
theorem dJ5_newCapacity_0f7a4_7 : decode cJ5_newCapacity_0f7a4 7 = .ok (.aload_n 0, 1) := by decide +kernel
theorem dJ5_newCapacity_0f7a4_8 : decode cJ5_newCapacity_0f7a4 8 = .ok (.getfield 22, 3) := by decide +kernel
theorem dJ5_newCapacity_0f7a4_11 : decode cJ5_newCapacity_0f7a4 11 = .ok (.ishl, 1) := by decide +kernel
theorem dJ5_newCapacity_0f7a4_12 : decode cJ5_newCapacity_0f7a4 12 = .ok (.istore_n 3, 1) := by decide +kernel
theorem dJ5_newCapacity_0f7a4_13 : decode cJ5_newCapacity_0f7a4 13 = .ok (.iload_n 3, 1) := by decide +kernel
theorem dJ5_newCapacity_0f7a4_14 : decode cJ5_newCapacity_0f7a4 14 = .ok (.iload_n 2, 1) := by decide +kernel
theorem dJ5_newCapacity_0f7a4_15 : decode cJ5_newCapacity_0f7a4 15 = .ok (.isub, 1) := by decide +kernel
theorem dJ5_newCapacity_0f7a4_16 : decode cJ5_newCapacity_0f7a4 16 = .ok (.istore 4, 2) := by decide +kernel
theorem dJ5_newCapacity_0f7a4_18 : decode cJ5_newCapacity_0f7a4 18 = .ok (.iload_n 2, 1) := by decide +kernel
theorem dJ5_newCapacity_0f7a4_19 : decode cJ5_newCapacity_0f7a4 19 = .ok (.iload 4, 2) := by decide +kernel
theorem dJ5_newCapacity_0f7a4_21 : decode cJ5_newCapacity_0f7a4 21 = .ok (.iload_n 2, 1) := by decide +kernel
theorem dJ5_newCapacity_0f7a4_22 : decode cJ5_newCapacity_0f7a4 22 = .ok (.iconst 2, 1) := by decide +kernel
theorem dJ5_newCapacity_0f7a4_23 : decode cJ5_newCapacity_0f7a4 23 = .ok (.aload_n 0, 1) := by decide +kernel
theorem dJ5_newCapacity_0f7a4_24 : decode cJ5_newCapacity_0f7a4 24 = .ok (.getfield 22, 3) := by decide +kernel
theorem dJ5_newCapacity_0f7a4_27 : decode cJ5_newCapacity_0f7a4 27 = .ok (.ishl, 1) := by decide +kernel
theorem dJ5_newCapacity_0f7a4_28 : decode cJ5_newCapacity_0f7a4 28 = .ok (.iadd, 1) := by decide +kernel
theorem dJ5_newCapacity_0f7a4_29 : decode cJ5_newCapacity_0f7a4 29 = .ok (.invokestatic 114, 3) := by decide +kernel
theorem dJ5_newCapacity_0f7a4_32 : decode cJ5_newCapacity_0f7a4 32 = .ok (.istore 5, 2) := by decide +kernel
theorem dJ5_newCapacity_0f7a4_34 : decode cJ5_newCapacity_0f7a4 34 = .ok (.iload 5, 2) := by decide +kernel
theorem dJ5_newCapacity_0f7a4_36 : decode cJ5_newCapacity_0f7a4 36 = .ok (.ldc 39, 2) := by decide +kernel
theorem dJ5_newCapacity_0f7a4_38 : decode cJ5_newCapacity_0f7a4 38 = .ok (.if_icmp .ne 13, 3) := by decide +kernel
theorem dJ5_newCapacity_0f7a4_41 : decode cJ5_newCapacity_0f7a4 41 = .ok (.new 120, 3) := by decide +kernel
theorem dJ5_newCapacity_0f7a4_44 : decode cJ5_newCapacity_0f7a4 44 = .ok (.dup, 1) := by decide +kernel
theorem dJ5_newCapacity_0f7a4_45 : decode cJ5_newCapacity_0f7a4 45 = .ok (.ldc 122, 2) := by decide +kernel
theorem dJ5_newCapacity_0f7a4_47 : decode cJ5_newCapacity_0f7a4 47 = .ok (.invokespecial 124, 3) := by decide +kernel
theorem dJ5_newCapacity_0f7a4_50 : decode cJ5_newCapacity_0f7a4 50 = .ok (.athrow, 1) := by decide +kernel
theorem dJ5_newCapacity_0f7a4_51 : decode cJ5_newCapacity_0f7a4 51 = .ok (.iload 5, 2) := by decide +kernel
theorem dJ5_newCapacity_0f7a4_53 : decode cJ5_newCapacity_0f7a4 53 = .ok (.aload_n 0, 1) := by decide +kernel
theorem dJ5_newCapacity_0f7a4_54 : decode cJ5_newCapacity_0f7a4 54 = .ok (.getfield 22, 3) := by decide +kernel
theorem dJ5_newCapacity_0f7a4_57 : decode cJ5_newCapacity_0f7a4 57 = .ok (.ishr, 1) := by decide +kernel
theorem dJ5_newCapacity_0f7a4_58 : decode cJ5_newCapacity_0f7a4 58 = .ok (.ireturn, 1) := by decide +kernel
def fJ5_newCapacity_0f7a4 (M : Mm) (z : Nat) (x2 : Int32) : Option Int32 := if (0 : Int32) ≤ (M.1 (25, z, 0) LG) then (if (M.1 (24, z, 0) 1) = (0 : Int32) then (if (M.1 (24, z, 0) 1) = (0 : Int32) then ((fJ8_newLength_cabcc M (M.1 (25, z, 0) LG) (x2 - (M.1 (25, z, 0) LG)) ((M.1 (25, z, 0) LG) + (2 : Int32))).bind fun q4 => if q4 = (2147483647 : Int32) then none else if (M.1 (24, z, 0) 1) = (0 : Int32) then some q4 else none) else none) else none) else none
set_option maxRecDepth 20000 in
set_option maxHeartbeats 2000000 in
theorem sJ5_newCapacity_0f7a4 {wv : Wv} (M : Mm) (z : Nat) (x2 : Int32) (hz : TbI wv z) {res : Int32} (h : fJ5_newCapacity_0f7a4 M z x2 = some res) : TF wv yJ5_newCapacity_0f7a4 cJ5_newCapacity_0f7a4 6 (some .int) 2 [.inr (24, z, 0), .inl (.int x2)] M (some (.int res)) M := by
  rw [fJ5_newCapacity_0f7a4] at h
  refine TF.go (n := 4) (ls := [some (.inr (24, z, 0)), some (.inl (.int x2)), none, none, none, none]) (by decide +kernel) rfl rfl rfl rfl ?_
  refine z_aload_n (i := 0) dJ5_newCapacity_0f7a4_0 rfl rfl ?_
  refine z_getR (r' := (25, z, 0)) dJ5_newCapacity_0f7a4_1 fl_J5_15 hz.1 rfl rfl ?_
  obtain ⟨hc1, h⟩ := chk2 h
  refine z_alenB dJ5_newCapacity_0f7a4_4 hz.2 rfl hc1 ?_
  refine z_istore_n (i := 2) dJ5_newCapacity_0f7a4_5 rfl (Nat.le_of_ble_eq_true rfl) rfl ?_
  refine z_iload_n (i := 1) dJ5_newCapacity_0f7a4_6 rfl rfl ?_
  refine z_aload_n (i := 0) dJ5_newCapacity_0f7a4_7 rfl rfl ?_
  obtain ⟨hc2, h⟩ := chk2 h
  refine z_getI (x := (0 : Int32)) dJ5_newCapacity_0f7a4_8 fl_J5_22 hz.1 rfl hc2 ?_
  refine z_ishl0 dJ5_newCapacity_0f7a4_11 ?_
  refine z_istore_n (i := 3) dJ5_newCapacity_0f7a4_12 rfl (Nat.le_of_ble_eq_true rfl) rfl ?_
  refine z_iload_n (i := 3) dJ5_newCapacity_0f7a4_13 rfl rfl ?_
  refine z_iload_n (i := 2) dJ5_newCapacity_0f7a4_14 rfl rfl ?_
  refine z_isub dJ5_newCapacity_0f7a4_15 ?_
  refine z_istore (i := 4) dJ5_newCapacity_0f7a4_16 (Nat.le_of_ble_eq_true rfl) rfl ?_
  refine z_iload_n (i := 2) dJ5_newCapacity_0f7a4_18 rfl rfl ?_
  refine z_iload (i := 4) dJ5_newCapacity_0f7a4_19 rfl ?_
  refine z_iload_n (i := 2) dJ5_newCapacity_0f7a4_21 rfl rfl ?_
  refine z_iconst (v := (2 : Int32)) dJ5_newCapacity_0f7a4_22 kc_2 ?_
  refine z_aload_n (i := 0) dJ5_newCapacity_0f7a4_23 rfl rfl ?_
  obtain ⟨hc3, h⟩ := chk2 h
  refine z_getI (x := (0 : Int32)) dJ5_newCapacity_0f7a4_24 fl_J5_22 hz.1 rfl hc3 ?_
  refine z_ishl0 dJ5_newCapacity_0f7a4_27 ?_
  refine z_iadd dJ5_newCapacity_0f7a4_28 ?_
  obtain ⟨q4, hq5, h⟩ := bnd h
  refine z_fSi (sJ8_newLength_cabcc M (M.1 (25, z, 0) LG) (x2 - (M.1 (25, z, 0) LG)) ((M.1 (25, z, 0) LG) + (2 : Int32)) hq5) dJ5_newCapacity_0f7a4_29 ml_J5_114 cd_J8_newLength_cabcc rfl rfl rfl rfl rfl ?_
  refine z_istore (i := 5) dJ5_newCapacity_0f7a4_32 (Nat.le_of_ble_eq_true rfl) rfl ?_
  refine z_iload (i := 5) dJ5_newCapacity_0f7a4_34 rfl ?_
  refine z_ldc (v := (2147483647 : Int32)) dJ5_newCapacity_0f7a4_36 (al_mem 795 (by decide +kernel) rfl) ?_
  refine z_icmp_ne (tgt := 51) dJ5_newCapacity_0f7a4_38 rfl (fun hc6 => ?_) (fun hc6 => ?_)
  · have h := it_f h hc6
    refine z_iload (i := 5) dJ5_newCapacity_0f7a4_51 rfl ?_
    refine z_aload_n (i := 0) dJ5_newCapacity_0f7a4_53 rfl rfl ?_
    obtain ⟨hc7, h⟩ := chk2 h
    refine z_getI (x := (0 : Int32)) dJ5_newCapacity_0f7a4_54 fl_J5_22 hz.1 rfl hc7 ?_
    refine z_ishr0 dJ5_newCapacity_0f7a4_57 ?_
    obtain rfl := Option.some.inj h
    exact z_iret dJ5_newCapacity_0f7a4_58 rfl rfl (Nat.le_refl _) (Nat.le_refl _) ⟨rfl, rfl⟩
  · have h := it_t h hc6
    cases h
theorem dJ1_canEncode_fc78d_0 : decode cJ1_canEncode_fc78d 0 = .ok (.iload_n 0, 1) := by decide +kernel
theorem dJ1_canEncode_fc78d_1 : decode cJ1_canEncode_fc78d 1 = .ok (.sipush 255, 3) := by decide +kernel
theorem dJ1_canEncode_fc78d_4 : decode cJ1_canEncode_fc78d 4 = .ok (.if_icmp .gt 7, 3) := by decide +kernel
theorem dJ1_canEncode_fc78d_7 : decode cJ1_canEncode_fc78d 7 = .ok (.iconst 1, 1) := by decide +kernel
theorem dJ1_canEncode_fc78d_8 : decode cJ1_canEncode_fc78d 8 = .ok (.goto 4, 3) := by decide +kernel
theorem dJ1_canEncode_fc78d_11 : decode cJ1_canEncode_fc78d 11 = .ok (.iconst 0, 1) := by decide +kernel
theorem dJ1_canEncode_fc78d_12 : decode cJ1_canEncode_fc78d 12 = .ok (.ireturn, 1) := by decide +kernel
def fJ1_canEncode_fc78d (M : Mm) (x1 : Int32) : Option Int32 := if (255 : Int32) < x1 then some (0 : Int32) else some (1 : Int32)
set_option maxRecDepth 20000 in
set_option maxHeartbeats 2000000 in
theorem sJ1_canEncode_fc78d {wv : Wv} (M : Mm) (x1 : Int32) {res : Int32} (h : fJ1_canEncode_fc78d M x1 = some res) : TF wv yJ1_canEncode_fc78d cJ1_canEncode_fc78d 1 (some .boolean) 0 [.inl (.int x1)] M (some (.int res)) M := by
  rw [fJ1_canEncode_fc78d] at h
  refine TF.go (n := 0) (ls := [some (.inl (.int x1))]) (by decide +kernel) rfl rfl rfl rfl ?_
  refine z_iload_n (i := 0) dJ1_canEncode_fc78d_0 rfl rfl ?_
  refine z_sipush (v := (255 : Int32)) dJ1_canEncode_fc78d_1 ks_255 ?_
  refine z_icmp_gt (tgt := 11) dJ1_canEncode_fc78d_4 rfl (fun hc1 => ?_) (fun hc1 => ?_)
  · have h := it_t h hc1
    refine z_iconst (v := (0 : Int32)) dJ1_canEncode_fc78d_11 kc_0 ?_
    obtain rfl := Option.some.inj h
    exact z_iret dJ1_canEncode_fc78d_12 rfl rfl (Nat.le_refl _) (Nat.le_refl _) ⟨rfl, rfl⟩
  · have h := it_f h hc1
    refine z_iconst (v := (1 : Int32)) dJ1_canEncode_fc78d_7 kc_1 ?_
    refine z_goto (tgt := 12) dJ1_canEncode_fc78d_8 rfl ?_
    obtain rfl := Option.some.inj h
    exact z_iret dJ1_canEncode_fc78d_12 rfl rfl (Nat.le_refl _) (Nat.le_refl _) ⟨rfl, rfl⟩
theorem dJ6_stringSize_0f7a4_0 : decode cJ6_stringSize_0f7a4 0 = .ok (.iconst 1, 1) := by decide +kernel
theorem dJ6_stringSize_0f7a4_1 : decode cJ6_stringSize_0f7a4 1 = .ok (.istore_n 1, 1) := by decide +kernel
theorem dJ6_stringSize_0f7a4_2 : decode cJ6_stringSize_0f7a4 2 = .ok (.iload_n 0, 1) := by decide +kernel
theorem dJ6_stringSize_0f7a4_3 : decode cJ6_stringSize_0f7a4 3 = .ok (.ifCond .lt 8, 3) := by decide +kernel
theorem dJ6_stringSize_0f7a4_6 : decode cJ6_stringSize_0f7a4 6 = .ok (.iconst 0, 1) := by decide +kernel
theorem dJ6_stringSize_0f7a4_7 : decode cJ6_stringSize_0f7a4 7 = .ok (.istore_n 1, 1) := by decide +kernel
theorem dJ6_stringSize_0f7a4_8 : decode cJ6_stringSize_0f7a4 8 = .ok (.iload_n 0, 1) := by decide +kernel
theorem dJ6_stringSize_0f7a4_9 : decode cJ6_stringSize_0f7a4 9 = .ok (.ineg, 1) := by decide +kernel
theorem dJ6_stringSize_0f7a4_10 : decode cJ6_stringSize_0f7a4 10 = .ok (.istore_n 0, 1) := by decide +kernel
theorem dJ6_stringSize_0f7a4_11 : decode cJ6_stringSize_0f7a4 11 = .ok (.bipush (-10), 2) := by decide +kernel
theorem dJ6_stringSize_0f7a4_13 : decode cJ6_stringSize_0f7a4 13 = .ok (.istore_n 2, 1) := by decide +kernel
theorem dJ6_stringSize_0f7a4_14 : decode cJ6_stringSize_0f7a4 14 = .ok (.iconst 1, 1) := by decide +kernel
theorem dJ6_stringSize_0f7a4_15 : decode cJ6_stringSize_0f7a4 15 = .ok (.istore_n 3, 1) := by decide +kernel
theorem dJ6_stringSize_0f7a4_16 : decode cJ6_stringSize_0f7a4 16 = .ok (.iload_n 3, 1) := by decide +kernel
theorem dJ6_stringSize_0f7a4_17 : decode cJ6_stringSize_0f7a4 17 = .ok (.bipush 10, 2) := by decide +kernel
theorem dJ6_stringSize_0f7a4_19 : decode cJ6_stringSize_0f7a4 19 = .ok (.if_icmp .ge 23, 3) := by decide +kernel
theorem dJ6_stringSize_0f7a4_22 : decode cJ6_stringSize_0f7a4 22 = .ok (.iload_n 0, 1) := by decide +kernel
theorem dJ6_stringSize_0f7a4_23 : decode cJ6_stringSize_0f7a4 23 = .ok (.iload_n 2, 1) := by decide +kernel
theorem dJ6_stringSize_0f7a4_24 : decode cJ6_stringSize_0f7a4 24 = .ok (.if_icmp .le 7, 3) := by decide +kernel
theorem dJ6_stringSize_0f7a4_27 : decode cJ6_stringSize_0f7a4 27 = .ok (.iload_n 3, 1) := by decide +kernel
theorem dJ6_stringSize_0f7a4_28 : decode cJ6_stringSize_0f7a4 28 = .ok (.iload_n 1, 1) := by decide +kernel
theorem dJ6_stringSize_0f7a4_29 : decode cJ6_stringSize_0f7a4 29 = .ok (.iadd, 1) := by decide +kernel
theorem dJ6_stringSize_0f7a4_30 : decode cJ6_stringSize_0f7a4 30 = .ok (.ireturn, 1) := by decide +kernel
theorem dJ6_stringSize_0f7a4_31 : decode cJ6_stringSize_0f7a4 31 = .ok (.bipush 10, 2) := by decide +kernel
theorem dJ6_stringSize_0f7a4_33 : decode cJ6_stringSize_0f7a4 33 = .ok (.iload_n 2, 1) := by decide +kernel
theorem dJ6_stringSize_0f7a4_34 : decode cJ6_stringSize_0f7a4 34 = .ok (.imul, 1) := by decide +kernel
theorem dJ6_stringSize_0f7a4_35 : decode cJ6_stringSize_0f7a4 35 = .ok (.istore_n 2, 1) := by decide +kernel
theorem dJ6_stringSize_0f7a4_36 : decode cJ6_stringSize_0f7a4 36 = .ok (.iinc 3 1, 3) := by decide +kernel
theorem dJ6_stringSize_0f7a4_39 : decode cJ6_stringSize_0f7a4 39 = .ok (.goto (-23), 3) := by decide +kernel
theorem dJ6_stringSize_0f7a4_42 : decode cJ6_stringSize_0f7a4 42 = .ok (.bipush 10, 2) := by decide +kernel
theorem dJ6_stringSize_0f7a4_44 : decode cJ6_stringSize_0f7a4 44 = .ok (.iload_n 1, 1) := by decide +kernel
theorem dJ6_stringSize_0f7a4_45 : decode cJ6_stringSize_0f7a4 45 = .ok (.iadd, 1) := by decide +kernel
theorem dJ6_stringSize_0f7a4_46 : decode cJ6_stringSize_0f7a4 46 = .ok (.ireturn, 1) := by decide +kernel
def fJ6_stringSize_0f7a4_L16 (M : Mm) (c0 : Int32) (c1 : Int32) (K : Int32 → Int32 → Option Int32) : Nat → Int32 → Int32 → Option Int32
  | 0, _, _ => none
  | n + 1, v2, v3 => if (10 : Int32) ≤ v3 then K v2 v3 else if c0 ≤ v2 then fJ6_stringSize_0f7a4_L16 M c0 c1 K n ((10 : Int32) * v2) (v3 + (1 : Int32)) else some (v3 + c1)
def fJ6_stringSize_0f7a4 (M : Mm) (x1 : Int32) : Option Int32 := if x1 < 0 then (fJ6_stringSize_0f7a4_L16 M x1 (1 : Int32) (fun w4 w5 => some ((10 : Int32) + (1 : Int32))) NF (-10 : Int32) (1 : Int32)) else fJ6_stringSize_0f7a4_L16 M (-x1) (0 : Int32) (fun w6 w7 => some ((10 : Int32) + (0 : Int32))) NF (-10 : Int32) (1 : Int32)
set_option maxRecDepth 20000 in
set_option maxHeartbeats 2000000 in
theorem sJ6_stringSize_0f7a4_L16 {wv : Wv} (M : Mm) (c0 : Int32) (c1 : Int32) {res : Int32} {K : Int32 → Int32 → Option Int32} : ∀ (n : Nat) (v2 : Int32) (v3 : Int32), fJ6_stringSize_0f7a4_L16 M c0 c1 K n v2 v3 = some res →
    (∀ (v2 : Int32) (v3 : Int32), K v2 v3 = some res → Z RJ6 cJ6_stringSize_0f7a4 4 (some .int) [] "stringSize" (rmD 0 0 0) (QM SH (allR wv) 0 0 (fun v M9 => v = some (.int res) ∧ M9 = M) (fun _ _ => False)) (allR wv) SH 0 0 42 [some (.inl (.int c0)), some (.inl (.int c1)), some (.inl (.int v2)), some (.inl (.int v3))] [] M) → Z RJ6 cJ6_stringSize_0f7a4 4 (some .int) [] "stringSize" (rmD 0 0 0) (QM SH (allR wv) 0 0 (fun v M9 => v = some (.int res) ∧ M9 = M) (fun _ _ => False)) (allR wv) SH 0 0 16 [some (.inl (.int c0)), some (.inl (.int c1)), some (.inl (.int v2)), some (.inl (.int v3))] [] M := by
  intro n
  induction n with
  | zero => intro v2 v3 h; cases h
  | succ n ih =>
    intro v2 v3 h hK
    rw [fJ6_stringSize_0f7a4_L16] at h
    refine z_iload_n (i := 3) dJ6_stringSize_0f7a4_16 rfl rfl ?_
    refine z_bipush (v := (10 : Int32)) dJ6_stringSize_0f7a4_17 kb_10 ?_
    refine z_icmp_ge (tgt := 42) dJ6_stringSize_0f7a4_19 rfl (fun hc2 => ?_) (fun hc2 => ?_)
    · have h := it_t h hc2
      exact hK _ _ h
    · have h := it_f h hc2
      refine z_iload_n (i := 0) dJ6_stringSize_0f7a4_22 rfl rfl ?_
      refine z_iload_n (i := 2) dJ6_stringSize_0f7a4_23 rfl rfl ?_
      refine z_icmp_le (tgt := 31) dJ6_stringSize_0f7a4_24 rfl (fun hc3 => ?_) (fun hc3 => ?_)
      · have h := it_t h hc3
        refine z_bipush (v := (10 : Int32)) dJ6_stringSize_0f7a4_31 kb_10 ?_
        refine z_iload_n (i := 2) dJ6_stringSize_0f7a4_33 rfl rfl ?_
        refine z_imul dJ6_stringSize_0f7a4_34 ?_
        refine z_istore_n (i := 2) dJ6_stringSize_0f7a4_35 rfl (Nat.le_of_ble_eq_true rfl) rfl ?_
        refine z_iinc (i := 3) (v := (v3 + (1 : Int32))) dJ6_stringSize_0f7a4_36 rfl (iinc_k kc_1) (Nat.le_of_ble_eq_true rfl) rfl ?_
        refine z_goto (tgt := 16) dJ6_stringSize_0f7a4_39 rfl ?_
        exact ih _ _ h hK
      · have h := it_f h hc3
        refine z_iload_n (i := 3) dJ6_stringSize_0f7a4_27 rfl rfl ?_
        refine z_iload_n (i := 1) dJ6_stringSize_0f7a4_28 rfl rfl ?_
        refine z_iadd dJ6_stringSize_0f7a4_29 ?_
        obtain rfl := Option.some.inj h
        exact z_iret dJ6_stringSize_0f7a4_30 rfl rfl (Nat.le_refl _) (Nat.le_refl _) ⟨rfl, rfl⟩
set_option maxRecDepth 20000 in
set_option maxHeartbeats 2000000 in
theorem sJ6_stringSize_0f7a4 {wv : Wv} (M : Mm) (x1 : Int32) {res : Int32} (h : fJ6_stringSize_0f7a4 M x1 = some res) : TF wv yJ6_stringSize_0f7a4 cJ6_stringSize_0f7a4 4 (some .int) 0 [.inl (.int x1)] M (some (.int res)) M := by
  rw [fJ6_stringSize_0f7a4] at h
  refine TF.go (n := 3) (ls := [some (.inl (.int x1)), none, none, none]) (by decide +kernel) rfl rfl rfl rfl ?_
  refine z_iconst (v := (1 : Int32)) dJ6_stringSize_0f7a4_0 kc_1 ?_
  refine z_istore_n (i := 1) dJ6_stringSize_0f7a4_1 rfl (Nat.le_of_ble_eq_true rfl) rfl ?_
  refine z_iload_n (i := 0) dJ6_stringSize_0f7a4_2 rfl rfl ?_
  refine z_if_lt (tgt := 11) dJ6_stringSize_0f7a4_3 rfl (fun hc1 => ?_) (fun hc1 => ?_)
  · have h := it_t h hc1
    refine z_bipush (v := (-10 : Int32)) dJ6_stringSize_0f7a4_11 kb_m10 ?_
    refine z_istore_n (i := 2) dJ6_stringSize_0f7a4_13 rfl (Nat.le_of_ble_eq_true rfl) rfl ?_
    refine z_iconst (v := (1 : Int32)) dJ6_stringSize_0f7a4_14 kc_1 ?_
    refine z_istore_n (i := 3) dJ6_stringSize_0f7a4_15 rfl (Nat.le_of_ble_eq_true rfl) rfl ?_
    refine sJ6_stringSize_0f7a4_L16 M x1 (1 : Int32) NF _ _ h (fun w4 w5 h => ?_)
    refine z_bipush (v := (10 : Int32)) dJ6_stringSize_0f7a4_42 kb_10 ?_
    refine z_iload_n (i := 1) dJ6_stringSize_0f7a4_44 rfl rfl ?_
    refine z_iadd dJ6_stringSize_0f7a4_45 ?_
    obtain rfl := Option.some.inj h
    exact z_iret dJ6_stringSize_0f7a4_46 rfl rfl (Nat.le_refl _) (Nat.le_refl _) ⟨rfl, rfl⟩
  · have h := it_f h hc1
    refine z_iconst (v := (0 : Int32)) dJ6_stringSize_0f7a4_6 kc_0 ?_
    refine z_istore_n (i := 1) dJ6_stringSize_0f7a4_7 rfl (Nat.le_of_ble_eq_true rfl) rfl ?_
    refine z_iload_n (i := 0) dJ6_stringSize_0f7a4_8 rfl rfl ?_
    refine z_ineg dJ6_stringSize_0f7a4_9 ?_
    refine z_istore_n (i := 0) dJ6_stringSize_0f7a4_10 rfl (Nat.le_of_ble_eq_true rfl) rfl ?_
    refine z_bipush (v := (-10 : Int32)) dJ6_stringSize_0f7a4_11 kb_m10 ?_
    refine z_istore_n (i := 2) dJ6_stringSize_0f7a4_13 rfl (Nat.le_of_ble_eq_true rfl) rfl ?_
    refine z_iconst (v := (1 : Int32)) dJ6_stringSize_0f7a4_14 kc_1 ?_
    refine z_istore_n (i := 3) dJ6_stringSize_0f7a4_15 rfl (Nat.le_of_ble_eq_true rfl) rfl ?_
    refine sJ6_stringSize_0f7a4_L16 M (-x1) (0 : Int32) NF _ _ h (fun w6 w7 h => ?_)
    refine z_bipush (v := (10 : Int32)) dJ6_stringSize_0f7a4_42 kb_10 ?_
    refine z_iload_n (i := 1) dJ6_stringSize_0f7a4_44 rfl rfl ?_
    refine z_iadd dJ6_stringSize_0f7a4_45 ?_
    obtain rfl := Option.some.inj h
    exact z_iret dJ6_stringSize_0f7a4_46 rfl rfl (Nat.le_refl _) (Nat.le_refl _) ⟨rfl, rfl⟩
theorem dJ6_getChars_ba4f3_0 : decode cJ6_getChars_ba4f3 0 = .ok (.iload_n 1, 1) := by decide +kernel
theorem dJ6_getChars_ba4f3_1 : decode cJ6_getChars_ba4f3 1 = .ok (.istore 5, 2) := by decide +kernel
theorem dJ6_getChars_ba4f3_3 : decode cJ6_getChars_ba4f3 3 = .ok (.iload_n 0, 1) := by decide +kernel
theorem dJ6_getChars_ba4f3_4 : decode cJ6_getChars_ba4f3 4 = .ok (.ifCond .ge 7, 3) := by decide +kernel
theorem dJ6_getChars_ba4f3_7 : decode cJ6_getChars_ba4f3 7 = .ok (.iconst 1, 1) := by decide +kernel
theorem dJ6_getChars_ba4f3_8 : decode cJ6_getChars_ba4f3 8 = .ok (.goto 4, 3) := by decide +kernel
theorem dJ6_getChars_ba4f3_11 : decode cJ6_getChars_ba4f3 11 = .ok (.iconst 0, 1) := by decide +kernel
theorem dJ6_getChars_ba4f3_12 : decode cJ6_getChars_ba4f3 12 = .ok (.istore 6, 2) := by decide +kernel
theorem dJ6_getChars_ba4f3_14 : decode cJ6_getChars_ba4f3 14 = .ok (.iload 6, 2) := by decide +kernel
theorem dJ6_getChars_ba4f3_16 : decode cJ6_getChars_ba4f3 16 = .ok (.ifCond .ne 6, 3) := by decide +kernel
theorem dJ6_getChars_ba4f3_19 : decode cJ6_getChars_ba4f3 19 = .ok (.iload_n 0, 1) := by decide +kernel
theorem dJ6_getChars_ba4f3_20 : decode cJ6_getChars_ba4f3 20 = .ok (.ineg, 1) := by decide +kernel
theorem dJ6_getChars_ba4f3_21 : decode cJ6_getChars_ba4f3 21 = .ok (.istore_n 0, 1) := by decide +kernel
theorem dJ6_getChars_ba4f3_22 : decode cJ6_getChars_ba4f3 22 = .ok (.iload_n 0, 1) := by decide +kernel
theorem dJ6_getChars_ba4f3_23 : decode cJ6_getChars_ba4f3 23 = .ok (.bipush (-100), 2) := by decide +kernel
theorem dJ6_getChars_ba4f3_25 : decode cJ6_getChars_ba4f3 25 = .ok (.if_icmp .gt 47, 3) := by decide +kernel
theorem dJ6_getChars_ba4f3_28 : decode cJ6_getChars_ba4f3 28 = .ok (.iload_n 0, 1) := by decide +kernel
theorem dJ6_getChars_ba4f3_29 : decode cJ6_getChars_ba4f3 29 = .ok (.bipush 100, 2) := by decide +kernel
theorem dJ6_getChars_ba4f3_31 : decode cJ6_getChars_ba4f3 31 = .ok (.idiv, 1) := by decide +kernel
theorem dJ6_getChars_ba4f3_32 : decode cJ6_getChars_ba4f3 32 = .ok (.istore_n 3, 1) := by decide +kernel
theorem dJ6_getChars_ba4f3_33 : decode cJ6_getChars_ba4f3 33 = .ok (.iload_n 3, 1) := by decide +kernel
theorem dJ6_getChars_ba4f3_34 : decode cJ6_getChars_ba4f3 34 = .ok (.bipush 100, 2) := by decide +kernel
theorem dJ6_getChars_ba4f3_36 : decode cJ6_getChars_ba4f3 36 = .ok (.imul, 1) := by decide +kernel
theorem dJ6_getChars_ba4f3_37 : decode cJ6_getChars_ba4f3 37 = .ok (.iload_n 0, 1) := by decide +kernel
theorem dJ6_getChars_ba4f3_38 : decode cJ6_getChars_ba4f3 38 = .ok (.isub, 1) := by decide +kernel
theorem dJ6_getChars_ba4f3_39 : decode cJ6_getChars_ba4f3 39 = .ok (.istore 4, 2) := by decide +kernel
theorem dJ6_getChars_ba4f3_41 : decode cJ6_getChars_ba4f3 41 = .ok (.iload_n 3, 1) := by decide +kernel
theorem dJ6_getChars_ba4f3_42 : decode cJ6_getChars_ba4f3 42 = .ok (.istore_n 0, 1) := by decide +kernel
theorem dJ6_getChars_ba4f3_43 : decode cJ6_getChars_ba4f3 43 = .ok (.aload_n 2, 1) := by decide +kernel
theorem dJ6_getChars_ba4f3_44 : decode cJ6_getChars_ba4f3 44 = .ok (.iinc 5 (-1), 3) := by decide +kernel
theorem dJ6_getChars_ba4f3_47 : decode cJ6_getChars_ba4f3 47 = .ok (.iload 5, 2) := by decide +kernel
theorem dJ6_getChars_ba4f3_49 : decode cJ6_getChars_ba4f3 49 = .ok (.getstatic 83, 3) := by decide +kernel
theorem dJ6_getChars_ba4f3_52 : decode cJ6_getChars_ba4f3 52 = .ok (.iload 4, 2) := by decide +kernel
theorem dJ6_getChars_ba4f3_54 : decode cJ6_getChars_ba4f3 54 = .ok (.baload, 1) := by decide +kernel
theorem dJ6_getChars_ba4f3_55 : decode cJ6_getChars_ba4f3 55 = .ok (.bastore, 1) := by decide +kernel
theorem dJ6_getChars_ba4f3_56 : decode cJ6_getChars_ba4f3 56 = .ok (.aload_n 2, 1) := by decide +kernel
theorem dJ6_getChars_ba4f3_57 : decode cJ6_getChars_ba4f3 57 = .ok (.iinc 5 (-1), 3) := by decide +kernel
theorem dJ6_getChars_ba4f3_60 : decode cJ6_getChars_ba4f3 60 = .ok (.iload 5, 2) := by decide +kernel
theorem dJ6_getChars_ba4f3_62 : decode cJ6_getChars_ba4f3 62 = .ok (.getstatic 87, 3) := by decide +kernel
theorem dJ6_getChars_ba4f3_65 : decode cJ6_getChars_ba4f3 65 = .ok (.iload 4, 2) := by decide +kernel
theorem dJ6_getChars_ba4f3_67 : decode cJ6_getChars_ba4f3 67 = .ok (.baload, 1) := by decide +kernel
theorem dJ6_getChars_ba4f3_68 : decode cJ6_getChars_ba4f3 68 = .ok (.bastore, 1) := by decide +kernel
theorem dJ6_getChars_ba4f3_69 : decode cJ6_getChars_ba4f3 69 = .ok (.goto (-47), 3) := by decide +kernel
theorem dJ6_getChars_ba4f3_72 : decode cJ6_getChars_ba4f3 72 = .ok (.aload_n 2, 1) := by decide +kernel
theorem dJ6_getChars_ba4f3_73 : decode cJ6_getChars_ba4f3 73 = .ok (.iinc 5 (-1), 3) := by decide +kernel
theorem dJ6_getChars_ba4f3_76 : decode cJ6_getChars_ba4f3 76 = .ok (.iload 5, 2) := by decide +kernel
theorem dJ6_getChars_ba4f3_78 : decode cJ6_getChars_ba4f3 78 = .ok (.getstatic 83, 3) := by decide +kernel
theorem dJ6_getChars_ba4f3_81 : decode cJ6_getChars_ba4f3 81 = .ok (.iload_n 0, 1) := by decide +kernel
theorem dJ6_getChars_ba4f3_82 : decode cJ6_getChars_ba4f3 82 = .ok (.ineg, 1) := by decide +kernel
theorem dJ6_getChars_ba4f3_83 : decode cJ6_getChars_ba4f3 83 = .ok (.baload, 1) := by decide +kernel
theorem dJ6_getChars_ba4f3_84 : decode cJ6_getChars_ba4f3 84 = .ok (.bastore, 1) := by decide +kernel
theorem dJ6_getChars_ba4f3_85 : decode cJ6_getChars_ba4f3 85 = .ok (.iload_n 0, 1) := by decide +kernel
theorem dJ6_getChars_ba4f3_86 : decode cJ6_getChars_ba4f3 86 = .ok (.bipush (-9), 2) := by decide +kernel
theorem dJ6_getChars_ba4f3_88 : decode cJ6_getChars_ba4f3 88 = .ok (.if_icmp .ge 16, 3) := by decide +kernel
theorem dJ6_getChars_ba4f3_91 : decode cJ6_getChars_ba4f3 91 = .ok (.aload_n 2, 1) := by decide +kernel
theorem dJ6_getChars_ba4f3_92 : decode cJ6_getChars_ba4f3 92 = .ok (.iinc 5 (-1), 3) := by decide +kernel
theorem dJ6_getChars_ba4f3_95 : decode cJ6_getChars_ba4f3 95 = .ok (.iload 5, 2) := by decide +kernel
theorem dJ6_getChars_ba4f3_97 : decode cJ6_getChars_ba4f3 97 = .ok (.getstatic 87, 3) := by decide +kernel
theorem dJ6_getChars_ba4f3_100 : decode cJ6_getChars_ba4f3 100 = .ok (.iload_n 0, 1) := by decide +kernel
theorem dJ6_getChars_ba4f3_101 : decode cJ6_getChars_ba4f3 101 = .ok (.ineg, 1) := by decide +kernel
theorem dJ6_getChars_ba4f3_102 : decode cJ6_getChars_ba4f3 102 = .ok (.baload, 1) := by decide +kernel
theorem dJ6_getChars_ba4f3_103 : decode cJ6_getChars_ba4f3 103 = .ok (.bastore, 1) := by decide +kernel
theorem dJ6_getChars_ba4f3_104 : decode cJ6_getChars_ba4f3 104 = .ok (.iload 6, 2) := by decide +kernel
theorem dJ6_getChars_ba4f3_106 : decode cJ6_getChars_ba4f3 106 = .ok (.ifCond .eq 12, 3) := by decide +kernel
theorem dJ6_getChars_ba4f3_109 : decode cJ6_getChars_ba4f3 109 = .ok (.aload_n 2, 1) := by decide +kernel
theorem dJ6_getChars_ba4f3_110 : decode cJ6_getChars_ba4f3 110 = .ok (.iinc 5 (-1), 3) := by decide +kernel
theorem dJ6_getChars_ba4f3_113 : decode cJ6_getChars_ba4f3 113 = .ok (.iload 5, 2) := by decide +kernel
theorem dJ6_getChars_ba4f3_115 : decode cJ6_getChars_ba4f3 115 = .ok (.bipush 45, 2) := by decide +kernel
theorem dJ6_getChars_ba4f3_117 : decode cJ6_getChars_ba4f3 117 = .ok (.bastore, 1) := by decide +kernel
theorem dJ6_getChars_ba4f3_118 : decode cJ6_getChars_ba4f3 118 = .ok (.iload 5, 2) := by decide +kernel
theorem dJ6_getChars_ba4f3_120 : decode cJ6_getChars_ba4f3 120 = .ok (.ireturn, 1) := by decide +kernel
def fJ6_getChars_ba4f3_L22 (z : Nat) (c6 : Int32) (K : Int32 → Int32 → Mm → Option (Int32 × Mm)) : Nat → Int32 → Int32 → Mm → Option (Int32 × Mm)
  | 0, _, _, _ => none
  | n + 1, v0, v5, M => if (-100 : Int32) < v0 then K v0 v5 M else if (((v0 / (100 : Int32)) * (100 : Int32)) - v0) < 0 ∨ 100 ≤ (((v0 / (100 : Int32)) * (100 : Int32)) - v0).toNatClampNeg then none else (if bsOk M (25, z, 0) (v5 + (-1 : Int32)) (dgt 0 (((v0 / (100 : Int32)) * (100 : Int32)) - v0).toNatClampNeg) = true then (if (((v0 / (100 : Int32)) * (100 : Int32)) - v0) < 0 ∨ 100 ≤ (((v0 / (100 : Int32)) * (100 : Int32)) - v0).toNatClampNeg then none else (if bsOk (putI M (25, z, 0) (v5 + (-1 : Int32)).toNatClampNeg (dgt 0 (((v0 / (100 : Int32)) * (100 : Int32)) - v0).toNatClampNeg)) (25, z, 0) ((v5 + (-1 : Int32)) + (-1 : Int32)) (dgt 1 (((v0 / (100 : Int32)) * (100 : Int32)) - v0).toNatClampNeg) = true then fJ6_getChars_ba4f3_L22 z c6 K n (v0 / (100 : Int32)) ((v5 + (-1 : Int32)) + (-1 : Int32)) (putI (putI M (25, z, 0) (v5 + (-1 : Int32)).toNatClampNeg (dgt 0 (((v0 / (100 : Int32)) * (100 : Int32)) - v0).toNatClampNeg)) (25, z, 0) ((v5 + (-1 : Int32)) + (-1 : Int32)).toNatClampNeg (dgt 1 (((v0 / (100 : Int32)) * (100 : Int32)) - v0).toNatClampNeg)) else none)) else none)
def fJ6_getChars_ba4f3 (M : Mm) (x1 : Int32) (x2 : Int32) (z : Nat) : Option (Int32 × Mm) := if 0 ≤ x1 then (fJ6_getChars_ba4f3_L22 z (0 : Int32) (fun w8 w9 M10 => if (-w8) < 0 ∨ 100 ≤ (-w8).toNatClampNeg then none else (if bsOk M10 (25, z, 0) (w9 + (-1 : Int32)) (dgt 0 (-w8).toNatClampNeg) = true then (if (-9 : Int32) ≤ w8 then some ((w9 + (-1 : Int32)), (putI M10 (25, z, 0) (w9 + (-1 : Int32)).toNatClampNeg (dgt 0 (-w8).toNatClampNeg))) else if (-w8) < 0 ∨ 100 ≤ (-w8).toNatClampNeg then none else (if bsOk (putI M10 (25, z, 0) (w9 + (-1 : Int32)).toNatClampNeg (dgt 0 (-w8).toNatClampNeg)) (25, z, 0) ((w9 + (-1 : Int32)) + (-1 : Int32)) (dgt 1 (-w8).toNatClampNeg) = true then some (((w9 + (-1 : Int32)) + (-1 : Int32)), (putI (putI M10 (25, z, 0) (w9 + (-1 : Int32)).toNatClampNeg (dgt 0 (-w8).toNatClampNeg)) (25, z, 0) ((w9 + (-1 : Int32)) + (-1 : Int32)).toNatClampNeg (dgt 1 (-w8).toNatClampNeg))) else none)) else none)) NF (-x1) x2 M) else fJ6_getChars_ba4f3_L22 z (1 : Int32) (fun w19 w20 M21 => if (-w19) < 0 ∨ 100 ≤ (-w19).toNatClampNeg then none else (if bsOk M21 (25, z, 0) (w20 + (-1 : Int32)) (dgt 0 (-w19).toNatClampNeg) = true then (if (-9 : Int32) ≤ w19 then (if bsOk (putI M21 (25, z, 0) (w20 + (-1 : Int32)).toNatClampNeg (dgt 0 (-w19).toNatClampNeg)) (25, z, 0) ((w20 + (-1 : Int32)) + (-1 : Int32)) (45 : Int32) = true then some (((w20 + (-1 : Int32)) + (-1 : Int32)), (putI (putI M21 (25, z, 0) (w20 + (-1 : Int32)).toNatClampNeg (dgt 0 (-w19).toNatClampNeg)) (25, z, 0) ((w20 + (-1 : Int32)) + (-1 : Int32)).toNatClampNeg (45 : Int32))) else none) else if (-w19) < 0 ∨ 100 ≤ (-w19).toNatClampNeg then none else (if bsOk (putI M21 (25, z, 0) (w20 + (-1 : Int32)).toNatClampNeg (dgt 0 (-w19).toNatClampNeg)) (25, z, 0) ((w20 + (-1 : Int32)) + (-1 : Int32)) (dgt 1 (-w19).toNatClampNeg) = true then (if bsOk (putI (putI M21 (25, z, 0) (w20 + (-1 : Int32)).toNatClampNeg (dgt 0 (-w19).toNatClampNeg)) (25, z, 0) ((w20 + (-1 : Int32)) + (-1 : Int32)).toNatClampNeg (dgt 1 (-w19).toNatClampNeg)) (25, z, 0) (((w20 + (-1 : Int32)) + (-1 : Int32)) + (-1 : Int32)) (45 : Int32) = true then some ((((w20 + (-1 : Int32)) + (-1 : Int32)) + (-1 : Int32)), (putI (putI (putI M21 (25, z, 0) (w20 + (-1 : Int32)).toNatClampNeg (dgt 0 (-w19).toNatClampNeg)) (25, z, 0) ((w20 + (-1 : Int32)) + (-1 : Int32)).toNatClampNeg (dgt 1 (-w19).toNatClampNeg)) (25, z, 0) (((w20 + (-1 : Int32)) + (-1 : Int32)) + (-1 : Int32)).toNatClampNeg (45 : Int32))) else none) else none)) else none)) NF x1 x2 M
set_option maxRecDepth 20000 in
set_option maxHeartbeats 2000000 in
theorem sJ6_getChars_ba4f3_L22 {wv : Wv} (z : Nat) (c6 : Int32) (hz : TbI wv z) {res : (Int32 × Mm)} {K : Int32 → Int32 → Mm → Option (Int32 × Mm)} : ∀ (n : Nat) (v0 : Int32) (v5 : Int32) (M : Mm), fJ6_getChars_ba4f3_L22 z c6 K n v0 v5 M = some res →
    (∀ (v0 : Int32) (v5 : Int32) (M : Mm), K v0 v5 M = some res → Z RJ6 cJ6_getChars_ba4f3 7 (some .int) [] "getChars" (rmD 0 0 0) (QM SH (allR wv) 0 0 (fun v M9 => v = some (.int res.1) ∧ M9 = res.2) (fun _ _ => False)) (allR wv) SH 0 0 72 [some (.inl (.int v0)), none, some (.inr (25, z, 0)), none, none, some (.inl (.int v5)), some (.inl (.int c6))] [] M) → Z RJ6 cJ6_getChars_ba4f3 7 (some .int) [] "getChars" (rmD 0 0 0) (QM SH (allR wv) 0 0 (fun v M9 => v = some (.int res.1) ∧ M9 = res.2) (fun _ _ => False)) (allR wv) SH 0 0 22 [some (.inl (.int v0)), none, some (.inr (25, z, 0)), none, none, some (.inl (.int v5)), some (.inl (.int c6))] [] M := by
  intro n
  induction n with
  | zero => intro v0 v5 M h; cases h
  | succ n ih =>
    intro v0 v5 M h hK
    rw [fJ6_getChars_ba4f3_L22] at h
    refine z_iload_n (i := 0) dJ6_getChars_ba4f3_22 rfl rfl ?_
    refine z_bipush (v := (-100 : Int32)) dJ6_getChars_ba4f3_23 kb_m100 ?_
    refine z_icmp_gt (tgt := 72) dJ6_getChars_ba4f3_25 rfl (fun hc3 => ?_) (fun hc3 => ?_)
    · have h := it_t h hc3
      exact hK _ _ _ h
    · have h := it_f h hc3
      refine z_iload_n (i := 0) dJ6_getChars_ba4f3_28 rfl rfl ?_
      refine z_bipush (v := (100 : Int32)) dJ6_getChars_ba4f3_29 kb_100 ?_
      refine z_idiv dJ6_getChars_ba4f3_31 (by decide) ?_
      refine z_istore_n (i := 3) dJ6_getChars_ba4f3_32 rfl (Nat.le_of_ble_eq_true rfl) rfl ?_
      refine z_iload_n (i := 3) dJ6_getChars_ba4f3_33 rfl rfl ?_
      refine z_bipush (v := (100 : Int32)) dJ6_getChars_ba4f3_34 kb_100 ?_
      refine z_imul dJ6_getChars_ba4f3_36 ?_
      refine z_iload_n (i := 0) dJ6_getChars_ba4f3_37 rfl rfl ?_
      refine z_isub dJ6_getChars_ba4f3_38 ?_
      refine z_istore (i := 4) dJ6_getChars_ba4f3_39 (Nat.le_of_ble_eq_true rfl) rfl ?_
      refine z_iload_n (i := 3) dJ6_getChars_ba4f3_41 rfl rfl ?_
      refine z_istore_n (i := 0) dJ6_getChars_ba4f3_42 rfl (Nat.le_of_ble_eq_true rfl) rfl ?_
      refine z_aload_n (i := 2) dJ6_getChars_ba4f3_43 rfl rfl ?_
      refine z_iinc (i := 5) (v := (v5 + (-1 : Int32))) dJ6_getChars_ba4f3_44 rfl (iinc_k kc_m1) (Nat.le_of_ble_eq_true rfl) rfl ?_
      refine z_iload (i := 5) dJ6_getChars_ba4f3_47 rfl ?_
      refine z_dig0 dJ6_getChars_ba4f3_49 gs_J6_83 ?_
      refine z_iload (i := 4) dJ6_getChars_ba4f3_52 rfl ?_
      obtain ⟨hc4, h⟩ := chk h
      refine z_digb dJ6_getChars_ba4f3_54 (by decide) hc4 ?_
      obtain ⟨hc5, h⟩ := chk2 h
      refine z_bast (j := (v5 + (-1 : Int32)).toNatClampNeg) allR_nd dJ6_getChars_ba4f3_55 hz.2 rfl (bsOk_i hc5) (bsOk_l hc5) rfl (bsOk_n hc5) ?_
      refine z_aload_n (i := 2) dJ6_getChars_ba4f3_56 rfl rfl ?_
      refine z_iinc (i := 5) (v := ((v5 + (-1 : Int32)) + (-1 : Int32))) dJ6_getChars_ba4f3_57 rfl (iinc_k kc_m1) (Nat.le_of_ble_eq_true rfl) rfl ?_
      refine z_iload (i := 5) dJ6_getChars_ba4f3_60 rfl ?_
      refine z_dig1 dJ6_getChars_ba4f3_62 gs_J6_87 ?_
      refine z_iload (i := 4) dJ6_getChars_ba4f3_65 rfl ?_
      obtain ⟨hc6, h⟩ := chk h
      refine z_digb dJ6_getChars_ba4f3_67 (by decide) hc6 ?_
      obtain ⟨hc7, h⟩ := chk2 h
      refine z_bast (j := ((v5 + (-1 : Int32)) + (-1 : Int32)).toNatClampNeg) allR_nd dJ6_getChars_ba4f3_68 hz.2 rfl (bsOk_i hc7) (bsOk_l hc7) rfl (bsOk_n hc7) ?_
      refine z_goto (tgt := 22) dJ6_getChars_ba4f3_69 rfl ?_
      refine z_fgt (i := 3) ?_
      refine z_fgt (i := 4) ?_
      exact ih _ _ _ h hK
set_option maxRecDepth 20000 in
set_option maxHeartbeats 2000000 in
theorem sJ6_getChars_ba4f3 {wv : Wv} (M : Mm) (x1 : Int32) (x2 : Int32) (z : Nat) (hz : TbI wv z) {res : (Int32 × Mm)} (h : fJ6_getChars_ba4f3 M x1 x2 z = some res) : TF wv yJ6_getChars_ba4f3 cJ6_getChars_ba4f3 7 (some .int) 0 [.inl (.int x1), .inl (.int x2), .inr (25, z, 0)] M (some (.int res.1)) res.2 := by
  rw [fJ6_getChars_ba4f3] at h
  refine TF.go (n := 4) (ls := [some (.inl (.int x1)), some (.inl (.int x2)), some (.inr (25, z, 0)), none, none, none, none]) (by decide +kernel) rfl rfl rfl rfl ?_
  refine z_iload_n (i := 1) dJ6_getChars_ba4f3_0 rfl rfl ?_
  refine z_istore (i := 5) dJ6_getChars_ba4f3_1 (Nat.le_of_ble_eq_true rfl) rfl ?_
  refine z_iload_n (i := 0) dJ6_getChars_ba4f3_3 rfl rfl ?_
  refine z_if_ge (tgt := 11) dJ6_getChars_ba4f3_4 rfl (fun hc1 => ?_) (fun hc1 => ?_)
  · have h := it_t h hc1
    refine z_iconst (v := (0 : Int32)) dJ6_getChars_ba4f3_11 kc_0 ?_
    refine z_istore (i := 6) dJ6_getChars_ba4f3_12 (Nat.le_of_ble_eq_true rfl) rfl ?_
    refine z_iload (i := 6) dJ6_getChars_ba4f3_14 rfl ?_
    refine z_if_ne (tgt := 22) dJ6_getChars_ba4f3_16 rfl (fun hc2 => absurd hc2 (by decide)) (fun hc2 => ?_)
    refine z_iload_n (i := 0) dJ6_getChars_ba4f3_19 rfl rfl ?_
    refine z_ineg dJ6_getChars_ba4f3_20 ?_
    refine z_istore_n (i := 0) dJ6_getChars_ba4f3_21 rfl (Nat.le_of_ble_eq_true rfl) rfl ?_
    refine z_fgt (i := 1) ?_
    refine sJ6_getChars_ba4f3_L22 z (0 : Int32) hz NF _ _ _ h (fun w8 w9 M10 h => ?_)
    refine z_aload_n (i := 2) dJ6_getChars_ba4f3_72 rfl rfl ?_
    refine z_iinc (i := 5) (v := (w9 + (-1 : Int32))) dJ6_getChars_ba4f3_73 rfl (iinc_k kc_m1) (Nat.le_of_ble_eq_true rfl) rfl ?_
    refine z_iload (i := 5) dJ6_getChars_ba4f3_76 rfl ?_
    refine z_dig0 dJ6_getChars_ba4f3_78 gs_J6_83 ?_
    refine z_iload_n (i := 0) dJ6_getChars_ba4f3_81 rfl rfl ?_
    refine z_ineg dJ6_getChars_ba4f3_82 ?_
    obtain ⟨hc11, h⟩ := chk h
    refine z_digb dJ6_getChars_ba4f3_83 (by decide) hc11 ?_
    obtain ⟨hc12, h⟩ := chk2 h
    refine z_bast (j := (w9 + (-1 : Int32)).toNatClampNeg) allR_nd dJ6_getChars_ba4f3_84 hz.2 rfl (bsOk_i hc12) (bsOk_l hc12) rfl (bsOk_n hc12) ?_
    refine z_iload_n (i := 0) dJ6_getChars_ba4f3_85 rfl rfl ?_
    refine z_bipush (v := (-9 : Int32)) dJ6_getChars_ba4f3_86 kb_m9 ?_
    refine z_icmp_ge (tgt := 104) dJ6_getChars_ba4f3_88 rfl (fun hc13 => ?_) (fun hc13 => ?_)
    · have h := it_t h hc13
      refine z_iload (i := 6) dJ6_getChars_ba4f3_104 rfl ?_
      refine z_if_eq (tgt := 118) dJ6_getChars_ba4f3_106 rfl (fun hc14 => ?_) (fun hc14 => absurd hc14 (by decide))
      refine z_iload (i := 5) dJ6_getChars_ba4f3_118 rfl ?_
      obtain rfl := Option.some.inj h
      exact z_iret dJ6_getChars_ba4f3_120 rfl rfl (Nat.le_refl _) (Nat.le_refl _) ⟨rfl, rfl⟩
    · have h := it_f h hc13
      refine z_aload_n (i := 2) dJ6_getChars_ba4f3_91 rfl rfl ?_
      refine z_iinc (i := 5) (v := ((w9 + (-1 : Int32)) + (-1 : Int32))) dJ6_getChars_ba4f3_92 rfl (iinc_k kc_m1) (Nat.le_of_ble_eq_true rfl) rfl ?_
      refine z_iload (i := 5) dJ6_getChars_ba4f3_95 rfl ?_
      refine z_dig1 dJ6_getChars_ba4f3_97 gs_J6_87 ?_
      refine z_iload_n (i := 0) dJ6_getChars_ba4f3_100 rfl rfl ?_
      refine z_ineg dJ6_getChars_ba4f3_101 ?_
      obtain ⟨hc15, h⟩ := chk h
      refine z_digb dJ6_getChars_ba4f3_102 (by decide) hc15 ?_
      obtain ⟨hc16, h⟩ := chk2 h
      refine z_bast (j := ((w9 + (-1 : Int32)) + (-1 : Int32)).toNatClampNeg) allR_nd dJ6_getChars_ba4f3_103 hz.2 rfl (bsOk_i hc16) (bsOk_l hc16) rfl (bsOk_n hc16) ?_
      refine z_iload (i := 6) dJ6_getChars_ba4f3_104 rfl ?_
      refine z_if_eq (tgt := 118) dJ6_getChars_ba4f3_106 rfl (fun hc17 => ?_) (fun hc17 => absurd hc17 (by decide))
      refine z_iload (i := 5) dJ6_getChars_ba4f3_118 rfl ?_
      obtain rfl := Option.some.inj h
      exact z_iret dJ6_getChars_ba4f3_120 rfl rfl (Nat.le_refl _) (Nat.le_refl _) ⟨rfl, rfl⟩
  · have h := it_f h hc1
    refine z_iconst (v := (1 : Int32)) dJ6_getChars_ba4f3_7 kc_1 ?_
    refine z_goto (tgt := 12) dJ6_getChars_ba4f3_8 rfl ?_
    refine z_istore (i := 6) dJ6_getChars_ba4f3_12 (Nat.le_of_ble_eq_true rfl) rfl ?_
    refine z_iload (i := 6) dJ6_getChars_ba4f3_14 rfl ?_
    refine z_if_ne (tgt := 22) dJ6_getChars_ba4f3_16 rfl (fun hc18 => ?_) (fun hc18 => absurd hc18 (by decide))
    refine z_fgt (i := 1) ?_
    refine sJ6_getChars_ba4f3_L22 z (1 : Int32) hz NF _ _ _ h (fun w19 w20 M21 h => ?_)
    refine z_aload_n (i := 2) dJ6_getChars_ba4f3_72 rfl rfl ?_
    refine z_iinc (i := 5) (v := (w20 + (-1 : Int32))) dJ6_getChars_ba4f3_73 rfl (iinc_k kc_m1) (Nat.le_of_ble_eq_true rfl) rfl ?_
    refine z_iload (i := 5) dJ6_getChars_ba4f3_76 rfl ?_
    refine z_dig0 dJ6_getChars_ba4f3_78 gs_J6_83 ?_
    refine z_iload_n (i := 0) dJ6_getChars_ba4f3_81 rfl rfl ?_
    refine z_ineg dJ6_getChars_ba4f3_82 ?_
    obtain ⟨hc22, h⟩ := chk h
    refine z_digb dJ6_getChars_ba4f3_83 (by decide) hc22 ?_
    obtain ⟨hc23, h⟩ := chk2 h
    refine z_bast (j := (w20 + (-1 : Int32)).toNatClampNeg) allR_nd dJ6_getChars_ba4f3_84 hz.2 rfl (bsOk_i hc23) (bsOk_l hc23) rfl (bsOk_n hc23) ?_
    refine z_iload_n (i := 0) dJ6_getChars_ba4f3_85 rfl rfl ?_
    refine z_bipush (v := (-9 : Int32)) dJ6_getChars_ba4f3_86 kb_m9 ?_
    refine z_icmp_ge (tgt := 104) dJ6_getChars_ba4f3_88 rfl (fun hc24 => ?_) (fun hc24 => ?_)
    · have h := it_t h hc24
      refine z_iload (i := 6) dJ6_getChars_ba4f3_104 rfl ?_
      refine z_if_eq (tgt := 118) dJ6_getChars_ba4f3_106 rfl (fun hc25 => absurd hc25 (by decide)) (fun hc25 => ?_)
      refine z_aload_n (i := 2) dJ6_getChars_ba4f3_109 rfl rfl ?_
      refine z_iinc (i := 5) (v := ((w20 + (-1 : Int32)) + (-1 : Int32))) dJ6_getChars_ba4f3_110 rfl (iinc_k kc_m1) (Nat.le_of_ble_eq_true rfl) rfl ?_
      refine z_iload (i := 5) dJ6_getChars_ba4f3_113 rfl ?_
      refine z_bipush (v := (45 : Int32)) dJ6_getChars_ba4f3_115 kb_45 ?_
      obtain ⟨hc26, h⟩ := chk2 h
      refine z_bast (j := ((w20 + (-1 : Int32)) + (-1 : Int32)).toNatClampNeg) allR_nd dJ6_getChars_ba4f3_117 hz.2 rfl (bsOk_i hc26) (bsOk_l hc26) rfl (bsOk_n hc26) ?_
      refine z_iload (i := 5) dJ6_getChars_ba4f3_118 rfl ?_
      obtain rfl := Option.some.inj h
      exact z_iret dJ6_getChars_ba4f3_120 rfl rfl (Nat.le_refl _) (Nat.le_refl _) ⟨rfl, rfl⟩
    · have h := it_f h hc24
      refine z_aload_n (i := 2) dJ6_getChars_ba4f3_91 rfl rfl ?_
      refine z_iinc (i := 5) (v := ((w20 + (-1 : Int32)) + (-1 : Int32))) dJ6_getChars_ba4f3_92 rfl (iinc_k kc_m1) (Nat.le_of_ble_eq_true rfl) rfl ?_
      refine z_iload (i := 5) dJ6_getChars_ba4f3_95 rfl ?_
      refine z_dig1 dJ6_getChars_ba4f3_97 gs_J6_87 ?_
      refine z_iload_n (i := 0) dJ6_getChars_ba4f3_100 rfl rfl ?_
      refine z_ineg dJ6_getChars_ba4f3_101 ?_
      obtain ⟨hc27, h⟩ := chk h
      refine z_digb dJ6_getChars_ba4f3_102 (by decide) hc27 ?_
      obtain ⟨hc28, h⟩ := chk2 h
      refine z_bast (j := ((w20 + (-1 : Int32)) + (-1 : Int32)).toNatClampNeg) allR_nd dJ6_getChars_ba4f3_103 hz.2 rfl (bsOk_i hc28) (bsOk_l hc28) rfl (bsOk_n hc28) ?_
      refine z_iload (i := 6) dJ6_getChars_ba4f3_104 rfl ?_
      refine z_if_eq (tgt := 118) dJ6_getChars_ba4f3_106 rfl (fun hc29 => absurd hc29 (by decide)) (fun hc29 => ?_)
      refine z_aload_n (i := 2) dJ6_getChars_ba4f3_109 rfl rfl ?_
      refine z_iinc (i := 5) (v := (((w20 + (-1 : Int32)) + (-1 : Int32)) + (-1 : Int32))) dJ6_getChars_ba4f3_110 rfl (iinc_k kc_m1) (Nat.le_of_ble_eq_true rfl) rfl ?_
      refine z_iload (i := 5) dJ6_getChars_ba4f3_113 rfl ?_
      refine z_bipush (v := (45 : Int32)) dJ6_getChars_ba4f3_115 kb_45 ?_
      obtain ⟨hc30, h⟩ := chk2 h
      refine z_bast (j := (((w20 + (-1 : Int32)) + (-1 : Int32)) + (-1 : Int32)).toNatClampNeg) allR_nd dJ6_getChars_ba4f3_117 hz.2 rfl (bsOk_i hc30) (bsOk_l hc30) rfl (bsOk_n hc30) ?_
      refine z_iload (i := 5) dJ6_getChars_ba4f3_118 rfl ?_
      obtain rfl := Option.some.inj h
      exact z_iret dJ6_getChars_ba4f3_120 rfl rfl (Nat.le_refl _) (Nat.le_refl _) ⟨rfl, rfl⟩
def fJ0_coder_7d493M (M : Mm) (y : Nat) : Option Int32 := if (M.1 (28, y, 0) 1) = (0 : Int32) then some (0 : Int32) else none
set_option maxRecDepth 20000 in
set_option maxHeartbeats 2000000 in
theorem sJ0_coder_7d493M {wv : Wv} (M : Mm) (y : Nat) (hy : StI wv y) {res : Int32} (h : fJ0_coder_7d493M M y = some res) : TF wv yJ0_coder_7d493 cJ0_coder_7d493 1 (some .byte) 0 [.inr (28, y, 0)] M (some (.int res)) M := by
  rw [fJ0_coder_7d493M] at h
  refine TF.go (n := 0) (ls := [some (.inr (28, y, 0))]) (by decide +kernel) rfl rfl rfl rfl ?_
  refine z_scom dJ0_coder_7d493_0 gs_J0_38 ?_
  refine z_if_eq (tgt := 13) dJ0_coder_7d493_3 rfl (fun hc1 => absurd hc1 (by decide)) (fun hc1 => ?_)
  refine z_aload_n (i := 0) dJ0_coder_7d493_6 rfl rfl ?_
  obtain ⟨hc2, h⟩ := chk2 h
  refine z_getI (x := (0 : Int32)) dJ0_coder_7d493_7 fl_J0_15 hy.1 rfl hc2 ?_
  refine z_goto (tgt := 14) dJ0_coder_7d493_10 rfl ?_
  obtain rfl := Option.some.inj h
  exact z_iret dJ0_coder_7d493_14 rfl rfl (Nat.le_refl _) (Nat.le_refl _) ⟨rfl, rfl⟩
def fJ0_isLatin1_aae02M (M : Mm) (y : Nat) : Option Int32 := if (M.1 (28, y, 0) 1) = (0 : Int32) then some (1 : Int32) else none
set_option maxRecDepth 20000 in
set_option maxHeartbeats 2000000 in
theorem sJ0_isLatin1_aae02M {wv : Wv} (M : Mm) (y : Nat) (hy : StI wv y) {res : Int32} (h : fJ0_isLatin1_aae02M M y = some res) : TF wv yJ0_isLatin1_aae02 cJ0_isLatin1_aae02 1 (some .boolean) 0 [.inr (28, y, 0)] M (some (.int res)) M := by
  rw [fJ0_isLatin1_aae02M] at h
  refine TF.go (n := 0) (ls := [some (.inr (28, y, 0))]) (by decide +kernel) rfl rfl rfl rfl ?_
  refine z_scom dJ0_isLatin1_aae02_0 gs_J0_38 ?_
  refine z_if_eq (tgt := 17) dJ0_isLatin1_aae02_3 rfl (fun hc1 => absurd hc1 (by decide)) (fun hc1 => ?_)
  refine z_aload_n (i := 0) dJ0_isLatin1_aae02_6 rfl rfl ?_
  obtain ⟨hc2, h⟩ := chk2 h
  refine z_getI (x := (0 : Int32)) dJ0_isLatin1_aae02_7 fl_J0_15 hy.1 rfl hc2 ?_
  refine z_if_ne (tgt := 17) dJ0_isLatin1_aae02_10 rfl (fun hc3 => absurd hc3 (by decide)) (fun hc3 => ?_)
  refine z_iconst (v := (1 : Int32)) dJ0_isLatin1_aae02_13 kc_1 ?_
  refine z_goto (tgt := 18) dJ0_isLatin1_aae02_14 rfl ?_
  obtain rfl := Option.some.inj h
  exact z_iret dJ0_isLatin1_aae02_18 rfl rfl (Nat.le_refl _) (Nat.le_refl _) ⟨rfl, rfl⟩
def fJ0_length_8abf5M (M : Mm) (y : Nat) : Option Int32 := if (0 : Int32) ≤ (M.1 (29, y, 0) LG) then ((fJ0_coder_7d493M M y).bind fun q2 => some ((M.1 (29, y, 0) LG) >>> (q2 &&& 31))) else none
set_option maxRecDepth 20000 in
set_option maxHeartbeats 2000000 in
theorem sJ0_length_8abf5M {wv : Wv} (M : Mm) (y : Nat) (hy : StI wv y) {res : Int32} (h : fJ0_length_8abf5M M y = some res) : TF wv yJ0_length_8abf5 cJ0_length_8abf5 1 (some .int) 1 [.inr (28, y, 0)] M (some (.int res)) M := by
  rw [fJ0_length_8abf5M] at h
  refine TF.go (n := 0) (ls := [some (.inr (28, y, 0))]) (by decide +kernel) rfl rfl rfl rfl ?_
  refine z_aload_n (i := 0) dJ0_length_8abf5_0 rfl rfl ?_
  refine z_getR (r' := (29, y, 0)) dJ0_length_8abf5_1 fl_J0_9 hy.1 rfl rfl ?_
  obtain ⟨hc1, h⟩ := chk2 h
  refine z_alenB dJ0_length_8abf5_4 hy.2 rfl hc1 ?_
  refine z_aload_n (i := 0) dJ0_length_8abf5_5 rfl rfl ?_
  obtain ⟨q2, hq3, h⟩ := bnd h
  refine z_fVi (sJ0_coder_7d493M M y hy hq3) dJ0_length_8abf5_6 ml_J0_335 cd_J0_coder_7d493 hy.1 rfl rfl rfl rfl rfl rfl ?_
  refine z_ishr dJ0_length_8abf5_9 ?_
  obtain rfl := Option.some.inj h
  exact z_iret dJ0_length_8abf5_10 rfl rfl (Nat.le_refl _) (Nat.le_refl _) ⟨rfl, rfl⟩
def fJ1_charAt_3b067M (M : Mm) (y : Nat) (x2 : Int32) : Option Int32 := if (0 : Int32) ≤ (M.1 (29, y, 0) LG) then (if ¬ x2 < 0 ∧ x2 < (M.1 (29, y, 0) LG) then (if x2 < 0 ∨ (M.1 (29, y, 0) LG).toNatClampNeg ≤ x2.toNatClampNeg then none else (if narrow .char (.int ((((M.1 (29, y, 0) x2.toNatClampNeg) &&& (255 : Int32)).toUInt32 % 65536).toInt32)) = .int ((((M.1 (29, y, 0) x2.toNatClampNeg) &&& (255 : Int32)).toUInt32 % 65536).toInt32) then some ((((M.1 (29, y, 0) x2.toNatClampNeg) &&& (255 : Int32)).toUInt32 % 65536).toInt32) else none)) else none) else none
set_option maxRecDepth 20000 in
set_option maxHeartbeats 2000000 in
theorem sJ1_charAt_3b067M {wv : Wv} (M : Mm) (y : Nat) (x2 : Int32) (hy : StI wv y) {res : Int32} (h : fJ1_charAt_3b067M M y x2 = some res) : TF wv yJ1_charAt_3b067 cJ1_charAt_3b067 2 (some .char) 2 [.inr (29, y, 0), .inl (.int x2)] M (some (.int res)) M := by
  rw [fJ1_charAt_3b067M] at h
  refine TF.go (n := 0) (ls := [some (.inr (29, y, 0)), some (.inl (.int x2))]) (by decide +kernel) rfl rfl rfl rfl ?_
  refine z_iload_n (i := 1) dJ1_charAt_3b067_0 rfl rfl ?_
  refine z_aload_n (i := 0) dJ1_charAt_3b067_1 rfl rfl ?_
  obtain ⟨hc1, h⟩ := chk2 h
  refine z_alenB dJ1_charAt_3b067_2 hy.2 rfl hc1 ?_
  obtain ⟨hc2, h⟩ := chk2 h
  refine z_fSv (n := 2) (S_cki M x2 (M.1 (29, y, 0) LG) hc2.1 hc2.2) dJ1_charAt_3b067_3 ml_J1_9 cd_J0_checkIndex_df160 rfl rfl rfl rfl rfl ?_
  refine z_aload_n (i := 0) dJ1_charAt_3b067_6 rfl rfl ?_
  refine z_iload_n (i := 1) dJ1_charAt_3b067_7 rfl rfl ?_
  obtain ⟨hc3, h⟩ := chk h
  refine z_bald (x := (M.1 (29, y, 0) x2.toNatClampNeg)) dJ1_charAt_3b067_8 hy.2 rfl hc3 rfl ?_
  refine z_sipush (v := (255 : Int32)) dJ1_charAt_3b067_9 ks_255 ?_
  refine z_iand dJ1_charAt_3b067_12 ?_
  refine z_i2c (v := (((M.1 (29, y, 0) x2.toNatClampNeg) &&& (255 : Int32)).toUInt32 % 65536).toInt32) dJ1_charAt_3b067_13 rfl ?_
  obtain ⟨hc4, h⟩ := chk2 h
  obtain rfl := Option.some.inj h
  exact z_iret dJ1_charAt_3b067_14 rfl hc4 (Nat.le_refl _) (Nat.le_refl _) ⟨rfl, rfl⟩
def fJ0_charAt_5068eM (M : Mm) (y : Nat) (x2 : Int32) : Option Int32 := (fJ0_isLatin1_aae02M M y).bind fun q1 => if q1 = 0 then none else (fJ1_charAt_3b067M M y x2).bind fun q4 => if narrow .char (.int q4) = .int q4 then some q4 else none
set_option maxRecDepth 20000 in
set_option maxHeartbeats 2000000 in
theorem sJ0_charAt_5068eM {wv : Wv} (M : Mm) (y : Nat) (x2 : Int32) (hy : StI wv y) {res : Int32} (h : fJ0_charAt_5068eM M y x2 = some res) : TF wv yJ0_charAt_5068e cJ0_charAt_5068e 2 (some .char) 3 [.inr (28, y, 0), .inl (.int x2)] M (some (.int res)) M := by
  rw [fJ0_charAt_5068eM] at h
  refine TF.go (n := 0) (ls := [some (.inr (28, y, 0)), some (.inl (.int x2))]) (by decide +kernel) rfl rfl rfl rfl ?_
  refine z_aload_n (i := 0) dJ0_charAt_5068e_0 rfl rfl ?_
  obtain ⟨q1, hq2, h⟩ := bnd h
  refine z_fVi (sJ0_isLatin1_aae02M M y hy hq2) dJ0_charAt_5068e_1 ml_J0_492 cd_J0_isLatin1_aae02 hy.1 rfl rfl rfl rfl rfl rfl ?_
  refine z_if_eq (tgt := 16) dJ0_charAt_5068e_4 rfl (fun hc3 => ?_) (fun hc3 => ?_)
  · have h := it_t h hc3
    refine z_aload_n (i := 0) dJ0_charAt_5068e_16 rfl rfl ?_
    refine z_getR (r' := (29, y, 0)) dJ0_charAt_5068e_17 fl_J0_9 hy.1 rfl rfl ?_
    refine z_iload_n (i := 1) dJ0_charAt_5068e_20 rfl rfl ?_
    cases h
  · have h := it_f h hc3
    refine z_aload_n (i := 0) dJ0_charAt_5068e_7 rfl rfl ?_
    refine z_getR (r' := (29, y, 0)) dJ0_charAt_5068e_8 fl_J0_9 hy.1 rfl rfl ?_
    refine z_iload_n (i := 1) dJ0_charAt_5068e_11 rfl rfl ?_
    obtain ⟨q4, hq5, h⟩ := bnd h
    refine z_fSi (sJ1_charAt_3b067M M y x2 hy hq5) dJ0_charAt_5068e_12 ml_J0_495 cd_J1_charAt_3b067 rfl rfl rfl rfl rfl ?_
    obtain ⟨hc6, h⟩ := chk2 h
    obtain rfl := Option.some.inj h
    exact z_iret dJ0_charAt_5068e_15 rfl hc6 (Nat.le_refl _) (Nat.le_refl _) ⟨rfl, rfl⟩
theorem dJ5_inflateIfNeededFor_a7421_0 : decode cJ5_inflateIfNeededFor_a7421 0 = .ok (.getstatic 18, 3) := by decide +kernel
theorem dJ5_inflateIfNeededFor_a7421_3 : decode cJ5_inflateIfNeededFor_a7421 3 = .ok (.ifCond .eq 18, 3) := by decide +kernel
theorem dJ5_inflateIfNeededFor_a7421_6 : decode cJ5_inflateIfNeededFor_a7421 6 = .ok (.aload_n 0, 1) := by decide +kernel
theorem dJ5_inflateIfNeededFor_a7421_7 : decode cJ5_inflateIfNeededFor_a7421 7 = .ok (.getfield 22, 3) := by decide +kernel
theorem dJ5_inflateIfNeededFor_a7421_10 : decode cJ5_inflateIfNeededFor_a7421 10 = .ok (.aload_n 1, 1) := by decide +kernel
theorem dJ5_inflateIfNeededFor_a7421_11 : decode cJ5_inflateIfNeededFor_a7421 11 = .ok (.invokevirtual 40, 3) := by decide +kernel
theorem dJ5_inflateIfNeededFor_a7421_14 : decode cJ5_inflateIfNeededFor_a7421 14 = .ok (.if_icmp .eq 7, 3) := by decide +kernel
theorem dJ5_inflateIfNeededFor_a7421_17 : decode cJ5_inflateIfNeededFor_a7421 17 = .ok (.aload_n 0, 1) := by decide +kernel
theorem dJ5_inflateIfNeededFor_a7421_18 : decode cJ5_inflateIfNeededFor_a7421 18 = .ok (.invokevirtual 195, 3) := by decide +kernel
theorem dJ5_inflateIfNeededFor_a7421_21 : decode cJ5_inflateIfNeededFor_a7421 21 = .ok (.return_, 1) := by decide +kernel
def fJ5_inflateIfNeededFor_a7421K (M : Mm) (z : Nat) (j : Nat) : Option Unit := if (M.1 (24, z, 0) 1) = (0 : Int32) then (if (0 : Int32) = (0 : Int32) then some () else none) else none
set_option maxRecDepth 20000 in
set_option maxHeartbeats 2000000 in
theorem sJ5_inflateIfNeededFor_a7421K {wv : Wv} (M : Mm) (z : Nat) (j : Nat) (hz : TbI wv z) (hj : j < 15) {res : Unit} (h : fJ5_inflateIfNeededFor_a7421K M z j = some res) : TF wv yJ5_inflateIfNeededFor_a7421 cJ5_inflateIfNeededFor_a7421 2 none 1 [.inr (24, z, 0), .inr (30, j, 0)] M (none) M := by
  rw [fJ5_inflateIfNeededFor_a7421K] at h
  refine TF.go (n := 0) (ls := [some (.inr (24, z, 0)), some (.inr (30, j, 0))]) (by decide +kernel) rfl rfl rfl rfl ?_
  refine z_scom dJ5_inflateIfNeededFor_a7421_0 gs_J5_18 ?_
  refine z_if_eq (tgt := 21) dJ5_inflateIfNeededFor_a7421_3 rfl (fun hc1 => absurd hc1 (by decide)) (fun hc1 => ?_)
  refine z_aload_n (i := 0) dJ5_inflateIfNeededFor_a7421_6 rfl rfl ?_
  obtain ⟨hc2, h⟩ := chk2 h
  refine z_getI (x := (0 : Int32)) dJ5_inflateIfNeededFor_a7421_7 fl_J5_22 hz.1 rfl hc2 ?_
  refine z_aload_n (i := 1) dJ5_inflateIfNeededFor_a7421_10 rfl rfl ?_
  refine z_fTi (S_coder M j hj) dJ5_inflateIfNeededFor_a7421_11 ml_J5_40 cd_J0_coder_7d493 hj rfl rfl rfl rfl rfl ?_
  refine z_icmp_eq (tgt := 21) dJ5_inflateIfNeededFor_a7421_14 rfl (fun hc3 => ?_) (fun hc3 => ?_)
  · have h := it_t h hc3
    obtain rfl := Option.some.inj h
    exact z_vret dJ5_inflateIfNeededFor_a7421_21 rfl (Nat.le_refl _) (Nat.le_refl _) ⟨rfl, rfl⟩
  · have h := it_f h hc3
    refine z_aload_n (i := 0) dJ5_inflateIfNeededFor_a7421_17 rfl rfl ?_
    cases h
def fJ5_inflateIfNeededFor_a7421M (M : Mm) (z : Nat) (y : Nat) : Option Unit := if (M.1 (24, z, 0) 1) = (0 : Int32) then ((fJ0_coder_7d493M M y).bind fun q3 => if (0 : Int32) = q3 then some () else none) else none
set_option maxRecDepth 20000 in
set_option maxHeartbeats 2000000 in
theorem sJ5_inflateIfNeededFor_a7421M {wv : Wv} (M : Mm) (z : Nat) (y : Nat) (hz : TbI wv z) (hy : StI wv y) {res : Unit} (h : fJ5_inflateIfNeededFor_a7421M M z y = some res) : TF wv yJ5_inflateIfNeededFor_a7421 cJ5_inflateIfNeededFor_a7421 2 none 1 [.inr (24, z, 0), .inr (28, y, 0)] M (none) M := by
  rw [fJ5_inflateIfNeededFor_a7421M] at h
  refine TF.go (n := 0) (ls := [some (.inr (24, z, 0)), some (.inr (28, y, 0))]) (by decide +kernel) rfl rfl rfl rfl ?_
  refine z_scom dJ5_inflateIfNeededFor_a7421_0 gs_J5_18 ?_
  refine z_if_eq (tgt := 21) dJ5_inflateIfNeededFor_a7421_3 rfl (fun hc1 => absurd hc1 (by decide)) (fun hc1 => ?_)
  refine z_aload_n (i := 0) dJ5_inflateIfNeededFor_a7421_6 rfl rfl ?_
  obtain ⟨hc2, h⟩ := chk2 h
  refine z_getI (x := (0 : Int32)) dJ5_inflateIfNeededFor_a7421_7 fl_J5_22 hz.1 rfl hc2 ?_
  refine z_aload_n (i := 1) dJ5_inflateIfNeededFor_a7421_10 rfl rfl ?_
  obtain ⟨q3, hq4, h⟩ := bnd h
  refine z_fVi (sJ0_coder_7d493M M y hy hq4) dJ5_inflateIfNeededFor_a7421_11 ml_J5_40 cd_J0_coder_7d493 hy.1 rfl rfl rfl rfl rfl rfl ?_
  refine z_icmp_eq (tgt := 21) dJ5_inflateIfNeededFor_a7421_14 rfl (fun hc5 => ?_) (fun hc5 => ?_)
  · have h := it_t h hc5
    obtain rfl := Option.some.inj h
    exact z_vret dJ5_inflateIfNeededFor_a7421_21 rfl (Nat.le_refl _) (Nat.le_refl _) ⟨rfl, rfl⟩
  · have h := it_f h hc5
    refine z_aload_n (i := 0) dJ5_inflateIfNeededFor_a7421_17 rfl rfl ?_
    cases h
theorem dJ0_getBytes_840e7_0 : decode cJ0_getBytes_840e7 0 = .ok (.aload_n 0, 1) := by decide +kernel
theorem dJ0_getBytes_840e7_1 : decode cJ0_getBytes_840e7 1 = .ok (.invokevirtual 335, 3) := by decide +kernel
theorem dJ0_getBytes_840e7_4 : decode cJ0_getBytes_840e7 4 = .ok (.iload_n 3, 1) := by decide +kernel
theorem dJ0_getBytes_840e7_5 : decode cJ0_getBytes_840e7 5 = .ok (.if_icmp .ne 23, 3) := by decide +kernel
theorem dJ0_getBytes_840e7_8 : decode cJ0_getBytes_840e7 8 = .ok (.aload_n 0, 1) := by decide +kernel
theorem dJ0_getBytes_840e7_9 : decode cJ0_getBytes_840e7 9 = .ok (.getfield 9, 3) := by decide +kernel
theorem dJ0_getBytes_840e7_12 : decode cJ0_getBytes_840e7 12 = .ok (.iconst 0, 1) := by decide +kernel
theorem dJ0_getBytes_840e7_13 : decode cJ0_getBytes_840e7 13 = .ok (.aload_n 1, 1) := by decide +kernel
theorem dJ0_getBytes_840e7_14 : decode cJ0_getBytes_840e7 14 = .ok (.iload_n 2, 1) := by decide +kernel
theorem dJ0_getBytes_840e7_15 : decode cJ0_getBytes_840e7 15 = .ok (.iload_n 3, 1) := by decide +kernel
theorem dJ0_getBytes_840e7_16 : decode cJ0_getBytes_840e7 16 = .ok (.ishl, 1) := by decide +kernel
theorem dJ0_getBytes_840e7_17 : decode cJ0_getBytes_840e7 17 = .ok (.aload_n 0, 1) := by decide +kernel
theorem dJ0_getBytes_840e7_18 : decode cJ0_getBytes_840e7 18 = .ok (.getfield 9, 3) := by decide +kernel
theorem dJ0_getBytes_840e7_21 : decode cJ0_getBytes_840e7 21 = .ok (.arraylength, 1) := by decide +kernel
theorem dJ0_getBytes_840e7_22 : decode cJ0_getBytes_840e7 22 = .ok (.invokestatic 212, 3) := by decide +kernel
theorem dJ0_getBytes_840e7_25 : decode cJ0_getBytes_840e7 25 = .ok (.goto 18, 3) := by decide +kernel
theorem dJ0_getBytes_840e7_28 : decode cJ0_getBytes_840e7 28 = .ok (.aload_n 0, 1) := by decide +kernel
theorem dJ0_getBytes_840e7_29 : decode cJ0_getBytes_840e7 29 = .ok (.getfield 9, 3) := by decide +kernel
theorem dJ0_getBytes_840e7_32 : decode cJ0_getBytes_840e7 32 = .ok (.iconst 0, 1) := by decide +kernel
theorem dJ0_getBytes_840e7_33 : decode cJ0_getBytes_840e7 33 = .ok (.aload_n 1, 1) := by decide +kernel
theorem dJ0_getBytes_840e7_34 : decode cJ0_getBytes_840e7 34 = .ok (.iload_n 2, 1) := by decide +kernel
theorem dJ0_getBytes_840e7_35 : decode cJ0_getBytes_840e7 35 = .ok (.aload_n 0, 1) := by decide +kernel
theorem dJ0_getBytes_840e7_36 : decode cJ0_getBytes_840e7 36 = .ok (.getfield 9, 3) := by decide +kernel
theorem dJ0_getBytes_840e7_39 : decode cJ0_getBytes_840e7 39 = .ok (.arraylength, 1) := by decide +kernel
theorem dJ0_getBytes_840e7_40 : decode cJ0_getBytes_840e7 40 = .ok (.invokestatic 106, 3) := by decide +kernel
theorem dJ0_getBytes_840e7_43 : decode cJ0_getBytes_840e7 43 = .ok (.return_, 1) := by decide +kernel
def fJ0_getBytes_840e7K (M : Mm) (j : Nat) (z : Nat) (x3 : Int32) (x4 : Int32) : Option Mm := if (0 : Int32) = x4 then (if akOk M j (25, z, 0) (x3 <<< (x4 &&& 31)) = true then (some (cpB M (fun i => (sby j).getD i 0) (25, z, 0) (x3 <<< (x4 &&& 31)).toNatClampNeg (sby j).length)) else none) else none
set_option maxRecDepth 20000 in
set_option maxHeartbeats 2000000 in
theorem sJ0_getBytes_840e7K {wv : Wv} (M : Mm) (j : Nat) (z : Nat) (x3 : Int32) (x4 : Int32) (hj : j < 15) (hz : TbI wv z) {res : Mm} (h : fJ0_getBytes_840e7K M j z x3 x4 = some res) : TF wv yJ0_getBytes_840e7 cJ0_getBytes_840e7 4 none 2 [.inr (30, j, 0), .inr (25, z, 0), .inl (.int x3), .inl (.int x4)] M (none) res := by
  rw [fJ0_getBytes_840e7K] at h
  refine TF.go (n := 0) (ls := [some (.inr (30, j, 0)), some (.inr (25, z, 0)), some (.inl (.int x3)), some (.inl (.int x4))]) (by decide +kernel) rfl rfl rfl rfl ?_
  refine z_aload_n (i := 0) dJ0_getBytes_840e7_0 rfl rfl ?_
  refine z_fTi (S_coder M j hj) dJ0_getBytes_840e7_1 ml_J0_335 cd_J0_coder_7d493 hj rfl rfl rfl rfl rfl ?_
  refine z_iload_n (i := 3) dJ0_getBytes_840e7_4 rfl rfl ?_
  refine z_icmp_ne (tgt := 28) dJ0_getBytes_840e7_5 rfl (fun hc1 => ?_) (fun hc1 => ?_)
  · have h := it_f h hc1
    refine z_aload_n (i := 0) dJ0_getBytes_840e7_28 rfl rfl ?_
    refine z_sval dJ0_getBytes_840e7_29 sl_val hj ?_
    refine z_iconst (v := (0 : Int32)) dJ0_getBytes_840e7_32 kc_0 ?_
    refine z_aload_n (i := 1) dJ0_getBytes_840e7_33 rfl rfl ?_
    refine z_iload_n (i := 2) dJ0_getBytes_840e7_34 rfl rfl ?_
    refine z_aload_n (i := 0) dJ0_getBytes_840e7_35 rfl rfl ?_
    refine z_sval dJ0_getBytes_840e7_36 sl_val hj ?_
    refine z_slen dJ0_getBytes_840e7_39 hj ?_
    cases h
  · have h := it_t h hc1
    refine z_aload_n (i := 0) dJ0_getBytes_840e7_8 rfl rfl ?_
    refine z_sval dJ0_getBytes_840e7_9 sl_val hj ?_
    refine z_iconst (v := (0 : Int32)) dJ0_getBytes_840e7_12 kc_0 ?_
    refine z_aload_n (i := 1) dJ0_getBytes_840e7_13 rfl rfl ?_
    refine z_iload_n (i := 2) dJ0_getBytes_840e7_14 rfl rfl ?_
    refine z_iload_n (i := 3) dJ0_getBytes_840e7_15 rfl rfl ?_
    refine z_ishl dJ0_getBytes_840e7_16 ?_
    refine z_aload_n (i := 0) dJ0_getBytes_840e7_17 rfl rfl ?_
    refine z_sval dJ0_getBytes_840e7_18 sl_val hj ?_
    refine z_slen dJ0_getBytes_840e7_21 hj ?_
    obtain ⟨hc2, h⟩ := chk2 h
    refine z_acopyK allR_nd dJ0_getBytes_840e7_22 ml_J0_212A hj hz.2 rfl (akOk_1 hc2) (akOk_2 hc2) (akOk_3 hc2) ⟨by decide, Nat.le_of_ble_eq_true rfl⟩ ?_
    refine z_goto (tgt := 43) dJ0_getBytes_840e7_25 rfl ?_
    obtain rfl := Option.some.inj h
    exact z_vret dJ0_getBytes_840e7_43 rfl (Nat.le_refl _) (Nat.le_refl _) ⟨rfl, rfl⟩
def fJ0_getBytes_840e7M (M : Mm) (y : Nat) (z : Nat) (x3 : Int32) (x4 : Int32) : Option Mm := (fJ0_coder_7d493M M y).bind fun q1 => if q1 = x4 then (if (0 : Int32) ≤ (M.1 (29, y, 0) LG) then (if abOk M (29, y, 0) (25, z, 0) (x3 <<< (x4 &&& 31)) (M.1 (29, y, 0) LG) = true then some (cpB M (M.1 (29, y, 0)) (25, z, 0) (x3 <<< (x4 &&& 31)).toNatClampNeg (M.1 (29, y, 0) LG).toNatClampNeg) else none) else none) else if (0 : Int32) ≤ (M.1 (29, y, 0) LG) then none else none
set_option maxRecDepth 20000 in
set_option maxHeartbeats 2000000 in
theorem sJ0_getBytes_840e7M {wv : Wv} (M : Mm) (y : Nat) (z : Nat) (x3 : Int32) (x4 : Int32) (hy : StI wv y) (hz : TbI wv z) {res : Mm} (h : fJ0_getBytes_840e7M M y z x3 x4 = some res) : TF wv yJ0_getBytes_840e7 cJ0_getBytes_840e7 4 none 2 [.inr (28, y, 0), .inr (25, z, 0), .inl (.int x3), .inl (.int x4)] M (none) res := by
  rw [fJ0_getBytes_840e7M] at h
  refine TF.go (n := 0) (ls := [some (.inr (28, y, 0)), some (.inr (25, z, 0)), some (.inl (.int x3)), some (.inl (.int x4))]) (by decide +kernel) rfl rfl rfl rfl ?_
  refine z_aload_n (i := 0) dJ0_getBytes_840e7_0 rfl rfl ?_
  obtain ⟨q1, hq2, h⟩ := bnd h
  refine z_fVi (sJ0_coder_7d493M M y hy hq2) dJ0_getBytes_840e7_1 ml_J0_335 cd_J0_coder_7d493 hy.1 rfl rfl rfl rfl rfl rfl ?_
  refine z_iload_n (i := 3) dJ0_getBytes_840e7_4 rfl rfl ?_
  refine z_icmp_ne (tgt := 28) dJ0_getBytes_840e7_5 rfl (fun hc3 => ?_) (fun hc3 => ?_)
  · have h := it_f h hc3
    refine z_aload_n (i := 0) dJ0_getBytes_840e7_28 rfl rfl ?_
    refine z_getR (r' := (29, y, 0)) dJ0_getBytes_840e7_29 fl_J0_9 hy.1 rfl rfl ?_
    refine z_iconst (v := (0 : Int32)) dJ0_getBytes_840e7_32 kc_0 ?_
    refine z_aload_n (i := 1) dJ0_getBytes_840e7_33 rfl rfl ?_
    refine z_iload_n (i := 2) dJ0_getBytes_840e7_34 rfl rfl ?_
    refine z_aload_n (i := 0) dJ0_getBytes_840e7_35 rfl rfl ?_
    refine z_getR (r' := (29, y, 0)) dJ0_getBytes_840e7_36 fl_J0_9 hy.1 rfl rfl ?_
    obtain ⟨hc4, h⟩ := chk2 h
    refine z_alenB dJ0_getBytes_840e7_39 hy.2 rfl hc4 ?_
    cases h
  · have h := it_t h hc3
    refine z_aload_n (i := 0) dJ0_getBytes_840e7_8 rfl rfl ?_
    refine z_getR (r' := (29, y, 0)) dJ0_getBytes_840e7_9 fl_J0_9 hy.1 rfl rfl ?_
    refine z_iconst (v := (0 : Int32)) dJ0_getBytes_840e7_12 kc_0 ?_
    refine z_aload_n (i := 1) dJ0_getBytes_840e7_13 rfl rfl ?_
    refine z_iload_n (i := 2) dJ0_getBytes_840e7_14 rfl rfl ?_
    refine z_iload_n (i := 3) dJ0_getBytes_840e7_15 rfl rfl ?_
    refine z_ishl dJ0_getBytes_840e7_16 ?_
    refine z_aload_n (i := 0) dJ0_getBytes_840e7_17 rfl rfl ?_
    refine z_getR (r' := (29, y, 0)) dJ0_getBytes_840e7_18 fl_J0_9 hy.1 rfl rfl ?_
    obtain ⟨hc5, h⟩ := chk2 h
    refine z_alenB dJ0_getBytes_840e7_21 hy.2 rfl hc5 ?_
    obtain ⟨hc6, h⟩ := chk2 h
    refine z_acopyB allR_nd dJ0_getBytes_840e7_22 ml_J0_212A hy.2 hz.2 rfl rfl (abOk_1 hc6) (abOk_2 hc6) (abOk_3 hc6) (abOk_4 hc6) (abOk_5 hc6) (abOk_6 hc6) ⟨by decide, Nat.le_of_ble_eq_true rfl⟩ ?_
    refine z_goto (tgt := 43) dJ0_getBytes_840e7_25 rfl ?_
    obtain rfl := Option.some.inj h
    exact z_vret dJ0_getBytes_840e7_43 rfl (Nat.le_refl _) (Nat.le_refl _) ⟨rfl, rfl⟩
theorem dJ5_putStringAt_47b60_0 : decode cJ5_putStringAt_47b60 0 = .ok (.aload_n 0, 1) := by decide +kernel
theorem dJ5_putStringAt_47b60_1 : decode cJ5_putStringAt_47b60 1 = .ok (.aload_n 2, 1) := by decide +kernel
theorem dJ5_putStringAt_47b60_2 : decode cJ5_putStringAt_47b60 2 = .ok (.invokevirtual 397, 3) := by decide +kernel
theorem dJ5_putStringAt_47b60_5 : decode cJ5_putStringAt_47b60 5 = .ok (.aload_n 2, 1) := by decide +kernel
theorem dJ5_putStringAt_47b60_6 : decode cJ5_putStringAt_47b60 6 = .ok (.aload_n 0, 1) := by decide +kernel
theorem dJ5_putStringAt_47b60_7 : decode cJ5_putStringAt_47b60 7 = .ok (.getfield 15, 3) := by decide +kernel
theorem dJ5_putStringAt_47b60_10 : decode cJ5_putStringAt_47b60 10 = .ok (.iload_n 1, 1) := by decide +kernel
theorem dJ5_putStringAt_47b60_11 : decode cJ5_putStringAt_47b60 11 = .ok (.aload_n 0, 1) := by decide +kernel
theorem dJ5_putStringAt_47b60_12 : decode cJ5_putStringAt_47b60 12 = .ok (.getfield 22, 3) := by decide +kernel
theorem dJ5_putStringAt_47b60_15 : decode cJ5_putStringAt_47b60 15 = .ok (.invokevirtual 399, 3) := by decide +kernel
theorem dJ5_putStringAt_47b60_18 : decode cJ5_putStringAt_47b60 18 = .ok (.return_, 1) := by decide +kernel
def fJ5_putStringAt_47b60K (M : Mm) (z : Nat) (x2 : Int32) (j : Nat) : Option Mm := (fJ5_inflateIfNeededFor_a7421K M z j).bind fun q1 => if (M.1 (24, z, 0) 1) = (0 : Int32) then ((fJ0_getBytes_840e7K M j z x2 (0 : Int32)).bind fun q4 => some q4) else none
set_option maxRecDepth 20000 in
set_option maxHeartbeats 2000000 in
theorem sJ5_putStringAt_47b60K {wv : Wv} (M : Mm) (z : Nat) (x2 : Int32) (j : Nat) (hz : TbI wv z) (hj : j < 15) {res : Mm} (h : fJ5_putStringAt_47b60K M z x2 j = some res) : TF wv yJ5_putStringAt_47b60 cJ5_putStringAt_47b60 3 none 3 [.inr (24, z, 0), .inl (.int x2), .inr (30, j, 0)] M (none) res := by
  rw [fJ5_putStringAt_47b60K] at h
  refine TF.go (n := 0) (ls := [some (.inr (24, z, 0)), some (.inl (.int x2)), some (.inr (30, j, 0))]) (by decide +kernel) rfl rfl rfl rfl ?_
  refine z_aload_n (i := 0) dJ5_putStringAt_47b60_0 rfl rfl ?_
  refine z_aload_n (i := 2) dJ5_putStringAt_47b60_1 rfl rfl ?_
  obtain ⟨q1, hq2, h⟩ := bnd h
  refine z_cGP (tg_of (sJ5_inflateIfNeededFor_a7421K M z j hz hj hq2)) dJ5_putStringAt_47b60_2 lp_J5_397 cd_J5_inflateIfNeededFor_a7421 hz.1 rfl rfl (rq_o (by decide) (by decide) (by decide) (by decide)) rfl rfl qi_nil rfl rfl rfl hzl ?_
  refine z_aload_n (i := 2) dJ5_putStringAt_47b60_5 rfl rfl ?_
  refine z_aload_n (i := 0) dJ5_putStringAt_47b60_6 rfl rfl ?_
  refine z_getR (r' := (25, z, 0)) dJ5_putStringAt_47b60_7 fl_J5_15 hz.1 rfl rfl ?_
  refine z_iload_n (i := 1) dJ5_putStringAt_47b60_10 rfl rfl ?_
  refine z_aload_n (i := 0) dJ5_putStringAt_47b60_11 rfl rfl ?_
  obtain ⟨hc3, h⟩ := chk2 h
  refine z_getI (x := (0 : Int32)) dJ5_putStringAt_47b60_12 fl_J5_22 hz.1 rfl hc3 ?_
  obtain ⟨q4, hq5, h⟩ := bnd h
  refine z_fTv (sJ0_getBytes_840e7K M j z x2 (0 : Int32) hj hz hq5) dJ5_putStringAt_47b60_15 ml_J5_399 cd_J0_getBytes_840e7 hj rfl rfl rfl rfl rfl ?_
  obtain rfl := Option.some.inj h
  exact z_vret dJ5_putStringAt_47b60_18 rfl (Nat.le_refl _) (Nat.le_refl _) ⟨rfl, rfl⟩
def fJ5_putStringAt_47b60M (M : Mm) (z : Nat) (x2 : Int32) (y : Nat) : Option Mm := (fJ5_inflateIfNeededFor_a7421M M z y).bind fun q1 => if (M.1 (24, z, 0) 1) = (0 : Int32) then ((fJ0_getBytes_840e7M M y z x2 (0 : Int32)).bind fun q4 => some q4) else none
set_option maxRecDepth 20000 in
set_option maxHeartbeats 2000000 in
theorem sJ5_putStringAt_47b60M {wv : Wv} (M : Mm) (z : Nat) (x2 : Int32) (y : Nat) (hz : TbI wv z) (hy : StI wv y) {res : Mm} (h : fJ5_putStringAt_47b60M M z x2 y = some res) : TF wv yJ5_putStringAt_47b60 cJ5_putStringAt_47b60 3 none 3 [.inr (24, z, 0), .inl (.int x2), .inr (28, y, 0)] M (none) res := by
  rw [fJ5_putStringAt_47b60M] at h
  refine TF.go (n := 0) (ls := [some (.inr (24, z, 0)), some (.inl (.int x2)), some (.inr (28, y, 0))]) (by decide +kernel) rfl rfl rfl rfl ?_
  refine z_aload_n (i := 0) dJ5_putStringAt_47b60_0 rfl rfl ?_
  refine z_aload_n (i := 2) dJ5_putStringAt_47b60_1 rfl rfl ?_
  obtain ⟨q1, hq2, h⟩ := bnd h
  refine z_cGP (tg_of (sJ5_inflateIfNeededFor_a7421M M z y hz hy hq2)) dJ5_putStringAt_47b60_2 lp_J5_397 cd_J5_inflateIfNeededFor_a7421 hz.1 rfl rfl (rq_o (by decide) (by decide) (by decide) (by decide)) rfl rfl qi_nil rfl rfl rfl hzl ?_
  refine z_aload_n (i := 2) dJ5_putStringAt_47b60_5 rfl rfl ?_
  refine z_aload_n (i := 0) dJ5_putStringAt_47b60_6 rfl rfl ?_
  refine z_getR (r' := (25, z, 0)) dJ5_putStringAt_47b60_7 fl_J5_15 hz.1 rfl rfl ?_
  refine z_iload_n (i := 1) dJ5_putStringAt_47b60_10 rfl rfl ?_
  refine z_aload_n (i := 0) dJ5_putStringAt_47b60_11 rfl rfl ?_
  obtain ⟨hc3, h⟩ := chk2 h
  refine z_getI (x := (0 : Int32)) dJ5_putStringAt_47b60_12 fl_J5_22 hz.1 rfl hc3 ?_
  obtain ⟨q4, hq5, h⟩ := bnd h
  refine z_fVv (sJ0_getBytes_840e7M M y z x2 (0 : Int32) hy hz hq5) dJ5_putStringAt_47b60_15 ml_J5_399 cd_J0_getBytes_840e7 hy.1 rfl rfl rfl rfl rfl rfl ?_
  obtain rfl := Option.some.inj h
  exact z_vret dJ5_putStringAt_47b60_18 rfl (Nat.le_refl _) (Nat.le_refl _) ⟨rfl, rfl⟩
theorem dJ7_checkLength_df160_0 : decode cJ7_checkLength_df160 0 = .ok (.iload_n 1, 1) := by decide +kernel
theorem dJ7_checkLength_df160_1 : decode cJ7_checkLength_df160 1 = .ok (.iload_n 0, 1) := by decide +kernel
theorem dJ7_checkLength_df160_2 : decode cJ7_checkLength_df160 2 = .ok (.if_icmp .ge 35, 3) := by decide +kernel
theorem dJ7_checkLength_df160_5 : decode cJ7_checkLength_df160 5 = .ok (.new 43, 3) := by decide +kernel
theorem dJ7_checkLength_df160_8 : decode cJ7_checkLength_df160 8 = .ok (.dup, 1) := by decide +kernel
theorem dJ7_checkLength_df160_9 : decode cJ7_checkLength_df160 9 = .ok (.new 45, 3) := by decide +kernel
theorem dJ7_checkLength_df160_12 : decode cJ7_checkLength_df160 12 = .ok (.dup, 1) := by decide +kernel
theorem dJ7_checkLength_df160_13 : decode cJ7_checkLength_df160 13 = .ok (.invokespecial 47, 3) := by decide +kernel
theorem dJ7_checkLength_df160_16 : decode cJ7_checkLength_df160 16 = .ok (.iload_n 0, 1) := by decide +kernel
theorem dJ7_checkLength_df160_17 : decode cJ7_checkLength_df160 17 = .ok (.invokevirtual 54, 3) := by decide +kernel
theorem dJ7_checkLength_df160_20 : decode cJ7_checkLength_df160 20 = .ok (.ldc_w 337, 3) := by decide +kernel
theorem dJ7_checkLength_df160_23 : decode cJ7_checkLength_df160 23 = .ok (.invokevirtual 50, 3) := by decide +kernel
theorem dJ7_checkLength_df160_26 : decode cJ7_checkLength_df160 26 = .ok (.iload_n 1, 1) := by decide +kernel
theorem dJ7_checkLength_df160_27 : decode cJ7_checkLength_df160 27 = .ok (.invokevirtual 54, 3) := by decide +kernel
theorem dJ7_checkLength_df160_30 : decode cJ7_checkLength_df160 30 = .ok (.invokevirtual 61, 3) := by decide +kernel
theorem dJ7_checkLength_df160_33 : decode cJ7_checkLength_df160 33 = .ok (.invokespecial 65, 3) := by decide +kernel
theorem dJ7_checkLength_df160_36 : decode cJ7_checkLength_df160 36 = .ok (.athrow, 1) := by decide +kernel
theorem dJ7_checkLength_df160_37 : decode cJ7_checkLength_df160 37 = .ok (.return_, 1) := by decide +kernel
def fJ7_checkLength_df160 (M : Mm) (x1 : Int32) (x2 : Int32) : Option Unit := if x1 ≤ x2 then some () else none
set_option maxRecDepth 20000 in
set_option maxHeartbeats 2000000 in
theorem sJ7_checkLength_df160 {wv : Wv} (M : Mm) (x1 : Int32) (x2 : Int32) {res : Unit} (h : fJ7_checkLength_df160 M x1 x2 = some res) : TF wv yJ7_checkLength_df160 cJ7_checkLength_df160 2 none 0 [.inl (.int x1), .inl (.int x2)] M (none) M := by
  rw [fJ7_checkLength_df160] at h
  refine TF.go (n := 0) (ls := [some (.inl (.int x1)), some (.inl (.int x2))]) (by decide +kernel) rfl rfl rfl rfl ?_
  refine z_iload_n (i := 1) dJ7_checkLength_df160_0 rfl rfl ?_
  refine z_iload_n (i := 0) dJ7_checkLength_df160_1 rfl rfl ?_
  refine z_icmp_ge (tgt := 37) dJ7_checkLength_df160_2 rfl (fun hc1 => ?_) (fun hc1 => ?_)
  · have h := it_t h hc1
    obtain rfl := Option.some.inj h
    exact z_vret dJ7_checkLength_df160_37 rfl (Nat.le_refl _) (Nat.le_refl _) ⟨rfl, rfl⟩
  · have h := it_f h hc1
    cases h
theorem dJ5_length_8abf5_0 : decode cJ5_length_8abf5 0 = .ok (.aload_n 0, 1) := by decide +kernel
theorem dJ5_length_8abf5_1 : decode cJ5_length_8abf5 1 = .ok (.getfield 79, 3) := by decide +kernel
theorem dJ5_length_8abf5_4 : decode cJ5_length_8abf5 4 = .ok (.ireturn, 1) := by decide +kernel
def fJ5_length_8abf5 (M : Mm) (z : Nat) : Option Int32 := some (M.1 (24, z, 0) 3)
set_option maxRecDepth 20000 in
set_option maxHeartbeats 2000000 in
theorem sJ5_length_8abf5 {wv : Wv} (M : Mm) (z : Nat) (hz : TbI wv z) {res : Int32} (h : fJ5_length_8abf5 M z = some res) : TF wv yJ5_length_8abf5 cJ5_length_8abf5 1 (some .int) 0 [.inr (24, z, 0)] M (some (.int res)) M := by
  rw [fJ5_length_8abf5] at h
  refine TF.go (n := 0) (ls := [some (.inr (24, z, 0))]) (by decide +kernel) rfl rfl rfl rfl ?_
  refine z_aload_n (i := 0) dJ5_length_8abf5_0 rfl rfl ?_
  refine z_getI (x := (M.1 (24, z, 0) 3)) dJ5_length_8abf5_1 fl_J5_79 hz.1 rfl rfl ?_
  obtain rfl := Option.some.inj h
  exact z_iret dJ5_length_8abf5_4 rfl rfl (Nat.le_refl _) (Nat.le_refl _) ⟨rfl, rfl⟩
theorem dJ4_length_8abf5_0 : decode cJ4_length_8abf5 0 = .ok (.aload_n 0, 1) := by decide +kernel
theorem dJ4_length_8abf5_1 : decode cJ4_length_8abf5 1 = .ok (.invokespecial 343, 3) := by decide +kernel
theorem dJ4_length_8abf5_4 : decode cJ4_length_8abf5 4 = .ok (.ireturn, 1) := by decide +kernel
def fJ4_length_8abf5 (M : Mm) (z : Nat) : Option Int32 := (fJ5_length_8abf5 M z).bind fun q1 => some q1
set_option maxRecDepth 20000 in
set_option maxHeartbeats 2000000 in
theorem sJ4_length_8abf5 {wv : Wv} (M : Mm) (z : Nat) (hz : TbI wv z) {res : Int32} (h : fJ4_length_8abf5 M z = some res) : TF wv yJ4_length_8abf5 cJ4_length_8abf5 1 (some .int) 1 [.inr (24, z, 0)] M (some (.int res)) M := by
  rw [fJ4_length_8abf5] at h
  refine TF.go (n := 0) (ls := [some (.inr (24, z, 0))]) (by decide +kernel) rfl rfl rfl rfl ?_
  refine z_aload_n (i := 0) dJ4_length_8abf5_0 rfl rfl ?_
  obtain ⟨q1, hq2, h⟩ := bnd h
  refine z_cGW (tg_of (sJ5_length_8abf5 M z hz hq2)) dJ4_length_8abf5_1 lw_J4_343 cd_J5_length_8abf5 hz.1 rfl rfl (rq_o (by decide) (by decide) (by decide) (by decide)) rfl rfl qi_nil rfl rfl rfl ?_
  obtain rfl := Option.some.inj h
  exact z_iret dJ4_length_8abf5_4 rfl rfl (Nat.le_refl _) (Nat.le_refl _) ⟨rfl, rfl⟩
