/-! a String constant's own methods; the bits of a double -/
theorem dJ0_length_8abf5_0 : decode cJ0_length_8abf5 0 = .ok (.aload_n 0, 1) := by decide +kernel
theorem dJ0_length_8abf5_1 : decode cJ0_length_8abf5 1 = .ok (.getfield 9, 3) := by decide +kernel
theorem dJ0_length_8abf5_4 : decode cJ0_length_8abf5 4 = .ok (.arraylength, 1) := by decide +kernel
theorem dJ0_length_8abf5_5 : decode cJ0_length_8abf5 5 = .ok (.aload_n 0, 1) := by decide +kernel
theorem dJ0_length_8abf5_6 : decode cJ0_length_8abf5 6 = .ok (.invokevirtual 335, 3) := by decide +kernel
theorem dJ0_length_8abf5_9 : decode cJ0_length_8abf5 9 = .ok (.ishr, 1) := by decide +kernel
theorem dJ0_length_8abf5_10 : decode cJ0_length_8abf5 10 = .ok (.ireturn, 1) := by decide +kernel
theorem dJ0_charAt_5068e_0 : decode cJ0_charAt_5068e 0 = .ok (.aload_n 0, 1) := by decide +kernel
theorem dJ0_charAt_5068e_1 : decode cJ0_charAt_5068e 1 = .ok (.invokevirtual 492, 3) := by decide +kernel
theorem dJ0_charAt_5068e_4 : decode cJ0_charAt_5068e 4 = .ok (.ifCond .eq 12, 3) := by decide +kernel
theorem dJ0_charAt_5068e_7 : decode cJ0_charAt_5068e 7 = .ok (.aload_n 0, 1) := by decide +kernel
theorem dJ0_charAt_5068e_8 : decode cJ0_charAt_5068e 8 = .ok (.getfield 9, 3) := by decide +kernel
theorem dJ0_charAt_5068e_11 : decode cJ0_charAt_5068e 11 = .ok (.iload_n 1, 1) := by decide +kernel
theorem dJ0_charAt_5068e_12 : decode cJ0_charAt_5068e 12 = .ok (.invokestatic 495, 3) := by decide +kernel
theorem dJ0_charAt_5068e_15 : decode cJ0_charAt_5068e 15 = .ok (.ireturn, 1) := by decide +kernel
theorem dJ0_charAt_5068e_16 : decode cJ0_charAt_5068e 16 = .ok (.aload_n 0, 1) := by decide +kernel
theorem dJ0_charAt_5068e_17 : decode cJ0_charAt_5068e 17 = .ok (.getfield 9, 3) := by decide +kernel
theorem dJ0_charAt_5068e_20 : decode cJ0_charAt_5068e 20 = .ok (.iload_n 1, 1) := by decide +kernel
theorem dJ0_charAt_5068e_21 : decode cJ0_charAt_5068e 21 = .ok (.invokestatic 498, 3) := by decide +kernel
theorem dJ0_charAt_5068e_24 : decode cJ0_charAt_5068e 24 = .ok (.ireturn, 1) := by decide +kernel
theorem dJ0_coder_7d493_0 : decode cJ0_coder_7d493 0 = .ok (.getstatic 38, 3) := by decide +kernel
theorem dJ0_coder_7d493_3 : decode cJ0_coder_7d493 3 = .ok (.ifCond .eq 10, 3) := by decide +kernel
theorem dJ0_coder_7d493_6 : decode cJ0_coder_7d493 6 = .ok (.aload_n 0, 1) := by decide +kernel
theorem dJ0_coder_7d493_7 : decode cJ0_coder_7d493 7 = .ok (.getfield 15, 3) := by decide +kernel
theorem dJ0_coder_7d493_10 : decode cJ0_coder_7d493 10 = .ok (.goto 4, 3) := by decide +kernel
theorem dJ0_coder_7d493_13 : decode cJ0_coder_7d493 13 = .ok (.iconst 1, 1) := by decide +kernel
theorem dJ0_coder_7d493_14 : decode cJ0_coder_7d493 14 = .ok (.ireturn, 1) := by decide +kernel
theorem dJ0_isLatin1_aae02_0 : decode cJ0_isLatin1_aae02 0 = .ok (.getstatic 38, 3) := by decide +kernel
theorem dJ0_isLatin1_aae02_3 : decode cJ0_isLatin1_aae02 3 = .ok (.ifCond .eq 14, 3) := by decide +kernel
theorem dJ0_isLatin1_aae02_6 : decode cJ0_isLatin1_aae02 6 = .ok (.aload_n 0, 1) := by decide +kernel
theorem dJ0_isLatin1_aae02_7 : decode cJ0_isLatin1_aae02 7 = .ok (.getfield 15, 3) := by decide +kernel
theorem dJ0_isLatin1_aae02_10 : decode cJ0_isLatin1_aae02 10 = .ok (.ifCond .ne 7, 3) := by decide +kernel
theorem dJ0_isLatin1_aae02_13 : decode cJ0_isLatin1_aae02 13 = .ok (.iconst 1, 1) := by decide +kernel
theorem dJ0_isLatin1_aae02_14 : decode cJ0_isLatin1_aae02 14 = .ok (.goto 4, 3) := by decide +kernel
theorem dJ0_isLatin1_aae02_17 : decode cJ0_isLatin1_aae02 17 = .ok (.iconst 0, 1) := by decide +kernel
theorem dJ0_isLatin1_aae02_18 : decode cJ0_isLatin1_aae02 18 = .ok (.ireturn, 1) := by decide +kernel
theorem dJ0_checkIndex_df160_0 : decode cJ0_checkIndex_df160 0 = .ok (.iload_n 0, 1) := by decide +kernel
theorem dJ0_checkIndex_df160_1 : decode cJ0_checkIndex_df160 1 = .ok (.iload_n 1, 1) := by decide +kernel
theorem dJ0_checkIndex_df160_2 : decode cJ0_checkIndex_df160 2 = .ok (.getstatic 1053, 3) := by decide +kernel
theorem dJ0_checkIndex_df160_5 : decode cJ0_checkIndex_df160 5 = .ok (.invokestatic 1059, 3) := by decide +kernel
theorem dJ0_checkIndex_df160_8 : decode cJ0_checkIndex_df160 8 = .ok (.pop, 1) := by decide +kernel
theorem dJ0_checkIndex_df160_9 : decode cJ0_checkIndex_df160 9 = .ok (.return_, 1) := by decide +kernel
theorem dJ1_charAt_3b067_0 : decode cJ1_charAt_3b067 0 = .ok (.iload_n 1, 1) := by decide +kernel
theorem dJ1_charAt_3b067_1 : decode cJ1_charAt_3b067 1 = .ok (.aload_n 0, 1) := by decide +kernel
theorem dJ1_charAt_3b067_2 : decode cJ1_charAt_3b067 2 = .ok (.arraylength, 1) := by decide +kernel
theorem dJ1_charAt_3b067_3 : decode cJ1_charAt_3b067 3 = .ok (.invokestatic 9, 3) := by decide +kernel
theorem dJ1_charAt_3b067_6 : decode cJ1_charAt_3b067 6 = .ok (.aload_n 0, 1) := by decide +kernel
theorem dJ1_charAt_3b067_7 : decode cJ1_charAt_3b067 7 = .ok (.iload_n 1, 1) := by decide +kernel
theorem dJ1_charAt_3b067_8 : decode cJ1_charAt_3b067 8 = .ok (.baload, 1) := by decide +kernel
theorem dJ1_charAt_3b067_9 : decode cJ1_charAt_3b067 9 = .ok (.sipush 255, 3) := by decide +kernel
theorem dJ1_charAt_3b067_12 : decode cJ1_charAt_3b067 12 = .ok (.iand, 1) := by decide +kernel
theorem dJ1_charAt_3b067_13 : decode cJ1_charAt_3b067 13 = .ok (.i2c, 1) := by decide +kernel
theorem dJ1_charAt_3b067_14 : decode cJ1_charAt_3b067 14 = .ok (.ireturn, 1) := by decide +kernel
theorem dJ3_checkIndex_8e157_0 : decode cJ3_checkIndex_8e157 0 = .ok (.iload_n 0, 1) := by decide +kernel
theorem dJ3_checkIndex_8e157_1 : decode cJ3_checkIndex_8e157 1 = .ok (.ifCond .lt 8, 3) := by decide +kernel
theorem dJ3_checkIndex_8e157_4 : decode cJ3_checkIndex_8e157 4 = .ok (.iload_n 0, 1) := by decide +kernel
theorem dJ3_checkIndex_8e157_5 : decode cJ3_checkIndex_8e157 5 = .ok (.iload_n 1, 1) := by decide +kernel
theorem dJ3_checkIndex_8e157_6 : decode cJ3_checkIndex_8e157 6 = .ok (.if_icmp .lt 10, 3) := by decide +kernel
theorem dJ3_checkIndex_8e157_9 : decode cJ3_checkIndex_8e157 9 = .ok (.aload_n 2, 1) := by decide +kernel
theorem dJ3_checkIndex_8e157_10 : decode cJ3_checkIndex_8e157 10 = .ok (.iload_n 0, 1) := by decide +kernel
theorem dJ3_checkIndex_8e157_11 : decode cJ3_checkIndex_8e157 11 = .ok (.iload_n 1, 1) := by decide +kernel
theorem dJ3_checkIndex_8e157_12 : decode cJ3_checkIndex_8e157 12 = .ok (.invokestatic 95, 3) := by decide +kernel
theorem dJ3_checkIndex_8e157_15 : decode cJ3_checkIndex_8e157 15 = .ok (.athrow, 1) := by decide +kernel
theorem dJ3_checkIndex_8e157_16 : decode cJ3_checkIndex_8e157 16 = .ok (.iload_n 0, 1) := by decide +kernel
theorem dJ3_checkIndex_8e157_17 : decode cJ3_checkIndex_8e157 17 = .ok (.ireturn, 1) := by decide +kernel
theorem dJxe99ae_isNaN_b9ae7_0 : decode cJxe99ae_isNaN_b9ae7 0 = .ok (.dload_n 0, 1) := by decide +kernel
theorem dJxe99ae_isNaN_b9ae7_1 : decode cJxe99ae_isNaN_b9ae7 1 = .ok (.dload_n 0, 1) := by decide +kernel
theorem dJxe99ae_isNaN_b9ae7_2 : decode cJxe99ae_isNaN_b9ae7 2 = .ok (.dcmp .l, 1) := by decide +kernel
theorem dJxe99ae_isNaN_b9ae7_3 : decode cJxe99ae_isNaN_b9ae7 3 = .ok (.ifCond .eq 7, 3) := by decide +kernel
theorem dJxe99ae_isNaN_b9ae7_6 : decode cJxe99ae_isNaN_b9ae7 6 = .ok (.iconst 1, 1) := by decide +kernel
theorem dJxe99ae_isNaN_b9ae7_7 : decode cJxe99ae_isNaN_b9ae7 7 = .ok (.goto 4, 3) := by decide +kernel
theorem dJxe99ae_isNaN_b9ae7_10 : decode cJxe99ae_isNaN_b9ae7 10 = .ok (.iconst 0, 1) := by decide +kernel
theorem dJxe99ae_isNaN_b9ae7_11 : decode cJxe99ae_isNaN_b9ae7 11 = .ok (.ireturn, 1) := by decide +kernel
theorem dJxe99ae_doubleToLongBits_ccdee_0 : decode cJxe99ae_doubleToLongBits_ccdee 0 = .ok (.dload_n 0, 1) := by decide +kernel
theorem dJxe99ae_doubleToLongBits_ccdee_1 : decode cJxe99ae_doubleToLongBits_ccdee 1 = .ok (.invokestatic 122, 3) := by decide +kernel
theorem dJxe99ae_doubleToLongBits_ccdee_4 : decode cJxe99ae_doubleToLongBits_ccdee 4 = .ok (.ifCond .ne 8, 3) := by decide +kernel
theorem dJxe99ae_doubleToLongBits_ccdee_7 : decode cJxe99ae_doubleToLongBits_ccdee 7 = .ok (.dload_n 0, 1) := by decide +kernel
theorem dJxe99ae_doubleToLongBits_ccdee_8 : decode cJxe99ae_doubleToLongBits_ccdee 8 = .ok (.invokestatic 134, 3) := by decide +kernel
theorem dJxe99ae_doubleToLongBits_ccdee_11 : decode cJxe99ae_doubleToLongBits_ccdee 11 = .ok (.lreturn, 1) := by decide +kernel
theorem dJxe99ae_doubleToLongBits_ccdee_12 : decode cJxe99ae_doubleToLongBits_ccdee 12 = .ok (.ldc2_w 137, 3) := by decide +kernel
theorem dJxe99ae_doubleToLongBits_ccdee_15 : decode cJxe99ae_doubleToLongBits_ccdee 15 = .ok (.lreturn, 1) := by decide +kernel
theorem sl_val : Cond.fieldLink RJ0 9 "java/lang/String" "value" "[B" ∈ AL := al_mem 935 (by decide +kernel) (by decide +kernel)
theorem sl_cod : Cond.fieldLink RJ0 15 "java/lang/String" "coder" "B" ∈ AL := al_mem 936 (by decide +kernel) (by decide +kernel)
theorem sl_com : Cond.fieldLink RJ0 38 "java/lang/String" "COMPACT_STRINGS" "Z" ∈ AL := al_mem 288 (by decide +kernel) (by decide +kernel)
theorem sl_fmt : Cond.fieldLink RJ0 1053 "jdk/internal/util/Preconditions" "SIOOBE_FORMATTER" "Ljava/util/function/BiFunction;" ∈ AL := al_mem 304 (by decide +kernel) (by decide +kernel)
theorem raw_ml : Cond.methodLink RJxe99ae 134 ⟨"java/lang/Double", "doubleToRawLongBits", "(D)J"⟩ ∈ AL := al_mem 1069 (by decide +kernel) (by decide +kernel)
theorem raw_st : Cond.static ⟨"java/lang/Double", "doubleToRawLongBits", "(D)J"⟩ ∈ AL := al_mem 1070 (by decide +kernel) (by decide +kernel)
theorem raw_na : Cond.native ⟨"java/lang/Double", "doubleToRawLongBits", "(D)J"⟩ ∈ AL := al_mem 1071 (by decide +kernel) (by decide +kernel)
theorem raw_in : Cond.initialized "java/lang/Double" ∈ AL := al_mem 33 (by decide +kernel) (by decide +kernel)
theorem raw_c : Cond.constantLong RJxe99ae 137 9221120237041090560 ∈ AL := al_mem 1072 (by decide +kernel) (by decide +kernel)
section ZT
variable {own : String} {cc : ByteArray} {nL : Nat} {rt : Option FieldType} {xt : List ExceptionTableEntry} {nme : String} {R : Room} {Q : QF} {rs : List Rf} {sh : Sh} {cells slots pc : Nat} {ls : List (Option MV)} {st : List MV} {M : Mm}
theorem z_sval {idx j : Nat} (hd : decode cc pc = .ok (.getfield idx, 3)) (hw : Cond.fieldLink own idx "java/lang/String" "value" "[B" ∈ AL) (hj : j < 15)
    (k : Z own cc nL rt xt nme R Q rs sh cells slots (pc + 3) ls (.inr (33, j, 0) :: st) M) : Z own cc nL rt xt nme R Q rs sh cells slots pc ls (.inr (30, j, 0) :: st) M := by
  intro p l e s m args below meth c D tc ad A H locs lsA C hP hS hl
  have hF := C.2.2.2.2.2.2.2.2.2.2.2.1
  exact vk_getf C.1 C.2.1 (hF.1 j hj).2.2.1 hS C.2.2.2.1 (C.2.2.2.2.1 _ hw) (fun _ h => h) hd (k p l e s m args below meth c D tc ad A H locs lsA C hP hS hl)
theorem z_scod {idx j : Nat} (hd : decode cc pc = .ok (.getfield idx, 3)) (hw : Cond.fieldLink own idx "java/lang/String" "coder" "B" ∈ AL) (hj : j < 15)
    (k : Z own cc nL rt xt nme R Q rs sh cells slots (pc + 3) ls (.inl (.int 0) :: st) M) : Z own cc nL rt xt nme R Q rs sh cells slots pc ls (.inr (30, j, 0) :: st) M := by
  intro p l e s m args below meth c D tc ad A H locs lsA C hP hS hl
  have hF := C.2.2.2.2.2.2.2.2.2.2.2.1
  exact vk_getf C.1 C.2.1 (hF.1 j hj).2.1 hS C.2.2.2.1 (C.2.2.2.2.1 _ hw) (fun _ h => h) hd (k p l e s m args below meth c D tc ad A H locs lsA C hP hS hl)
theorem z_scom {idx : Nat} (hd : decode cc pc = .ok (.getstatic idx, 3)) (hw : Cond.fieldLink own idx "java/lang/String" "COMPACT_STRINGS" "Z" ∈ AL)
    (k : Z own cc nL rt xt nme R Q rs sh cells slots (pc + 3) ls (.inl (.int 1) :: st) M) : Z own cc nL rt xt nme R Q rs sh cells slots pc ls st M := by
  intro p l e s m args below meth c D tc ad A H locs lsA C hP hS hl
  have hF := C.2.2.2.2.2.2.2.2.2.2.2.1
  exact va_gets C.1 C.2.1 hF.2.2.1.1 hS C.2.2.2.1 (C.2.2.2.2.1 _ hw) (fun _ h => h) hd (k p l e s m args below meth c D tc ad A H locs lsA C hP hS hl)
theorem z_sfmt {idx : Nat} (hd : decode cc pc = .ok (.getstatic idx, 3)) (hw : Cond.fieldLink own idx "jdk/internal/util/Preconditions" "SIOOBE_FORMATTER" "Ljava/util/function/BiFunction;" ∈ AL)
    (k : ∀ v : Value, (v = .null ∨ ∃ t : Nat, v = .ref t) → Z own cc nL rt xt nme R Q rs sh cells slots (pc + 3) ls (.inl v :: st) M) : Z own cc nL rt xt nme R Q rs sh cells slots pc ls st M := by
  intro p l e s m args below meth c D tc ad A H locs lsA C hP hS hl
  have hF := C.2.2.2.2.2.2.2.2.2.2.2.1
  rcases hF.2.2.1.2 with h | ⟨t, h⟩
  · exact va_gets C.1 C.2.1 h hS C.2.2.2.1 (C.2.2.2.2.1 _ hw) (fun _ h => h) hd (k .null (Or.inl rfl) p l e s m args below meth c D tc ad A H locs lsA C hP hS hl)
  · exact va_gets C.1 C.2.1 h hS C.2.2.2.1 (C.2.2.2.2.1 _ hw) (fun _ h => h) hd (k (.ref t) (Or.inr ⟨t, rfl⟩) p l e s m args below meth c D tc ad A H locs lsA C hP hS hl)
theorem z_slen {j : Nat} (hd : decode cc pc = .ok (.arraylength, 1)) (hj : j < 15)
    (k : Z own cc nL rt xt nme R Q rs sh cells slots (pc + 1) ls (.inl (.int (slen j)) :: st) M) : Z own cc nL rt xt nme R Q rs sh cells slots pc ls (.inr (33, j, 0) :: st) M := by
  intro p l e s m args below meth c D tc ad A H locs lsA C hP hS hl
  have hF := C.2.2.2.2.2.2.2.2.2.2.2.1
  exact va_tlen C.1 C.2.1 (hF.1 j hj).2.2.2 hS rfl hd (k p l e s m args below meth c D tc ad A H locs lsA C hP hS hl)
theorem z_sbal {j : Nat} {i : Int32} (hd : decode cc pc = .ok (.baload, 1)) (hj : j < 15) (hi : ¬ (i < 0 ∨ (sby j).length ≤ i.toNatClampNeg))
    (k : Z own cc nL rt xt nme R Q rs sh cells slots (pc + 1) ls (.inl (.int ((sby j).getD i.toNatClampNeg 0)) :: st) M) : Z own cc nL rt xt nme R Q rs sh cells slots pc ls (.inl (.int i) :: .inr (33, j, 0) :: st) M := by
  intro p l e s m args below meth c D tc ad A H locs lsA C hP hS hl
  have hF := C.2.2.2.2.2.2.2.2.2.2.2.1
  exact va_tb C.1 C.2.1 (hF.1 j hj).2.2.2 hS hi rfl hd (k p l e s m args below meth c D tc ad A H locs lsA C hP hS hl)
theorem z_i2c {x v : Int32} (hd : decode cc pc = .ok (.i2c, 1)) (hv : (x.toUInt32 % 65536).toInt32 = v) (k : Z own cc nL rt xt nme R Q rs sh cells slots (pc + 1) ls (.inl (.int v) :: st) M) : Z own cc nL rt xt nme R Q rs sh cells slots pc ls (.inl (.int x) :: st) M := fun p l e s m args below meth c D tc ad A H locs lsA C hP hS hl => lv_i2c C.1 C.2.1 hd hv (k p l e s m args below meth c D tc ad A H locs lsA C hP hS hl)
theorem z_raw {x : UInt64} {idx : Nat} (hd : decode cc pc = .ok (.invokestatic idx, 3)) (hml : Cond.methodLink own idx ⟨"java/lang/Double", "doubleToRawLongBits", "(D)J"⟩ ∈ AL) (hf : 1 ≤ R.frames) (hlo : mcs st + 15 ≤ R.locals)
    (k : Z own cc nL rt xt nme R Q rs sh cells slots (pc + 3) ls (.inl (.long x.toInt64) :: st) M) : Z own cc nL rt xt nme R Q rs sh cells slots pc ls (.inl (.double x) :: st) M := by
  intro p l e s m args below meth c D tc ad A H locs lsA C hP hS hl
  have hts := C.2.2.2.2.1
  exact vn_d2l C.1 C.2.1 (C.2.2.1.trans hl.1.symm) C.2.2.2.1 (hts _ hml) (hts _ raw_na) (hts _ raw_st) (hts _ raw_in) hf (by rw [mcs_map]; exact hlo) hd (k p l e s m args below meth c D tc ad A H locs lsA C hP hS hl)
end ZT
theorem S_coder {wv : Wv} (M : Mm) (j : Nat) (hj : j < 15) : TF wv yJ0_coder_7d493 cJ0_coder_7d493 1 (some .byte) 0 [.inr (30, j, 0)] M (some (.int 0)) M := by
  refine TF.go (n := 0) (ls := [some (.inr (30, j, 0))]) rfl rfl rfl rfl rfl ?_
  refine z_scom dJ0_coder_7d493_0 sl_com ?_
  refine z_if_eq (tgt := 13) dJ0_coder_7d493_3 rfl (fun h => absurd h (by decide)) (fun _ => ?_)
  refine z_aload_n (i := 0) dJ0_coder_7d493_6 rfl rfl ?_
  refine z_scod dJ0_coder_7d493_7 sl_cod hj ?_
  refine z_goto (tgt := 14) dJ0_coder_7d493_10 rfl ?_
  exact z_iret dJ0_coder_7d493_14 rfl rfl (Nat.le_refl _) (Nat.le_refl _) ⟨rfl, rfl⟩
theorem S_isLatin1 {wv : Wv} (M : Mm) (j : Nat) (hj : j < 15) : TF wv yJ0_isLatin1_aae02 cJ0_isLatin1_aae02 1 (some .boolean) 0 [.inr (30, j, 0)] M (some (.int 1)) M := by
  refine TF.go (n := 0) (ls := [some (.inr (30, j, 0))]) rfl rfl rfl rfl rfl ?_
  refine z_scom dJ0_isLatin1_aae02_0 sl_com ?_
  refine z_if_eq (tgt := 17) dJ0_isLatin1_aae02_3 rfl (fun h => absurd h (by decide)) (fun _ => ?_)
  refine z_aload_n (i := 0) dJ0_isLatin1_aae02_6 rfl rfl ?_
  refine z_scod dJ0_isLatin1_aae02_7 sl_cod hj ?_
  refine z_if_ne (tgt := 17) dJ0_isLatin1_aae02_10 rfl (fun h => absurd rfl h) (fun _ => ?_)
  refine z_iconst (v := (1 : Int32)) dJ0_isLatin1_aae02_13 (by decide) ?_
  refine z_goto (tgt := 18) dJ0_isLatin1_aae02_14 rfl ?_
  exact z_iret dJ0_isLatin1_aae02_18 rfl rfl (Nat.le_refl _) (Nat.le_refl _) ⟨rfl, rfl⟩
theorem sh0 (x : Int32) : x >>> ((0 : Int32) &&& 31) = x := by
  rw [show ((0 : Int32) &&& 31) = 0 by decide]
  apply Int32.toBitVec_inj.mp
  simp
theorem S_length {wv : Wv} (M : Mm) (j : Nat) (hj : j < 15) : TF wv yJ0_length_8abf5 cJ0_length_8abf5 1 (some .int) 6 [.inr (30, j, 0)] M (some (.int (slen j))) M := by
  refine TF.go (n := 0) (ls := [some (.inr (30, j, 0))]) rfl rfl rfl rfl rfl ?_
  refine z_aload_n (i := 0) dJ0_length_8abf5_0 rfl rfl ?_
  refine z_sval dJ0_length_8abf5_1 sl_val hj ?_
  refine z_slen dJ0_length_8abf5_4 hj ?_
  refine z_aload_n (i := 0) dJ0_length_8abf5_5 rfl rfl ?_
  refine z_fTi (n := 0) (S_coder M j hj) dJ0_length_8abf5_6 ml_J0_335 cd_J0_coder_7d493 hj rfl rfl rfl rfl rfl ?_
  refine z_ishr dJ0_length_8abf5_9 ?_
  rw [sh0]
  exact z_iret dJ0_length_8abf5_10 rfl rfl (Nat.le_refl _) (Nat.le_refl _) ⟨rfl, rfl⟩
theorem S_cki3 {wv : Wv} (M : Mm) (i n : Int32) (v : Value) (hv : v = .null ∨ ∃ t : Nat, v = .ref t) (h0 : ¬ i < 0) (h1 : i < n) : TF wv yJ3_checkIndex_8e157 cJ3_checkIndex_8e157 3 (some .int) 0 [.inl (.int i), .inl (.int n), .inl v] M (some (.int i)) M := by
  have he : els [.inl (.int i), .inl (.int n), .inl v] = [some (.inl (.int i)), some (.inl (.int n)), some (.inl v)] := by
    rcases hv with rfl | ⟨t, rfl⟩ <;> rfl
  refine TF.go (n := 0) (ls := [some (.inl (.int i)), some (.inl (.int n)), some (.inl v)]) rfl rfl rfl (by rw [he]; rfl) (by rw [he]; rfl) ?_
  refine z_iload_n (i := 0) dJ3_checkIndex_8e157_0 rfl rfl ?_
  refine z_if_lt (tgt := 9) dJ3_checkIndex_8e157_1 rfl (fun h => absurd h h0) (fun _ => ?_)
  refine z_iload_n (i := 0) dJ3_checkIndex_8e157_4 rfl rfl ?_
  refine z_iload_n (i := 1) dJ3_checkIndex_8e157_5 rfl rfl ?_
  refine z_icmp_lt (tgt := 16) dJ3_checkIndex_8e157_6 rfl (fun _ => ?_) (fun h => absurd h1 h)
  refine z_iload_n (i := 0) dJ3_checkIndex_8e157_16 rfl rfl ?_
  exact z_iret dJ3_checkIndex_8e157_17 rfl rfl (Nat.le_refl _) (Nat.le_refl _) ⟨rfl, rfl⟩
theorem S_cki {wv : Wv} (M : Mm) (i n : Int32) (h0 : ¬ i < 0) (h1 : i < n) : TF wv yJ0_checkIndex_df160 cJ0_checkIndex_df160 2 none 1 [.inl (.int i), .inl (.int n)] M none M := by
  refine TF.go (n := 0) (ls := [some (.inl (.int i)), some (.inl (.int n))]) rfl rfl rfl rfl rfl ?_
  refine z_iload_n (i := 0) dJ0_checkIndex_df160_0 rfl rfl ?_
  refine z_iload_n (i := 1) dJ0_checkIndex_df160_1 rfl rfl ?_
  refine z_sfmt dJ0_checkIndex_df160_2 sl_fmt (fun v hv => ?_)
  refine z_fSi (n := 3) (S_cki3 M i n v hv h0 h1) dJ0_checkIndex_df160_5 ml_J0_1059 cd_J3_checkIndex_8e157 rfl rfl rfl rfl rfl ?_
  refine z_pop dJ0_checkIndex_df160_8 rfl ?_
  exact z_vret dJ0_checkIndex_df160_9 rfl (Nat.le_refl _) (Nat.le_refl _) ⟨rfl, rfl⟩
theorem sb_ok : ∀ j, j < 15 → ((sby j).length < 2000 ∧ ∀ b ∈ sby j, (((b &&& 255).toUInt32 % 65536).toInt32 = b ∧ 0 ≤ b ∧ b < 256)) := by decide +kernel
theorem sbq_at {j k : Nat} (hj : j < 15) (hk : k < (sby j).length) : (((((sby j).getD k 0) &&& 255).toUInt32 % 65536).toInt32 = (sby j).getD k 0) ∧ 0 ≤ (sby j).getD k 0 ∧ (sby j).getD k 0 < 256 := by
  have h : (sby j).getD k 0 ∈ sby j := by
    rw [List.getD_eq_getElem?_getD, List.getElem?_eq_getElem hk]
    exact List.getElem_mem hk
  exact (sb_ok j hj).2 _ h
theorem nar_c {b : Int32} (h0 : 0 ≤ b) (h1 : b < 256) : narrow .char (.int b) = .int b := by
  show Value.int ((b.toUInt32 % 65536).toInt32) = .int b
  have e : (b.toUInt32 % 65536).toInt32 = b := by
    obtain ⟨n, hn, rfl⟩ := nI_of (Int32.not_lt.mpr h0)
    have hb : n < 256 := by
      rcases Nat.lt_or_ge n 256 with q | q
      · exact q
      · exact absurd h1 (nI_nlt (b := 256) q hn)
    exact (by decide +kernel : ∀ n, n < 256 → ((nI n).toUInt32 % 65536).toInt32 = nI n) n hb
  rw [e]
theorem S_char1 {wv : Wv} (M : Mm) (j : Nat) (i : Int32) (hj : j < 15) (hi : ¬ (i < 0 ∨ (sby j).length ≤ i.toNatClampNeg)) : TF wv yJ1_charAt_3b067 cJ1_charAt_3b067 2 (some .char) 3 [.inr (33, j, 0), .inl (.int i)] M (some (.int ((sby j).getD i.toNatClampNeg 0))) M := by
  have h0 : ¬ i < 0 := fun h => hi (Or.inl h)
  have hk := ltN hi
  have hL := (sb_ok j hj).1
  have h1 : i < slen j := by
    obtain ⟨n, hn, rfl⟩ := nI_of h0
    rw [nI_clamp hn] at hk
    exact nI_lt hk (by omega)
  obtain ⟨b1, b2, b3⟩ := sbq_at hj hk
  refine TF.go (n := 0) (ls := [some (.inr (33, j, 0)), some (.inl (.int i))]) rfl rfl rfl rfl rfl ?_
  refine z_iload_n (i := 1) dJ1_charAt_3b067_0 rfl rfl ?_
  refine z_aload_n (i := 0) dJ1_charAt_3b067_1 rfl rfl ?_
  refine z_slen dJ1_charAt_3b067_2 hj ?_
  refine z_fSv (n := 2) (S_cki M i (slen j) h0 h1) dJ1_charAt_3b067_3 ml_J1_9 cd_J0_checkIndex_df160 rfl rfl rfl rfl rfl ?_
  refine z_aload_n (i := 0) dJ1_charAt_3b067_6 rfl rfl ?_
  refine z_iload_n (i := 1) dJ1_charAt_3b067_7 rfl rfl ?_
  refine z_sbal dJ1_charAt_3b067_8 hj hi ?_
  refine z_sipush (v := (255 : Int32)) dJ1_charAt_3b067_9 (by decide) ?_
  refine z_iand dJ1_charAt_3b067_12 ?_
  refine z_i2c dJ1_charAt_3b067_13 b1 ?_
  exact z_iret dJ1_charAt_3b067_14 rfl (nar_c b2 b3) (Nat.le_refl _) (Nat.le_refl _) ⟨rfl, rfl⟩
theorem S_charAt {wv : Wv} (M : Mm) (j : Nat) (i : Int32) (hj : j < 15) {q : Int32} (h : sch j i = some q) : TF wv yJ0_charAt_5068e cJ0_charAt_5068e 2 (some .char) 6 [.inr (30, j, 0), .inl (.int i)] M (some (.int q)) M := by
  unfold sch at h
  obtain ⟨hi, hq⟩ := chk h
  cases hq
  obtain ⟨b1, b2, b3⟩ := sbq_at hj (ltN hi)
  refine TF.go (n := 0) (ls := [some (.inr (30, j, 0)), some (.inl (.int i))]) rfl rfl rfl rfl rfl ?_
  refine z_aload_n (i := 0) dJ0_charAt_5068e_0 rfl rfl ?_
  refine z_fTi (n := 0) (S_isLatin1 M j hj) dJ0_charAt_5068e_1 ml_J0_492 cd_J0_isLatin1_aae02 hj rfl rfl rfl rfl rfl ?_
  refine z_if_eq (tgt := 16) dJ0_charAt_5068e_4 rfl (fun h => absurd h (by decide)) (fun _ => ?_)
  refine z_aload_n (i := 0) dJ0_charAt_5068e_7 rfl rfl ?_
  refine z_sval dJ0_charAt_5068e_8 sl_val hj ?_
  refine z_iload_n (i := 1) dJ0_charAt_5068e_11 rfl rfl ?_
  refine z_fSi (n := 2) (S_char1 M j i hj hi) dJ0_charAt_5068e_12 ml_J0_495 cd_J1_charAt_3b067 rfl rfl rfl rfl rfl ?_
  exact z_iret dJ0_charAt_5068e_15 rfl (nar_c b2 b3) (Nat.le_refl _) (Nat.le_refl _) ⟨rfl, rfl⟩
theorem S_isNaN {wv : Wv} (M : Mm) (x : UInt64) : TF wv yJxe99ae_isNaN_b9ae7 cJxe99ae_isNaN_b9ae7 2 (some .boolean) 0 [.inl (.double x)] M (some (.int (if Op.cmpValue (FP.dcmp x x) .l = 0 then 0 else 1))) M := by
  refine TF.go (n := 0) (ls := [some (.inl (.double x)), none]) rfl rfl rfl rfl rfl ?_
  refine z_dload_n (i := 0) dJxe99ae_isNaN_b9ae7_0 rfl rfl ?_
  refine z_dload_n (i := 0) dJxe99ae_isNaN_b9ae7_1 rfl rfl ?_
  refine z_dcmp dJxe99ae_isNaN_b9ae7_2 ?_
  refine z_if_eq (tgt := 10) dJxe99ae_isNaN_b9ae7_3 rfl (fun h => ?_) (fun h => ?_)
  · rw [if_pos h]
    refine z_iconst (v := (0 : Int32)) dJxe99ae_isNaN_b9ae7_10 (by decide) ?_
    exact z_iret dJxe99ae_isNaN_b9ae7_11 rfl rfl (Nat.le_refl _) (Nat.le_refl _) ⟨rfl, rfl⟩
  · rw [if_neg h]
    refine z_iconst (v := (1 : Int32)) dJxe99ae_isNaN_b9ae7_6 (by decide) ?_
    refine z_goto (tgt := 11) dJxe99ae_isNaN_b9ae7_7 rfl ?_
    exact z_iret dJxe99ae_isNaN_b9ae7_11 rfl rfl (Nat.le_refl _) (Nat.le_refl _) ⟨rfl, rfl⟩
theorem S_dbits {wv : Wv} (M : Mm) (x : UInt64) : TF wv yJxe99ae_doubleToLongBits_ccdee cJxe99ae_doubleToLongBits_ccdee 2 (some .long) 2 [.inl (.double x)] M (some (.long (dbits x))) M := by
  refine TF.go (n := 0) (ls := [some (.inl (.double x)), none]) rfl rfl rfl rfl rfl ?_
  refine z_dload_n (i := 0) dJxe99ae_doubleToLongBits_ccdee_0 rfl rfl ?_
  refine z_fSi (n := 1) (S_isNaN M x) dJxe99ae_doubleToLongBits_ccdee_1 ml_Jxe99ae_122 cd_Jxe99ae_isNaN_b9ae7 rfl rfl rfl rfl rfl ?_
  refine z_if_ne (tgt := 12) dJxe99ae_doubleToLongBits_ccdee_4 rfl (fun h => ?_) (fun h => ?_)
  · refine z_ldc2 dJxe99ae_doubleToLongBits_ccdee_12 raw_c ?_
    refine z_lret dJxe99ae_doubleToLongBits_ccdee_15 rfl (Nat.le_refl _) (Nat.le_refl _) ⟨?_, rfl⟩
    have h2 : ¬ Op.cmpValue (FP.dcmp x x) .l = 0 := fun c => h (if_pos c)
    rw [dbits, if_neg h2]
  · refine z_dload_n (i := 0) dJxe99ae_doubleToLongBits_ccdee_7 rfl rfl ?_
    refine z_raw dJxe99ae_doubleToLongBits_ccdee_8 raw_ml (by decide) (Nat.le_of_ble_eq_true rfl) ?_
    refine z_lret dJxe99ae_doubleToLongBits_ccdee_11 rfl (Nat.le_refl _) (Nat.le_refl _) ⟨?_, rfl⟩
    have h2 : Op.cmpValue (FP.dcmp x x) .l = 0 := by
      by_cases c : Op.cmpValue (FP.dcmp x x) .l = 0
      · exact c
      · rw [if_neg c] at h; exact absurd h (by decide)
    rw [dbits, if_pos h2]
