theorem dX10_sound_0 : decode cX10_sound 0 = .ok (.aload_n 0, 1) := by decide +kernel
theorem dX10_sound_1 : decode cX10_sound 1 = .ok (.aload_n 0, 1) := by decide +kernel
theorem dX10_sound_2 : decode cX10_sound 2 = .ok (.getfield 46, 3) := by decide +kernel
theorem dX10_sound_5 : decode cX10_sound 5 = .ok (.iload_n 1, 1) := by decide +kernel
theorem dX10_sound_6 : decode cX10_sound 6 = .ok (.aload_n 0, 1) := by decide +kernel
theorem dX10_sound_7 : decode cX10_sound 7 = .ok (.getfield 49, 3) := by decide +kernel
theorem dX10_sound_10 : decode cX10_sound 10 = .ok (.invokevirtual 77, 3) := by decide +kernel
theorem dX10_sound_13 : decode cX10_sound 13 = .ok (.ifCond .ne 7, 3) := by decide +kernel
theorem dX10_sound_16 : decode cX10_sound 16 = .ok (.iconst 0, 1) := by decide +kernel
theorem dX10_sound_17 : decode cX10_sound 17 = .ok (.goto 34, 3) := by decide +kernel
theorem dX10_sound_20 : decode cX10_sound 20 = .ok (.aload_n 0, 1) := by decide +kernel
theorem dX10_sound_21 : decode cX10_sound 21 = .ok (.iload_n 1, 1) := by decide +kernel
theorem dX10_sound_22 : decode cX10_sound 22 = .ok (.invokevirtual 84, 3) := by decide +kernel
theorem dX10_sound_25 : decode cX10_sound 25 = .ok (.ifCond .eq 7, 3) := by decide +kernel
theorem dX10_sound_28 : decode cX10_sound 28 = .ok (.iconst 1, 1) := by decide +kernel
theorem dX10_sound_29 : decode cX10_sound 29 = .ok (.goto 22, 3) := by decide +kernel
theorem dX10_sound_32 : decode cX10_sound 32 = .ok (.aload_n 0, 1) := by decide +kernel
theorem dX10_sound_33 : decode cX10_sound 33 = .ok (.iload_n 1, 1) := by decide +kernel
theorem dX10_sound_34 : decode cX10_sound 34 = .ok (.invokevirtual 88, 3) := by decide +kernel
theorem dX10_sound_37 : decode cX10_sound 37 = .ok (.aload_n 0, 1) := by decide +kernel
theorem dX10_sound_38 : decode cX10_sound 38 = .ok (.getfield 16, 3) := by decide +kernel
theorem dX10_sound_41 : decode cX10_sound 41 = .ok (.iload_n 1, 1) := by decide +kernel
theorem dX10_sound_42 : decode cX10_sound 42 = .ok (.iaload, 1) := by decide +kernel
theorem dX10_sound_43 : decode cX10_sound 43 = .ok (.if_icmp .ge 7, 3) := by decide +kernel
theorem dX10_sound_46 : decode cX10_sound 46 = .ok (.iconst 3, 1) := by decide +kernel
theorem dX10_sound_47 : decode cX10_sound 47 = .ok (.goto 4, 3) := by decide +kernel
theorem dX10_sound_50 : decode cX10_sound 50 = .ok (.iconst 2, 1) := by decide +kernel
theorem dX10_sound_51 : decode cX10_sound 51 = .ok (.ireturn, 1) := by decide +kernel
def fX10_sound (M : Mm) (k : Nat) (x1 : Int32) : Option Int32 := (fX10_has M k (M.1 (18, k, 0) 4) x1 (M.1 (18, k, 0) 5)).bind fun q1 => if q1 = 0 then some (0 : Int32) else (fX10_isBad M k x1).bind fun q4 => if q4 = 0 then ((fX10_silence M k x1).bind fun q7 => if x1 < 0 ∨ 12 ≤ x1.toNatClampNeg then none else if (M.1 (19, k, 2) x1.toNatClampNeg) ≤ q7 then some (2 : Int32) else some (3 : Int32)) else some (1 : Int32)
set_option maxRecDepth 20000 in
set_option maxHeartbeats 2000000 in
theorem sX10_sound {wv : Wv} (M : Mm) (k : Nat) (x1 : Int32) (hk : OwI wv k) {res : Int32} (h : fX10_sound M k x1 = some res) : TF wv yX10_sound cX10_sound 2 (some .int) 2 [.inr (18, k, 0), .inl (.int x1)] M (some (.int res)) M := by
  rw [fX10_sound] at h
  refine TF.go (n := 0) (ls := [some (.inr (18, k, 0)), some (.inl (.int x1))]) rfl rfl rfl rfl rfl ?_
  refine z_aload_n (i := 0) dX10_sound_0 rfl rfl ?_
  refine z_aload_n (i := 0) dX10_sound_1 rfl rfl ?_
  refine z_getI (x := (M.1 (18, k, 0) 4)) dX10_sound_2 fl_X10_46 hk.1 rfl rfl ?_
  refine z_iload_n (i := 1) dX10_sound_5 rfl rfl ?_
  refine z_aload_n (i := 0) dX10_sound_6 rfl rfl ?_
  refine z_getI (x := (M.1 (18, k, 0) 5)) dX10_sound_7 fl_X10_49 hk.1 rfl rfl ?_
  obtain ⟨q1, hq2, h⟩ := bnd h
  refine z_fVi (sX10_has M k (M.1 (18, k, 0) 4) x1 (M.1 (18, k, 0) 5) hk hq2) dX10_sound_10 ml_X10_77 cd_X10_has hk.1 rfl rfl rfl rfl rfl rfl ?_
  refine z_if_ne (tgt := 20) dX10_sound_13 rfl (fun hc3 => ?_) (fun hc3 => ?_)
  · have h := it_f h hc3
    refine z_aload_n (i := 0) dX10_sound_20 rfl rfl ?_
    refine z_iload_n (i := 1) dX10_sound_21 rfl rfl ?_
    obtain ⟨q4, hq5, h⟩ := bnd h
    refine z_fVi (sX10_isBad M k x1 hk hq5) dX10_sound_22 ml_X10_84 cd_X10_isBad hk.1 rfl rfl rfl rfl rfl rfl ?_
    refine z_if_eq (tgt := 32) dX10_sound_25 rfl (fun hc6 => ?_) (fun hc6 => ?_)
    · have h := it_t h hc6
      refine z_aload_n (i := 0) dX10_sound_32 rfl rfl ?_
      refine z_iload_n (i := 1) dX10_sound_33 rfl rfl ?_
      obtain ⟨q7, hq8, h⟩ := bnd h
      refine z_fVi (sX10_silence M k x1 hk hq8) dX10_sound_34 ml_X10_88 cd_X10_silence hk.1 rfl rfl rfl rfl rfl rfl ?_
      refine z_aload_n (i := 0) dX10_sound_37 rfl rfl ?_
      refine z_getR (r' := (19, k, 2)) dX10_sound_38 fl_X10_16 hk.1 rfl rfl ?_
      refine z_iload_n (i := 1) dX10_sound_41 rfl rfl ?_
      obtain ⟨hc9, h⟩ := chk h
      refine z_iald (x := (M.1 (19, k, 2) x1.toNatClampNeg)) dX10_sound_42 (hk.2.2 2 (Nat.le_of_ble_eq_true rfl)) rfl hc9 rfl ?_
      refine z_icmp_ge (tgt := 50) dX10_sound_43 rfl (fun hc10 => ?_) (fun hc10 => ?_)
      · have h := it_t h hc10
        refine z_iconst (v := (2 : Int32)) dX10_sound_50 kc_2 ?_
        cases h
        exact z_iret dX10_sound_51 rfl rfl (Nat.le_refl _) (Nat.le_refl _) ⟨rfl, rfl⟩
      · have h := it_f h hc10
        refine z_iconst (v := (3 : Int32)) dX10_sound_46 kc_3 ?_
        refine z_goto (tgt := 51) dX10_sound_47 rfl ?_
        cases h
        exact z_iret dX10_sound_51 rfl rfl (Nat.le_refl _) (Nat.le_refl _) ⟨rfl, rfl⟩
    · have h := it_f h hc6
      refine z_iconst (v := (1 : Int32)) dX10_sound_28 kc_1 ?_
      refine z_goto (tgt := 51) dX10_sound_29 rfl ?_
      cases h
      exact z_iret dX10_sound_51 rfl rfl (Nat.le_refl _) (Nat.le_refl _) ⟨rfl, rfl⟩
  · have h := it_t h hc3
    refine z_iconst (v := (0 : Int32)) dX10_sound_16 kc_0 ?_
    refine z_goto (tgt := 51) dX10_sound_17 rfl ?_
    cases h
    exact z_iret dX10_sound_51 rfl rfl (Nat.le_refl _) (Nat.le_refl _) ⟨rfl, rfl⟩
theorem dX10_step_0 : decode cX10_step 0 = .ok (.aload_n 0, 1) := by decide +kernel
theorem dX10_step_1 : decode cX10_step 1 = .ok (.getfield 37, 3) := by decide +kernel
theorem dX10_step_4 : decode cX10_step 4 = .ok (.ifCond .ne 5, 3) := by decide +kernel
theorem dX10_step_7 : decode cX10_step 7 = .ok (.iconst 0, 1) := by decide +kernel
theorem dX10_step_8 : decode cX10_step 8 = .ok (.ireturn, 1) := by decide +kernel
theorem dX10_step_9 : decode cX10_step 9 = .ok (.iconst 0, 1) := by decide +kernel
theorem dX10_step_10 : decode cX10_step 10 = .ok (.istore_n 1, 1) := by decide +kernel
theorem dX10_step_11 : decode cX10_step 11 = .ok (.iload_n 1, 1) := by decide +kernel
theorem dX10_step_12 : decode cX10_step 12 = .ok (.aload_n 0, 1) := by decide +kernel
theorem dX10_step_13 : decode cX10_step 13 = .ok (.getfield 43, 3) := by decide +kernel
theorem dX10_step_16 : decode cX10_step 16 = .ok (.if_icmp .ge 105, 3) := by decide +kernel
theorem dX10_step_19 : decode cX10_step 19 = .ok (.aload_n 0, 1) := by decide +kernel
theorem dX10_step_20 : decode cX10_step 20 = .ok (.iload_n 1, 1) := by decide +kernel
theorem dX10_step_21 : decode cX10_step 21 = .ok (.invokevirtual 92, 3) := by decide +kernel
theorem dX10_step_24 : decode cX10_step 24 = .ok (.istore_n 2, 1) := by decide +kernel
theorem dX10_step_25 : decode cX10_step 25 = .ok (.aload_n 0, 1) := by decide +kernel
theorem dX10_step_26 : decode cX10_step 26 = .ok (.dup, 1) := by decide +kernel
theorem dX10_step_27 : decode cX10_step 27 = .ok (.getfield 52, 3) := by decide +kernel
theorem dX10_step_30 : decode cX10_step 30 = .ok (.iload_n 2, 1) := by decide +kernel
theorem dX10_step_31 : decode cX10_step 31 = .ok (.iconst 2, 1) := by decide +kernel
theorem dX10_step_32 : decode cX10_step 32 = .ok (.if_icmp .ne 7, 3) := by decide +kernel
theorem dX10_step_35 : decode cX10_step 35 = .ok (.iconst 1, 1) := by decide +kernel
theorem dX10_step_36 : decode cX10_step 36 = .ok (.goto 4, 3) := by decide +kernel
theorem dX10_step_39 : decode cX10_step 39 = .ok (.iconst 0, 1) := by decide +kernel
theorem dX10_step_40 : decode cX10_step 40 = .ok (.iadd, 1) := by decide +kernel
theorem dX10_step_41 : decode cX10_step 41 = .ok (.putfield 52, 3) := by decide +kernel
theorem dX10_step_44 : decode cX10_step 44 = .ok (.aload_n 0, 1) := by decide +kernel
theorem dX10_step_45 : decode cX10_step 45 = .ok (.dup, 1) := by decide +kernel
theorem dX10_step_46 : decode cX10_step 46 = .ok (.getfield 55, 3) := by decide +kernel
theorem dX10_step_49 : decode cX10_step 49 = .ok (.iload_n 2, 1) := by decide +kernel
theorem dX10_step_50 : decode cX10_step 50 = .ok (.iconst 3, 1) := by decide +kernel
theorem dX10_step_51 : decode cX10_step 51 = .ok (.if_icmp .ne 7, 3) := by decide +kernel
theorem dX10_step_54 : decode cX10_step 54 = .ok (.iconst 1, 1) := by decide +kernel
theorem dX10_step_55 : decode cX10_step 55 = .ok (.goto 4, 3) := by decide +kernel
theorem dX10_step_58 : decode cX10_step 58 = .ok (.iconst 0, 1) := by decide +kernel
theorem dX10_step_59 : decode cX10_step 59 = .ok (.iadd, 1) := by decide +kernel
theorem dX10_step_60 : decode cX10_step 60 = .ok (.putfield 55, 3) := by decide +kernel
theorem dX10_step_63 : decode cX10_step 63 = .ok (.aload_n 0, 1) := by decide +kernel
theorem dX10_step_64 : decode cX10_step 64 = .ok (.getfield 22, 3) := by decide +kernel
theorem dX10_step_67 : decode cX10_step 67 = .ok (.iload_n 1, 1) := by decide +kernel
theorem dX10_step_68 : decode cX10_step 68 = .ok (.dup2, 1) := by decide +kernel
theorem dX10_step_69 : decode cX10_step 69 = .ok (.iaload, 1) := by decide +kernel
theorem dX10_step_70 : decode cX10_step 70 = .ok (.iload_n 2, 1) := by decide +kernel
theorem dX10_step_71 : decode cX10_step 71 = .ok (.iconst 2, 1) := by decide +kernel
theorem dX10_step_72 : decode cX10_step 72 = .ok (.if_icmp .ne 7, 3) := by decide +kernel
theorem dX10_step_75 : decode cX10_step 75 = .ok (.iconst 1, 1) := by decide +kernel
theorem dX10_step_76 : decode cX10_step 76 = .ok (.goto 13, 3) := by decide +kernel
theorem dX10_step_79 : decode cX10_step 79 = .ok (.iload_n 2, 1) := by decide +kernel
theorem dX10_step_80 : decode cX10_step 80 = .ok (.iconst 3, 1) := by decide +kernel
theorem dX10_step_81 : decode cX10_step 81 = .ok (.if_icmp .ne 7, 3) := by decide +kernel
theorem dX10_step_84 : decode cX10_step 84 = .ok (.iconst 5, 1) := by decide +kernel
theorem dX10_step_85 : decode cX10_step 85 = .ok (.goto 4, 3) := by decide +kernel
theorem dX10_step_88 : decode cX10_step 88 = .ok (.iconst 0, 1) := by decide +kernel
theorem dX10_step_89 : decode cX10_step 89 = .ok (.iadd, 1) := by decide +kernel
theorem dX10_step_90 : decode cX10_step 90 = .ok (.iastore, 1) := by decide +kernel
theorem dX10_step_91 : decode cX10_step 91 = .ok (.aload_n 0, 1) := by decide +kernel
theorem dX10_step_92 : decode cX10_step 92 = .ok (.getfield 25, 3) := by decide +kernel
theorem dX10_step_95 : decode cX10_step 95 = .ok (.iload_n 1, 1) := by decide +kernel
theorem dX10_step_96 : decode cX10_step 96 = .ok (.iload_n 2, 1) := by decide +kernel
theorem dX10_step_97 : decode cX10_step 97 = .ok (.iconst 1, 1) := by decide +kernel
theorem dX10_step_98 : decode cX10_step 98 = .ok (.if_icmp .le 10, 3) := by decide +kernel
theorem dX10_step_101 : decode cX10_step 101 = .ok (.aload_n 0, 1) := by decide +kernel
theorem dX10_step_102 : decode cX10_step 102 = .ok (.getfield 58, 3) := by decide +kernel
theorem dX10_step_105 : decode cX10_step 105 = .ok (.goto 9, 3) := by decide +kernel
theorem dX10_step_108 : decode cX10_step 108 = .ok (.aload_n 0, 1) := by decide +kernel
theorem dX10_step_109 : decode cX10_step 109 = .ok (.getfield 25, 3) := by decide +kernel
theorem dX10_step_112 : decode cX10_step 112 = .ok (.iload_n 1, 1) := by decide +kernel
theorem dX10_step_113 : decode cX10_step 113 = .ok (.iaload, 1) := by decide +kernel
theorem dX10_step_114 : decode cX10_step 114 = .ok (.iastore, 1) := by decide +kernel
theorem dX10_step_115 : decode cX10_step 115 = .ok (.iinc 1 1, 3) := by decide +kernel
theorem dX10_step_118 : decode cX10_step 118 = .ok (.goto (-107), 3) := by decide +kernel
theorem dX10_step_121 : decode cX10_step 121 = .ok (.aload_n 0, 1) := by decide +kernel
theorem dX10_step_122 : decode cX10_step 122 = .ok (.dup, 1) := by decide +kernel
theorem dX10_step_123 : decode cX10_step 123 = .ok (.getfield 58, 3) := by decide +kernel
theorem dX10_step_126 : decode cX10_step 126 = .ok (.iconst 1, 1) := by decide +kernel
theorem dX10_step_127 : decode cX10_step 127 = .ok (.iadd, 1) := by decide +kernel
theorem dX10_step_128 : decode cX10_step 128 = .ok (.putfield 58, 3) := by decide +kernel
theorem dX10_step_131 : decode cX10_step 131 = .ok (.aload_n 0, 1) := by decide +kernel
theorem dX10_step_132 : decode cX10_step 132 = .ok (.dup, 1) := by decide +kernel
theorem dX10_step_133 : decode cX10_step 133 = .ok (.getfield 49, 3) := by decide +kernel
theorem dX10_step_136 : decode cX10_step 136 = .ok (.iconst 1, 1) := by decide +kernel
theorem dX10_step_137 : decode cX10_step 137 = .ok (.iadd, 1) := by decide +kernel
theorem dX10_step_138 : decode cX10_step 138 = .ok (.putfield 49, 3) := by decide +kernel
theorem dX10_step_141 : decode cX10_step 141 = .ok (.aload_n 0, 1) := by decide +kernel
theorem dX10_step_142 : decode cX10_step 142 = .ok (.dup, 1) := by decide +kernel
theorem dX10_step_143 : decode cX10_step 143 = .ok (.getfield 37, 3) := by decide +kernel
theorem dX10_step_146 : decode cX10_step 146 = .ok (.aload_n 0, 1) := by decide +kernel
theorem dX10_step_147 : decode cX10_step 147 = .ok (.getfield 49, 3) := by decide +kernel
theorem dX10_step_150 : decode cX10_step 150 = .ok (.aload_n 0, 1) := by decide +kernel
theorem dX10_step_151 : decode cX10_step 151 = .ok (.getfield 33, 3) := by decide +kernel
theorem dX10_step_154 : decode cX10_step 154 = .ok (.idiv, 1) := by decide +kernel
theorem dX10_step_155 : decode cX10_step 155 = .ok (.isub, 1) := by decide +kernel
theorem dX10_step_156 : decode cX10_step 156 = .ok (.putfield 37, 3) := by decide +kernel
theorem dX10_step_159 : decode cX10_step 159 = .ok (.aload_n 0, 1) := by decide +kernel
theorem dX10_step_160 : decode cX10_step 160 = .ok (.dup, 1) := by decide +kernel
theorem dX10_step_161 : decode cX10_step 161 = .ok (.getfield 49, 3) := by decide +kernel
theorem dX10_step_164 : decode cX10_step 164 = .ok (.aload_n 0, 1) := by decide +kernel
theorem dX10_step_165 : decode cX10_step 165 = .ok (.getfield 33, 3) := by decide +kernel
theorem dX10_step_168 : decode cX10_step 168 = .ok (.irem, 1) := by decide +kernel
theorem dX10_step_169 : decode cX10_step 169 = .ok (.putfield 49, 3) := by decide +kernel
theorem dX10_step_172 : decode cX10_step 172 = .ok (.iconst 1, 1) := by decide +kernel
theorem dX10_step_173 : decode cX10_step 173 = .ok (.ireturn, 1) := by decide +kernel
def fX10_step_L11 (k : Nat) (K : Int32 → Mm → Option (Int32 × Mm)) : Nat → Int32 → Mm → Option (Int32 × Mm)
  | 0, _, _ => none
  | n + 1, v1, M => if (M.1 (18, k, 0) 3) ≤ v1 then K v1 M else (fX10_sound M k v1).bind fun q3 => if q3 = (2 : Int32) then (if q3 = (3 : Int32) then (if v1 < 0 ∨ 12 ≤ v1.toNatClampNeg then none else if q3 = (2 : Int32) then (if v1 < 0 ∨ 12 ≤ v1.toNatClampNeg then none else if q3 ≤ (1 : Int32) then (if v1 < 0 ∨ 12 ≤ v1.toNatClampNeg then none else if v1 < 0 ∨ 12 ≤ v1.toNatClampNeg then none else fX10_step_L11 k K n (v1 + (1 : Int32)) (putI (putI (putI (putI M (18, k, 0) 6 ((M.1 (18, k, 0) 6) + (1 : Int32))) (18, k, 0) 7 ((M.1 (18, k, 0) 7) + (1 : Int32))) (19, k, 4) v1.toNatClampNeg ((M.1 (19, k, 4) v1.toNatClampNeg) + (1 : Int32))) (19, k, 5) v1.toNatClampNeg ((putI (putI (putI M (18, k, 0) 6 ((M.1 (18, k, 0) 6) + (1 : Int32))) (18, k, 0) 7 ((M.1 (18, k, 0) 7) + (1 : Int32))) (19, k, 4) v1.toNatClampNeg ((M.1 (19, k, 4) v1.toNatClampNeg) + (1 : Int32))).1 (19, k, 5) v1.toNatClampNeg))) else if v1 < 0 ∨ 12 ≤ v1.toNatClampNeg then none else fX10_step_L11 k K n (v1 + (1 : Int32)) (putI (putI (putI (putI M (18, k, 0) 6 ((M.1 (18, k, 0) 6) + (1 : Int32))) (18, k, 0) 7 ((M.1 (18, k, 0) 7) + (1 : Int32))) (19, k, 4) v1.toNatClampNeg ((M.1 (19, k, 4) v1.toNatClampNeg) + (1 : Int32))) (19, k, 5) v1.toNatClampNeg (M.1 (18, k, 0) 8))) else if q3 = (3 : Int32) then (if v1 < 0 ∨ 12 ≤ v1.toNatClampNeg then none else if q3 ≤ (1 : Int32) then (if v1 < 0 ∨ 12 ≤ v1.toNatClampNeg then none else if v1 < 0 ∨ 12 ≤ v1.toNatClampNeg then none else fX10_step_L11 k K n (v1 + (1 : Int32)) (putI (putI (putI (putI M (18, k, 0) 6 ((M.1 (18, k, 0) 6) + (1 : Int32))) (18, k, 0) 7 ((M.1 (18, k, 0) 7) + (1 : Int32))) (19, k, 4) v1.toNatClampNeg ((M.1 (19, k, 4) v1.toNatClampNeg) + (5 : Int32))) (19, k, 5) v1.toNatClampNeg ((putI (putI (putI M (18, k, 0) 6 ((M.1 (18, k, 0) 6) + (1 : Int32))) (18, k, 0) 7 ((M.1 (18, k, 0) 7) + (1 : Int32))) (19, k, 4) v1.toNatClampNeg ((M.1 (19, k, 4) v1.toNatClampNeg) + (5 : Int32))).1 (19, k, 5) v1.toNatClampNeg))) else if v1 < 0 ∨ 12 ≤ v1.toNatClampNeg then none else fX10_step_L11 k K n (v1 + (1 : Int32)) (putI (putI (putI (putI M (18, k, 0) 6 ((M.1 (18, k, 0) 6) + (1 : Int32))) (18, k, 0) 7 ((M.1 (18, k, 0) 7) + (1 : Int32))) (19, k, 4) v1.toNatClampNeg ((M.1 (19, k, 4) v1.toNatClampNeg) + (5 : Int32))) (19, k, 5) v1.toNatClampNeg (M.1 (18, k, 0) 8))) else if v1 < 0 ∨ 12 ≤ v1.toNatClampNeg then none else if q3 ≤ (1 : Int32) then (if v1 < 0 ∨ 12 ≤ v1.toNatClampNeg then none else if v1 < 0 ∨ 12 ≤ v1.toNatClampNeg then none else fX10_step_L11 k K n (v1 + (1 : Int32)) (putI (putI (putI (putI M (18, k, 0) 6 ((M.1 (18, k, 0) 6) + (1 : Int32))) (18, k, 0) 7 ((M.1 (18, k, 0) 7) + (1 : Int32))) (19, k, 4) v1.toNatClampNeg ((M.1 (19, k, 4) v1.toNatClampNeg) + (0 : Int32))) (19, k, 5) v1.toNatClampNeg ((putI (putI (putI M (18, k, 0) 6 ((M.1 (18, k, 0) 6) + (1 : Int32))) (18, k, 0) 7 ((M.1 (18, k, 0) 7) + (1 : Int32))) (19, k, 4) v1.toNatClampNeg ((M.1 (19, k, 4) v1.toNatClampNeg) + (0 : Int32))).1 (19, k, 5) v1.toNatClampNeg))) else if v1 < 0 ∨ 12 ≤ v1.toNatClampNeg then none else fX10_step_L11 k K n (v1 + (1 : Int32)) (putI (putI (putI (putI M (18, k, 0) 6 ((M.1 (18, k, 0) 6) + (1 : Int32))) (18, k, 0) 7 ((M.1 (18, k, 0) 7) + (1 : Int32))) (19, k, 4) v1.toNatClampNeg ((M.1 (19, k, 4) v1.toNatClampNeg) + (0 : Int32))) (19, k, 5) v1.toNatClampNeg (M.1 (18, k, 0) 8))) else if v1 < 0 ∨ 12 ≤ v1.toNatClampNeg then none else if q3 = (2 : Int32) then (if v1 < 0 ∨ 12 ≤ v1.toNatClampNeg then none else if q3 ≤ (1 : Int32) then (if v1 < 0 ∨ 12 ≤ v1.toNatClampNeg then none else if v1 < 0 ∨ 12 ≤ v1.toNatClampNeg then none else fX10_step_L11 k K n (v1 + (1 : Int32)) (putI (putI (putI (putI M (18, k, 0) 6 ((M.1 (18, k, 0) 6) + (1 : Int32))) (18, k, 0) 7 ((M.1 (18, k, 0) 7) + (0 : Int32))) (19, k, 4) v1.toNatClampNeg ((M.1 (19, k, 4) v1.toNatClampNeg) + (1 : Int32))) (19, k, 5) v1.toNatClampNeg ((putI (putI (putI M (18, k, 0) 6 ((M.1 (18, k, 0) 6) + (1 : Int32))) (18, k, 0) 7 ((M.1 (18, k, 0) 7) + (0 : Int32))) (19, k, 4) v1.toNatClampNeg ((M.1 (19, k, 4) v1.toNatClampNeg) + (1 : Int32))).1 (19, k, 5) v1.toNatClampNeg))) else if v1 < 0 ∨ 12 ≤ v1.toNatClampNeg then none else fX10_step_L11 k K n (v1 + (1 : Int32)) (putI (putI (putI (putI M (18, k, 0) 6 ((M.1 (18, k, 0) 6) + (1 : Int32))) (18, k, 0) 7 ((M.1 (18, k, 0) 7) + (0 : Int32))) (19, k, 4) v1.toNatClampNeg ((M.1 (19, k, 4) v1.toNatClampNeg) + (1 : Int32))) (19, k, 5) v1.toNatClampNeg (M.1 (18, k, 0) 8))) else if q3 = (3 : Int32) then (if v1 < 0 ∨ 12 ≤ v1.toNatClampNeg then none else if q3 ≤ (1 : Int32) then (if v1 < 0 ∨ 12 ≤ v1.toNatClampNeg then none else if v1 < 0 ∨ 12 ≤ v1.toNatClampNeg then none else fX10_step_L11 k K n (v1 + (1 : Int32)) (putI (putI (putI (putI M (18, k, 0) 6 ((M.1 (18, k, 0) 6) + (1 : Int32))) (18, k, 0) 7 ((M.1 (18, k, 0) 7) + (0 : Int32))) (19, k, 4) v1.toNatClampNeg ((M.1 (19, k, 4) v1.toNatClampNeg) + (5 : Int32))) (19, k, 5) v1.toNatClampNeg ((putI (putI (putI M (18, k, 0) 6 ((M.1 (18, k, 0) 6) + (1 : Int32))) (18, k, 0) 7 ((M.1 (18, k, 0) 7) + (0 : Int32))) (19, k, 4) v1.toNatClampNeg ((M.1 (19, k, 4) v1.toNatClampNeg) + (5 : Int32))).1 (19, k, 5) v1.toNatClampNeg))) else if v1 < 0 ∨ 12 ≤ v1.toNatClampNeg then none else fX10_step_L11 k K n (v1 + (1 : Int32)) (putI (putI (putI (putI M (18, k, 0) 6 ((M.1 (18, k, 0) 6) + (1 : Int32))) (18, k, 0) 7 ((M.1 (18, k, 0) 7) + (0 : Int32))) (19, k, 4) v1.toNatClampNeg ((M.1 (19, k, 4) v1.toNatClampNeg) + (5 : Int32))) (19, k, 5) v1.toNatClampNeg (M.1 (18, k, 0) 8))) else if v1 < 0 ∨ 12 ≤ v1.toNatClampNeg then none else if q3 ≤ (1 : Int32) then (if v1 < 0 ∨ 12 ≤ v1.toNatClampNeg then none else if v1 < 0 ∨ 12 ≤ v1.toNatClampNeg then none else fX10_step_L11 k K n (v1 + (1 : Int32)) (putI (putI (putI (putI M (18, k, 0) 6 ((M.1 (18, k, 0) 6) + (1 : Int32))) (18, k, 0) 7 ((M.1 (18, k, 0) 7) + (0 : Int32))) (19, k, 4) v1.toNatClampNeg ((M.1 (19, k, 4) v1.toNatClampNeg) + (0 : Int32))) (19, k, 5) v1.toNatClampNeg ((putI (putI (putI M (18, k, 0) 6 ((M.1 (18, k, 0) 6) + (1 : Int32))) (18, k, 0) 7 ((M.1 (18, k, 0) 7) + (0 : Int32))) (19, k, 4) v1.toNatClampNeg ((M.1 (19, k, 4) v1.toNatClampNeg) + (0 : Int32))).1 (19, k, 5) v1.toNatClampNeg))) else if v1 < 0 ∨ 12 ≤ v1.toNatClampNeg then none else fX10_step_L11 k K n (v1 + (1 : Int32)) (putI (putI (putI (putI M (18, k, 0) 6 ((M.1 (18, k, 0) 6) + (1 : Int32))) (18, k, 0) 7 ((M.1 (18, k, 0) 7) + (0 : Int32))) (19, k, 4) v1.toNatClampNeg ((M.1 (19, k, 4) v1.toNatClampNeg) + (0 : Int32))) (19, k, 5) v1.toNatClampNeg (M.1 (18, k, 0) 8))) else if q3 = (3 : Int32) then (if v1 < 0 ∨ 12 ≤ v1.toNatClampNeg then none else if q3 = (2 : Int32) then (if v1 < 0 ∨ 12 ≤ v1.toNatClampNeg then none else if q3 ≤ (1 : Int32) then (if v1 < 0 ∨ 12 ≤ v1.toNatClampNeg then none else if v1 < 0 ∨ 12 ≤ v1.toNatClampNeg then none else fX10_step_L11 k K n (v1 + (1 : Int32)) (putI (putI (putI (putI M (18, k, 0) 6 ((M.1 (18, k, 0) 6) + (0 : Int32))) (18, k, 0) 7 ((M.1 (18, k, 0) 7) + (1 : Int32))) (19, k, 4) v1.toNatClampNeg ((M.1 (19, k, 4) v1.toNatClampNeg) + (1 : Int32))) (19, k, 5) v1.toNatClampNeg ((putI (putI (putI M (18, k, 0) 6 ((M.1 (18, k, 0) 6) + (0 : Int32))) (18, k, 0) 7 ((M.1 (18, k, 0) 7) + (1 : Int32))) (19, k, 4) v1.toNatClampNeg ((M.1 (19, k, 4) v1.toNatClampNeg) + (1 : Int32))).1 (19, k, 5) v1.toNatClampNeg))) else if v1 < 0 ∨ 12 ≤ v1.toNatClampNeg then none else fX10_step_L11 k K n (v1 + (1 : Int32)) (putI (putI (putI (putI M (18, k, 0) 6 ((M.1 (18, k, 0) 6) + (0 : Int32))) (18, k, 0) 7 ((M.1 (18, k, 0) 7) + (1 : Int32))) (19, k, 4) v1.toNatClampNeg ((M.1 (19, k, 4) v1.toNatClampNeg) + (1 : Int32))) (19, k, 5) v1.toNatClampNeg (M.1 (18, k, 0) 8))) else if q3 = (3 : Int32) then (if v1 < 0 ∨ 12 ≤ v1.toNatClampNeg then none else if q3 ≤ (1 : Int32) then (if v1 < 0 ∨ 12 ≤ v1.toNatClampNeg then none else if v1 < 0 ∨ 12 ≤ v1.toNatClampNeg then none else fX10_step_L11 k K n (v1 + (1 : Int32)) (putI (putI (putI (putI M (18, k, 0) 6 ((M.1 (18, k, 0) 6) + (0 : Int32))) (18, k, 0) 7 ((M.1 (18, k, 0) 7) + (1 : Int32))) (19, k, 4) v1.toNatClampNeg ((M.1 (19, k, 4) v1.toNatClampNeg) + (5 : Int32))) (19, k, 5) v1.toNatClampNeg ((putI (putI (putI M (18, k, 0) 6 ((M.1 (18, k, 0) 6) + (0 : Int32))) (18, k, 0) 7 ((M.1 (18, k, 0) 7) + (1 : Int32))) (19, k, 4) v1.toNatClampNeg ((M.1 (19, k, 4) v1.toNatClampNeg) + (5 : Int32))).1 (19, k, 5) v1.toNatClampNeg))) else if v1 < 0 ∨ 12 ≤ v1.toNatClampNeg then none else fX10_step_L11 k K n (v1 + (1 : Int32)) (putI (putI (putI (putI M (18, k, 0) 6 ((M.1 (18, k, 0) 6) + (0 : Int32))) (18, k, 0) 7 ((M.1 (18, k, 0) 7) + (1 : Int32))) (19, k, 4) v1.toNatClampNeg ((M.1 (19, k, 4) v1.toNatClampNeg) + (5 : Int32))) (19, k, 5) v1.toNatClampNeg (M.1 (18, k, 0) 8))) else if v1 < 0 ∨ 12 ≤ v1.toNatClampNeg then none else if q3 ≤ (1 : Int32) then (if v1 < 0 ∨ 12 ≤ v1.toNatClampNeg then none else if v1 < 0 ∨ 12 ≤ v1.toNatClampNeg then none else fX10_step_L11 k K n (v1 + (1 : Int32)) (putI (putI (putI (putI M (18, k, 0) 6 ((M.1 (18, k, 0) 6) + (0 : Int32))) (18, k, 0) 7 ((M.1 (18, k, 0) 7) + (1 : Int32))) (19, k, 4) v1.toNatClampNeg ((M.1 (19, k, 4) v1.toNatClampNeg) + (0 : Int32))) (19, k, 5) v1.toNatClampNeg ((putI (putI (putI M (18, k, 0) 6 ((M.1 (18, k, 0) 6) + (0 : Int32))) (18, k, 0) 7 ((M.1 (18, k, 0) 7) + (1 : Int32))) (19, k, 4) v1.toNatClampNeg ((M.1 (19, k, 4) v1.toNatClampNeg) + (0 : Int32))).1 (19, k, 5) v1.toNatClampNeg))) else if v1 < 0 ∨ 12 ≤ v1.toNatClampNeg then none else fX10_step_L11 k K n (v1 + (1 : Int32)) (putI (putI (putI (putI M (18, k, 0) 6 ((M.1 (18, k, 0) 6) + (0 : Int32))) (18, k, 0) 7 ((M.1 (18, k, 0) 7) + (1 : Int32))) (19, k, 4) v1.toNatClampNeg ((M.1 (19, k, 4) v1.toNatClampNeg) + (0 : Int32))) (19, k, 5) v1.toNatClampNeg (M.1 (18, k, 0) 8))) else if v1 < 0 ∨ 12 ≤ v1.toNatClampNeg then none else if q3 = (2 : Int32) then (if v1 < 0 ∨ 12 ≤ v1.toNatClampNeg then none else if q3 ≤ (1 : Int32) then (if v1 < 0 ∨ 12 ≤ v1.toNatClampNeg then none else if v1 < 0 ∨ 12 ≤ v1.toNatClampNeg then none else fX10_step_L11 k K n (v1 + (1 : Int32)) (putI (putI (putI (putI M (18, k, 0) 6 ((M.1 (18, k, 0) 6) + (0 : Int32))) (18, k, 0) 7 ((M.1 (18, k, 0) 7) + (0 : Int32))) (19, k, 4) v1.toNatClampNeg ((M.1 (19, k, 4) v1.toNatClampNeg) + (1 : Int32))) (19, k, 5) v1.toNatClampNeg ((putI (putI (putI M (18, k, 0) 6 ((M.1 (18, k, 0) 6) + (0 : Int32))) (18, k, 0) 7 ((M.1 (18, k, 0) 7) + (0 : Int32))) (19, k, 4) v1.toNatClampNeg ((M.1 (19, k, 4) v1.toNatClampNeg) + (1 : Int32))).1 (19, k, 5) v1.toNatClampNeg))) else if v1 < 0 ∨ 12 ≤ v1.toNatClampNeg then none else fX10_step_L11 k K n (v1 + (1 : Int32)) (putI (putI (putI (putI M (18, k, 0) 6 ((M.1 (18, k, 0) 6) + (0 : Int32))) (18, k, 0) 7 ((M.1 (18, k, 0) 7) + (0 : Int32))) (19, k, 4) v1.toNatClampNeg ((M.1 (19, k, 4) v1.toNatClampNeg) + (1 : Int32))) (19, k, 5) v1.toNatClampNeg (M.1 (18, k, 0) 8))) else if q3 = (3 : Int32) then (if v1 < 0 ∨ 12 ≤ v1.toNatClampNeg then none else if q3 ≤ (1 : Int32) then (if v1 < 0 ∨ 12 ≤ v1.toNatClampNeg then none else if v1 < 0 ∨ 12 ≤ v1.toNatClampNeg then none else fX10_step_L11 k K n (v1 + (1 : Int32)) (putI (putI (putI (putI M (18, k, 0) 6 ((M.1 (18, k, 0) 6) + (0 : Int32))) (18, k, 0) 7 ((M.1 (18, k, 0) 7) + (0 : Int32))) (19, k, 4) v1.toNatClampNeg ((M.1 (19, k, 4) v1.toNatClampNeg) + (5 : Int32))) (19, k, 5) v1.toNatClampNeg ((putI (putI (putI M (18, k, 0) 6 ((M.1 (18, k, 0) 6) + (0 : Int32))) (18, k, 0) 7 ((M.1 (18, k, 0) 7) + (0 : Int32))) (19, k, 4) v1.toNatClampNeg ((M.1 (19, k, 4) v1.toNatClampNeg) + (5 : Int32))).1 (19, k, 5) v1.toNatClampNeg))) else if v1 < 0 ∨ 12 ≤ v1.toNatClampNeg then none else fX10_step_L11 k K n (v1 + (1 : Int32)) (putI (putI (putI (putI M (18, k, 0) 6 ((M.1 (18, k, 0) 6) + (0 : Int32))) (18, k, 0) 7 ((M.1 (18, k, 0) 7) + (0 : Int32))) (19, k, 4) v1.toNatClampNeg ((M.1 (19, k, 4) v1.toNatClampNeg) + (5 : Int32))) (19, k, 5) v1.toNatClampNeg (M.1 (18, k, 0) 8))) else if v1 < 0 ∨ 12 ≤ v1.toNatClampNeg then none else if q3 ≤ (1 : Int32) then (if v1 < 0 ∨ 12 ≤ v1.toNatClampNeg then none else if v1 < 0 ∨ 12 ≤ v1.toNatClampNeg then none else fX10_step_L11 k K n (v1 + (1 : Int32)) (putI (putI (putI (putI M (18, k, 0) 6 ((M.1 (18, k, 0) 6) + (0 : Int32))) (18, k, 0) 7 ((M.1 (18, k, 0) 7) + (0 : Int32))) (19, k, 4) v1.toNatClampNeg ((M.1 (19, k, 4) v1.toNatClampNeg) + (0 : Int32))) (19, k, 5) v1.toNatClampNeg ((putI (putI (putI M (18, k, 0) 6 ((M.1 (18, k, 0) 6) + (0 : Int32))) (18, k, 0) 7 ((M.1 (18, k, 0) 7) + (0 : Int32))) (19, k, 4) v1.toNatClampNeg ((M.1 (19, k, 4) v1.toNatClampNeg) + (0 : Int32))).1 (19, k, 5) v1.toNatClampNeg))) else if v1 < 0 ∨ 12 ≤ v1.toNatClampNeg then none else fX10_step_L11 k K n (v1 + (1 : Int32)) (putI (putI (putI (putI M (18, k, 0) 6 ((M.1 (18, k, 0) 6) + (0 : Int32))) (18, k, 0) 7 ((M.1 (18, k, 0) 7) + (0 : Int32))) (19, k, 4) v1.toNatClampNeg ((M.1 (19, k, 4) v1.toNatClampNeg) + (0 : Int32))) (19, k, 5) v1.toNatClampNeg (M.1 (18, k, 0) 8))
def fX10_step (M : Mm) (k : Nat) : Option (Int32 × Mm) := if (M.1 (18, k, 0) 1) = 0 then some ((0 : Int32), M) else fX10_step_L11 k (fun w80 M81 => if (M81.1 (18, k, 0) 0) = 0 then none else if (M81.1 (18, k, 0) 0) = 0 then none else some ((1 : Int32), (putI (putI (putI (putI M81 (18, k, 0) 8 ((M81.1 (18, k, 0) 8) + (1 : Int32))) (18, k, 0) 5 ((M81.1 (18, k, 0) 5) + (1 : Int32))) (18, k, 0) 1 ((M81.1 (18, k, 0) 1) - (((M81.1 (18, k, 0) 5) + (1 : Int32)) / (M81.1 (18, k, 0) 0)))) (18, k, 0) 5 (((M81.1 (18, k, 0) 5) + (1 : Int32)) - ((M81.1 (18, k, 0) 5) + (1 : Int32)) / (M81.1 (18, k, 0) 0) * (M81.1 (18, k, 0) 0))))) NF (0 : Int32) M
set_option maxRecDepth 20000 in
set_option maxHeartbeats 2000000 in
theorem sX10_step_L11 {wv : Wv} (k : Nat) (hk : OwI wv k) {res : (Int32 × Mm)} {K : Int32 → Mm → Option (Int32 × Mm)} : ∀ (n : Nat) (v1 : Int32) (M : Mm), fX10_step_L11 k K n v1 M = some res →
    (∀ (v1 : Int32) (M : Mm), K v1 M = some res → Z RX10 cX10_step 3 (some .boolean) [] "step" (rmD 3 0 0) (QM SH (allR wv) 0 0 (fun v M9 => v = some (.int res.1) ∧ M9 = res.2) (fun _ _ => False)) (allR wv) SH 0 0 121 [some (.inr (18, k, 0)), some (.inl (.int v1)), none] [] M) → Z RX10 cX10_step 3 (some .boolean) [] "step" (rmD 3 0 0) (QM SH (allR wv) 0 0 (fun v M9 => v = some (.int res.1) ∧ M9 = res.2) (fun _ _ => False)) (allR wv) SH 0 0 11 [some (.inr (18, k, 0)), some (.inl (.int v1)), none] [] M := by
  intro n
  induction n with
  | zero => intro v1 M h; cases h
  | succ n ih =>
    intro v1 M h hK
    rw [fX10_step_L11] at h
    refine z_iload_n (i := 1) dX10_step_11 rfl rfl ?_
    refine z_aload_n (i := 0) dX10_step_12 rfl rfl ?_
    refine z_getI (x := (M.1 (18, k, 0) 3)) dX10_step_13 fl_X10_43 hk.1 rfl rfl ?_
    refine z_icmp_ge (tgt := 121) dX10_step_16 rfl (fun hc2 => ?_) (fun hc2 => ?_)
    · have h := it_t h hc2
      exact hK _ _ h
    · have h := it_f h hc2
      refine z_aload_n (i := 0) dX10_step_19 rfl rfl ?_
      refine z_iload_n (i := 1) dX10_step_20 rfl rfl ?_
      obtain ⟨q3, hq4, h⟩ := bnd h
      refine z_fVi (sX10_sound M k v1 hk hq4) dX10_step_21 ml_X10_92 cd_X10_sound hk.1 rfl rfl rfl rfl rfl rfl ?_
      refine z_istore_n (i := 2) dX10_step_24 rfl (Nat.le_of_ble_eq_true rfl) rfl ?_
      refine z_aload_n (i := 0) dX10_step_25 rfl rfl ?_
      refine z_dup dX10_step_26 rfl ?_
      refine z_getI (x := (M.1 (18, k, 0) 6)) dX10_step_27 fl_X10_52 hk.1 rfl rfl ?_
      refine z_iload_n (i := 2) dX10_step_30 rfl rfl ?_
      refine z_iconst (v := (2 : Int32)) dX10_step_31 kc_2 ?_
      refine z_icmp_ne (tgt := 39) dX10_step_32 rfl (fun hc5 => ?_) (fun hc5 => ?_)
      · have h := it_f h hc5
        refine z_iconst (v := (0 : Int32)) dX10_step_39 kc_0 ?_
        refine z_iadd dX10_step_40 ?_
        refine z_putI allR_nd dX10_step_41 fl_X10_52 hk.1 rfl rfl ?_
        refine z_aload_n (i := 0) dX10_step_44 rfl rfl ?_
        refine z_dup dX10_step_45 rfl ?_
        refine z_getI (x := (M.1 (18, k, 0) 7)) dX10_step_46 fl_X10_55 hk.1 rfl rfl ?_
        refine z_iload_n (i := 2) dX10_step_49 rfl rfl ?_
        refine z_iconst (v := (3 : Int32)) dX10_step_50 kc_3 ?_
        refine z_icmp_ne (tgt := 58) dX10_step_51 rfl (fun hc6 => ?_) (fun hc6 => ?_)
        · have h := it_f h hc6
          refine z_iconst (v := (0 : Int32)) dX10_step_58 kc_0 ?_
          refine z_iadd dX10_step_59 ?_
          refine z_putI allR_nd dX10_step_60 fl_X10_55 hk.1 rfl rfl ?_
          refine z_aload_n (i := 0) dX10_step_63 rfl rfl ?_
          refine z_getR (r' := (19, k, 4)) dX10_step_64 fl_X10_22 hk.1 rfl rfl ?_
          refine z_iload_n (i := 1) dX10_step_67 rfl rfl ?_
          refine z_dup2 dX10_step_68 rfl rfl ?_
          obtain ⟨hc7, h⟩ := chk h
          refine z_iald (x := (M.1 (19, k, 4) v1.toNatClampNeg)) dX10_step_69 (hk.2.2 4 (Nat.le_of_ble_eq_true rfl)) rfl hc7 rfl ?_
          refine z_iload_n (i := 2) dX10_step_70 rfl rfl ?_
          refine z_iconst (v := (2 : Int32)) dX10_step_71 kc_2 ?_
          refine z_icmp_ne (tgt := 79) dX10_step_72 rfl (fun hc8 => ?_) (fun hc8 => ?_)
          · have h := it_f h hc8
            refine z_iload_n (i := 2) dX10_step_79 rfl rfl ?_
            refine z_iconst (v := (3 : Int32)) dX10_step_80 kc_3 ?_
            refine z_icmp_ne (tgt := 88) dX10_step_81 rfl (fun hc9 => ?_) (fun hc9 => ?_)
            · have h := it_f h hc9
              refine z_iconst (v := (0 : Int32)) dX10_step_88 kc_0 ?_
              refine z_iadd dX10_step_89 ?_
              obtain ⟨hc10, h⟩ := chk h
              refine z_iast (j := v1.toNatClampNeg) allR_nd dX10_step_90 (hk.2.2 4 (Nat.le_of_ble_eq_true rfl)) rfl hc10 rfl ?_
              refine z_aload_n (i := 0) dX10_step_91 rfl rfl ?_
              refine z_getR (r' := (19, k, 5)) dX10_step_92 fl_X10_25 hk.1 rfl rfl ?_
              refine z_iload_n (i := 1) dX10_step_95 rfl rfl ?_
              refine z_iload_n (i := 2) dX10_step_96 rfl rfl ?_
              refine z_iconst (v := (1 : Int32)) dX10_step_97 kc_1 ?_
              refine z_icmp_le (tgt := 108) dX10_step_98 rfl (fun hc11 => ?_) (fun hc11 => ?_)
              · have h := it_t h hc11
                refine z_aload_n (i := 0) dX10_step_108 rfl rfl ?_
                refine z_getR (r' := (19, k, 5)) dX10_step_109 fl_X10_25 hk.1 rfl rfl ?_
                refine z_iload_n (i := 1) dX10_step_112 rfl rfl ?_
                obtain ⟨hc12, h⟩ := chk h
                refine z_iald (x := ((putI (putI (putI M (18, k, 0) 6 ((M.1 (18, k, 0) 6) + (0 : Int32))) (18, k, 0) 7 ((M.1 (18, k, 0) 7) + (0 : Int32))) (19, k, 4) v1.toNatClampNeg ((M.1 (19, k, 4) v1.toNatClampNeg) + (0 : Int32))).1 (19, k, 5) v1.toNatClampNeg)) dX10_step_113 (hk.2.2 5 (Nat.le_of_ble_eq_true rfl)) rfl hc12 rfl ?_
                obtain ⟨hc13, h⟩ := chk h
                refine z_iast (j := v1.toNatClampNeg) allR_nd dX10_step_114 (hk.2.2 5 (Nat.le_of_ble_eq_true rfl)) rfl hc13 rfl ?_
                refine z_iinc (i := 1) (v := (v1 + (1 : Int32))) dX10_step_115 rfl (iinc_k kc_1) (Nat.le_of_ble_eq_true rfl) rfl ?_
                refine z_goto (tgt := 11) dX10_step_118 rfl ?_
                refine z_fgt (i := 2) ?_
                exact ih _ _ h hK
              · have h := it_f h hc11
                refine z_aload_n (i := 0) dX10_step_101 rfl rfl ?_
                refine z_getI (x := (M.1 (18, k, 0) 8)) dX10_step_102 fl_X10_58 hk.1 rfl rfl ?_
                refine z_goto (tgt := 114) dX10_step_105 rfl ?_
                obtain ⟨hc14, h⟩ := chk h
                refine z_iast (j := v1.toNatClampNeg) allR_nd dX10_step_114 (hk.2.2 5 (Nat.le_of_ble_eq_true rfl)) rfl hc14 rfl ?_
                refine z_iinc (i := 1) (v := (v1 + (1 : Int32))) dX10_step_115 rfl (iinc_k kc_1) (Nat.le_of_ble_eq_true rfl) rfl ?_
                refine z_goto (tgt := 11) dX10_step_118 rfl ?_
                refine z_fgt (i := 2) ?_
                exact ih _ _ h hK
            · have h := it_t h hc9
              refine z_iconst (v := (5 : Int32)) dX10_step_84 kc_5 ?_
              refine z_goto (tgt := 89) dX10_step_85 rfl ?_
              refine z_iadd dX10_step_89 ?_
              obtain ⟨hc15, h⟩ := chk h
              refine z_iast (j := v1.toNatClampNeg) allR_nd dX10_step_90 (hk.2.2 4 (Nat.le_of_ble_eq_true rfl)) rfl hc15 rfl ?_
              refine z_aload_n (i := 0) dX10_step_91 rfl rfl ?_
              refine z_getR (r' := (19, k, 5)) dX10_step_92 fl_X10_25 hk.1 rfl rfl ?_
              refine z_iload_n (i := 1) dX10_step_95 rfl rfl ?_
              refine z_iload_n (i := 2) dX10_step_96 rfl rfl ?_
              refine z_iconst (v := (1 : Int32)) dX10_step_97 kc_1 ?_
              refine z_icmp_le (tgt := 108) dX10_step_98 rfl (fun hc16 => ?_) (fun hc16 => ?_)
              · have h := it_t h hc16
                refine z_aload_n (i := 0) dX10_step_108 rfl rfl ?_
                refine z_getR (r' := (19, k, 5)) dX10_step_109 fl_X10_25 hk.1 rfl rfl ?_
                refine z_iload_n (i := 1) dX10_step_112 rfl rfl ?_
                obtain ⟨hc17, h⟩ := chk h
                refine z_iald (x := ((putI (putI (putI M (18, k, 0) 6 ((M.1 (18, k, 0) 6) + (0 : Int32))) (18, k, 0) 7 ((M.1 (18, k, 0) 7) + (0 : Int32))) (19, k, 4) v1.toNatClampNeg ((M.1 (19, k, 4) v1.toNatClampNeg) + (5 : Int32))).1 (19, k, 5) v1.toNatClampNeg)) dX10_step_113 (hk.2.2 5 (Nat.le_of_ble_eq_true rfl)) rfl hc17 rfl ?_
                obtain ⟨hc18, h⟩ := chk h
                refine z_iast (j := v1.toNatClampNeg) allR_nd dX10_step_114 (hk.2.2 5 (Nat.le_of_ble_eq_true rfl)) rfl hc18 rfl ?_
                refine z_iinc (i := 1) (v := (v1 + (1 : Int32))) dX10_step_115 rfl (iinc_k kc_1) (Nat.le_of_ble_eq_true rfl) rfl ?_
                refine z_goto (tgt := 11) dX10_step_118 rfl ?_
                refine z_fgt (i := 2) ?_
                exact ih _ _ h hK
              · have h := it_f h hc16
                refine z_aload_n (i := 0) dX10_step_101 rfl rfl ?_
                refine z_getI (x := (M.1 (18, k, 0) 8)) dX10_step_102 fl_X10_58 hk.1 rfl rfl ?_
                refine z_goto (tgt := 114) dX10_step_105 rfl ?_
                obtain ⟨hc19, h⟩ := chk h
                refine z_iast (j := v1.toNatClampNeg) allR_nd dX10_step_114 (hk.2.2 5 (Nat.le_of_ble_eq_true rfl)) rfl hc19 rfl ?_
                refine z_iinc (i := 1) (v := (v1 + (1 : Int32))) dX10_step_115 rfl (iinc_k kc_1) (Nat.le_of_ble_eq_true rfl) rfl ?_
                refine z_goto (tgt := 11) dX10_step_118 rfl ?_
                refine z_fgt (i := 2) ?_
                exact ih _ _ h hK
          · have h := it_t h hc8
            refine z_iconst (v := (1 : Int32)) dX10_step_75 kc_1 ?_
            refine z_goto (tgt := 89) dX10_step_76 rfl ?_
            refine z_iadd dX10_step_89 ?_
            obtain ⟨hc20, h⟩ := chk h
            refine z_iast (j := v1.toNatClampNeg) allR_nd dX10_step_90 (hk.2.2 4 (Nat.le_of_ble_eq_true rfl)) rfl hc20 rfl ?_
            refine z_aload_n (i := 0) dX10_step_91 rfl rfl ?_
            refine z_getR (r' := (19, k, 5)) dX10_step_92 fl_X10_25 hk.1 rfl rfl ?_
            refine z_iload_n (i := 1) dX10_step_95 rfl rfl ?_
            refine z_iload_n (i := 2) dX10_step_96 rfl rfl ?_
            refine z_iconst (v := (1 : Int32)) dX10_step_97 kc_1 ?_
            refine z_icmp_le (tgt := 108) dX10_step_98 rfl (fun hc21 => ?_) (fun hc21 => ?_)
            · have h := it_t h hc21
              refine z_aload_n (i := 0) dX10_step_108 rfl rfl ?_
              refine z_getR (r' := (19, k, 5)) dX10_step_109 fl_X10_25 hk.1 rfl rfl ?_
              refine z_iload_n (i := 1) dX10_step_112 rfl rfl ?_
              obtain ⟨hc22, h⟩ := chk h
              refine z_iald (x := ((putI (putI (putI M (18, k, 0) 6 ((M.1 (18, k, 0) 6) + (0 : Int32))) (18, k, 0) 7 ((M.1 (18, k, 0) 7) + (0 : Int32))) (19, k, 4) v1.toNatClampNeg ((M.1 (19, k, 4) v1.toNatClampNeg) + (1 : Int32))).1 (19, k, 5) v1.toNatClampNeg)) dX10_step_113 (hk.2.2 5 (Nat.le_of_ble_eq_true rfl)) rfl hc22 rfl ?_
              obtain ⟨hc23, h⟩ := chk h
              refine z_iast (j := v1.toNatClampNeg) allR_nd dX10_step_114 (hk.2.2 5 (Nat.le_of_ble_eq_true rfl)) rfl hc23 rfl ?_
              refine z_iinc (i := 1) (v := (v1 + (1 : Int32))) dX10_step_115 rfl (iinc_k kc_1) (Nat.le_of_ble_eq_true rfl) rfl ?_
              refine z_goto (tgt := 11) dX10_step_118 rfl ?_
              refine z_fgt (i := 2) ?_
              exact ih _ _ h hK
            · have h := it_f h hc21
              refine z_aload_n (i := 0) dX10_step_101 rfl rfl ?_
              refine z_getI (x := (M.1 (18, k, 0) 8)) dX10_step_102 fl_X10_58 hk.1 rfl rfl ?_
              refine z_goto (tgt := 114) dX10_step_105 rfl ?_
              obtain ⟨hc24, h⟩ := chk h
              refine z_iast (j := v1.toNatClampNeg) allR_nd dX10_step_114 (hk.2.2 5 (Nat.le_of_ble_eq_true rfl)) rfl hc24 rfl ?_
              refine z_iinc (i := 1) (v := (v1 + (1 : Int32))) dX10_step_115 rfl (iinc_k kc_1) (Nat.le_of_ble_eq_true rfl) rfl ?_
              refine z_goto (tgt := 11) dX10_step_118 rfl ?_
              refine z_fgt (i := 2) ?_
              exact ih _ _ h hK
        · have h := it_t h hc6
          refine z_iconst (v := (1 : Int32)) dX10_step_54 kc_1 ?_
          refine z_goto (tgt := 59) dX10_step_55 rfl ?_
          refine z_iadd dX10_step_59 ?_
          refine z_putI allR_nd dX10_step_60 fl_X10_55 hk.1 rfl rfl ?_
          refine z_aload_n (i := 0) dX10_step_63 rfl rfl ?_
          refine z_getR (r' := (19, k, 4)) dX10_step_64 fl_X10_22 hk.1 rfl rfl ?_
          refine z_iload_n (i := 1) dX10_step_67 rfl rfl ?_
          refine z_dup2 dX10_step_68 rfl rfl ?_
          obtain ⟨hc25, h⟩ := chk h
          refine z_iald (x := (M.1 (19, k, 4) v1.toNatClampNeg)) dX10_step_69 (hk.2.2 4 (Nat.le_of_ble_eq_true rfl)) rfl hc25 rfl ?_
          refine z_iload_n (i := 2) dX10_step_70 rfl rfl ?_
          refine z_iconst (v := (2 : Int32)) dX10_step_71 kc_2 ?_
          refine z_icmp_ne (tgt := 79) dX10_step_72 rfl (fun hc26 => ?_) (fun hc26 => ?_)
          · have h := it_f h hc26
            refine z_iload_n (i := 2) dX10_step_79 rfl rfl ?_
            refine z_iconst (v := (3 : Int32)) dX10_step_80 kc_3 ?_
            refine z_icmp_ne (tgt := 88) dX10_step_81 rfl (fun hc27 => ?_) (fun hc27 => ?_)
            · have h := it_f h hc27
              refine z_iconst (v := (0 : Int32)) dX10_step_88 kc_0 ?_
              refine z_iadd dX10_step_89 ?_
              obtain ⟨hc28, h⟩ := chk h
              refine z_iast (j := v1.toNatClampNeg) allR_nd dX10_step_90 (hk.2.2 4 (Nat.le_of_ble_eq_true rfl)) rfl hc28 rfl ?_
              refine z_aload_n (i := 0) dX10_step_91 rfl rfl ?_
              refine z_getR (r' := (19, k, 5)) dX10_step_92 fl_X10_25 hk.1 rfl rfl ?_
              refine z_iload_n (i := 1) dX10_step_95 rfl rfl ?_
              refine z_iload_n (i := 2) dX10_step_96 rfl rfl ?_
              refine z_iconst (v := (1 : Int32)) dX10_step_97 kc_1 ?_
              refine z_icmp_le (tgt := 108) dX10_step_98 rfl (fun hc29 => ?_) (fun hc29 => ?_)
              · have h := it_t h hc29
                refine z_aload_n (i := 0) dX10_step_108 rfl rfl ?_
                refine z_getR (r' := (19, k, 5)) dX10_step_109 fl_X10_25 hk.1 rfl rfl ?_
                refine z_iload_n (i := 1) dX10_step_112 rfl rfl ?_
                obtain ⟨hc30, h⟩ := chk h
                refine z_iald (x := ((putI (putI (putI M (18, k, 0) 6 ((M.1 (18, k, 0) 6) + (0 : Int32))) (18, k, 0) 7 ((M.1 (18, k, 0) 7) + (1 : Int32))) (19, k, 4) v1.toNatClampNeg ((M.1 (19, k, 4) v1.toNatClampNeg) + (0 : Int32))).1 (19, k, 5) v1.toNatClampNeg)) dX10_step_113 (hk.2.2 5 (Nat.le_of_ble_eq_true rfl)) rfl hc30 rfl ?_
                obtain ⟨hc31, h⟩ := chk h
                refine z_iast (j := v1.toNatClampNeg) allR_nd dX10_step_114 (hk.2.2 5 (Nat.le_of_ble_eq_true rfl)) rfl hc31 rfl ?_
                refine z_iinc (i := 1) (v := (v1 + (1 : Int32))) dX10_step_115 rfl (iinc_k kc_1) (Nat.le_of_ble_eq_true rfl) rfl ?_
                refine z_goto (tgt := 11) dX10_step_118 rfl ?_
                refine z_fgt (i := 2) ?_
                exact ih _ _ h hK
              · have h := it_f h hc29
                refine z_aload_n (i := 0) dX10_step_101 rfl rfl ?_
                refine z_getI (x := (M.1 (18, k, 0) 8)) dX10_step_102 fl_X10_58 hk.1 rfl rfl ?_
                refine z_goto (tgt := 114) dX10_step_105 rfl ?_
                obtain ⟨hc32, h⟩ := chk h
                refine z_iast (j := v1.toNatClampNeg) allR_nd dX10_step_114 (hk.2.2 5 (Nat.le_of_ble_eq_true rfl)) rfl hc32 rfl ?_
                refine z_iinc (i := 1) (v := (v1 + (1 : Int32))) dX10_step_115 rfl (iinc_k kc_1) (Nat.le_of_ble_eq_true rfl) rfl ?_
                refine z_goto (tgt := 11) dX10_step_118 rfl ?_
                refine z_fgt (i := 2) ?_
                exact ih _ _ h hK
            · have h := it_t h hc27
              refine z_iconst (v := (5 : Int32)) dX10_step_84 kc_5 ?_
              refine z_goto (tgt := 89) dX10_step_85 rfl ?_
              refine z_iadd dX10_step_89 ?_
              obtain ⟨hc33, h⟩ := chk h
              refine z_iast (j := v1.toNatClampNeg) allR_nd dX10_step_90 (hk.2.2 4 (Nat.le_of_ble_eq_true rfl)) rfl hc33 rfl ?_
              refine z_aload_n (i := 0) dX10_step_91 rfl rfl ?_
              refine z_getR (r' := (19, k, 5)) dX10_step_92 fl_X10_25 hk.1 rfl rfl ?_
              refine z_iload_n (i := 1) dX10_step_95 rfl rfl ?_
              refine z_iload_n (i := 2) dX10_step_96 rfl rfl ?_
              refine z_iconst (v := (1 : Int32)) dX10_step_97 kc_1 ?_
              refine z_icmp_le (tgt := 108) dX10_step_98 rfl (fun hc34 => ?_) (fun hc34 => ?_)
              · have h := it_t h hc34
                refine z_aload_n (i := 0) dX10_step_108 rfl rfl ?_
                refine z_getR (r' := (19, k, 5)) dX10_step_109 fl_X10_25 hk.1 rfl rfl ?_
                refine z_iload_n (i := 1) dX10_step_112 rfl rfl ?_
                obtain ⟨hc35, h⟩ := chk h
                refine z_iald (x := ((putI (putI (putI M (18, k, 0) 6 ((M.1 (18, k, 0) 6) + (0 : Int32))) (18, k, 0) 7 ((M.1 (18, k, 0) 7) + (1 : Int32))) (19, k, 4) v1.toNatClampNeg ((M.1 (19, k, 4) v1.toNatClampNeg) + (5 : Int32))).1 (19, k, 5) v1.toNatClampNeg)) dX10_step_113 (hk.2.2 5 (Nat.le_of_ble_eq_true rfl)) rfl hc35 rfl ?_
                obtain ⟨hc36, h⟩ := chk h
                refine z_iast (j := v1.toNatClampNeg) allR_nd dX10_step_114 (hk.2.2 5 (Nat.le_of_ble_eq_true rfl)) rfl hc36 rfl ?_
                refine z_iinc (i := 1) (v := (v1 + (1 : Int32))) dX10_step_115 rfl (iinc_k kc_1) (Nat.le_of_ble_eq_true rfl) rfl ?_
                refine z_goto (tgt := 11) dX10_step_118 rfl ?_
                refine z_fgt (i := 2) ?_
                exact ih _ _ h hK
              · have h := it_f h hc34
                refine z_aload_n (i := 0) dX10_step_101 rfl rfl ?_
                refine z_getI (x := (M.1 (18, k, 0) 8)) dX10_step_102 fl_X10_58 hk.1 rfl rfl ?_
                refine z_goto (tgt := 114) dX10_step_105 rfl ?_
                obtain ⟨hc37, h⟩ := chk h
                refine z_iast (j := v1.toNatClampNeg) allR_nd dX10_step_114 (hk.2.2 5 (Nat.le_of_ble_eq_true rfl)) rfl hc37 rfl ?_
                refine z_iinc (i := 1) (v := (v1 + (1 : Int32))) dX10_step_115 rfl (iinc_k kc_1) (Nat.le_of_ble_eq_true rfl) rfl ?_
                refine z_goto (tgt := 11) dX10_step_118 rfl ?_
                refine z_fgt (i := 2) ?_
                exact ih _ _ h hK
          · have h := it_t h hc26
            refine z_iconst (v := (1 : Int32)) dX10_step_75 kc_1 ?_
            refine z_goto (tgt := 89) dX10_step_76 rfl ?_
            refine z_iadd dX10_step_89 ?_
            obtain ⟨hc38, h⟩ := chk h
            refine z_iast (j := v1.toNatClampNeg) allR_nd dX10_step_90 (hk.2.2 4 (Nat.le_of_ble_eq_true rfl)) rfl hc38 rfl ?_
            refine z_aload_n (i := 0) dX10_step_91 rfl rfl ?_
            refine z_getR (r' := (19, k, 5)) dX10_step_92 fl_X10_25 hk.1 rfl rfl ?_
            refine z_iload_n (i := 1) dX10_step_95 rfl rfl ?_
            refine z_iload_n (i := 2) dX10_step_96 rfl rfl ?_
            refine z_iconst (v := (1 : Int32)) dX10_step_97 kc_1 ?_
            refine z_icmp_le (tgt := 108) dX10_step_98 rfl (fun hc39 => ?_) (fun hc39 => ?_)
            · have h := it_t h hc39
              refine z_aload_n (i := 0) dX10_step_108 rfl rfl ?_
              refine z_getR (r' := (19, k, 5)) dX10_step_109 fl_X10_25 hk.1 rfl rfl ?_
              refine z_iload_n (i := 1) dX10_step_112 rfl rfl ?_
              obtain ⟨hc40, h⟩ := chk h
              refine z_iald (x := ((putI (putI (putI M (18, k, 0) 6 ((M.1 (18, k, 0) 6) + (0 : Int32))) (18, k, 0) 7 ((M.1 (18, k, 0) 7) + (1 : Int32))) (19, k, 4) v1.toNatClampNeg ((M.1 (19, k, 4) v1.toNatClampNeg) + (1 : Int32))).1 (19, k, 5) v1.toNatClampNeg)) dX10_step_113 (hk.2.2 5 (Nat.le_of_ble_eq_true rfl)) rfl hc40 rfl ?_
              obtain ⟨hc41, h⟩ := chk h
              refine z_iast (j := v1.toNatClampNeg) allR_nd dX10_step_114 (hk.2.2 5 (Nat.le_of_ble_eq_true rfl)) rfl hc41 rfl ?_
              refine z_iinc (i := 1) (v := (v1 + (1 : Int32))) dX10_step_115 rfl (iinc_k kc_1) (Nat.le_of_ble_eq_true rfl) rfl ?_
              refine z_goto (tgt := 11) dX10_step_118 rfl ?_
              refine z_fgt (i := 2) ?_
              exact ih _ _ h hK
            · have h := it_f h hc39
              refine z_aload_n (i := 0) dX10_step_101 rfl rfl ?_
              refine z_getI (x := (M.1 (18, k, 0) 8)) dX10_step_102 fl_X10_58 hk.1 rfl rfl ?_
              refine z_goto (tgt := 114) dX10_step_105 rfl ?_
              obtain ⟨hc42, h⟩ := chk h
              refine z_iast (j := v1.toNatClampNeg) allR_nd dX10_step_114 (hk.2.2 5 (Nat.le_of_ble_eq_true rfl)) rfl hc42 rfl ?_
              refine z_iinc (i := 1) (v := (v1 + (1 : Int32))) dX10_step_115 rfl (iinc_k kc_1) (Nat.le_of_ble_eq_true rfl) rfl ?_
              refine z_goto (tgt := 11) dX10_step_118 rfl ?_
              refine z_fgt (i := 2) ?_
              exact ih _ _ h hK
      · have h := it_t h hc5
        refine z_iconst (v := (1 : Int32)) dX10_step_35 kc_1 ?_
        refine z_goto (tgt := 40) dX10_step_36 rfl ?_
        refine z_iadd dX10_step_40 ?_
        refine z_putI allR_nd dX10_step_41 fl_X10_52 hk.1 rfl rfl ?_
        refine z_aload_n (i := 0) dX10_step_44 rfl rfl ?_
        refine z_dup dX10_step_45 rfl ?_
        refine z_getI (x := (M.1 (18, k, 0) 7)) dX10_step_46 fl_X10_55 hk.1 rfl rfl ?_
        refine z_iload_n (i := 2) dX10_step_49 rfl rfl ?_
        refine z_iconst (v := (3 : Int32)) dX10_step_50 kc_3 ?_
        refine z_icmp_ne (tgt := 58) dX10_step_51 rfl (fun hc43 => ?_) (fun hc43 => ?_)
        · have h := it_f h hc43
          refine z_iconst (v := (0 : Int32)) dX10_step_58 kc_0 ?_
          refine z_iadd dX10_step_59 ?_
          refine z_putI allR_nd dX10_step_60 fl_X10_55 hk.1 rfl rfl ?_
          refine z_aload_n (i := 0) dX10_step_63 rfl rfl ?_
          refine z_getR (r' := (19, k, 4)) dX10_step_64 fl_X10_22 hk.1 rfl rfl ?_
          refine z_iload_n (i := 1) dX10_step_67 rfl rfl ?_
          refine z_dup2 dX10_step_68 rfl rfl ?_
          obtain ⟨hc44, h⟩ := chk h
          refine z_iald (x := (M.1 (19, k, 4) v1.toNatClampNeg)) dX10_step_69 (hk.2.2 4 (Nat.le_of_ble_eq_true rfl)) rfl hc44 rfl ?_
          refine z_iload_n (i := 2) dX10_step_70 rfl rfl ?_
          refine z_iconst (v := (2 : Int32)) dX10_step_71 kc_2 ?_
          refine z_icmp_ne (tgt := 79) dX10_step_72 rfl (fun hc45 => ?_) (fun hc45 => ?_)
          · have h := it_f h hc45
            refine z_iload_n (i := 2) dX10_step_79 rfl rfl ?_
            refine z_iconst (v := (3 : Int32)) dX10_step_80 kc_3 ?_
            refine z_icmp_ne (tgt := 88) dX10_step_81 rfl (fun hc46 => ?_) (fun hc46 => ?_)
            · have h := it_f h hc46
              refine z_iconst (v := (0 : Int32)) dX10_step_88 kc_0 ?_
              refine z_iadd dX10_step_89 ?_
              obtain ⟨hc47, h⟩ := chk h
              refine z_iast (j := v1.toNatClampNeg) allR_nd dX10_step_90 (hk.2.2 4 (Nat.le_of_ble_eq_true rfl)) rfl hc47 rfl ?_
              refine z_aload_n (i := 0) dX10_step_91 rfl rfl ?_
              refine z_getR (r' := (19, k, 5)) dX10_step_92 fl_X10_25 hk.1 rfl rfl ?_
              refine z_iload_n (i := 1) dX10_step_95 rfl rfl ?_
              refine z_iload_n (i := 2) dX10_step_96 rfl rfl ?_
              refine z_iconst (v := (1 : Int32)) dX10_step_97 kc_1 ?_
              refine z_icmp_le (tgt := 108) dX10_step_98 rfl (fun hc48 => ?_) (fun hc48 => ?_)
              · have h := it_t h hc48
                refine z_aload_n (i := 0) dX10_step_108 rfl rfl ?_
                refine z_getR (r' := (19, k, 5)) dX10_step_109 fl_X10_25 hk.1 rfl rfl ?_
                refine z_iload_n (i := 1) dX10_step_112 rfl rfl ?_
                obtain ⟨hc49, h⟩ := chk h
                refine z_iald (x := ((putI (putI (putI M (18, k, 0) 6 ((M.1 (18, k, 0) 6) + (1 : Int32))) (18, k, 0) 7 ((M.1 (18, k, 0) 7) + (0 : Int32))) (19, k, 4) v1.toNatClampNeg ((M.1 (19, k, 4) v1.toNatClampNeg) + (0 : Int32))).1 (19, k, 5) v1.toNatClampNeg)) dX10_step_113 (hk.2.2 5 (Nat.le_of_ble_eq_true rfl)) rfl hc49 rfl ?_
                obtain ⟨hc50, h⟩ := chk h
                refine z_iast (j := v1.toNatClampNeg) allR_nd dX10_step_114 (hk.2.2 5 (Nat.le_of_ble_eq_true rfl)) rfl hc50 rfl ?_
                refine z_iinc (i := 1) (v := (v1 + (1 : Int32))) dX10_step_115 rfl (iinc_k kc_1) (Nat.le_of_ble_eq_true rfl) rfl ?_
                refine z_goto (tgt := 11) dX10_step_118 rfl ?_
                refine z_fgt (i := 2) ?_
                exact ih _ _ h hK
              · have h := it_f h hc48
                refine z_aload_n (i := 0) dX10_step_101 rfl rfl ?_
                refine z_getI (x := (M.1 (18, k, 0) 8)) dX10_step_102 fl_X10_58 hk.1 rfl rfl ?_
                refine z_goto (tgt := 114) dX10_step_105 rfl ?_
                obtain ⟨hc51, h⟩ := chk h
                refine z_iast (j := v1.toNatClampNeg) allR_nd dX10_step_114 (hk.2.2 5 (Nat.le_of_ble_eq_true rfl)) rfl hc51 rfl ?_
                refine z_iinc (i := 1) (v := (v1 + (1 : Int32))) dX10_step_115 rfl (iinc_k kc_1) (Nat.le_of_ble_eq_true rfl) rfl ?_
                refine z_goto (tgt := 11) dX10_step_118 rfl ?_
                refine z_fgt (i := 2) ?_
                exact ih _ _ h hK
            · have h := it_t h hc46
              refine z_iconst (v := (5 : Int32)) dX10_step_84 kc_5 ?_
              refine z_goto (tgt := 89) dX10_step_85 rfl ?_
              refine z_iadd dX10_step_89 ?_
              obtain ⟨hc52, h⟩ := chk h
              refine z_iast (j := v1.toNatClampNeg) allR_nd dX10_step_90 (hk.2.2 4 (Nat.le_of_ble_eq_true rfl)) rfl hc52 rfl ?_
              refine z_aload_n (i := 0) dX10_step_91 rfl rfl ?_
              refine z_getR (r' := (19, k, 5)) dX10_step_92 fl_X10_25 hk.1 rfl rfl ?_
              refine z_iload_n (i := 1) dX10_step_95 rfl rfl ?_
              refine z_iload_n (i := 2) dX10_step_96 rfl rfl ?_
              refine z_iconst (v := (1 : Int32)) dX10_step_97 kc_1 ?_
              refine z_icmp_le (tgt := 108) dX10_step_98 rfl (fun hc53 => ?_) (fun hc53 => ?_)
              · have h := it_t h hc53
                refine z_aload_n (i := 0) dX10_step_108 rfl rfl ?_
                refine z_getR (r' := (19, k, 5)) dX10_step_109 fl_X10_25 hk.1 rfl rfl ?_
                refine z_iload_n (i := 1) dX10_step_112 rfl rfl ?_
                obtain ⟨hc54, h⟩ := chk h
                refine z_iald (x := ((putI (putI (putI M (18, k, 0) 6 ((M.1 (18, k, 0) 6) + (1 : Int32))) (18, k, 0) 7 ((M.1 (18, k, 0) 7) + (0 : Int32))) (19, k, 4) v1.toNatClampNeg ((M.1 (19, k, 4) v1.toNatClampNeg) + (5 : Int32))).1 (19, k, 5) v1.toNatClampNeg)) dX10_step_113 (hk.2.2 5 (Nat.le_of_ble_eq_true rfl)) rfl hc54 rfl ?_
                obtain ⟨hc55, h⟩ := chk h
                refine z_iast (j := v1.toNatClampNeg) allR_nd dX10_step_114 (hk.2.2 5 (Nat.le_of_ble_eq_true rfl)) rfl hc55 rfl ?_
                refine z_iinc (i := 1) (v := (v1 + (1 : Int32))) dX10_step_115 rfl (iinc_k kc_1) (Nat.le_of_ble_eq_true rfl) rfl ?_
                refine z_goto (tgt := 11) dX10_step_118 rfl ?_
                refine z_fgt (i := 2) ?_
                exact ih _ _ h hK
              · have h := it_f h hc53
                refine z_aload_n (i := 0) dX10_step_101 rfl rfl ?_
                refine z_getI (x := (M.1 (18, k, 0) 8)) dX10_step_102 fl_X10_58 hk.1 rfl rfl ?_
                refine z_goto (tgt := 114) dX10_step_105 rfl ?_
                obtain ⟨hc56, h⟩ := chk h
                refine z_iast (j := v1.toNatClampNeg) allR_nd dX10_step_114 (hk.2.2 5 (Nat.le_of_ble_eq_true rfl)) rfl hc56 rfl ?_
                refine z_iinc (i := 1) (v := (v1 + (1 : Int32))) dX10_step_115 rfl (iinc_k kc_1) (Nat.le_of_ble_eq_true rfl) rfl ?_
                refine z_goto (tgt := 11) dX10_step_118 rfl ?_
                refine z_fgt (i := 2) ?_
                exact ih _ _ h hK
          · have h := it_t h hc45
            refine z_iconst (v := (1 : Int32)) dX10_step_75 kc_1 ?_
            refine z_goto (tgt := 89) dX10_step_76 rfl ?_
            refine z_iadd dX10_step_89 ?_
            obtain ⟨hc57, h⟩ := chk h
            refine z_iast (j := v1.toNatClampNeg) allR_nd dX10_step_90 (hk.2.2 4 (Nat.le_of_ble_eq_true rfl)) rfl hc57 rfl ?_
            refine z_aload_n (i := 0) dX10_step_91 rfl rfl ?_
            refine z_getR (r' := (19, k, 5)) dX10_step_92 fl_X10_25 hk.1 rfl rfl ?_
            refine z_iload_n (i := 1) dX10_step_95 rfl rfl ?_
            refine z_iload_n (i := 2) dX10_step_96 rfl rfl ?_
            refine z_iconst (v := (1 : Int32)) dX10_step_97 kc_1 ?_
            refine z_icmp_le (tgt := 108) dX10_step_98 rfl (fun hc58 => ?_) (fun hc58 => ?_)
            · have h := it_t h hc58
              refine z_aload_n (i := 0) dX10_step_108 rfl rfl ?_
              refine z_getR (r' := (19, k, 5)) dX10_step_109 fl_X10_25 hk.1 rfl rfl ?_
              refine z_iload_n (i := 1) dX10_step_112 rfl rfl ?_
              obtain ⟨hc59, h⟩ := chk h
              refine z_iald (x := ((putI (putI (putI M (18, k, 0) 6 ((M.1 (18, k, 0) 6) + (1 : Int32))) (18, k, 0) 7 ((M.1 (18, k, 0) 7) + (0 : Int32))) (19, k, 4) v1.toNatClampNeg ((M.1 (19, k, 4) v1.toNatClampNeg) + (1 : Int32))).1 (19, k, 5) v1.toNatClampNeg)) dX10_step_113 (hk.2.2 5 (Nat.le_of_ble_eq_true rfl)) rfl hc59 rfl ?_
              obtain ⟨hc60, h⟩ := chk h
              refine z_iast (j := v1.toNatClampNeg) allR_nd dX10_step_114 (hk.2.2 5 (Nat.le_of_ble_eq_true rfl)) rfl hc60 rfl ?_
              refine z_iinc (i := 1) (v := (v1 + (1 : Int32))) dX10_step_115 rfl (iinc_k kc_1) (Nat.le_of_ble_eq_true rfl) rfl ?_
              refine z_goto (tgt := 11) dX10_step_118 rfl ?_
              refine z_fgt (i := 2) ?_
              exact ih _ _ h hK
            · have h := it_f h hc58
              refine z_aload_n (i := 0) dX10_step_101 rfl rfl ?_
              refine z_getI (x := (M.1 (18, k, 0) 8)) dX10_step_102 fl_X10_58 hk.1 rfl rfl ?_
              refine z_goto (tgt := 114) dX10_step_105 rfl ?_
              obtain ⟨hc61, h⟩ := chk h
              refine z_iast (j := v1.toNatClampNeg) allR_nd dX10_step_114 (hk.2.2 5 (Nat.le_of_ble_eq_true rfl)) rfl hc61 rfl ?_
              refine z_iinc (i := 1) (v := (v1 + (1 : Int32))) dX10_step_115 rfl (iinc_k kc_1) (Nat.le_of_ble_eq_true rfl) rfl ?_
              refine z_goto (tgt := 11) dX10_step_118 rfl ?_
              refine z_fgt (i := 2) ?_
              exact ih _ _ h hK
        · have h := it_t h hc43
          refine z_iconst (v := (1 : Int32)) dX10_step_54 kc_1 ?_
          refine z_goto (tgt := 59) dX10_step_55 rfl ?_
          refine z_iadd dX10_step_59 ?_
          refine z_putI allR_nd dX10_step_60 fl_X10_55 hk.1 rfl rfl ?_
          refine z_aload_n (i := 0) dX10_step_63 rfl rfl ?_
          refine z_getR (r' := (19, k, 4)) dX10_step_64 fl_X10_22 hk.1 rfl rfl ?_
          refine z_iload_n (i := 1) dX10_step_67 rfl rfl ?_
          refine z_dup2 dX10_step_68 rfl rfl ?_
          obtain ⟨hc62, h⟩ := chk h
          refine z_iald (x := (M.1 (19, k, 4) v1.toNatClampNeg)) dX10_step_69 (hk.2.2 4 (Nat.le_of_ble_eq_true rfl)) rfl hc62 rfl ?_
          refine z_iload_n (i := 2) dX10_step_70 rfl rfl ?_
          refine z_iconst (v := (2 : Int32)) dX10_step_71 kc_2 ?_
          refine z_icmp_ne (tgt := 79) dX10_step_72 rfl (fun hc63 => ?_) (fun hc63 => ?_)
          · have h := it_f h hc63
            refine z_iload_n (i := 2) dX10_step_79 rfl rfl ?_
            refine z_iconst (v := (3 : Int32)) dX10_step_80 kc_3 ?_
            refine z_icmp_ne (tgt := 88) dX10_step_81 rfl (fun hc64 => ?_) (fun hc64 => ?_)
            · have h := it_f h hc64
              refine z_iconst (v := (0 : Int32)) dX10_step_88 kc_0 ?_
              refine z_iadd dX10_step_89 ?_
              obtain ⟨hc65, h⟩ := chk h
              refine z_iast (j := v1.toNatClampNeg) allR_nd dX10_step_90 (hk.2.2 4 (Nat.le_of_ble_eq_true rfl)) rfl hc65 rfl ?_
              refine z_aload_n (i := 0) dX10_step_91 rfl rfl ?_
              refine z_getR (r' := (19, k, 5)) dX10_step_92 fl_X10_25 hk.1 rfl rfl ?_
              refine z_iload_n (i := 1) dX10_step_95 rfl rfl ?_
              refine z_iload_n (i := 2) dX10_step_96 rfl rfl ?_
              refine z_iconst (v := (1 : Int32)) dX10_step_97 kc_1 ?_
              refine z_icmp_le (tgt := 108) dX10_step_98 rfl (fun hc66 => ?_) (fun hc66 => ?_)
              · have h := it_t h hc66
                refine z_aload_n (i := 0) dX10_step_108 rfl rfl ?_
                refine z_getR (r' := (19, k, 5)) dX10_step_109 fl_X10_25 hk.1 rfl rfl ?_
                refine z_iload_n (i := 1) dX10_step_112 rfl rfl ?_
                obtain ⟨hc67, h⟩ := chk h
                refine z_iald (x := ((putI (putI (putI M (18, k, 0) 6 ((M.1 (18, k, 0) 6) + (1 : Int32))) (18, k, 0) 7 ((M.1 (18, k, 0) 7) + (1 : Int32))) (19, k, 4) v1.toNatClampNeg ((M.1 (19, k, 4) v1.toNatClampNeg) + (0 : Int32))).1 (19, k, 5) v1.toNatClampNeg)) dX10_step_113 (hk.2.2 5 (Nat.le_of_ble_eq_true rfl)) rfl hc67 rfl ?_
                obtain ⟨hc68, h⟩ := chk h
                refine z_iast (j := v1.toNatClampNeg) allR_nd dX10_step_114 (hk.2.2 5 (Nat.le_of_ble_eq_true rfl)) rfl hc68 rfl ?_
                refine z_iinc (i := 1) (v := (v1 + (1 : Int32))) dX10_step_115 rfl (iinc_k kc_1) (Nat.le_of_ble_eq_true rfl) rfl ?_
                refine z_goto (tgt := 11) dX10_step_118 rfl ?_
                refine z_fgt (i := 2) ?_
                exact ih _ _ h hK
              · have h := it_f h hc66
                refine z_aload_n (i := 0) dX10_step_101 rfl rfl ?_
                refine z_getI (x := (M.1 (18, k, 0) 8)) dX10_step_102 fl_X10_58 hk.1 rfl rfl ?_
                refine z_goto (tgt := 114) dX10_step_105 rfl ?_
                obtain ⟨hc69, h⟩ := chk h
                refine z_iast (j := v1.toNatClampNeg) allR_nd dX10_step_114 (hk.2.2 5 (Nat.le_of_ble_eq_true rfl)) rfl hc69 rfl ?_
                refine z_iinc (i := 1) (v := (v1 + (1 : Int32))) dX10_step_115 rfl (iinc_k kc_1) (Nat.le_of_ble_eq_true rfl) rfl ?_
                refine z_goto (tgt := 11) dX10_step_118 rfl ?_
                refine z_fgt (i := 2) ?_
                exact ih _ _ h hK
            · have h := it_t h hc64
              refine z_iconst (v := (5 : Int32)) dX10_step_84 kc_5 ?_
              refine z_goto (tgt := 89) dX10_step_85 rfl ?_
              refine z_iadd dX10_step_89 ?_
              obtain ⟨hc70, h⟩ := chk h
              refine z_iast (j := v1.toNatClampNeg) allR_nd dX10_step_90 (hk.2.2 4 (Nat.le_of_ble_eq_true rfl)) rfl hc70 rfl ?_
              refine z_aload_n (i := 0) dX10_step_91 rfl rfl ?_
              refine z_getR (r' := (19, k, 5)) dX10_step_92 fl_X10_25 hk.1 rfl rfl ?_
              refine z_iload_n (i := 1) dX10_step_95 rfl rfl ?_
              refine z_iload_n (i := 2) dX10_step_96 rfl rfl ?_
              refine z_iconst (v := (1 : Int32)) dX10_step_97 kc_1 ?_
              refine z_icmp_le (tgt := 108) dX10_step_98 rfl (fun hc71 => ?_) (fun hc71 => ?_)
              · have h := it_t h hc71
                refine z_aload_n (i := 0) dX10_step_108 rfl rfl ?_
                refine z_getR (r' := (19, k, 5)) dX10_step_109 fl_X10_25 hk.1 rfl rfl ?_
                refine z_iload_n (i := 1) dX10_step_112 rfl rfl ?_
                obtain ⟨hc72, h⟩ := chk h
                refine z_iald (x := ((putI (putI (putI M (18, k, 0) 6 ((M.1 (18, k, 0) 6) + (1 : Int32))) (18, k, 0) 7 ((M.1 (18, k, 0) 7) + (1 : Int32))) (19, k, 4) v1.toNatClampNeg ((M.1 (19, k, 4) v1.toNatClampNeg) + (5 : Int32))).1 (19, k, 5) v1.toNatClampNeg)) dX10_step_113 (hk.2.2 5 (Nat.le_of_ble_eq_true rfl)) rfl hc72 rfl ?_
                obtain ⟨hc73, h⟩ := chk h
                refine z_iast (j := v1.toNatClampNeg) allR_nd dX10_step_114 (hk.2.2 5 (Nat.le_of_ble_eq_true rfl)) rfl hc73 rfl ?_
                refine z_iinc (i := 1) (v := (v1 + (1 : Int32))) dX10_step_115 rfl (iinc_k kc_1) (Nat.le_of_ble_eq_true rfl) rfl ?_
                refine z_goto (tgt := 11) dX10_step_118 rfl ?_
                refine z_fgt (i := 2) ?_
                exact ih _ _ h hK
              · have h := it_f h hc71
                refine z_aload_n (i := 0) dX10_step_101 rfl rfl ?_
                refine z_getI (x := (M.1 (18, k, 0) 8)) dX10_step_102 fl_X10_58 hk.1 rfl rfl ?_
                refine z_goto (tgt := 114) dX10_step_105 rfl ?_
                obtain ⟨hc74, h⟩ := chk h
                refine z_iast (j := v1.toNatClampNeg) allR_nd dX10_step_114 (hk.2.2 5 (Nat.le_of_ble_eq_true rfl)) rfl hc74 rfl ?_
                refine z_iinc (i := 1) (v := (v1 + (1 : Int32))) dX10_step_115 rfl (iinc_k kc_1) (Nat.le_of_ble_eq_true rfl) rfl ?_
                refine z_goto (tgt := 11) dX10_step_118 rfl ?_
                refine z_fgt (i := 2) ?_
                exact ih _ _ h hK
          · have h := it_t h hc63
            refine z_iconst (v := (1 : Int32)) dX10_step_75 kc_1 ?_
            refine z_goto (tgt := 89) dX10_step_76 rfl ?_
            refine z_iadd dX10_step_89 ?_
            obtain ⟨hc75, h⟩ := chk h
            refine z_iast (j := v1.toNatClampNeg) allR_nd dX10_step_90 (hk.2.2 4 (Nat.le_of_ble_eq_true rfl)) rfl hc75 rfl ?_
            refine z_aload_n (i := 0) dX10_step_91 rfl rfl ?_
            refine z_getR (r' := (19, k, 5)) dX10_step_92 fl_X10_25 hk.1 rfl rfl ?_
            refine z_iload_n (i := 1) dX10_step_95 rfl rfl ?_
            refine z_iload_n (i := 2) dX10_step_96 rfl rfl ?_
            refine z_iconst (v := (1 : Int32)) dX10_step_97 kc_1 ?_
            refine z_icmp_le (tgt := 108) dX10_step_98 rfl (fun hc76 => ?_) (fun hc76 => ?_)
            · have h := it_t h hc76
              refine z_aload_n (i := 0) dX10_step_108 rfl rfl ?_
              refine z_getR (r' := (19, k, 5)) dX10_step_109 fl_X10_25 hk.1 rfl rfl ?_
              refine z_iload_n (i := 1) dX10_step_112 rfl rfl ?_
              obtain ⟨hc77, h⟩ := chk h
              refine z_iald (x := ((putI (putI (putI M (18, k, 0) 6 ((M.1 (18, k, 0) 6) + (1 : Int32))) (18, k, 0) 7 ((M.1 (18, k, 0) 7) + (1 : Int32))) (19, k, 4) v1.toNatClampNeg ((M.1 (19, k, 4) v1.toNatClampNeg) + (1 : Int32))).1 (19, k, 5) v1.toNatClampNeg)) dX10_step_113 (hk.2.2 5 (Nat.le_of_ble_eq_true rfl)) rfl hc77 rfl ?_
              obtain ⟨hc78, h⟩ := chk h
              refine z_iast (j := v1.toNatClampNeg) allR_nd dX10_step_114 (hk.2.2 5 (Nat.le_of_ble_eq_true rfl)) rfl hc78 rfl ?_
              refine z_iinc (i := 1) (v := (v1 + (1 : Int32))) dX10_step_115 rfl (iinc_k kc_1) (Nat.le_of_ble_eq_true rfl) rfl ?_
              refine z_goto (tgt := 11) dX10_step_118 rfl ?_
              refine z_fgt (i := 2) ?_
              exact ih _ _ h hK
            · have h := it_f h hc76
              refine z_aload_n (i := 0) dX10_step_101 rfl rfl ?_
              refine z_getI (x := (M.1 (18, k, 0) 8)) dX10_step_102 fl_X10_58 hk.1 rfl rfl ?_
              refine z_goto (tgt := 114) dX10_step_105 rfl ?_
              obtain ⟨hc79, h⟩ := chk h
              refine z_iast (j := v1.toNatClampNeg) allR_nd dX10_step_114 (hk.2.2 5 (Nat.le_of_ble_eq_true rfl)) rfl hc79 rfl ?_
              refine z_iinc (i := 1) (v := (v1 + (1 : Int32))) dX10_step_115 rfl (iinc_k kc_1) (Nat.le_of_ble_eq_true rfl) rfl ?_
              refine z_goto (tgt := 11) dX10_step_118 rfl ?_
              refine z_fgt (i := 2) ?_
              exact ih _ _ h hK
set_option maxRecDepth 20000 in
set_option maxHeartbeats 2000000 in
theorem sX10_step {wv : Wv} (M : Mm) (k : Nat) (hk : OwI wv k) {res : (Int32 × Mm)} (h : fX10_step M k = some res) : TF wv yX10_step cX10_step 3 (some .boolean) 3 [.inr (18, k, 0)] M (some (.int res.1)) res.2 := by
  rw [fX10_step] at h
  refine TF.go (n := 2) (ls := [some (.inr (18, k, 0)), none, none]) rfl rfl rfl rfl rfl ?_
  refine z_aload_n (i := 0) dX10_step_0 rfl rfl ?_
  refine z_getI (x := (M.1 (18, k, 0) 1)) dX10_step_1 fl_X10_37 hk.1 rfl rfl ?_
  refine z_if_ne (tgt := 9) dX10_step_4 rfl (fun hc1 => ?_) (fun hc1 => ?_)
  · have h := it_f h hc1
    refine z_iconst (v := (0 : Int32)) dX10_step_9 kc_0 ?_
    refine z_istore_n (i := 1) dX10_step_10 rfl (Nat.le_of_ble_eq_true rfl) rfl ?_
    refine sX10_step_L11 k hk NF _ _ h (fun w80 M81 h => ?_)
    refine z_aload_n (i := 0) dX10_step_121 rfl rfl ?_
    refine z_dup dX10_step_122 rfl ?_
    refine z_getI (x := (M81.1 (18, k, 0) 8)) dX10_step_123 fl_X10_58 hk.1 rfl rfl ?_
    refine z_iconst (v := (1 : Int32)) dX10_step_126 kc_1 ?_
    refine z_iadd dX10_step_127 ?_
    refine z_putI allR_nd dX10_step_128 fl_X10_58 hk.1 rfl rfl ?_
    refine z_aload_n (i := 0) dX10_step_131 rfl rfl ?_
    refine z_dup dX10_step_132 rfl ?_
    refine z_getI (x := (M81.1 (18, k, 0) 5)) dX10_step_133 fl_X10_49 hk.1 rfl rfl ?_
    refine z_iconst (v := (1 : Int32)) dX10_step_136 kc_1 ?_
    refine z_iadd dX10_step_137 ?_
    refine z_putI allR_nd dX10_step_138 fl_X10_49 hk.1 rfl rfl ?_
    refine z_aload_n (i := 0) dX10_step_141 rfl rfl ?_
    refine z_dup dX10_step_142 rfl ?_
    refine z_getI (x := (M81.1 (18, k, 0) 1)) dX10_step_143 fl_X10_37 hk.1 rfl rfl ?_
    refine z_aload_n (i := 0) dX10_step_146 rfl rfl ?_
    refine z_getI (x := ((M81.1 (18, k, 0) 5) + (1 : Int32))) dX10_step_147 fl_X10_49 hk.1 rfl (gp1 (M := (putI M81 (18, k, 0) 8 ((M81.1 (18, k, 0) 8) + (1 : Int32)))) (r := (18, k, 0)) (j := 5) (v := ((M81.1 (18, k, 0) 5) + (1 : Int32)))) ?_
    refine z_aload_n (i := 0) dX10_step_150 rfl rfl ?_
    refine z_getI (x := (M81.1 (18, k, 0) 0)) dX10_step_151 fl_X10_33 hk.1 rfl rfl ?_
    obtain ⟨hc82, h⟩ := chk h
    refine z_idiv dX10_step_154 hc82 ?_
    refine z_isub dX10_step_155 ?_
    refine z_putI allR_nd dX10_step_156 fl_X10_37 hk.1 rfl rfl ?_
    refine z_aload_n (i := 0) dX10_step_159 rfl rfl ?_
    refine z_dup dX10_step_160 rfl ?_
    refine z_getI (x := ((M81.1 (18, k, 0) 5) + (1 : Int32))) dX10_step_161 fl_X10_49 hk.1 rfl (gp1 (M := (putI M81 (18, k, 0) 8 ((M81.1 (18, k, 0) 8) + (1 : Int32)))) (r := (18, k, 0)) (j := 5) (v := ((M81.1 (18, k, 0) 5) + (1 : Int32)))) ?_
    refine z_aload_n (i := 0) dX10_step_164 rfl rfl ?_
    refine z_getI (x := (M81.1 (18, k, 0) 0)) dX10_step_165 fl_X10_33 hk.1 rfl rfl ?_
    obtain ⟨hc83, h⟩ := chk h
    refine z_irem dX10_step_168 hc83 ?_
    refine z_putI allR_nd dX10_step_169 fl_X10_49 hk.1 rfl rfl ?_
    refine z_iconst (v := (1 : Int32)) dX10_step_172 kc_1 ?_
    cases h
    exact z_iret dX10_step_173 rfl rfl (Nat.le_refl _) (Nat.le_refl _) ⟨rfl, rfl⟩
  · have h := it_t h hc1
    refine z_iconst (v := (0 : Int32)) dX10_step_7 kc_0 ?_
    cases h
    exact z_iret dX10_step_8 rfl rfl (Nat.le_refl _) (Nat.le_refl _) ⟨rfl, rfl⟩
