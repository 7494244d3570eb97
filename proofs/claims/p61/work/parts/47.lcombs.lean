theorem dL_combs_0 : decode cL_combs 0 = .ok (.iload_n 2, 1) := by decide +kernel
theorem dL_combs_1 : decode cL_combs 1 = .ok (.bipush 9, 2) := by decide +kernel
theorem dL_combs_3 : decode cL_combs 3 = .ok (.if_icmp .ne 47, 3) := by decide +kernel
theorem dL_combs_6 : decode cL_combs 6 = .ok (.aload_n 1, 1) := by decide +kernel
theorem dL_combs_7 : decode cL_combs 7 = .ok (.getfield 153, 3) := by decide +kernel
theorem dL_combs_10 : decode cL_combs 10 = .ok (.iload_n 3, 1) := by decide +kernel
theorem dL_combs_11 : decode cL_combs 11 = .ok (.iaload, 1) := by decide +kernel
theorem dL_combs_12 : decode cL_combs 12 = .ok (.istore 5, 2) := by decide +kernel
theorem dL_combs_14 : decode cL_combs 14 = .ok (.aload_n 1, 1) := by decide +kernel
theorem dL_combs_15 : decode cL_combs 15 = .ok (.getfield 153, 3) := by decide +kernel
theorem dL_combs_18 : decode cL_combs 18 = .ok (.iload_n 3, 1) := by decide +kernel
theorem dL_combs_19 : decode cL_combs 19 = .ok (.iconst 1, 1) := by decide +kernel
theorem dL_combs_20 : decode cL_combs 20 = .ok (.iload 4, 2) := by decide +kernel
theorem dL_combs_22 : decode cL_combs 22 = .ok (.bipush 9, 2) := by decide +kernel
theorem dL_combs_24 : decode cL_combs 24 = .ok (.irem, 1) := by decide +kernel
theorem dL_combs_25 : decode cL_combs 25 = .ok (.iadd, 1) := by decide +kernel
theorem dL_combs_26 : decode cL_combs 26 = .ok (.iastore, 1) := by decide +kernel
theorem dL_combs_27 : decode cL_combs 27 = .ok (.aload_n 0, 1) := by decide +kernel
theorem dL_combs_28 : decode cL_combs 28 = .ok (.iload_n 3, 1) := by decide +kernel
theorem dL_combs_29 : decode cL_combs 29 = .ok (.iconst 1, 1) := by decide +kernel
theorem dL_combs_30 : decode cL_combs 30 = .ok (.iload 4, 2) := by decide +kernel
theorem dL_combs_32 : decode cL_combs 32 = .ok (.bipush 9, 2) := by decide +kernel
theorem dL_combs_34 : decode cL_combs 34 = .ok (.irem, 1) := by decide +kernel
theorem dL_combs_35 : decode cL_combs 35 = .ok (.iadd, 1) := by decide +kernel
theorem dL_combs_36 : decode cL_combs 36 = .ok (.invokevirtual 295, 3) := by decide +kernel
theorem dL_combs_39 : decode cL_combs 39 = .ok (.iload 5, 2) := by decide +kernel
theorem dL_combs_41 : decode cL_combs 41 = .ok (.if_icmp .ne 7, 3) := by decide +kernel
theorem dL_combs_44 : decode cL_combs 44 = .ok (.iconst 1, 1) := by decide +kernel
theorem dL_combs_45 : decode cL_combs 45 = .ok (.goto 4, 3) := by decide +kernel
theorem dL_combs_48 : decode cL_combs 48 = .ok (.iconst 0, 1) := by decide +kernel
theorem dL_combs_49 : decode cL_combs 49 = .ok (.ireturn, 1) := by decide +kernel
theorem dL_combs_50 : decode cL_combs 50 = .ok (.iload_n 2, 1) := by decide +kernel
theorem dL_combs_51 : decode cL_combs 51 = .ok (.bipush 12, 2) := by decide +kernel
theorem dL_combs_53 : decode cL_combs 53 = .ok (.if_icmp .ge 107, 3) := by decide +kernel
theorem dL_combs_56 : decode cL_combs 56 = .ok (.iload 4, 2) := by decide +kernel
theorem dL_combs_58 : decode cL_combs 58 = .ok (.iconst 3, 1) := by decide +kernel
theorem dL_combs_59 : decode cL_combs 59 = .ok (.irem, 1) := by decide +kernel
theorem dL_combs_60 : decode cL_combs 60 = .ok (.iconst 1, 1) := by decide +kernel
theorem dL_combs_61 : decode cL_combs 61 = .ok (.iadd, 1) := by decide +kernel
theorem dL_combs_62 : decode cL_combs 62 = .ok (.istore 5, 2) := by decide +kernel
theorem dL_combs_64 : decode cL_combs 64 = .ok (.iload 4, 2) := by decide +kernel
theorem dL_combs_66 : decode cL_combs 66 = .ok (.iconst 2, 1) := by decide +kernel
theorem dL_combs_67 : decode cL_combs 67 = .ok (.irem, 1) := by decide +kernel
theorem dL_combs_68 : decode cL_combs 68 = .ok (.ifCond .ne 8, 3) := by decide +kernel
theorem dL_combs_71 : decode cL_combs 71 = .ok (.iload 5, 2) := by decide +kernel
theorem dL_combs_73 : decode cL_combs 73 = .ok (.goto 6, 3) := by decide +kernel
theorem dL_combs_76 : decode cL_combs 76 = .ok (.iload 5, 2) := by decide +kernel
theorem dL_combs_78 : decode cL_combs 78 = .ok (.ineg, 1) := by decide +kernel
theorem dL_combs_79 : decode cL_combs 79 = .ok (.istore 5, 2) := by decide +kernel
theorem dL_combs_81 : decode cL_combs 81 = .ok (.aload_n 1, 1) := by decide +kernel
theorem dL_combs_82 : decode cL_combs 82 = .ok (.iload_n 3, 1) := by decide +kernel
theorem dL_combs_83 : decode cL_combs 83 = .ok (.invokevirtual 128, 3) := by decide +kernel
theorem dL_combs_86 : decode cL_combs 86 = .ok (.ifCond .ne 19, 3) := by decide +kernel
theorem dL_combs_89 : decode cL_combs 89 = .ok (.aload_n 1, 1) := by decide +kernel
theorem dL_combs_90 : decode cL_combs 90 = .ok (.getfield 62, 3) := by decide +kernel
theorem dL_combs_93 : decode cL_combs 93 = .ok (.iload_n 3, 1) := by decide +kernel
theorem dL_combs_94 : decode cL_combs 94 = .ok (.iaload, 1) := by decide +kernel
theorem dL_combs_95 : decode cL_combs 95 = .ok (.iload 5, 2) := by decide +kernel
theorem dL_combs_97 : decode cL_combs 97 = .ok (.iadd, 1) := by decide +kernel
theorem dL_combs_98 : decode cL_combs 98 = .ok (.invokestatic 298, 3) := by decide +kernel
theorem dL_combs_101 : decode cL_combs 101 = .ok (.iconst 3, 1) := by decide +kernel
theorem dL_combs_102 : decode cL_combs 102 = .ok (.if_icmp .le 5, 3) := by decide +kernel
theorem dL_combs_105 : decode cL_combs 105 = .ok (.iconst (-1), 1) := by decide +kernel
theorem dL_combs_106 : decode cL_combs 106 = .ok (.ireturn, 1) := by decide +kernel
theorem dL_combs_107 : decode cL_combs 107 = .ok (.aload_n 1, 1) := by decide +kernel
theorem dL_combs_108 : decode cL_combs 108 = .ok (.getfield 62, 3) := by decide +kernel
theorem dL_combs_111 : decode cL_combs 111 = .ok (.iload_n 3, 1) := by decide +kernel
theorem dL_combs_112 : decode cL_combs 112 = .ok (.dup2, 1) := by decide +kernel
theorem dL_combs_113 : decode cL_combs 113 = .ok (.iaload, 1) := by decide +kernel
theorem dL_combs_114 : decode cL_combs 114 = .ok (.iload 5, 2) := by decide +kernel
theorem dL_combs_116 : decode cL_combs 116 = .ok (.iadd, 1) := by decide +kernel
theorem dL_combs_117 : decode cL_combs 117 = .ok (.iastore, 1) := by decide +kernel
theorem dL_combs_118 : decode cL_combs 118 = .ok (.aload_n 1, 1) := by decide +kernel
theorem dL_combs_119 : decode cL_combs 119 = .ok (.getfield 158, 3) := by decide +kernel
theorem dL_combs_122 : decode cL_combs 122 = .ok (.iload_n 3, 1) := by decide +kernel
theorem dL_combs_123 : decode cL_combs 123 = .ok (.dup2, 1) := by decide +kernel
theorem dL_combs_124 : decode cL_combs 124 = .ok (.iaload, 1) := by decide +kernel
theorem dL_combs_125 : decode cL_combs 125 = .ok (.iconst 3, 1) := by decide +kernel
theorem dL_combs_126 : decode cL_combs 126 = .ok (.iadd, 1) := by decide +kernel
theorem dL_combs_127 : decode cL_combs 127 = .ok (.iastore, 1) := by decide +kernel
theorem dL_combs_128 : decode cL_combs 128 = .ok (.aload_n 1, 1) := by decide +kernel
theorem dL_combs_129 : decode cL_combs 129 = .ok (.dup, 1) := by decide +kernel
theorem dL_combs_130 : decode cL_combs 130 = .ok (.getfield 301, 3) := by decide +kernel
theorem dL_combs_133 : decode cL_combs 133 = .ok (.iconst 1, 1) := by decide +kernel
theorem dL_combs_134 : decode cL_combs 134 = .ok (.iadd, 1) := by decide +kernel
theorem dL_combs_135 : decode cL_combs 135 = .ok (.putfield 301, 3) := by decide +kernel
theorem dL_combs_138 : decode cL_combs 138 = .ok (.aload_n 0, 1) := by decide +kernel
theorem dL_combs_139 : decode cL_combs 139 = .ok (.iload_n 3, 1) := by decide +kernel
theorem dL_combs_140 : decode cL_combs 140 = .ok (.iload 5, 2) := by decide +kernel
theorem dL_combs_142 : decode cL_combs 142 = .ok (.invokevirtual 304, 3) := by decide +kernel
theorem dL_combs_145 : decode cL_combs 145 = .ok (.aload_n 1, 1) := by decide +kernel
theorem dL_combs_146 : decode cL_combs 146 = .ok (.getfield 62, 3) := by decide +kernel
theorem dL_combs_149 : decode cL_combs 149 = .ok (.iload_n 3, 1) := by decide +kernel
theorem dL_combs_150 : decode cL_combs 150 = .ok (.iaload, 1) := by decide +kernel
theorem dL_combs_151 : decode cL_combs 151 = .ok (.if_icmp .ne 7, 3) := by decide +kernel
theorem dL_combs_154 : decode cL_combs 154 = .ok (.iconst 1, 1) := by decide +kernel
theorem dL_combs_155 : decode cL_combs 155 = .ok (.goto 4, 3) := by decide +kernel
theorem dL_combs_158 : decode cL_combs 158 = .ok (.iconst 0, 1) := by decide +kernel
theorem dL_combs_159 : decode cL_combs 159 = .ok (.ireturn, 1) := by decide +kernel
theorem dL_combs_160 : decode cL_combs 160 = .ok (.aload_n 1, 1) := by decide +kernel
theorem dL_combs_161 : decode cL_combs 161 = .ok (.getfield 158, 3) := by decide +kernel
theorem dL_combs_164 : decode cL_combs 164 = .ok (.iload_n 3, 1) := by decide +kernel
theorem dL_combs_165 : decode cL_combs 165 = .ok (.iaload, 1) := by decide +kernel
theorem dL_combs_166 : decode cL_combs 166 = .ok (.istore 5, 2) := by decide +kernel
theorem dL_combs_168 : decode cL_combs 168 = .ok (.aload_n 1, 1) := by decide +kernel
theorem dL_combs_169 : decode cL_combs 169 = .ok (.dup, 1) := by decide +kernel
theorem dL_combs_170 : decode cL_combs 170 = .ok (.getfield 307, 3) := by decide +kernel
theorem dL_combs_173 : decode cL_combs 173 = .ok (.iload 5, 2) := by decide +kernel
theorem dL_combs_175 : decode cL_combs 175 = .ok (.iadd, 1) := by decide +kernel
theorem dL_combs_176 : decode cL_combs 176 = .ok (.putfield 307, 3) := by decide +kernel
theorem dL_combs_179 : decode cL_combs 179 = .ok (.aload_n 1, 1) := by decide +kernel
theorem dL_combs_180 : decode cL_combs 180 = .ok (.getfield 158, 3) := by decide +kernel
theorem dL_combs_183 : decode cL_combs 183 = .ok (.iload_n 3, 1) := by decide +kernel
theorem dL_combs_184 : decode cL_combs 184 = .ok (.iconst 0, 1) := by decide +kernel
theorem dL_combs_185 : decode cL_combs 185 = .ok (.iastore, 1) := by decide +kernel
theorem dL_combs_186 : decode cL_combs 186 = .ok (.aload_n 1, 1) := by decide +kernel
theorem dL_combs_187 : decode cL_combs 187 = .ok (.getfield 62, 3) := by decide +kernel
theorem dL_combs_190 : decode cL_combs 190 = .ok (.iload_n 3, 1) := by decide +kernel
theorem dL_combs_191 : decode cL_combs 191 = .ok (.iconst 0, 1) := by decide +kernel
theorem dL_combs_192 : decode cL_combs 192 = .ok (.iastore, 1) := by decide +kernel
theorem dL_combs_193 : decode cL_combs 193 = .ok (.aload_n 1, 1) := by decide +kernel
theorem dL_combs_194 : decode cL_combs 194 = .ok (.getfield 310, 3) := by decide +kernel
theorem dL_combs_197 : decode cL_combs 197 = .ok (.iload_n 3, 1) := by decide +kernel
theorem dL_combs_198 : decode cL_combs 198 = .ok (.bipush (-99), 2) := by decide +kernel
theorem dL_combs_200 : decode cL_combs 200 = .ok (.iastore, 1) := by decide +kernel
theorem dL_combs_201 : decode cL_combs 201 = .ok (.aload_n 0, 1) := by decide +kernel
theorem dL_combs_202 : decode cL_combs 202 = .ok (.iload_n 3, 1) := by decide +kernel
theorem dL_combs_203 : decode cL_combs 203 = .ok (.invokevirtual 313, 3) := by decide +kernel
theorem dL_combs_206 : decode cL_combs 206 = .ok (.iload 5, 2) := by decide +kernel
theorem dL_combs_208 : decode cL_combs 208 = .ok (.if_icmp .ne 7, 3) := by decide +kernel
theorem dL_combs_211 : decode cL_combs 211 = .ok (.iconst 1, 1) := by decide +kernel
theorem dL_combs_212 : decode cL_combs 212 = .ok (.goto 4, 3) := by decide +kernel
theorem dL_combs_215 : decode cL_combs 215 = .ok (.iconst 0, 1) := by decide +kernel
theorem dL_combs_216 : decode cL_combs 216 = .ok (.ireturn, 1) := by decide +kernel
def fL_combs (M : Mm) (k : Nat) (x3 : Int32) (x4 : Int32) (x5 : Int32) : Option (Int32 × Mm) := if x3 = (9 : Int32) then (if x4 < 0 ∨ 12 ≤ x4.toNatClampNeg then none else if x4 < 0 ∨ 12 ≤ x4.toNatClampNeg then none else (fX9_setGap (putI M (19, k, 2) x4.toNatClampNeg ((1 : Int32) + (x5 - x5 / (9 : Int32) * (9 : Int32)))) x4 ((1 : Int32) + (x5 - x5 / (9 : Int32) * (9 : Int32)))).bind fun q39 => if q39.1 = (M.1 (19, k, 2) x4.toNatClampNeg) then some ((1 : Int32), q39.2) else some ((0 : Int32), q39.2)) else if (12 : Int32) ≤ x3 then (if x4 < 0 ∨ 12 ≤ x4.toNatClampNeg then none else if x4 < 0 ∨ 12 ≤ x4.toNatClampNeg then none else if x4 < 0 ∨ 12 ≤ x4.toNatClampNeg then none else if x4 < 0 ∨ 12 ≤ x4.toNatClampNeg then none else (fX9_replaceTooth (putI (putI (putI (putI M (18, k, 0) 10 ((M.1 (18, k, 0) 10) + (M.1 (19, k, 4) x4.toNatClampNeg))) (19, k, 4) x4.toNatClampNeg (0 : Int32)) (19, k, 1) x4.toNatClampNeg (0 : Int32)) (19, k, 5) x4.toNatClampNeg (-99 : Int32)) x4).bind fun q7 => if q7.1 = (M.1 (19, k, 4) x4.toNatClampNeg) then some ((1 : Int32), q7.2) else some ((0 : Int32), q7.2)) else if (x5 - x5 / (2 : Int32) * (2 : Int32)) = 0 then ((fX10_isBad M k x4).bind fun q24 => if q24 = 0 then (if x4 < 0 ∨ 12 ≤ x4.toNatClampNeg then none else if (fJ9_abs_0f7a4 M ((M.1 (19, k, 1) x4.toNatClampNeg) + ((x5 - x5 / (3 : Int32) * (3 : Int32)) + (1 : Int32)))) ≤ (3 : Int32) then (if x4 < 0 ∨ 12 ≤ x4.toNatClampNeg then none else if x4 < 0 ∨ 12 ≤ x4.toNatClampNeg then none else if x4 < 0 ∨ 12 ≤ x4.toNatClampNeg then none else if x4 < 0 ∨ 12 ≤ x4.toNatClampNeg then none else (fX9_bend (putI (putI (putI M (19, k, 1) x4.toNatClampNeg ((M.1 (19, k, 1) x4.toNatClampNeg) + ((x5 - x5 / (3 : Int32) * (3 : Int32)) + (1 : Int32)))) (19, k, 4) x4.toNatClampNeg (((putI M (19, k, 1) x4.toNatClampNeg ((M.1 (19, k, 1) x4.toNatClampNeg) + ((x5 - x5 / (3 : Int32) * (3 : Int32)) + (1 : Int32)))).1 (19, k, 4) x4.toNatClampNeg) + (3 : Int32))) (18, k, 0) 9 ((M.1 (18, k, 0) 9) + (1 : Int32))) x4 ((x5 - x5 / (3 : Int32) * (3 : Int32)) + (1 : Int32))).bind fun q33 => if x4 < 0 ∨ 12 ≤ x4.toNatClampNeg then none else if q33.1 = (q33.2.1 (19, k, 1) x4.toNatClampNeg) then some ((1 : Int32), q33.2) else some ((0 : Int32), q33.2)) else some ((-1 : Int32), M)) else some ((-1 : Int32), M)) else (fX10_isBad M k x4).bind fun q11 => if q11 = 0 then (if x4 < 0 ∨ 12 ≤ x4.toNatClampNeg then none else if (fJ9_abs_0f7a4 M ((M.1 (19, k, 1) x4.toNatClampNeg) + (-((x5 - x5 / (3 : Int32) * (3 : Int32)) + (1 : Int32))))) ≤ (3 : Int32) then (if x4 < 0 ∨ 12 ≤ x4.toNatClampNeg then none else if x4 < 0 ∨ 12 ≤ x4.toNatClampNeg then none else if x4 < 0 ∨ 12 ≤ x4.toNatClampNeg then none else if x4 < 0 ∨ 12 ≤ x4.toNatClampNeg then none else (fX9_bend (putI (putI (putI M (19, k, 1) x4.toNatClampNeg ((M.1 (19, k, 1) x4.toNatClampNeg) + (-((x5 - x5 / (3 : Int32) * (3 : Int32)) + (1 : Int32))))) (19, k, 4) x4.toNatClampNeg (((putI M (19, k, 1) x4.toNatClampNeg ((M.1 (19, k, 1) x4.toNatClampNeg) + (-((x5 - x5 / (3 : Int32) * (3 : Int32)) + (1 : Int32))))).1 (19, k, 4) x4.toNatClampNeg) + (3 : Int32))) (18, k, 0) 9 ((M.1 (18, k, 0) 9) + (1 : Int32))) x4 (-((x5 - x5 / (3 : Int32) * (3 : Int32)) + (1 : Int32)))).bind fun q20 => if x4 < 0 ∨ 12 ≤ x4.toNatClampNeg then none else if q20.1 = (q20.2.1 (19, k, 1) x4.toNatClampNeg) then some ((1 : Int32), q20.2) else some ((0 : Int32), q20.2)) else some ((-1 : Int32), M)) else some ((-1 : Int32), M)
set_option maxRecDepth 20000 in
set_option maxHeartbeats 4000000 in
theorem sL_combs {wv : Wv} (M : Mm) (k : Nat) (x3 : Int32) (x4 : Int32) (x5 : Int32) (hk : OwI wv k) {res : (Int32 × Mm)} (h : fL_combs M k x3 x4 x5 = some res) : TC wv yL_combs cL_combs 6 (some .int) 5 0 0 [.inr (0, 0, 0), .inr (18, k, 0), .inl (.int x3), .inl (.int x4), .inl (.int x5)] M (some (.int res.1)) res.2 := by
  rw [fL_combs] at h
  refine TC.go (n := 1) (ls := [some (.inr (0, 0, 0)), some (.inr (18, k, 0)), some (.inl (.int x3)), some (.inl (.int x4)), some (.inl (.int x5)), none]) (by decide +kernel) rfl rfl rfl rfl ?_
  refine z_iload_n (i := 2) dL_combs_0 rfl rfl ?_
  refine z_bipush (v := (9 : Int32)) dL_combs_1 kb_9 ?_
  refine z_icmp_ne (tgt := 50) dL_combs_3 rfl (fun hc1 => ?_) (fun hc1 => ?_)
  · have h := it_f h hc1
    refine z_iload_n (i := 2) dL_combs_50 rfl rfl ?_
    refine z_bipush (v := (12 : Int32)) dL_combs_51 kb_12 ?_
    refine z_icmp_ge (tgt := 160) dL_combs_53 rfl (fun hc2 => ?_) (fun hc2 => ?_)
    · have h := it_t h hc2
      refine z_aload_n (i := 1) dL_combs_160 rfl rfl ?_
      refine z_getRG (r' := (19, k, 4)) dL_combs_161 fg_L_158 hk.1 rfl rfl ?_
      refine z_iload_n (i := 3) dL_combs_164 rfl rfl ?_
      obtain ⟨hc3, h⟩ := chk h
      refine z_iald (x := (M.1 (19, k, 4) x4.toNatClampNeg)) dL_combs_165 (hk.2.2 4 (Nat.le_of_ble_eq_true rfl)) rfl hc3 rfl ?_
      refine z_istore (i := 5) dL_combs_166 (Nat.le_of_ble_eq_true rfl) rfl ?_
      refine z_aload_n (i := 1) dL_combs_168 rfl rfl ?_
      refine z_dup dL_combs_169 rfl ?_
      refine z_getIG (x := (M.1 (18, k, 0) 10)) dL_combs_170 fg_L_307 hk.1 rfl rfl ?_
      refine z_iload (i := 5) dL_combs_173 rfl ?_
      refine z_iadd dL_combs_175 ?_
      refine z_putIG allR_nd dL_combs_176 fg_L_307 hk.1 rfl rfl ?_
      refine z_aload_n (i := 1) dL_combs_179 rfl rfl ?_
      refine z_getRG (r' := (19, k, 4)) dL_combs_180 fg_L_158 hk.1 rfl rfl ?_
      refine z_iload_n (i := 3) dL_combs_183 rfl rfl ?_
      refine z_iconst (v := (0 : Int32)) dL_combs_184 kc_0 ?_
      obtain ⟨hc4, h⟩ := chk h
      refine z_iast (j := x4.toNatClampNeg) allR_nd dL_combs_185 (hk.2.2 4 (Nat.le_of_ble_eq_true rfl)) rfl hc4 rfl ?_
      refine z_aload_n (i := 1) dL_combs_186 rfl rfl ?_
      refine z_getRG (r' := (19, k, 1)) dL_combs_187 fg_L_62 hk.1 rfl rfl ?_
      refine z_iload_n (i := 3) dL_combs_190 rfl rfl ?_
      refine z_iconst (v := (0 : Int32)) dL_combs_191 kc_0 ?_
      obtain ⟨hc5, h⟩ := chk h
      refine z_iast (j := x4.toNatClampNeg) allR_nd dL_combs_192 (hk.2.2 1 (Nat.le_of_ble_eq_true rfl)) rfl hc5 rfl ?_
      refine z_aload_n (i := 1) dL_combs_193 rfl rfl ?_
      refine z_getRG (r' := (19, k, 5)) dL_combs_194 fg_L_310 hk.1 rfl rfl ?_
      refine z_iload_n (i := 3) dL_combs_197 rfl rfl ?_
      refine z_bipush (v := (-99 : Int32)) dL_combs_198 kb_m99 ?_
      obtain ⟨hc6, h⟩ := chk h
      refine z_iast (j := x4.toNatClampNeg) allR_nd dL_combs_200 (hk.2.2 5 (Nat.le_of_ble_eq_true rfl)) rfl hc6 rfl ?_
      refine z_aload_n (i := 0) dL_combs_201 rfl rfl ?_
      refine z_iload_n (i := 3) dL_combs_202 rfl rfl ?_
      obtain ⟨q7, hq8, h⟩ := bnd h
      refine z_fVi (sX9_replaceTooth (putI (putI (putI (putI M (18, k, 0) 10 ((M.1 (18, k, 0) 10) + (M.1 (19, k, 4) x4.toNatClampNeg))) (19, k, 4) x4.toNatClampNeg (0 : Int32)) (19, k, 1) x4.toNatClampNeg (0 : Int32)) (19, k, 5) x4.toNatClampNeg (-99 : Int32)) x4 hq8) dL_combs_203 ml_L_313 cd_X9_replaceTooth mk0 rfl rfl rfl (rmk_r (by decide) (by decide) (by omega) (by omega)) rfl rfl ?_
      refine z_iload (i := 5) dL_combs_206 rfl ?_
      refine z_icmp_ne (tgt := 215) dL_combs_208 rfl (fun hc9 => ?_) (fun hc9 => ?_)
      · have h := it_f h hc9
        refine z_iconst (v := (0 : Int32)) dL_combs_215 kc_0 ?_
        cases h
        exact z_iret dL_combs_216 rfl rfl (by omega) (by omega) ⟨rfl, rfl⟩
      · have h := it_t h hc9
        refine z_iconst (v := (1 : Int32)) dL_combs_211 kc_1 ?_
        refine z_goto (tgt := 216) dL_combs_212 rfl ?_
        cases h
        exact z_iret dL_combs_216 rfl rfl (by omega) (by omega) ⟨rfl, rfl⟩
    · have h := it_f h hc2
      refine z_iload (i := 4) dL_combs_56 rfl ?_
      refine z_iconst (v := (3 : Int32)) dL_combs_58 kc_3 ?_
      refine z_irem dL_combs_59 (by decide) ?_
      refine z_iconst (v := (1 : Int32)) dL_combs_60 kc_1 ?_
      refine z_iadd dL_combs_61 ?_
      refine z_istore (i := 5) dL_combs_62 (Nat.le_of_ble_eq_true rfl) rfl ?_
      refine z_iload (i := 4) dL_combs_64 rfl ?_
      refine z_iconst (v := (2 : Int32)) dL_combs_66 kc_2 ?_
      refine z_irem dL_combs_67 (by decide) ?_
      refine z_if_ne (tgt := 76) dL_combs_68 rfl (fun hc10 => ?_) (fun hc10 => ?_)
      · have h := it_f h hc10
        refine z_iload (i := 5) dL_combs_76 rfl ?_
        refine z_ineg dL_combs_78 ?_
        refine z_istore (i := 5) dL_combs_79 (Nat.le_of_ble_eq_true rfl) rfl ?_
        refine z_aload_n (i := 1) dL_combs_81 rfl rfl ?_
        refine z_iload_n (i := 3) dL_combs_82 rfl rfl ?_
        obtain ⟨q11, hq12, h⟩ := bnd h
        refine z_fVi (sX10_isBad M k x4 hk hq12) dL_combs_83 ml_L_128 cd_X10_isBad hk.1 rfl rfl rfl (rmk_r (by decide) (by decide) (by omega) (by omega)) rfl rfl ?_
        refine z_if_ne (tgt := 105) dL_combs_86 rfl (fun hc13 => ?_) (fun hc13 => ?_)
        · have h := it_f h hc13
          refine z_iconst (v := (-1 : Int32)) dL_combs_105 kc_m1 ?_
          cases h
          exact z_iret dL_combs_106 rfl rfl (by omega) (by omega) ⟨rfl, rfl⟩
        · have h := it_t h hc13
          refine z_aload_n (i := 1) dL_combs_89 rfl rfl ?_
          refine z_getRG (r' := (19, k, 1)) dL_combs_90 fg_L_62 hk.1 rfl rfl ?_
          refine z_iload_n (i := 3) dL_combs_93 rfl rfl ?_
          obtain ⟨hc14, h⟩ := chk h
          refine z_iald (x := (M.1 (19, k, 1) x4.toNatClampNeg)) dL_combs_94 (hk.2.2 1 (Nat.le_of_ble_eq_true rfl)) rfl hc14 rfl ?_
          refine z_iload (i := 5) dL_combs_95 rfl ?_
          refine z_iadd dL_combs_97 ?_
          refine z_fSi (sJ9_abs_0f7a4 M ((M.1 (19, k, 1) x4.toNatClampNeg) + (-((x5 - x5 / (3 : Int32) * (3 : Int32)) + (1 : Int32))))) dL_combs_98 ml_L_298 cd_J9_abs_0f7a4 rfl rfl (rmk_r (by decide) (by decide) (by omega) (by omega)) rfl rfl ?_
          refine z_iconst (v := (3 : Int32)) dL_combs_101 kc_3 ?_
          refine z_icmp_le (tgt := 107) dL_combs_102 rfl (fun hc15 => ?_) (fun hc15 => ?_)
          · have h := it_t h hc15
            refine z_aload_n (i := 1) dL_combs_107 rfl rfl ?_
            refine z_getRG (r' := (19, k, 1)) dL_combs_108 fg_L_62 hk.1 rfl rfl ?_
            refine z_iload_n (i := 3) dL_combs_111 rfl rfl ?_
            refine z_dup2 dL_combs_112 rfl rfl ?_
            obtain ⟨hc16, h⟩ := chk h
            refine z_iald (x := (M.1 (19, k, 1) x4.toNatClampNeg)) dL_combs_113 (hk.2.2 1 (Nat.le_of_ble_eq_true rfl)) rfl hc16 rfl ?_
            refine z_iload (i := 5) dL_combs_114 rfl ?_
            refine z_iadd dL_combs_116 ?_
            obtain ⟨hc17, h⟩ := chk h
            refine z_iast (j := x4.toNatClampNeg) allR_nd dL_combs_117 (hk.2.2 1 (Nat.le_of_ble_eq_true rfl)) rfl hc17 rfl ?_
            refine z_aload_n (i := 1) dL_combs_118 rfl rfl ?_
            refine z_getRG (r' := (19, k, 4)) dL_combs_119 fg_L_158 hk.1 rfl rfl ?_
            refine z_iload_n (i := 3) dL_combs_122 rfl rfl ?_
            refine z_dup2 dL_combs_123 rfl rfl ?_
            obtain ⟨hc18, h⟩ := chk h
            refine z_iald (x := ((putI M (19, k, 1) x4.toNatClampNeg ((M.1 (19, k, 1) x4.toNatClampNeg) + (-((x5 - x5 / (3 : Int32) * (3 : Int32)) + (1 : Int32))))).1 (19, k, 4) x4.toNatClampNeg)) dL_combs_124 (hk.2.2 4 (Nat.le_of_ble_eq_true rfl)) rfl hc18 rfl ?_
            refine z_iconst (v := (3 : Int32)) dL_combs_125 kc_3 ?_
            refine z_iadd dL_combs_126 ?_
            obtain ⟨hc19, h⟩ := chk h
            refine z_iast (j := x4.toNatClampNeg) allR_nd dL_combs_127 (hk.2.2 4 (Nat.le_of_ble_eq_true rfl)) rfl hc19 rfl ?_
            refine z_aload_n (i := 1) dL_combs_128 rfl rfl ?_
            refine z_dup dL_combs_129 rfl ?_
            refine z_getIG (x := (M.1 (18, k, 0) 9)) dL_combs_130 fg_L_301 hk.1 rfl rfl ?_
            refine z_iconst (v := (1 : Int32)) dL_combs_133 kc_1 ?_
            refine z_iadd dL_combs_134 ?_
            refine z_putIG allR_nd dL_combs_135 fg_L_301 hk.1 rfl rfl ?_
            refine z_aload_n (i := 0) dL_combs_138 rfl rfl ?_
            refine z_iload_n (i := 3) dL_combs_139 rfl rfl ?_
            refine z_iload (i := 5) dL_combs_140 rfl ?_
            obtain ⟨q20, hq21, h⟩ := bnd h
            refine z_fVi (sX9_bend (putI (putI (putI M (19, k, 1) x4.toNatClampNeg ((M.1 (19, k, 1) x4.toNatClampNeg) + (-((x5 - x5 / (3 : Int32) * (3 : Int32)) + (1 : Int32))))) (19, k, 4) x4.toNatClampNeg (((putI M (19, k, 1) x4.toNatClampNeg ((M.1 (19, k, 1) x4.toNatClampNeg) + (-((x5 - x5 / (3 : Int32) * (3 : Int32)) + (1 : Int32))))).1 (19, k, 4) x4.toNatClampNeg) + (3 : Int32))) (18, k, 0) 9 ((M.1 (18, k, 0) 9) + (1 : Int32))) x4 (-((x5 - x5 / (3 : Int32) * (3 : Int32)) + (1 : Int32))) hq21) dL_combs_142 ml_L_304 cd_X9_bend mk0 rfl rfl rfl (rmk_r (by decide) (by decide) (by omega) (by omega)) rfl rfl ?_
            refine z_aload_n (i := 1) dL_combs_145 rfl rfl ?_
            refine z_getRG (r' := (19, k, 1)) dL_combs_146 fg_L_62 hk.1 rfl rfl ?_
            refine z_iload_n (i := 3) dL_combs_149 rfl rfl ?_
            obtain ⟨hc22, h⟩ := chk h
            refine z_iald (x := (q20.2.1 (19, k, 1) x4.toNatClampNeg)) dL_combs_150 (hk.2.2 1 (Nat.le_of_ble_eq_true rfl)) rfl hc22 rfl ?_
            refine z_icmp_ne (tgt := 158) dL_combs_151 rfl (fun hc23 => ?_) (fun hc23 => ?_)
            · have h := it_f h hc23
              refine z_iconst (v := (0 : Int32)) dL_combs_158 kc_0 ?_
              cases h
              exact z_iret dL_combs_159 rfl rfl (by omega) (by omega) ⟨rfl, rfl⟩
            · have h := it_t h hc23
              refine z_iconst (v := (1 : Int32)) dL_combs_154 kc_1 ?_
              refine z_goto (tgt := 159) dL_combs_155 rfl ?_
              cases h
              exact z_iret dL_combs_159 rfl rfl (by omega) (by omega) ⟨rfl, rfl⟩
          · have h := it_f h hc15
            refine z_iconst (v := (-1 : Int32)) dL_combs_105 kc_m1 ?_
            cases h
            exact z_iret dL_combs_106 rfl rfl (by omega) (by omega) ⟨rfl, rfl⟩
      · have h := it_t h hc10
        refine z_iload (i := 5) dL_combs_71 rfl ?_
        refine z_goto (tgt := 79) dL_combs_73 rfl ?_
        refine z_istore (i := 5) dL_combs_79 (Nat.le_of_ble_eq_true rfl) rfl ?_
        refine z_aload_n (i := 1) dL_combs_81 rfl rfl ?_
        refine z_iload_n (i := 3) dL_combs_82 rfl rfl ?_
        obtain ⟨q24, hq25, h⟩ := bnd h
        refine z_fVi (sX10_isBad M k x4 hk hq25) dL_combs_83 ml_L_128 cd_X10_isBad hk.1 rfl rfl rfl (rmk_r (by decide) (by decide) (by omega) (by omega)) rfl rfl ?_
        refine z_if_ne (tgt := 105) dL_combs_86 rfl (fun hc26 => ?_) (fun hc26 => ?_)
        · have h := it_f h hc26
          refine z_iconst (v := (-1 : Int32)) dL_combs_105 kc_m1 ?_
          cases h
          exact z_iret dL_combs_106 rfl rfl (by omega) (by omega) ⟨rfl, rfl⟩
        · have h := it_t h hc26
          refine z_aload_n (i := 1) dL_combs_89 rfl rfl ?_
          refine z_getRG (r' := (19, k, 1)) dL_combs_90 fg_L_62 hk.1 rfl rfl ?_
          refine z_iload_n (i := 3) dL_combs_93 rfl rfl ?_
          obtain ⟨hc27, h⟩ := chk h
          refine z_iald (x := (M.1 (19, k, 1) x4.toNatClampNeg)) dL_combs_94 (hk.2.2 1 (Nat.le_of_ble_eq_true rfl)) rfl hc27 rfl ?_
          refine z_iload (i := 5) dL_combs_95 rfl ?_
          refine z_iadd dL_combs_97 ?_
          refine z_fSi (sJ9_abs_0f7a4 M ((M.1 (19, k, 1) x4.toNatClampNeg) + ((x5 - x5 / (3 : Int32) * (3 : Int32)) + (1 : Int32)))) dL_combs_98 ml_L_298 cd_J9_abs_0f7a4 rfl rfl (rmk_r (by decide) (by decide) (by omega) (by omega)) rfl rfl ?_
          refine z_iconst (v := (3 : Int32)) dL_combs_101 kc_3 ?_
          refine z_icmp_le (tgt := 107) dL_combs_102 rfl (fun hc28 => ?_) (fun hc28 => ?_)
          · have h := it_t h hc28
            refine z_aload_n (i := 1) dL_combs_107 rfl rfl ?_
            refine z_getRG (r' := (19, k, 1)) dL_combs_108 fg_L_62 hk.1 rfl rfl ?_
            refine z_iload_n (i := 3) dL_combs_111 rfl rfl ?_
            refine z_dup2 dL_combs_112 rfl rfl ?_
            obtain ⟨hc29, h⟩ := chk h
            refine z_iald (x := (M.1 (19, k, 1) x4.toNatClampNeg)) dL_combs_113 (hk.2.2 1 (Nat.le_of_ble_eq_true rfl)) rfl hc29 rfl ?_
            refine z_iload (i := 5) dL_combs_114 rfl ?_
            refine z_iadd dL_combs_116 ?_
            obtain ⟨hc30, h⟩ := chk h
            refine z_iast (j := x4.toNatClampNeg) allR_nd dL_combs_117 (hk.2.2 1 (Nat.le_of_ble_eq_true rfl)) rfl hc30 rfl ?_
            refine z_aload_n (i := 1) dL_combs_118 rfl rfl ?_
            refine z_getRG (r' := (19, k, 4)) dL_combs_119 fg_L_158 hk.1 rfl rfl ?_
            refine z_iload_n (i := 3) dL_combs_122 rfl rfl ?_
            refine z_dup2 dL_combs_123 rfl rfl ?_
            obtain ⟨hc31, h⟩ := chk h
            refine z_iald (x := ((putI M (19, k, 1) x4.toNatClampNeg ((M.1 (19, k, 1) x4.toNatClampNeg) + ((x5 - x5 / (3 : Int32) * (3 : Int32)) + (1 : Int32)))).1 (19, k, 4) x4.toNatClampNeg)) dL_combs_124 (hk.2.2 4 (Nat.le_of_ble_eq_true rfl)) rfl hc31 rfl ?_
            refine z_iconst (v := (3 : Int32)) dL_combs_125 kc_3 ?_
            refine z_iadd dL_combs_126 ?_
            obtain ⟨hc32, h⟩ := chk h
            refine z_iast (j := x4.toNatClampNeg) allR_nd dL_combs_127 (hk.2.2 4 (Nat.le_of_ble_eq_true rfl)) rfl hc32 rfl ?_
            refine z_aload_n (i := 1) dL_combs_128 rfl rfl ?_
            refine z_dup dL_combs_129 rfl ?_
            refine z_getIG (x := (M.1 (18, k, 0) 9)) dL_combs_130 fg_L_301 hk.1 rfl rfl ?_
            refine z_iconst (v := (1 : Int32)) dL_combs_133 kc_1 ?_
            refine z_iadd dL_combs_134 ?_
            refine z_putIG allR_nd dL_combs_135 fg_L_301 hk.1 rfl rfl ?_
            refine z_aload_n (i := 0) dL_combs_138 rfl rfl ?_
            refine z_iload_n (i := 3) dL_combs_139 rfl rfl ?_
            refine z_iload (i := 5) dL_combs_140 rfl ?_
            obtain ⟨q33, hq34, h⟩ := bnd h
            refine z_fVi (sX9_bend (putI (putI (putI M (19, k, 1) x4.toNatClampNeg ((M.1 (19, k, 1) x4.toNatClampNeg) + ((x5 - x5 / (3 : Int32) * (3 : Int32)) + (1 : Int32)))) (19, k, 4) x4.toNatClampNeg (((putI M (19, k, 1) x4.toNatClampNeg ((M.1 (19, k, 1) x4.toNatClampNeg) + ((x5 - x5 / (3 : Int32) * (3 : Int32)) + (1 : Int32)))).1 (19, k, 4) x4.toNatClampNeg) + (3 : Int32))) (18, k, 0) 9 ((M.1 (18, k, 0) 9) + (1 : Int32))) x4 ((x5 - x5 / (3 : Int32) * (3 : Int32)) + (1 : Int32)) hq34) dL_combs_142 ml_L_304 cd_X9_bend mk0 rfl rfl rfl (rmk_r (by decide) (by decide) (by omega) (by omega)) rfl rfl ?_
            refine z_aload_n (i := 1) dL_combs_145 rfl rfl ?_
            refine z_getRG (r' := (19, k, 1)) dL_combs_146 fg_L_62 hk.1 rfl rfl ?_
            refine z_iload_n (i := 3) dL_combs_149 rfl rfl ?_
            obtain ⟨hc35, h⟩ := chk h
            refine z_iald (x := (q33.2.1 (19, k, 1) x4.toNatClampNeg)) dL_combs_150 (hk.2.2 1 (Nat.le_of_ble_eq_true rfl)) rfl hc35 rfl ?_
            refine z_icmp_ne (tgt := 158) dL_combs_151 rfl (fun hc36 => ?_) (fun hc36 => ?_)
            · have h := it_f h hc36
              refine z_iconst (v := (0 : Int32)) dL_combs_158 kc_0 ?_
              cases h
              exact z_iret dL_combs_159 rfl rfl (by omega) (by omega) ⟨rfl, rfl⟩
            · have h := it_t h hc36
              refine z_iconst (v := (1 : Int32)) dL_combs_154 kc_1 ?_
              refine z_goto (tgt := 159) dL_combs_155 rfl ?_
              cases h
              exact z_iret dL_combs_159 rfl rfl (by omega) (by omega) ⟨rfl, rfl⟩
          · have h := it_f h hc28
            refine z_iconst (v := (-1 : Int32)) dL_combs_105 kc_m1 ?_
            cases h
            exact z_iret dL_combs_106 rfl rfl (by omega) (by omega) ⟨rfl, rfl⟩
  · have h := it_t h hc1
    refine z_aload_n (i := 1) dL_combs_6 rfl rfl ?_
    refine z_getRG (r' := (19, k, 2)) dL_combs_7 fg_L_153 hk.1 rfl rfl ?_
    refine z_iload_n (i := 3) dL_combs_10 rfl rfl ?_
    obtain ⟨hc37, h⟩ := chk h
    refine z_iald (x := (M.1 (19, k, 2) x4.toNatClampNeg)) dL_combs_11 (hk.2.2 2 (Nat.le_of_ble_eq_true rfl)) rfl hc37 rfl ?_
    refine z_istore (i := 5) dL_combs_12 (Nat.le_of_ble_eq_true rfl) rfl ?_
    refine z_aload_n (i := 1) dL_combs_14 rfl rfl ?_
    refine z_getRG (r' := (19, k, 2)) dL_combs_15 fg_L_153 hk.1 rfl rfl ?_
    refine z_iload_n (i := 3) dL_combs_18 rfl rfl ?_
    refine z_iconst (v := (1 : Int32)) dL_combs_19 kc_1 ?_
    refine z_iload (i := 4) dL_combs_20 rfl ?_
    refine z_bipush (v := (9 : Int32)) dL_combs_22 kb_9 ?_
    refine z_irem dL_combs_24 (by decide) ?_
    refine z_iadd dL_combs_25 ?_
    obtain ⟨hc38, h⟩ := chk h
    refine z_iast (j := x4.toNatClampNeg) allR_nd dL_combs_26 (hk.2.2 2 (Nat.le_of_ble_eq_true rfl)) rfl hc38 rfl ?_
    refine z_aload_n (i := 0) dL_combs_27 rfl rfl ?_
    refine z_iload_n (i := 3) dL_combs_28 rfl rfl ?_
    refine z_iconst (v := (1 : Int32)) dL_combs_29 kc_1 ?_
    refine z_iload (i := 4) dL_combs_30 rfl ?_
    refine z_bipush (v := (9 : Int32)) dL_combs_32 kb_9 ?_
    refine z_irem dL_combs_34 (by decide) ?_
    refine z_iadd dL_combs_35 ?_
    obtain ⟨q39, hq40, h⟩ := bnd h
    refine z_fVi (sX9_setGap (putI M (19, k, 2) x4.toNatClampNeg ((1 : Int32) + (x5 - x5 / (9 : Int32) * (9 : Int32)))) x4 ((1 : Int32) + (x5 - x5 / (9 : Int32) * (9 : Int32))) hq40) dL_combs_36 ml_L_295 cd_X9_setGap mk0 rfl rfl rfl (rmk_r (by decide) (by decide) (by omega) (by omega)) rfl rfl ?_
    refine z_iload (i := 5) dL_combs_39 rfl ?_
    refine z_icmp_ne (tgt := 48) dL_combs_41 rfl (fun hc41 => ?_) (fun hc41 => ?_)
    · have h := it_f h hc41
      refine z_iconst (v := (0 : Int32)) dL_combs_48 kc_0 ?_
      cases h
      exact z_iret dL_combs_49 rfl rfl (by omega) (by omega) ⟨rfl, rfl⟩
    · have h := it_t h hc41
      refine z_iconst (v := (1 : Int32)) dL_combs_44 kc_1 ?_
      refine z_goto (tgt := 49) dL_combs_45 rfl ?_
      cases h
      exact z_iret dL_combs_49 rfl rfl (by omega) (by omega) ⟨rfl, rfl⟩
