theorem dX10_readsSingle_0 : decode cX10_readsSingle 0 = .ok (.aload_n 0, 1) := by decide +kernel
theorem dX10_readsSingle_1 : decode cX10_readsSingle 1 = .ok (.getfield 39, 3) := by decide +kernel
theorem dX10_readsSingle_4 : decode cX10_readsSingle 4 = .ok (.iload_n 1, 1) := by decide +kernel
theorem dX10_readsSingle_5 : decode cX10_readsSingle 5 = .ok (.iaload, 1) := by decide +kernel
theorem dX10_readsSingle_6 : decode cX10_readsSingle 6 = .ok (.tableswitch 220 0 7 #[46, 46, 87, 116, 157, 173, 189, 205], 46) := by decide +kernel
theorem dX10_readsSingle_52 : decode cX10_readsSingle 52 = .ok (.aload_n 0, 1) := by decide +kernel
theorem dX10_readsSingle_53 : decode cX10_readsSingle 53 = .ok (.getfield 42, 3) := by decide +kernel
theorem dX10_readsSingle_56 : decode cX10_readsSingle 56 = .ok (.iload_n 1, 1) := by decide +kernel
theorem dX10_readsSingle_57 : decode cX10_readsSingle 57 = .ok (.aload_n 0, 1) := by decide +kernel
theorem dX10_readsSingle_58 : decode cX10_readsSingle 58 = .ok (.iconst 0, 1) := by decide +kernel
theorem dX10_readsSingle_59 : decode cX10_readsSingle 59 = .ok (.iconst 2, 1) := by decide +kernel
theorem dX10_readsSingle_60 : decode cX10_readsSingle 60 = .ok (.invokevirtual 177, 3) := by decide +kernel
theorem dX10_readsSingle_63 : decode cX10_readsSingle 63 = .ok (.iastore, 1) := by decide +kernel
theorem dX10_readsSingle_64 : decode cX10_readsSingle 64 = .ok (.aload_n 0, 1) := by decide +kernel
theorem dX10_readsSingle_65 : decode cX10_readsSingle 65 = .ok (.getfield 45, 3) := by decide +kernel
theorem dX10_readsSingle_68 : decode cX10_readsSingle 68 = .ok (.iload_n 1, 1) := by decide +kernel
theorem dX10_readsSingle_69 : decode cX10_readsSingle 69 = .ok (.aload_n 0, 1) := by decide +kernel
theorem dX10_readsSingle_70 : decode cX10_readsSingle 70 = .ok (.iconst 0, 1) := by decide +kernel
theorem dX10_readsSingle_71 : decode cX10_readsSingle 71 = .ok (.bipush 11, 2) := by decide +kernel
theorem dX10_readsSingle_73 : decode cX10_readsSingle 73 = .ok (.invokevirtual 177, 3) := by decide +kernel
theorem dX10_readsSingle_76 : decode cX10_readsSingle 76 = .ok (.iastore, 1) := by decide +kernel
theorem dX10_readsSingle_77 : decode cX10_readsSingle 77 = .ok (.aload_n 0, 1) := by decide +kernel
theorem dX10_readsSingle_78 : decode cX10_readsSingle 78 = .ok (.getfield 48, 3) := by decide +kernel
theorem dX10_readsSingle_81 : decode cX10_readsSingle 81 = .ok (.iload_n 1, 1) := by decide +kernel
theorem dX10_readsSingle_82 : decode cX10_readsSingle 82 = .ok (.aload_n 0, 1) := by decide +kernel
theorem dX10_readsSingle_83 : decode cX10_readsSingle 83 = .ok (.iconst 0, 1) := by decide +kernel
theorem dX10_readsSingle_84 : decode cX10_readsSingle 84 = .ok (.bipush 63, 2) := by decide +kernel
theorem dX10_readsSingle_86 : decode cX10_readsSingle 86 = .ok (.invokevirtual 177, 3) := by decide +kernel
theorem dX10_readsSingle_89 : decode cX10_readsSingle 89 = .ok (.iastore, 1) := by decide +kernel
theorem dX10_readsSingle_90 : decode cX10_readsSingle 90 = .ok (.goto 150, 3) := by decide +kernel
theorem dX10_readsSingle_93 : decode cX10_readsSingle 93 = .ok (.aload_n 0, 1) := by decide +kernel
theorem dX10_readsSingle_94 : decode cX10_readsSingle 94 = .ok (.getfield 42, 3) := by decide +kernel
theorem dX10_readsSingle_97 : decode cX10_readsSingle 97 = .ok (.iload_n 1, 1) := by decide +kernel
theorem dX10_readsSingle_98 : decode cX10_readsSingle 98 = .ok (.aload_n 0, 1) := by decide +kernel
theorem dX10_readsSingle_99 : decode cX10_readsSingle 99 = .ok (.iconst 0, 1) := by decide +kernel
theorem dX10_readsSingle_100 : decode cX10_readsSingle 100 = .ok (.bipush 11, 2) := by decide +kernel
theorem dX10_readsSingle_102 : decode cX10_readsSingle 102 = .ok (.invokevirtual 177, 3) := by decide +kernel
theorem dX10_readsSingle_105 : decode cX10_readsSingle 105 = .ok (.iastore, 1) := by decide +kernel
theorem dX10_readsSingle_106 : decode cX10_readsSingle 106 = .ok (.aload_n 0, 1) := by decide +kernel
theorem dX10_readsSingle_107 : decode cX10_readsSingle 107 = .ok (.getfield 45, 3) := by decide +kernel
theorem dX10_readsSingle_110 : decode cX10_readsSingle 110 = .ok (.iload_n 1, 1) := by decide +kernel
theorem dX10_readsSingle_111 : decode cX10_readsSingle 111 = .ok (.aload_n 0, 1) := by decide +kernel
theorem dX10_readsSingle_112 : decode cX10_readsSingle 112 = .ok (.iconst 1, 1) := by decide +kernel
theorem dX10_readsSingle_113 : decode cX10_readsSingle 113 = .ok (.bipush 9, 2) := by decide +kernel
theorem dX10_readsSingle_115 : decode cX10_readsSingle 115 = .ok (.invokevirtual 177, 3) := by decide +kernel
theorem dX10_readsSingle_118 : decode cX10_readsSingle 118 = .ok (.iastore, 1) := by decide +kernel
theorem dX10_readsSingle_119 : decode cX10_readsSingle 119 = .ok (.goto 121, 3) := by decide +kernel
theorem dX10_readsSingle_122 : decode cX10_readsSingle 122 = .ok (.aload_n 0, 1) := by decide +kernel
theorem dX10_readsSingle_123 : decode cX10_readsSingle 123 = .ok (.getfield 42, 3) := by decide +kernel
theorem dX10_readsSingle_126 : decode cX10_readsSingle 126 = .ok (.iload_n 1, 1) := by decide +kernel
theorem dX10_readsSingle_127 : decode cX10_readsSingle 127 = .ok (.aload_n 0, 1) := by decide +kernel
theorem dX10_readsSingle_128 : decode cX10_readsSingle 128 = .ok (.iconst 0, 1) := by decide +kernel
theorem dX10_readsSingle_129 : decode cX10_readsSingle 129 = .ok (.bipush 11, 2) := by decide +kernel
theorem dX10_readsSingle_131 : decode cX10_readsSingle 131 = .ok (.invokevirtual 177, 3) := by decide +kernel
theorem dX10_readsSingle_134 : decode cX10_readsSingle 134 = .ok (.iastore, 1) := by decide +kernel
theorem dX10_readsSingle_135 : decode cX10_readsSingle 135 = .ok (.aload_n 0, 1) := by decide +kernel
theorem dX10_readsSingle_136 : decode cX10_readsSingle 136 = .ok (.getfield 45, 3) := by decide +kernel
theorem dX10_readsSingle_139 : decode cX10_readsSingle 139 = .ok (.iload_n 1, 1) := by decide +kernel
theorem dX10_readsSingle_140 : decode cX10_readsSingle 140 = .ok (.aload_n 0, 1) := by decide +kernel
theorem dX10_readsSingle_141 : decode cX10_readsSingle 141 = .ok (.invokevirtual 231, 3) := by decide +kernel
theorem dX10_readsSingle_144 : decode cX10_readsSingle 144 = .ok (.iastore, 1) := by decide +kernel
theorem dX10_readsSingle_145 : decode cX10_readsSingle 145 = .ok (.aload_n 0, 1) := by decide +kernel
theorem dX10_readsSingle_146 : decode cX10_readsSingle 146 = .ok (.getfield 45, 3) := by decide +kernel
theorem dX10_readsSingle_149 : decode cX10_readsSingle 149 = .ok (.iload_n 1, 1) := by decide +kernel
theorem dX10_readsSingle_150 : decode cX10_readsSingle 150 = .ok (.dup2, 1) := by decide +kernel
theorem dX10_readsSingle_151 : decode cX10_readsSingle 151 = .ok (.iaload, 1) := by decide +kernel
theorem dX10_readsSingle_152 : decode cX10_readsSingle 152 = .ok (.aload_n 0, 1) := by decide +kernel
theorem dX10_readsSingle_153 : decode cX10_readsSingle 153 = .ok (.iconst 1, 1) := by decide +kernel
theorem dX10_readsSingle_154 : decode cX10_readsSingle 154 = .ok (.iconst 3, 1) := by decide +kernel
theorem dX10_readsSingle_155 : decode cX10_readsSingle 155 = .ok (.invokevirtual 177, 3) := by decide +kernel
theorem dX10_readsSingle_158 : decode cX10_readsSingle 158 = .ok (.imul, 1) := by decide +kernel
theorem dX10_readsSingle_159 : decode cX10_readsSingle 159 = .ok (.iastore, 1) := by decide +kernel
theorem dX10_readsSingle_160 : decode cX10_readsSingle 160 = .ok (.goto 80, 3) := by decide +kernel
theorem dX10_readsSingle_163 : decode cX10_readsSingle 163 = .ok (.aload_n 0, 1) := by decide +kernel
theorem dX10_readsSingle_164 : decode cX10_readsSingle 164 = .ok (.getfield 42, 3) := by decide +kernel
theorem dX10_readsSingle_167 : decode cX10_readsSingle 167 = .ok (.iload_n 1, 1) := by decide +kernel
theorem dX10_readsSingle_168 : decode cX10_readsSingle 168 = .ok (.aload_n 0, 1) := by decide +kernel
theorem dX10_readsSingle_169 : decode cX10_readsSingle 169 = .ok (.iconst 0, 1) := by decide +kernel
theorem dX10_readsSingle_170 : decode cX10_readsSingle 170 = .ok (.bipush 11, 2) := by decide +kernel
theorem dX10_readsSingle_172 : decode cX10_readsSingle 172 = .ok (.invokevirtual 177, 3) := by decide +kernel
theorem dX10_readsSingle_175 : decode cX10_readsSingle 175 = .ok (.iastore, 1) := by decide +kernel
theorem dX10_readsSingle_176 : decode cX10_readsSingle 176 = .ok (.goto 64, 3) := by decide +kernel
theorem dX10_readsSingle_179 : decode cX10_readsSingle 179 = .ok (.aload_n 0, 1) := by decide +kernel
theorem dX10_readsSingle_180 : decode cX10_readsSingle 180 = .ok (.getfield 42, 3) := by decide +kernel
theorem dX10_readsSingle_183 : decode cX10_readsSingle 183 = .ok (.iload_n 1, 1) := by decide +kernel
theorem dX10_readsSingle_184 : decode cX10_readsSingle 184 = .ok (.aload_n 0, 1) := by decide +kernel
theorem dX10_readsSingle_185 : decode cX10_readsSingle 185 = .ok (.iconst 0, 1) := by decide +kernel
theorem dX10_readsSingle_186 : decode cX10_readsSingle 186 = .ok (.bipush 90, 2) := by decide +kernel
theorem dX10_readsSingle_188 : decode cX10_readsSingle 188 = .ok (.invokevirtual 177, 3) := by decide +kernel
theorem dX10_readsSingle_191 : decode cX10_readsSingle 191 = .ok (.iastore, 1) := by decide +kernel
theorem dX10_readsSingle_192 : decode cX10_readsSingle 192 = .ok (.goto 48, 3) := by decide +kernel
theorem dX10_readsSingle_195 : decode cX10_readsSingle 195 = .ok (.aload_n 0, 1) := by decide +kernel
theorem dX10_readsSingle_196 : decode cX10_readsSingle 196 = .ok (.getfield 42, 3) := by decide +kernel
theorem dX10_readsSingle_199 : decode cX10_readsSingle 199 = .ok (.iload_n 1, 1) := by decide +kernel
theorem dX10_readsSingle_200 : decode cX10_readsSingle 200 = .ok (.aload_n 0, 1) := by decide +kernel
theorem dX10_readsSingle_201 : decode cX10_readsSingle 201 = .ok (.iconst 1, 1) := by decide +kernel
theorem dX10_readsSingle_202 : decode cX10_readsSingle 202 = .ok (.bipush 20, 2) := by decide +kernel
theorem dX10_readsSingle_204 : decode cX10_readsSingle 204 = .ok (.invokevirtual 177, 3) := by decide +kernel
theorem dX10_readsSingle_207 : decode cX10_readsSingle 207 = .ok (.iastore, 1) := by decide +kernel
theorem dX10_readsSingle_208 : decode cX10_readsSingle 208 = .ok (.goto 32, 3) := by decide +kernel
theorem dX10_readsSingle_211 : decode cX10_readsSingle 211 = .ok (.aload_n 0, 1) := by decide +kernel
theorem dX10_readsSingle_212 : decode cX10_readsSingle 212 = .ok (.getfield 42, 3) := by decide +kernel
theorem dX10_readsSingle_215 : decode cX10_readsSingle 215 = .ok (.iload_n 1, 1) := by decide +kernel
theorem dX10_readsSingle_216 : decode cX10_readsSingle 216 = .ok (.aload_n 0, 1) := by decide +kernel
theorem dX10_readsSingle_217 : decode cX10_readsSingle 217 = .ok (.iconst 0, 1) := by decide +kernel
theorem dX10_readsSingle_218 : decode cX10_readsSingle 218 = .ok (.iconst 2, 1) := by decide +kernel
theorem dX10_readsSingle_219 : decode cX10_readsSingle 219 = .ok (.invokevirtual 177, 3) := by decide +kernel
theorem dX10_readsSingle_222 : decode cX10_readsSingle 222 = .ok (.iastore, 1) := by decide +kernel
theorem dX10_readsSingle_223 : decode cX10_readsSingle 223 = .ok (.goto 17, 3) := by decide +kernel
theorem dX10_readsSingle_226 : decode cX10_readsSingle 226 = .ok (.aload_n 0, 1) := by decide +kernel
theorem dX10_readsSingle_227 : decode cX10_readsSingle 227 = .ok (.getfield 42, 3) := by decide +kernel
theorem dX10_readsSingle_230 : decode cX10_readsSingle 230 = .ok (.iload_n 1, 1) := by decide +kernel
theorem dX10_readsSingle_231 : decode cX10_readsSingle 231 = .ok (.aload_n 0, 1) := by decide +kernel
theorem dX10_readsSingle_232 : decode cX10_readsSingle 232 = .ok (.iconst 1, 1) := by decide +kernel
theorem dX10_readsSingle_233 : decode cX10_readsSingle 233 = .ok (.sipush 300, 3) := by decide +kernel
theorem dX10_readsSingle_236 : decode cX10_readsSingle 236 = .ok (.invokevirtual 177, 3) := by decide +kernel
theorem dX10_readsSingle_239 : decode cX10_readsSingle 239 = .ok (.iastore, 1) := by decide +kernel
theorem dX10_readsSingle_240 : decode cX10_readsSingle 240 = .ok (.return_, 1) := by decide +kernel
def fX10_readsSingle (M : Mm) (x1 : Int32) : Option Mm := if x1 < 0 ∨ 30 ≤ x1.toNatClampNeg then none else if (M.1 (19, 7, 0) x1.toNatClampNeg) = (0 : Int32) then ((fX10_number M (0 : Int32) (2 : Int32)).bind fun q3 => if x1 < 0 ∨ 30 ≤ x1.toNatClampNeg then none else (fX10_number (putI q3.2 (19, 8, 0) x1.toNatClampNeg q3.1) (0 : Int32) (11 : Int32)).bind fun q6 => if x1 < 0 ∨ 30 ≤ x1.toNatClampNeg then none else (fX10_number (putI q6.2 (19, 9, 0) x1.toNatClampNeg q6.1) (0 : Int32) (63 : Int32)).bind fun q9 => if x1 < 0 ∨ 30 ≤ x1.toNatClampNeg then none else some (putI q9.2 (19, 10, 0) x1.toNatClampNeg q9.1)) else if (M.1 (19, 7, 0) x1.toNatClampNeg) = (1 : Int32) then ((fX10_number M (0 : Int32) (2 : Int32)).bind fun q13 => if x1 < 0 ∨ 30 ≤ x1.toNatClampNeg then none else (fX10_number (putI q13.2 (19, 8, 0) x1.toNatClampNeg q13.1) (0 : Int32) (11 : Int32)).bind fun q16 => if x1 < 0 ∨ 30 ≤ x1.toNatClampNeg then none else (fX10_number (putI q16.2 (19, 9, 0) x1.toNatClampNeg q16.1) (0 : Int32) (63 : Int32)).bind fun q19 => if x1 < 0 ∨ 30 ≤ x1.toNatClampNeg then none else some (putI q19.2 (19, 10, 0) x1.toNatClampNeg q19.1)) else if (M.1 (19, 7, 0) x1.toNatClampNeg) = (2 : Int32) then ((fX10_number M (0 : Int32) (11 : Int32)).bind fun q23 => if x1 < 0 ∨ 30 ≤ x1.toNatClampNeg then none else (fX10_number (putI q23.2 (19, 8, 0) x1.toNatClampNeg q23.1) (1 : Int32) (9 : Int32)).bind fun q26 => if x1 < 0 ∨ 30 ≤ x1.toNatClampNeg then none else some (putI q26.2 (19, 9, 0) x1.toNatClampNeg q26.1)) else if (M.1 (19, 7, 0) x1.toNatClampNeg) = (3 : Int32) then ((fX10_number M (0 : Int32) (11 : Int32)).bind fun q30 => if x1 < 0 ∨ 30 ≤ x1.toNatClampNeg then none else (fX10_takesDirection (putI q30.2 (19, 8, 0) x1.toNatClampNeg q30.1)).bind fun q33 => if x1 < 0 ∨ 30 ≤ x1.toNatClampNeg then none else if x1 < 0 ∨ 30 ≤ x1.toNatClampNeg then none else (fX10_number (putI q33.2 (19, 9, 0) x1.toNatClampNeg q33.1) (1 : Int32) (3 : Int32)).bind fun q37 => if x1 < 0 ∨ 30 ≤ x1.toNatClampNeg then none else some (putI q37.2 (19, 9, 0) x1.toNatClampNeg (q33.1 * q37.1))) else if (M.1 (19, 7, 0) x1.toNatClampNeg) = (4 : Int32) then ((fX10_number M (0 : Int32) (11 : Int32)).bind fun q41 => if x1 < 0 ∨ 30 ≤ x1.toNatClampNeg then none else some (putI q41.2 (19, 8, 0) x1.toNatClampNeg q41.1)) else if (M.1 (19, 7, 0) x1.toNatClampNeg) = (5 : Int32) then ((fX10_number M (0 : Int32) (90 : Int32)).bind fun q45 => if x1 < 0 ∨ 30 ≤ x1.toNatClampNeg then none else some (putI q45.2 (19, 8, 0) x1.toNatClampNeg q45.1)) else if (M.1 (19, 7, 0) x1.toNatClampNeg) = (6 : Int32) then ((fX10_number M (1 : Int32) (20 : Int32)).bind fun q49 => if x1 < 0 ∨ 30 ≤ x1.toNatClampNeg then none else some (putI q49.2 (19, 8, 0) x1.toNatClampNeg q49.1)) else if (M.1 (19, 7, 0) x1.toNatClampNeg) = (7 : Int32) then ((fX10_number M (0 : Int32) (2 : Int32)).bind fun q53 => if x1 < 0 ∨ 30 ≤ x1.toNatClampNeg then none else some (putI q53.2 (19, 8, 0) x1.toNatClampNeg q53.1)) else (fX10_number M (1 : Int32) (300 : Int32)).bind fun q56 => if x1 < 0 ∨ 30 ≤ x1.toNatClampNeg then none else some (putI q56.2 (19, 8, 0) x1.toNatClampNeg q56.1)
set_option maxRecDepth 20000 in
set_option maxHeartbeats 2000000 in
theorem sX10_readsSingle {wv : Nat} (M : Mm) (x1 : Int32) {res : Mm} (h : fX10_readsSingle M x1 = some res) : TF (wv + 1) yX10_readsSingle cX10_readsSingle 2 none 9 [.inr (18, 0, 0), .inl (.int x1)] M (none) res := by
  rw [fX10_readsSingle] at h
  refine TF.go (n := 0) (ls := [some (.inr (18, 0, 0)), some (.inl (.int x1))]) rfl rfl rfl rfl rfl ?_
  refine z_aload_n (i := 0) dX10_readsSingle_0 rfl rfl ?_
  refine z_getR (r' := (19, 7, 0)) dX10_readsSingle_1 fl_X10_39 mk18 rfl rfl ?_
  refine z_iload_n (i := 1) dX10_readsSingle_4 rfl rfl ?_
  obtain ⟨hc1, h⟩ := chk h
  refine z_iald (x := (M.1 (19, 7, 0) x1.toNatClampNeg)) dX10_readsSingle_5 (m19 _ (Nat.le_of_ble_eq_true rfl)) rfl hc1 rfl ?_
  by_cases hc2 : (M.1 (19, 7, 0) x1.toNatClampNeg) = (0 : Int32)
  · have h := it_t h hc2
    refine z_tin (tgt := 52) dX10_readsSingle_6 (by rw [hc2]; decide) (by rw [hc2]; decide) (off := 46) (by rw [hc2]; decide) rfl ?_
    refine z_aload_n (i := 0) dX10_readsSingle_52 rfl rfl ?_
    refine z_getR (r' := (19, 8, 0)) dX10_readsSingle_53 fl_X10_42 mk18 rfl rfl ?_
    refine z_iload_n (i := 1) dX10_readsSingle_56 rfl rfl ?_
    refine z_aload_n (i := 0) dX10_readsSingle_57 rfl rfl ?_
    refine z_iconst (v := (0 : Int32)) dX10_readsSingle_58 kc_0 ?_
    refine z_iconst (v := (2 : Int32)) dX10_readsSingle_59 kc_2 ?_
    obtain ⟨q3, hq4, h⟩ := bnd h
    refine z_fVi (sX10_number M (0 : Int32) (2 : Int32) hq4) dX10_readsSingle_60 ml_X10_177 cd_X10_number mk18 rfl rfl rfl rfl rfl rfl ?_
    obtain ⟨hc5, h⟩ := chk h
    refine z_iast (j := x1.toNatClampNeg) allR_nd dX10_readsSingle_63 (m19 _ (Nat.le_of_ble_eq_true rfl)) rfl hc5 rfl ?_
    refine z_aload_n (i := 0) dX10_readsSingle_64 rfl rfl ?_
    refine z_getR (r' := (19, 9, 0)) dX10_readsSingle_65 fl_X10_45 mk18 rfl rfl ?_
    refine z_iload_n (i := 1) dX10_readsSingle_68 rfl rfl ?_
    refine z_aload_n (i := 0) dX10_readsSingle_69 rfl rfl ?_
    refine z_iconst (v := (0 : Int32)) dX10_readsSingle_70 kc_0 ?_
    refine z_bipush (v := (11 : Int32)) dX10_readsSingle_71 kb_11 ?_
    obtain ⟨q6, hq7, h⟩ := bnd h
    refine z_fVi (sX10_number (putI q3.2 (19, 8, 0) x1.toNatClampNeg q3.1) (0 : Int32) (11 : Int32) hq7) dX10_readsSingle_73 ml_X10_177 cd_X10_number mk18 rfl rfl rfl rfl rfl rfl ?_
    obtain ⟨hc8, h⟩ := chk h
    refine z_iast (j := x1.toNatClampNeg) allR_nd dX10_readsSingle_76 (m19 _ (Nat.le_of_ble_eq_true rfl)) rfl hc8 rfl ?_
    refine z_aload_n (i := 0) dX10_readsSingle_77 rfl rfl ?_
    refine z_getR (r' := (19, 10, 0)) dX10_readsSingle_78 fl_X10_48 mk18 rfl rfl ?_
    refine z_iload_n (i := 1) dX10_readsSingle_81 rfl rfl ?_
    refine z_aload_n (i := 0) dX10_readsSingle_82 rfl rfl ?_
    refine z_iconst (v := (0 : Int32)) dX10_readsSingle_83 kc_0 ?_
    refine z_bipush (v := (63 : Int32)) dX10_readsSingle_84 kb_63 ?_
    obtain ⟨q9, hq10, h⟩ := bnd h
    refine z_fVi (sX10_number (putI q6.2 (19, 9, 0) x1.toNatClampNeg q6.1) (0 : Int32) (63 : Int32) hq10) dX10_readsSingle_86 ml_X10_177 cd_X10_number mk18 rfl rfl rfl rfl rfl rfl ?_
    obtain ⟨hc11, h⟩ := chk h
    refine z_iast (j := x1.toNatClampNeg) allR_nd dX10_readsSingle_89 (m19 _ (Nat.le_of_ble_eq_true rfl)) rfl hc11 rfl ?_
    refine z_goto (tgt := 240) dX10_readsSingle_90 rfl ?_
    cases h
    exact z_vret dX10_readsSingle_240 rfl (Nat.le_refl _) (Nat.le_refl _) ⟨rfl, rfl⟩
  have h := it_f h hc2
  by_cases hc12 : (M.1 (19, 7, 0) x1.toNatClampNeg) = (1 : Int32)
  · have h := it_t h hc12
    refine z_tin (tgt := 52) dX10_readsSingle_6 (by rw [hc12]; decide) (by rw [hc12]; decide) (off := 46) (by rw [hc12]; decide) rfl ?_
    refine z_aload_n (i := 0) dX10_readsSingle_52 rfl rfl ?_
    refine z_getR (r' := (19, 8, 0)) dX10_readsSingle_53 fl_X10_42 mk18 rfl rfl ?_
    refine z_iload_n (i := 1) dX10_readsSingle_56 rfl rfl ?_
    refine z_aload_n (i := 0) dX10_readsSingle_57 rfl rfl ?_
    refine z_iconst (v := (0 : Int32)) dX10_readsSingle_58 kc_0 ?_
    refine z_iconst (v := (2 : Int32)) dX10_readsSingle_59 kc_2 ?_
    obtain ⟨q13, hq14, h⟩ := bnd h
    refine z_fVi (sX10_number M (0 : Int32) (2 : Int32) hq14) dX10_readsSingle_60 ml_X10_177 cd_X10_number mk18 rfl rfl rfl rfl rfl rfl ?_
    obtain ⟨hc15, h⟩ := chk h
    refine z_iast (j := x1.toNatClampNeg) allR_nd dX10_readsSingle_63 (m19 _ (Nat.le_of_ble_eq_true rfl)) rfl hc15 rfl ?_
    refine z_aload_n (i := 0) dX10_readsSingle_64 rfl rfl ?_
    refine z_getR (r' := (19, 9, 0)) dX10_readsSingle_65 fl_X10_45 mk18 rfl rfl ?_
    refine z_iload_n (i := 1) dX10_readsSingle_68 rfl rfl ?_
    refine z_aload_n (i := 0) dX10_readsSingle_69 rfl rfl ?_
    refine z_iconst (v := (0 : Int32)) dX10_readsSingle_70 kc_0 ?_
    refine z_bipush (v := (11 : Int32)) dX10_readsSingle_71 kb_11 ?_
    obtain ⟨q16, hq17, h⟩ := bnd h
    refine z_fVi (sX10_number (putI q13.2 (19, 8, 0) x1.toNatClampNeg q13.1) (0 : Int32) (11 : Int32) hq17) dX10_readsSingle_73 ml_X10_177 cd_X10_number mk18 rfl rfl rfl rfl rfl rfl ?_
    obtain ⟨hc18, h⟩ := chk h
    refine z_iast (j := x1.toNatClampNeg) allR_nd dX10_readsSingle_76 (m19 _ (Nat.le_of_ble_eq_true rfl)) rfl hc18 rfl ?_
    refine z_aload_n (i := 0) dX10_readsSingle_77 rfl rfl ?_
    refine z_getR (r' := (19, 10, 0)) dX10_readsSingle_78 fl_X10_48 mk18 rfl rfl ?_
    refine z_iload_n (i := 1) dX10_readsSingle_81 rfl rfl ?_
    refine z_aload_n (i := 0) dX10_readsSingle_82 rfl rfl ?_
    refine z_iconst (v := (0 : Int32)) dX10_readsSingle_83 kc_0 ?_
    refine z_bipush (v := (63 : Int32)) dX10_readsSingle_84 kb_63 ?_
    obtain ⟨q19, hq20, h⟩ := bnd h
    refine z_fVi (sX10_number (putI q16.2 (19, 9, 0) x1.toNatClampNeg q16.1) (0 : Int32) (63 : Int32) hq20) dX10_readsSingle_86 ml_X10_177 cd_X10_number mk18 rfl rfl rfl rfl rfl rfl ?_
    obtain ⟨hc21, h⟩ := chk h
    refine z_iast (j := x1.toNatClampNeg) allR_nd dX10_readsSingle_89 (m19 _ (Nat.le_of_ble_eq_true rfl)) rfl hc21 rfl ?_
    refine z_goto (tgt := 240) dX10_readsSingle_90 rfl ?_
    cases h
    exact z_vret dX10_readsSingle_240 rfl (Nat.le_refl _) (Nat.le_refl _) ⟨rfl, rfl⟩
  have h := it_f h hc12
  by_cases hc22 : (M.1 (19, 7, 0) x1.toNatClampNeg) = (2 : Int32)
  · have h := it_t h hc22
    refine z_tin (tgt := 93) dX10_readsSingle_6 (by rw [hc22]; decide) (by rw [hc22]; decide) (off := 87) (by rw [hc22]; decide) rfl ?_
    refine z_aload_n (i := 0) dX10_readsSingle_93 rfl rfl ?_
    refine z_getR (r' := (19, 8, 0)) dX10_readsSingle_94 fl_X10_42 mk18 rfl rfl ?_
    refine z_iload_n (i := 1) dX10_readsSingle_97 rfl rfl ?_
    refine z_aload_n (i := 0) dX10_readsSingle_98 rfl rfl ?_
    refine z_iconst (v := (0 : Int32)) dX10_readsSingle_99 kc_0 ?_
    refine z_bipush (v := (11 : Int32)) dX10_readsSingle_100 kb_11 ?_
    obtain ⟨q23, hq24, h⟩ := bnd h
    refine z_fVi (sX10_number M (0 : Int32) (11 : Int32) hq24) dX10_readsSingle_102 ml_X10_177 cd_X10_number mk18 rfl rfl rfl rfl rfl rfl ?_
    obtain ⟨hc25, h⟩ := chk h
    refine z_iast (j := x1.toNatClampNeg) allR_nd dX10_readsSingle_105 (m19 _ (Nat.le_of_ble_eq_true rfl)) rfl hc25 rfl ?_
    refine z_aload_n (i := 0) dX10_readsSingle_106 rfl rfl ?_
    refine z_getR (r' := (19, 9, 0)) dX10_readsSingle_107 fl_X10_45 mk18 rfl rfl ?_
    refine z_iload_n (i := 1) dX10_readsSingle_110 rfl rfl ?_
    refine z_aload_n (i := 0) dX10_readsSingle_111 rfl rfl ?_
    refine z_iconst (v := (1 : Int32)) dX10_readsSingle_112 kc_1 ?_
    refine z_bipush (v := (9 : Int32)) dX10_readsSingle_113 kb_9 ?_
    obtain ⟨q26, hq27, h⟩ := bnd h
    refine z_fVi (sX10_number (putI q23.2 (19, 8, 0) x1.toNatClampNeg q23.1) (1 : Int32) (9 : Int32) hq27) dX10_readsSingle_115 ml_X10_177 cd_X10_number mk18 rfl rfl rfl rfl rfl rfl ?_
    obtain ⟨hc28, h⟩ := chk h
    refine z_iast (j := x1.toNatClampNeg) allR_nd dX10_readsSingle_118 (m19 _ (Nat.le_of_ble_eq_true rfl)) rfl hc28 rfl ?_
    refine z_goto (tgt := 240) dX10_readsSingle_119 rfl ?_
    cases h
    exact z_vret dX10_readsSingle_240 rfl (Nat.le_refl _) (Nat.le_refl _) ⟨rfl, rfl⟩
  have h := it_f h hc22
  by_cases hc29 : (M.1 (19, 7, 0) x1.toNatClampNeg) = (3 : Int32)
  · have h := it_t h hc29
    refine z_tin (tgt := 122) dX10_readsSingle_6 (by rw [hc29]; decide) (by rw [hc29]; decide) (off := 116) (by rw [hc29]; decide) rfl ?_
    refine z_aload_n (i := 0) dX10_readsSingle_122 rfl rfl ?_
    refine z_getR (r' := (19, 8, 0)) dX10_readsSingle_123 fl_X10_42 mk18 rfl rfl ?_
    refine z_iload_n (i := 1) dX10_readsSingle_126 rfl rfl ?_
    refine z_aload_n (i := 0) dX10_readsSingle_127 rfl rfl ?_
    refine z_iconst (v := (0 : Int32)) dX10_readsSingle_128 kc_0 ?_
    refine z_bipush (v := (11 : Int32)) dX10_readsSingle_129 kb_11 ?_
    obtain ⟨q30, hq31, h⟩ := bnd h
    refine z_fVi (sX10_number M (0 : Int32) (11 : Int32) hq31) dX10_readsSingle_131 ml_X10_177 cd_X10_number mk18 rfl rfl rfl rfl rfl rfl ?_
    obtain ⟨hc32, h⟩ := chk h
    refine z_iast (j := x1.toNatClampNeg) allR_nd dX10_readsSingle_134 (m19 _ (Nat.le_of_ble_eq_true rfl)) rfl hc32 rfl ?_
    refine z_aload_n (i := 0) dX10_readsSingle_135 rfl rfl ?_
    refine z_getR (r' := (19, 9, 0)) dX10_readsSingle_136 fl_X10_45 mk18 rfl rfl ?_
    refine z_iload_n (i := 1) dX10_readsSingle_139 rfl rfl ?_
    refine z_aload_n (i := 0) dX10_readsSingle_140 rfl rfl ?_
    obtain ⟨q33, hq34, h⟩ := bnd h
    refine z_fVi (sX10_takesDirection (putI q30.2 (19, 8, 0) x1.toNatClampNeg q30.1) hq34) dX10_readsSingle_141 ml_X10_231 cd_X10_takesDirection mk18 rfl rfl rfl rfl rfl rfl ?_
    obtain ⟨hc35, h⟩ := chk h
    refine z_iast (j := x1.toNatClampNeg) allR_nd dX10_readsSingle_144 (m19 _ (Nat.le_of_ble_eq_true rfl)) rfl hc35 rfl ?_
    refine z_aload_n (i := 0) dX10_readsSingle_145 rfl rfl ?_
    refine z_getR (r' := (19, 9, 0)) dX10_readsSingle_146 fl_X10_45 mk18 rfl rfl ?_
    refine z_iload_n (i := 1) dX10_readsSingle_149 rfl rfl ?_
    refine z_dup2 dX10_readsSingle_150 rfl rfl ?_
    obtain ⟨hc36, h⟩ := chk h
    refine z_iald (x := q33.1) dX10_readsSingle_151 (m19 _ (Nat.le_of_ble_eq_true rfl)) rfl hc36 (gp1 (M := q33.2) (r := (19, 9, 0)) (j := x1.toNatClampNeg) (v := q33.1)) ?_
    refine z_aload_n (i := 0) dX10_readsSingle_152 rfl rfl ?_
    refine z_iconst (v := (1 : Int32)) dX10_readsSingle_153 kc_1 ?_
    refine z_iconst (v := (3 : Int32)) dX10_readsSingle_154 kc_3 ?_
    obtain ⟨q37, hq38, h⟩ := bnd h
    refine z_fVi (sX10_number (putI q33.2 (19, 9, 0) x1.toNatClampNeg q33.1) (1 : Int32) (3 : Int32) hq38) dX10_readsSingle_155 ml_X10_177 cd_X10_number mk18 rfl rfl rfl rfl rfl rfl ?_
    refine z_imul dX10_readsSingle_158 ?_
    obtain ⟨hc39, h⟩ := chk h
    refine z_iast (j := x1.toNatClampNeg) allR_nd dX10_readsSingle_159 (m19 _ (Nat.le_of_ble_eq_true rfl)) rfl hc39 rfl ?_
    refine z_goto (tgt := 240) dX10_readsSingle_160 rfl ?_
    cases h
    exact z_vret dX10_readsSingle_240 rfl (Nat.le_refl _) (Nat.le_refl _) ⟨rfl, rfl⟩
  have h := it_f h hc29
  by_cases hc40 : (M.1 (19, 7, 0) x1.toNatClampNeg) = (4 : Int32)
  · have h := it_t h hc40
    refine z_tin (tgt := 163) dX10_readsSingle_6 (by rw [hc40]; decide) (by rw [hc40]; decide) (off := 157) (by rw [hc40]; decide) rfl ?_
    refine z_aload_n (i := 0) dX10_readsSingle_163 rfl rfl ?_
    refine z_getR (r' := (19, 8, 0)) dX10_readsSingle_164 fl_X10_42 mk18 rfl rfl ?_
    refine z_iload_n (i := 1) dX10_readsSingle_167 rfl rfl ?_
    refine z_aload_n (i := 0) dX10_readsSingle_168 rfl rfl ?_
    refine z_iconst (v := (0 : Int32)) dX10_readsSingle_169 kc_0 ?_
    refine z_bipush (v := (11 : Int32)) dX10_readsSingle_170 kb_11 ?_
    obtain ⟨q41, hq42, h⟩ := bnd h
    refine z_fVi (sX10_number M (0 : Int32) (11 : Int32) hq42) dX10_readsSingle_172 ml_X10_177 cd_X10_number mk18 rfl rfl rfl rfl rfl rfl ?_
    obtain ⟨hc43, h⟩ := chk h
    refine z_iast (j := x1.toNatClampNeg) allR_nd dX10_readsSingle_175 (m19 _ (Nat.le_of_ble_eq_true rfl)) rfl hc43 rfl ?_
    refine z_goto (tgt := 240) dX10_readsSingle_176 rfl ?_
    cases h
    exact z_vret dX10_readsSingle_240 rfl (Nat.le_refl _) (Nat.le_refl _) ⟨rfl, rfl⟩
  have h := it_f h hc40
  by_cases hc44 : (M.1 (19, 7, 0) x1.toNatClampNeg) = (5 : Int32)
  · have h := it_t h hc44
    refine z_tin (tgt := 179) dX10_readsSingle_6 (by rw [hc44]; decide) (by rw [hc44]; decide) (off := 173) (by rw [hc44]; decide) rfl ?_
    refine z_aload_n (i := 0) dX10_readsSingle_179 rfl rfl ?_
    refine z_getR (r' := (19, 8, 0)) dX10_readsSingle_180 fl_X10_42 mk18 rfl rfl ?_
    refine z_iload_n (i := 1) dX10_readsSingle_183 rfl rfl ?_
    refine z_aload_n (i := 0) dX10_readsSingle_184 rfl rfl ?_
    refine z_iconst (v := (0 : Int32)) dX10_readsSingle_185 kc_0 ?_
    refine z_bipush (v := (90 : Int32)) dX10_readsSingle_186 kb_90 ?_
    obtain ⟨q45, hq46, h⟩ := bnd h
    refine z_fVi (sX10_number M (0 : Int32) (90 : Int32) hq46) dX10_readsSingle_188 ml_X10_177 cd_X10_number mk18 rfl rfl rfl rfl rfl rfl ?_
    obtain ⟨hc47, h⟩ := chk h
    refine z_iast (j := x1.toNatClampNeg) allR_nd dX10_readsSingle_191 (m19 _ (Nat.le_of_ble_eq_true rfl)) rfl hc47 rfl ?_
    refine z_goto (tgt := 240) dX10_readsSingle_192 rfl ?_
    cases h
    exact z_vret dX10_readsSingle_240 rfl (Nat.le_refl _) (Nat.le_refl _) ⟨rfl, rfl⟩
  have h := it_f h hc44
  by_cases hc48 : (M.1 (19, 7, 0) x1.toNatClampNeg) = (6 : Int32)
  · have h := it_t h hc48
    refine z_tin (tgt := 195) dX10_readsSingle_6 (by rw [hc48]; decide) (by rw [hc48]; decide) (off := 189) (by rw [hc48]; decide) rfl ?_
    refine z_aload_n (i := 0) dX10_readsSingle_195 rfl rfl ?_
    refine z_getR (r' := (19, 8, 0)) dX10_readsSingle_196 fl_X10_42 mk18 rfl rfl ?_
    refine z_iload_n (i := 1) dX10_readsSingle_199 rfl rfl ?_
    refine z_aload_n (i := 0) dX10_readsSingle_200 rfl rfl ?_
    refine z_iconst (v := (1 : Int32)) dX10_readsSingle_201 kc_1 ?_
    refine z_bipush (v := (20 : Int32)) dX10_readsSingle_202 kb_20 ?_
    obtain ⟨q49, hq50, h⟩ := bnd h
    refine z_fVi (sX10_number M (1 : Int32) (20 : Int32) hq50) dX10_readsSingle_204 ml_X10_177 cd_X10_number mk18 rfl rfl rfl rfl rfl rfl ?_
    obtain ⟨hc51, h⟩ := chk h
    refine z_iast (j := x1.toNatClampNeg) allR_nd dX10_readsSingle_207 (m19 _ (Nat.le_of_ble_eq_true rfl)) rfl hc51 rfl ?_
    refine z_goto (tgt := 240) dX10_readsSingle_208 rfl ?_
    cases h
    exact z_vret dX10_readsSingle_240 rfl (Nat.le_refl _) (Nat.le_refl _) ⟨rfl, rfl⟩
  have h := it_f h hc48
  by_cases hc52 : (M.1 (19, 7, 0) x1.toNatClampNeg) = (7 : Int32)
  · have h := it_t h hc52
    refine z_tin (tgt := 211) dX10_readsSingle_6 (by rw [hc52]; decide) (by rw [hc52]; decide) (off := 205) (by rw [hc52]; decide) rfl ?_
    refine z_aload_n (i := 0) dX10_readsSingle_211 rfl rfl ?_
    refine z_getR (r' := (19, 8, 0)) dX10_readsSingle_212 fl_X10_42 mk18 rfl rfl ?_
    refine z_iload_n (i := 1) dX10_readsSingle_215 rfl rfl ?_
    refine z_aload_n (i := 0) dX10_readsSingle_216 rfl rfl ?_
    refine z_iconst (v := (0 : Int32)) dX10_readsSingle_217 kc_0 ?_
    refine z_iconst (v := (2 : Int32)) dX10_readsSingle_218 kc_2 ?_
    obtain ⟨q53, hq54, h⟩ := bnd h
    refine z_fVi (sX10_number M (0 : Int32) (2 : Int32) hq54) dX10_readsSingle_219 ml_X10_177 cd_X10_number mk18 rfl rfl rfl rfl rfl rfl ?_
    obtain ⟨hc55, h⟩ := chk h
    refine z_iast (j := x1.toNatClampNeg) allR_nd dX10_readsSingle_222 (m19 _ (Nat.le_of_ble_eq_true rfl)) rfl hc55 rfl ?_
    refine z_goto (tgt := 240) dX10_readsSingle_223 rfl ?_
    cases h
    exact z_vret dX10_readsSingle_240 rfl (Nat.le_refl _) (Nat.le_refl _) ⟨rfl, rfl⟩
  have h := it_f h hc52
  refine z_tout (tgt := 226) dX10_readsSingle_6 (tswo (fun k h1 h2 h3 => ?_)) rfl ?_
  · have h4 : k = 0 ∨ k = 1 ∨ k = 2 ∨ k = 3 ∨ k = 4 ∨ k = 5 ∨ k = 6 ∨ k = 7 := by omega
    rcases h4 with rfl | rfl | rfl | rfl | rfl | rfl | rfl | rfl
    · exact hc2 (Int32.toInt_inj.mp (h3.trans (by decide)))
    · exact hc12 (Int32.toInt_inj.mp (h3.trans (by decide)))
    · exact hc22 (Int32.toInt_inj.mp (h3.trans (by decide)))
    · exact hc29 (Int32.toInt_inj.mp (h3.trans (by decide)))
    · exact hc40 (Int32.toInt_inj.mp (h3.trans (by decide)))
    · exact hc44 (Int32.toInt_inj.mp (h3.trans (by decide)))
    · exact hc48 (Int32.toInt_inj.mp (h3.trans (by decide)))
    · exact hc52 (Int32.toInt_inj.mp (h3.trans (by decide)))
  · refine z_aload_n (i := 0) dX10_readsSingle_226 rfl rfl ?_
    refine z_getR (r' := (19, 8, 0)) dX10_readsSingle_227 fl_X10_42 mk18 rfl rfl ?_
    refine z_iload_n (i := 1) dX10_readsSingle_230 rfl rfl ?_
    refine z_aload_n (i := 0) dX10_readsSingle_231 rfl rfl ?_
    refine z_iconst (v := (1 : Int32)) dX10_readsSingle_232 kc_1 ?_
    refine z_sipush (v := (300 : Int32)) dX10_readsSingle_233 ks_300 ?_
    obtain ⟨q56, hq57, h⟩ := bnd h
    refine z_fVi (sX10_number M (1 : Int32) (300 : Int32) hq57) dX10_readsSingle_236 ml_X10_177 cd_X10_number mk18 rfl rfl rfl rfl rfl rfl ?_
    obtain ⟨hc58, h⟩ := chk h
    refine z_iast (j := x1.toNatClampNeg) allR_nd dX10_readsSingle_239 (m19 _ (Nat.le_of_ble_eq_true rfl)) rfl hc58 rfl ?_
    cases h
    exact z_vret dX10_readsSingle_240 rfl (Nat.le_refl _) (Nat.le_refl _) ⟨rfl, rfl⟩
theorem dX10_readsCommand_0 : decode cX10_readsCommand 0 = .ok (.aload_n 0, 1) := by decide +kernel
theorem dX10_readsCommand_1 : decode cX10_readsCommand 1 = .ok (.invokevirtual 234, 3) := by decide +kernel
theorem dX10_readsCommand_4 : decode cX10_readsCommand 4 = .ok (.istore_n 2, 1) := by decide +kernel
theorem dX10_readsCommand_5 : decode cX10_readsCommand 5 = .ok (.aload_n 0, 1) := by decide +kernel
theorem dX10_readsCommand_6 : decode cX10_readsCommand 6 = .ok (.iload_n 2, 1) := by decide +kernel
theorem dX10_readsCommand_7 : decode cX10_readsCommand 7 = .ok (.iconst (-1), 1) := by decide +kernel
theorem dX10_readsCommand_8 : decode cX10_readsCommand 8 = .ok (.if_icmp .eq 7, 3) := by decide +kernel
theorem dX10_readsCommand_11 : decode cX10_readsCommand 11 = .ok (.iconst 1, 1) := by decide +kernel
theorem dX10_readsCommand_12 : decode cX10_readsCommand 12 = .ok (.goto 4, 3) := by decide +kernel
theorem dX10_readsCommand_15 : decode cX10_readsCommand 15 = .ok (.iconst 0, 1) := by decide +kernel
theorem dX10_readsCommand_16 : decode cX10_readsCommand 16 = .ok (.iconst 1, 1) := by decide +kernel
theorem dX10_readsCommand_17 : decode cX10_readsCommand 17 = .ok (.invokevirtual 161, 3) := by decide +kernel
theorem dX10_readsCommand_20 : decode cX10_readsCommand 20 = .ok (.ifCond .eq 25, 3) := by decide +kernel
theorem dX10_readsCommand_23 : decode cX10_readsCommand 23 = .ok (.aload_n 0, 1) := by decide +kernel
theorem dX10_readsCommand_24 : decode cX10_readsCommand 24 = .ok (.aload_n 0, 1) := by decide +kernel
theorem dX10_readsCommand_25 : decode cX10_readsCommand 25 = .ok (.getfield 224, 3) := by decide +kernel
theorem dX10_readsCommand_28 : decode cX10_readsCommand 28 = .ok (.bipush 30, 2) := by decide +kernel
theorem dX10_readsCommand_30 : decode cX10_readsCommand 30 = .ok (.if_icmp .ge 7, 3) := by decide +kernel
theorem dX10_readsCommand_33 : decode cX10_readsCommand 33 = .ok (.iconst 1, 1) := by decide +kernel
theorem dX10_readsCommand_34 : decode cX10_readsCommand 34 = .ok (.goto 4, 3) := by decide +kernel
theorem dX10_readsCommand_37 : decode cX10_readsCommand 37 = .ok (.iconst 0, 1) := by decide +kernel
theorem dX10_readsCommand_38 : decode cX10_readsCommand 38 = .ok (.iconst 4, 1) := by decide +kernel
theorem dX10_readsCommand_39 : decode cX10_readsCommand 39 = .ok (.invokevirtual 161, 3) := by decide +kernel
theorem dX10_readsCommand_42 : decode cX10_readsCommand 42 = .ok (.ifCond .ne 4, 3) := by decide +kernel
theorem dX10_readsCommand_45 : decode cX10_readsCommand 45 = .ok (.return_, 1) := by decide +kernel
theorem dX10_readsCommand_46 : decode cX10_readsCommand 46 = .ok (.aload_n 0, 1) := by decide +kernel
theorem dX10_readsCommand_47 : decode cX10_readsCommand 47 = .ok (.getfield 224, 3) := by decide +kernel
theorem dX10_readsCommand_50 : decode cX10_readsCommand 50 = .ok (.istore_n 3, 1) := by decide +kernel
theorem dX10_readsCommand_51 : decode cX10_readsCommand 51 = .ok (.aload_n 0, 1) := by decide +kernel
theorem dX10_readsCommand_52 : decode cX10_readsCommand 52 = .ok (.getfield 39, 3) := by decide +kernel
theorem dX10_readsCommand_55 : decode cX10_readsCommand 55 = .ok (.iload_n 3, 1) := by decide +kernel
theorem dX10_readsCommand_56 : decode cX10_readsCommand 56 = .ok (.iload_n 2, 1) := by decide +kernel
theorem dX10_readsCommand_57 : decode cX10_readsCommand 57 = .ok (.iastore, 1) := by decide +kernel
theorem dX10_readsCommand_58 : decode cX10_readsCommand 58 = .ok (.aload_n 0, 1) := by decide +kernel
theorem dX10_readsCommand_59 : decode cX10_readsCommand 59 = .ok (.dup, 1) := by decide +kernel
theorem dX10_readsCommand_60 : decode cX10_readsCommand 60 = .ok (.getfield 224, 3) := by decide +kernel
theorem dX10_readsCommand_63 : decode cX10_readsCommand 63 = .ok (.iconst 1, 1) := by decide +kernel
theorem dX10_readsCommand_64 : decode cX10_readsCommand 64 = .ok (.iadd, 1) := by decide +kernel
theorem dX10_readsCommand_65 : decode cX10_readsCommand 65 = .ok (.putfield 224, 3) := by decide +kernel
theorem dX10_readsCommand_68 : decode cX10_readsCommand 68 = .ok (.aload_n 0, 1) := by decide +kernel
theorem dX10_readsCommand_69 : decode cX10_readsCommand 69 = .ok (.invokevirtual 155, 3) := by decide +kernel
theorem dX10_readsCommand_72 : decode cX10_readsCommand 72 = .ok (.iload_n 2, 1) := by decide +kernel
theorem dX10_readsCommand_73 : decode cX10_readsCommand 73 = .ok (.bipush 9, 2) := by decide +kernel
theorem dX10_readsCommand_75 : decode cX10_readsCommand 75 = .ok (.if_icmp .ne 12, 3) := by decide +kernel
theorem dX10_readsCommand_78 : decode cX10_readsCommand 78 = .ok (.aload_n 0, 1) := by decide +kernel
theorem dX10_readsCommand_79 : decode cX10_readsCommand 79 = .ok (.iload_n 3, 1) := by decide +kernel
theorem dX10_readsCommand_80 : decode cX10_readsCommand 80 = .ok (.iload_n 1, 1) := by decide +kernel
theorem dX10_readsCommand_81 : decode cX10_readsCommand 81 = .ok (.invokevirtual 237, 3) := by decide +kernel
theorem dX10_readsCommand_84 : decode cX10_readsCommand 84 = .ok (.goto 8, 3) := by decide +kernel
theorem dX10_readsCommand_87 : decode cX10_readsCommand 87 = .ok (.aload_n 0, 1) := by decide +kernel
theorem dX10_readsCommand_88 : decode cX10_readsCommand 88 = .ok (.iload_n 3, 1) := by decide +kernel
theorem dX10_readsCommand_89 : decode cX10_readsCommand 89 = .ok (.invokevirtual 241, 3) := by decide +kernel
theorem dX10_readsCommand_92 : decode cX10_readsCommand 92 = .ok (.aload_n 0, 1) := by decide +kernel
theorem dX10_readsCommand_93 : decode cX10_readsCommand 93 = .ok (.bipush 59, 2) := by decide +kernel
theorem dX10_readsCommand_95 : decode cX10_readsCommand 95 = .ok (.invokevirtual 180, 3) := by decide +kernel
theorem dX10_readsCommand_98 : decode cX10_readsCommand 98 = .ok (.return_, 1) := by decide +kernel
def fX10_readsCommand (rc : Mm → Int32 → Option Mm) (M : Mm) (x1 : Int32) : Option Mm := (fX10_commandHere M).bind fun q1 => if q1 = (-1 : Int32) then ((fX10_must M (0 : Int32) (1 : Int32)).bind fun q4 => if q4.1 = 0 then some (q4.2) else if (30 : Int32) ≤ (q4.2.1 (18, 0, 0) 23) then ((fX10_must q4.2 (0 : Int32) (4 : Int32)).bind fun q8 => if q8.1 = 0 then some (q8.2) else if (q8.2.1 (18, 0, 0) 23) < 0 ∨ 30 ≤ (q8.2.1 (18, 0, 0) 23).toNatClampNeg then none else (fX10_reads (putI (putI q8.2 (19, 7, 0) (q8.2.1 (18, 0, 0) 23).toNatClampNeg q1) (18, 0, 0) 23 ((q8.2.1 (18, 0, 0) 23) + (1 : Int32)))).bind fun q12 => if q1 = (9 : Int32) then ((fX10_readsRepeat rc q12 (q8.2.1 (18, 0, 0) 23) x1).bind fun q19 => (fX10_takesSign q19 (59 : Int32)).bind fun q21 => some q21) else (fX10_readsSingle q12 (q8.2.1 (18, 0, 0) 23)).bind fun q15 => (fX10_takesSign q15 (59 : Int32)).bind fun q17 => some q17) else (fX10_must q4.2 (1 : Int32) (4 : Int32)).bind fun q23 => if q23.1 = 0 then some (q23.2) else if (q23.2.1 (18, 0, 0) 23) < 0 ∨ 30 ≤ (q23.2.1 (18, 0, 0) 23).toNatClampNeg then none else (fX10_reads (putI (putI q23.2 (19, 7, 0) (q23.2.1 (18, 0, 0) 23).toNatClampNeg q1) (18, 0, 0) 23 ((q23.2.1 (18, 0, 0) 23) + (1 : Int32)))).bind fun q27 => if q1 = (9 : Int32) then ((fX10_readsRepeat rc q27 (q23.2.1 (18, 0, 0) 23) x1).bind fun q34 => (fX10_takesSign q34 (59 : Int32)).bind fun q36 => some q36) else (fX10_readsSingle q27 (q23.2.1 (18, 0, 0) 23)).bind fun q30 => (fX10_takesSign q30 (59 : Int32)).bind fun q32 => some q32) else (fX10_must M (1 : Int32) (1 : Int32)).bind fun q38 => if q38.1 = 0 then some (q38.2) else if (30 : Int32) ≤ (q38.2.1 (18, 0, 0) 23) then ((fX10_must q38.2 (0 : Int32) (4 : Int32)).bind fun q42 => if q42.1 = 0 then some (q42.2) else if (q42.2.1 (18, 0, 0) 23) < 0 ∨ 30 ≤ (q42.2.1 (18, 0, 0) 23).toNatClampNeg then none else (fX10_reads (putI (putI q42.2 (19, 7, 0) (q42.2.1 (18, 0, 0) 23).toNatClampNeg q1) (18, 0, 0) 23 ((q42.2.1 (18, 0, 0) 23) + (1 : Int32)))).bind fun q46 => if q1 = (9 : Int32) then ((fX10_readsRepeat rc q46 (q42.2.1 (18, 0, 0) 23) x1).bind fun q53 => (fX10_takesSign q53 (59 : Int32)).bind fun q55 => some q55) else (fX10_readsSingle q46 (q42.2.1 (18, 0, 0) 23)).bind fun q49 => (fX10_takesSign q49 (59 : Int32)).bind fun q51 => some q51) else (fX10_must q38.2 (1 : Int32) (4 : Int32)).bind fun q57 => if q57.1 = 0 then some (q57.2) else if (q57.2.1 (18, 0, 0) 23) < 0 ∨ 30 ≤ (q57.2.1 (18, 0, 0) 23).toNatClampNeg then none else (fX10_reads (putI (putI q57.2 (19, 7, 0) (q57.2.1 (18, 0, 0) 23).toNatClampNeg q1) (18, 0, 0) 23 ((q57.2.1 (18, 0, 0) 23) + (1 : Int32)))).bind fun q61 => if q1 = (9 : Int32) then ((fX10_readsRepeat rc q61 (q57.2.1 (18, 0, 0) 23) x1).bind fun q68 => (fX10_takesSign q68 (59 : Int32)).bind fun q70 => some q70) else (fX10_readsSingle q61 (q57.2.1 (18, 0, 0) 23)).bind fun q64 => (fX10_takesSign q64 (59 : Int32)).bind fun q66 => some q66
set_option maxRecDepth 20000 in
set_option maxHeartbeats 2000000 in
theorem sX10_readsCommand {wv : Nat} (rc : Mm → Int32 → Option Mm) (dd : Nat) (hrc : ∀ (M : Mm) (x1 : Int32) (res : Mm), rc M x1 = some res → TF (wv + 1) yX10_readsCommands cX10_readsCommands 2 none dd [.inr (18, 0, 0), .inl (.int x1)] M (none) res) (M : Mm) (x1 : Int32) {res : Mm} (h : fX10_readsCommand rc M x1 = some res) : TF (wv + 1) yX10_readsCommand cX10_readsCommand 4 none (dd + 10) [.inr (18, 0, 0), .inl (.int x1)] M (none) res := by
  rw [fX10_readsCommand] at h
  refine TF.go (n := 2) (ls := [some (.inr (18, 0, 0)), some (.inl (.int x1)), none, none]) rfl rfl rfl rfl rfl ?_
  refine z_aload_n (i := 0) dX10_readsCommand_0 rfl rfl ?_
  obtain ⟨q1, hq2, h⟩ := bnd h
  refine z_fVi (sX10_commandHere M hq2) dX10_readsCommand_1 ml_X10_234 cd_X10_commandHere mk18 rfl rfl rfl (rmk_d (by omega) (by decide)) rfl rfl ?_
  refine z_istore_n (i := 2) dX10_readsCommand_4 rfl (Nat.le_of_ble_eq_true rfl) rfl ?_
  refine z_aload_n (i := 0) dX10_readsCommand_5 rfl rfl ?_
  refine z_iload_n (i := 2) dX10_readsCommand_6 rfl rfl ?_
  refine z_iconst (v := (-1 : Int32)) dX10_readsCommand_7 kc_m1 ?_
  refine z_icmp_eq (tgt := 15) dX10_readsCommand_8 rfl (fun hc3 => ?_) (fun hc3 => ?_)
  · have h := it_t h hc3
    refine z_iconst (v := (0 : Int32)) dX10_readsCommand_15 kc_0 ?_
    refine z_iconst (v := (1 : Int32)) dX10_readsCommand_16 kc_1 ?_
    obtain ⟨q4, hq5, h⟩ := bnd h
    refine z_fVi (sX10_must M (0 : Int32) (1 : Int32) hq5) dX10_readsCommand_17 ml_X10_161 cd_X10_must mk18 rfl rfl rfl (rmk_d (by omega) (by decide)) rfl rfl ?_
    refine z_if_eq (tgt := 45) dX10_readsCommand_20 rfl (fun hc6 => ?_) (fun hc6 => ?_)
    · have h := it_t h hc6
      cases h
      exact z_vret dX10_readsCommand_45 rfl (Nat.le_refl _) (Nat.le_refl _) ⟨rfl, rfl⟩
    · have h := it_f h hc6
      refine z_aload_n (i := 0) dX10_readsCommand_23 rfl rfl ?_
      refine z_aload_n (i := 0) dX10_readsCommand_24 rfl rfl ?_
      refine z_getI (x := (q4.2.1 (18, 0, 0) 23)) dX10_readsCommand_25 fl_X10_224 mk18 rfl rfl ?_
      refine z_bipush (v := (30 : Int32)) dX10_readsCommand_28 kb_30 ?_
      refine z_icmp_ge (tgt := 37) dX10_readsCommand_30 rfl (fun hc7 => ?_) (fun hc7 => ?_)
      · have h := it_t h hc7
        refine z_iconst (v := (0 : Int32)) dX10_readsCommand_37 kc_0 ?_
        refine z_iconst (v := (4 : Int32)) dX10_readsCommand_38 kc_4 ?_
        obtain ⟨q8, hq9, h⟩ := bnd h
        refine z_fVi (sX10_must q4.2 (0 : Int32) (4 : Int32) hq9) dX10_readsCommand_39 ml_X10_161 cd_X10_must mk18 rfl rfl rfl (rmk_d (by omega) (by decide)) rfl rfl ?_
        refine z_if_ne (tgt := 46) dX10_readsCommand_42 rfl (fun hc10 => ?_) (fun hc10 => ?_)
        · have h := it_f h hc10
          refine z_aload_n (i := 0) dX10_readsCommand_46 rfl rfl ?_
          refine z_getI (x := (q8.2.1 (18, 0, 0) 23)) dX10_readsCommand_47 fl_X10_224 mk18 rfl rfl ?_
          refine z_istore_n (i := 3) dX10_readsCommand_50 rfl (Nat.le_of_ble_eq_true rfl) rfl ?_
          refine z_aload_n (i := 0) dX10_readsCommand_51 rfl rfl ?_
          refine z_getR (r' := (19, 7, 0)) dX10_readsCommand_52 fl_X10_39 mk18 rfl rfl ?_
          refine z_iload_n (i := 3) dX10_readsCommand_55 rfl rfl ?_
          refine z_iload_n (i := 2) dX10_readsCommand_56 rfl rfl ?_
          obtain ⟨hc11, h⟩ := chk h
          refine z_iast (j := (q8.2.1 (18, 0, 0) 23).toNatClampNeg) allR_nd dX10_readsCommand_57 (m19 _ (Nat.le_of_ble_eq_true rfl)) rfl hc11 rfl ?_
          refine z_aload_n (i := 0) dX10_readsCommand_58 rfl rfl ?_
          refine z_dup dX10_readsCommand_59 rfl ?_
          refine z_getI (x := (q8.2.1 (18, 0, 0) 23)) dX10_readsCommand_60 fl_X10_224 mk18 rfl rfl ?_
          refine z_iconst (v := (1 : Int32)) dX10_readsCommand_63 kc_1 ?_
          refine z_iadd dX10_readsCommand_64 ?_
          refine z_putI allR_nd dX10_readsCommand_65 fl_X10_224 mk18 rfl rfl ?_
          refine z_aload_n (i := 0) dX10_readsCommand_68 rfl rfl ?_
          obtain ⟨q12, hq13, h⟩ := bnd h
          refine z_fVv (sX10_reads (putI (putI q8.2 (19, 7, 0) (q8.2.1 (18, 0, 0) 23).toNatClampNeg q1) (18, 0, 0) 23 ((q8.2.1 (18, 0, 0) 23) + (1 : Int32))) hq13) dX10_readsCommand_69 ml_X10_155 cd_X10_reads mk18 rfl rfl rfl (rmk_d (by omega) (by decide)) rfl rfl ?_
          refine z_iload_n (i := 2) dX10_readsCommand_72 rfl rfl ?_
          refine z_bipush (v := (9 : Int32)) dX10_readsCommand_73 kb_9 ?_
          refine z_icmp_ne (tgt := 87) dX10_readsCommand_75 rfl (fun hc14 => ?_) (fun hc14 => ?_)
          · have h := it_f h hc14
            refine z_aload_n (i := 0) dX10_readsCommand_87 rfl rfl ?_
            refine z_iload_n (i := 3) dX10_readsCommand_88 rfl rfl ?_
            obtain ⟨q15, hq16, h⟩ := bnd h
            refine z_fVv (sX10_readsSingle q12 (q8.2.1 (18, 0, 0) 23) hq16) dX10_readsCommand_89 ml_X10_241 cd_X10_readsSingle mk18 rfl rfl rfl (rmk_d (by omega) (by decide)) rfl rfl ?_
            refine z_aload_n (i := 0) dX10_readsCommand_92 rfl rfl ?_
            refine z_bipush (v := (59 : Int32)) dX10_readsCommand_93 kb_59 ?_
            obtain ⟨q17, hq18, h⟩ := bnd h
            refine z_fVv (sX10_takesSign q15 (59 : Int32) hq18) dX10_readsCommand_95 ml_X10_180 cd_X10_takesSign mk18 rfl rfl rfl (rmk_d (by omega) (by decide)) rfl rfl ?_
            cases h
            exact z_vret dX10_readsCommand_98 rfl (Nat.le_refl _) (Nat.le_refl _) ⟨rfl, rfl⟩
          · have h := it_t h hc14
            refine z_aload_n (i := 0) dX10_readsCommand_78 rfl rfl ?_
            refine z_iload_n (i := 3) dX10_readsCommand_79 rfl rfl ?_
            refine z_iload_n (i := 1) dX10_readsCommand_80 rfl rfl ?_
            obtain ⟨q19, hq20, h⟩ := bnd h
            refine z_fVv (sX10_readsRepeat rc dd hrc q12 (q8.2.1 (18, 0, 0) 23) x1 hq20) dX10_readsCommand_81 ml_X10_237 cd_X10_readsRepeat mk18 rfl rfl rfl (rmk_d (by omega) (by decide)) rfl rfl ?_
            refine z_goto (tgt := 92) dX10_readsCommand_84 rfl ?_
            refine z_aload_n (i := 0) dX10_readsCommand_92 rfl rfl ?_
            refine z_bipush (v := (59 : Int32)) dX10_readsCommand_93 kb_59 ?_
            obtain ⟨q21, hq22, h⟩ := bnd h
            refine z_fVv (sX10_takesSign q19 (59 : Int32) hq22) dX10_readsCommand_95 ml_X10_180 cd_X10_takesSign mk18 rfl rfl rfl (rmk_d (by omega) (by decide)) rfl rfl ?_
            cases h
            exact z_vret dX10_readsCommand_98 rfl (Nat.le_refl _) (Nat.le_refl _) ⟨rfl, rfl⟩
        · have h := it_t h hc10
          cases h
          exact z_vret dX10_readsCommand_45 rfl (Nat.le_refl _) (Nat.le_refl _) ⟨rfl, rfl⟩
      · have h := it_f h hc7
        refine z_iconst (v := (1 : Int32)) dX10_readsCommand_33 kc_1 ?_
        refine z_goto (tgt := 38) dX10_readsCommand_34 rfl ?_
        refine z_iconst (v := (4 : Int32)) dX10_readsCommand_38 kc_4 ?_
        obtain ⟨q23, hq24, h⟩ := bnd h
        refine z_fVi (sX10_must q4.2 (1 : Int32) (4 : Int32) hq24) dX10_readsCommand_39 ml_X10_161 cd_X10_must mk18 rfl rfl rfl (rmk_d (by omega) (by decide)) rfl rfl ?_
        refine z_if_ne (tgt := 46) dX10_readsCommand_42 rfl (fun hc25 => ?_) (fun hc25 => ?_)
        · have h := it_f h hc25
          refine z_aload_n (i := 0) dX10_readsCommand_46 rfl rfl ?_
          refine z_getI (x := (q23.2.1 (18, 0, 0) 23)) dX10_readsCommand_47 fl_X10_224 mk18 rfl rfl ?_
          refine z_istore_n (i := 3) dX10_readsCommand_50 rfl (Nat.le_of_ble_eq_true rfl) rfl ?_
          refine z_aload_n (i := 0) dX10_readsCommand_51 rfl rfl ?_
          refine z_getR (r' := (19, 7, 0)) dX10_readsCommand_52 fl_X10_39 mk18 rfl rfl ?_
          refine z_iload_n (i := 3) dX10_readsCommand_55 rfl rfl ?_
          refine z_iload_n (i := 2) dX10_readsCommand_56 rfl rfl ?_
          obtain ⟨hc26, h⟩ := chk h
          refine z_iast (j := (q23.2.1 (18, 0, 0) 23).toNatClampNeg) allR_nd dX10_readsCommand_57 (m19 _ (Nat.le_of_ble_eq_true rfl)) rfl hc26 rfl ?_
          refine z_aload_n (i := 0) dX10_readsCommand_58 rfl rfl ?_
          refine z_dup dX10_readsCommand_59 rfl ?_
          refine z_getI (x := (q23.2.1 (18, 0, 0) 23)) dX10_readsCommand_60 fl_X10_224 mk18 rfl rfl ?_
          refine z_iconst (v := (1 : Int32)) dX10_readsCommand_63 kc_1 ?_
          refine z_iadd dX10_readsCommand_64 ?_
          refine z_putI allR_nd dX10_readsCommand_65 fl_X10_224 mk18 rfl rfl ?_
          refine z_aload_n (i := 0) dX10_readsCommand_68 rfl rfl ?_
          obtain ⟨q27, hq28, h⟩ := bnd h
          refine z_fVv (sX10_reads (putI (putI q23.2 (19, 7, 0) (q23.2.1 (18, 0, 0) 23).toNatClampNeg q1) (18, 0, 0) 23 ((q23.2.1 (18, 0, 0) 23) + (1 : Int32))) hq28) dX10_readsCommand_69 ml_X10_155 cd_X10_reads mk18 rfl rfl rfl (rmk_d (by omega) (by decide)) rfl rfl ?_
          refine z_iload_n (i := 2) dX10_readsCommand_72 rfl rfl ?_
          refine z_bipush (v := (9 : Int32)) dX10_readsCommand_73 kb_9 ?_
          refine z_icmp_ne (tgt := 87) dX10_readsCommand_75 rfl (fun hc29 => ?_) (fun hc29 => ?_)
          · have h := it_f h hc29
            refine z_aload_n (i := 0) dX10_readsCommand_87 rfl rfl ?_
            refine z_iload_n (i := 3) dX10_readsCommand_88 rfl rfl ?_
            obtain ⟨q30, hq31, h⟩ := bnd h
            refine z_fVv (sX10_readsSingle q27 (q23.2.1 (18, 0, 0) 23) hq31) dX10_readsCommand_89 ml_X10_241 cd_X10_readsSingle mk18 rfl rfl rfl (rmk_d (by omega) (by decide)) rfl rfl ?_
            refine z_aload_n (i := 0) dX10_readsCommand_92 rfl rfl ?_
            refine z_bipush (v := (59 : Int32)) dX10_readsCommand_93 kb_59 ?_
            obtain ⟨q32, hq33, h⟩ := bnd h
            refine z_fVv (sX10_takesSign q30 (59 : Int32) hq33) dX10_readsCommand_95 ml_X10_180 cd_X10_takesSign mk18 rfl rfl rfl (rmk_d (by omega) (by decide)) rfl rfl ?_
            cases h
            exact z_vret dX10_readsCommand_98 rfl (Nat.le_refl _) (Nat.le_refl _) ⟨rfl, rfl⟩
          · have h := it_t h hc29
            refine z_aload_n (i := 0) dX10_readsCommand_78 rfl rfl ?_
            refine z_iload_n (i := 3) dX10_readsCommand_79 rfl rfl ?_
            refine z_iload_n (i := 1) dX10_readsCommand_80 rfl rfl ?_
            obtain ⟨q34, hq35, h⟩ := bnd h
            refine z_fVv (sX10_readsRepeat rc dd hrc q27 (q23.2.1 (18, 0, 0) 23) x1 hq35) dX10_readsCommand_81 ml_X10_237 cd_X10_readsRepeat mk18 rfl rfl rfl (rmk_d (by omega) (by decide)) rfl rfl ?_
            refine z_goto (tgt := 92) dX10_readsCommand_84 rfl ?_
            refine z_aload_n (i := 0) dX10_readsCommand_92 rfl rfl ?_
            refine z_bipush (v := (59 : Int32)) dX10_readsCommand_93 kb_59 ?_
            obtain ⟨q36, hq37, h⟩ := bnd h
            refine z_fVv (sX10_takesSign q34 (59 : Int32) hq37) dX10_readsCommand_95 ml_X10_180 cd_X10_takesSign mk18 rfl rfl rfl (rmk_d (by omega) (by decide)) rfl rfl ?_
            cases h
            exact z_vret dX10_readsCommand_98 rfl (Nat.le_refl _) (Nat.le_refl _) ⟨rfl, rfl⟩
        · have h := it_t h hc25
          cases h
          exact z_vret dX10_readsCommand_45 rfl (Nat.le_refl _) (Nat.le_refl _) ⟨rfl, rfl⟩
  · have h := it_f h hc3
    refine z_iconst (v := (1 : Int32)) dX10_readsCommand_11 kc_1 ?_
    refine z_goto (tgt := 16) dX10_readsCommand_12 rfl ?_
    refine z_iconst (v := (1 : Int32)) dX10_readsCommand_16 kc_1 ?_
    obtain ⟨q38, hq39, h⟩ := bnd h
    refine z_fVi (sX10_must M (1 : Int32) (1 : Int32) hq39) dX10_readsCommand_17 ml_X10_161 cd_X10_must mk18 rfl rfl rfl (rmk_d (by omega) (by decide)) rfl rfl ?_
    refine z_if_eq (tgt := 45) dX10_readsCommand_20 rfl (fun hc40 => ?_) (fun hc40 => ?_)
    · have h := it_t h hc40
      cases h
      exact z_vret dX10_readsCommand_45 rfl (Nat.le_refl _) (Nat.le_refl _) ⟨rfl, rfl⟩
    · have h := it_f h hc40
      refine z_aload_n (i := 0) dX10_readsCommand_23 rfl rfl ?_
      refine z_aload_n (i := 0) dX10_readsCommand_24 rfl rfl ?_
      refine z_getI (x := (q38.2.1 (18, 0, 0) 23)) dX10_readsCommand_25 fl_X10_224 mk18 rfl rfl ?_
      refine z_bipush (v := (30 : Int32)) dX10_readsCommand_28 kb_30 ?_
      refine z_icmp_ge (tgt := 37) dX10_readsCommand_30 rfl (fun hc41 => ?_) (fun hc41 => ?_)
      · have h := it_t h hc41
        refine z_iconst (v := (0 : Int32)) dX10_readsCommand_37 kc_0 ?_
        refine z_iconst (v := (4 : Int32)) dX10_readsCommand_38 kc_4 ?_
        obtain ⟨q42, hq43, h⟩ := bnd h
        refine z_fVi (sX10_must q38.2 (0 : Int32) (4 : Int32) hq43) dX10_readsCommand_39 ml_X10_161 cd_X10_must mk18 rfl rfl rfl (rmk_d (by omega) (by decide)) rfl rfl ?_
        refine z_if_ne (tgt := 46) dX10_readsCommand_42 rfl (fun hc44 => ?_) (fun hc44 => ?_)
        · have h := it_f h hc44
          refine z_aload_n (i := 0) dX10_readsCommand_46 rfl rfl ?_
          refine z_getI (x := (q42.2.1 (18, 0, 0) 23)) dX10_readsCommand_47 fl_X10_224 mk18 rfl rfl ?_
          refine z_istore_n (i := 3) dX10_readsCommand_50 rfl (Nat.le_of_ble_eq_true rfl) rfl ?_
          refine z_aload_n (i := 0) dX10_readsCommand_51 rfl rfl ?_
          refine z_getR (r' := (19, 7, 0)) dX10_readsCommand_52 fl_X10_39 mk18 rfl rfl ?_
          refine z_iload_n (i := 3) dX10_readsCommand_55 rfl rfl ?_
          refine z_iload_n (i := 2) dX10_readsCommand_56 rfl rfl ?_
          obtain ⟨hc45, h⟩ := chk h
          refine z_iast (j := (q42.2.1 (18, 0, 0) 23).toNatClampNeg) allR_nd dX10_readsCommand_57 (m19 _ (Nat.le_of_ble_eq_true rfl)) rfl hc45 rfl ?_
          refine z_aload_n (i := 0) dX10_readsCommand_58 rfl rfl ?_
          refine z_dup dX10_readsCommand_59 rfl ?_
          refine z_getI (x := (q42.2.1 (18, 0, 0) 23)) dX10_readsCommand_60 fl_X10_224 mk18 rfl rfl ?_
          refine z_iconst (v := (1 : Int32)) dX10_readsCommand_63 kc_1 ?_
          refine z_iadd dX10_readsCommand_64 ?_
          refine z_putI allR_nd dX10_readsCommand_65 fl_X10_224 mk18 rfl rfl ?_
          refine z_aload_n (i := 0) dX10_readsCommand_68 rfl rfl ?_
          obtain ⟨q46, hq47, h⟩ := bnd h
          refine z_fVv (sX10_reads (putI (putI q42.2 (19, 7, 0) (q42.2.1 (18, 0, 0) 23).toNatClampNeg q1) (18, 0, 0) 23 ((q42.2.1 (18, 0, 0) 23) + (1 : Int32))) hq47) dX10_readsCommand_69 ml_X10_155 cd_X10_reads mk18 rfl rfl rfl (rmk_d (by omega) (by decide)) rfl rfl ?_
          refine z_iload_n (i := 2) dX10_readsCommand_72 rfl rfl ?_
          refine z_bipush (v := (9 : Int32)) dX10_readsCommand_73 kb_9 ?_
          refine z_icmp_ne (tgt := 87) dX10_readsCommand_75 rfl (fun hc48 => ?_) (fun hc48 => ?_)
          · have h := it_f h hc48
            refine z_aload_n (i := 0) dX10_readsCommand_87 rfl rfl ?_
            refine z_iload_n (i := 3) dX10_readsCommand_88 rfl rfl ?_
            obtain ⟨q49, hq50, h⟩ := bnd h
            refine z_fVv (sX10_readsSingle q46 (q42.2.1 (18, 0, 0) 23) hq50) dX10_readsCommand_89 ml_X10_241 cd_X10_readsSingle mk18 rfl rfl rfl (rmk_d (by omega) (by decide)) rfl rfl ?_
            refine z_aload_n (i := 0) dX10_readsCommand_92 rfl rfl ?_
            refine z_bipush (v := (59 : Int32)) dX10_readsCommand_93 kb_59 ?_
            obtain ⟨q51, hq52, h⟩ := bnd h
            refine z_fVv (sX10_takesSign q49 (59 : Int32) hq52) dX10_readsCommand_95 ml_X10_180 cd_X10_takesSign mk18 rfl rfl rfl (rmk_d (by omega) (by decide)) rfl rfl ?_
            cases h
            exact z_vret dX10_readsCommand_98 rfl (Nat.le_refl _) (Nat.le_refl _) ⟨rfl, rfl⟩
          · have h := it_t h hc48
            refine z_aload_n (i := 0) dX10_readsCommand_78 rfl rfl ?_
            refine z_iload_n (i := 3) dX10_readsCommand_79 rfl rfl ?_
            refine z_iload_n (i := 1) dX10_readsCommand_80 rfl rfl ?_
            obtain ⟨q53, hq54, h⟩ := bnd h
            refine z_fVv (sX10_readsRepeat rc dd hrc q46 (q42.2.1 (18, 0, 0) 23) x1 hq54) dX10_readsCommand_81 ml_X10_237 cd_X10_readsRepeat mk18 rfl rfl rfl (rmk_d (by omega) (by decide)) rfl rfl ?_
            refine z_goto (tgt := 92) dX10_readsCommand_84 rfl ?_
            refine z_aload_n (i := 0) dX10_readsCommand_92 rfl rfl ?_
            refine z_bipush (v := (59 : Int32)) dX10_readsCommand_93 kb_59 ?_
            obtain ⟨q55, hq56, h⟩ := bnd h
            refine z_fVv (sX10_takesSign q53 (59 : Int32) hq56) dX10_readsCommand_95 ml_X10_180 cd_X10_takesSign mk18 rfl rfl rfl (rmk_d (by omega) (by decide)) rfl rfl ?_
            cases h
            exact z_vret dX10_readsCommand_98 rfl (Nat.le_refl _) (Nat.le_refl _) ⟨rfl, rfl⟩
        · have h := it_t h hc44
          cases h
          exact z_vret dX10_readsCommand_45 rfl (Nat.le_refl _) (Nat.le_refl _) ⟨rfl, rfl⟩
      · have h := it_f h hc41
        refine z_iconst (v := (1 : Int32)) dX10_readsCommand_33 kc_1 ?_
        refine z_goto (tgt := 38) dX10_readsCommand_34 rfl ?_
        refine z_iconst (v := (4 : Int32)) dX10_readsCommand_38 kc_4 ?_
        obtain ⟨q57, hq58, h⟩ := bnd h
        refine z_fVi (sX10_must q38.2 (1 : Int32) (4 : Int32) hq58) dX10_readsCommand_39 ml_X10_161 cd_X10_must mk18 rfl rfl rfl (rmk_d (by omega) (by decide)) rfl rfl ?_
        refine z_if_ne (tgt := 46) dX10_readsCommand_42 rfl (fun hc59 => ?_) (fun hc59 => ?_)
        · have h := it_f h hc59
          refine z_aload_n (i := 0) dX10_readsCommand_46 rfl rfl ?_
          refine z_getI (x := (q57.2.1 (18, 0, 0) 23)) dX10_readsCommand_47 fl_X10_224 mk18 rfl rfl ?_
          refine z_istore_n (i := 3) dX10_readsCommand_50 rfl (Nat.le_of_ble_eq_true rfl) rfl ?_
          refine z_aload_n (i := 0) dX10_readsCommand_51 rfl rfl ?_
          refine z_getR (r' := (19, 7, 0)) dX10_readsCommand_52 fl_X10_39 mk18 rfl rfl ?_
          refine z_iload_n (i := 3) dX10_readsCommand_55 rfl rfl ?_
          refine z_iload_n (i := 2) dX10_readsCommand_56 rfl rfl ?_
          obtain ⟨hc60, h⟩ := chk h
          refine z_iast (j := (q57.2.1 (18, 0, 0) 23).toNatClampNeg) allR_nd dX10_readsCommand_57 (m19 _ (Nat.le_of_ble_eq_true rfl)) rfl hc60 rfl ?_
          refine z_aload_n (i := 0) dX10_readsCommand_58 rfl rfl ?_
          refine z_dup dX10_readsCommand_59 rfl ?_
          refine z_getI (x := (q57.2.1 (18, 0, 0) 23)) dX10_readsCommand_60 fl_X10_224 mk18 rfl rfl ?_
          refine z_iconst (v := (1 : Int32)) dX10_readsCommand_63 kc_1 ?_
          refine z_iadd dX10_readsCommand_64 ?_
          refine z_putI allR_nd dX10_readsCommand_65 fl_X10_224 mk18 rfl rfl ?_
          refine z_aload_n (i := 0) dX10_readsCommand_68 rfl rfl ?_
          obtain ⟨q61, hq62, h⟩ := bnd h
          refine z_fVv (sX10_reads (putI (putI q57.2 (19, 7, 0) (q57.2.1 (18, 0, 0) 23).toNatClampNeg q1) (18, 0, 0) 23 ((q57.2.1 (18, 0, 0) 23) + (1 : Int32))) hq62) dX10_readsCommand_69 ml_X10_155 cd_X10_reads mk18 rfl rfl rfl (rmk_d (by omega) (by decide)) rfl rfl ?_
          refine z_iload_n (i := 2) dX10_readsCommand_72 rfl rfl ?_
          refine z_bipush (v := (9 : Int32)) dX10_readsCommand_73 kb_9 ?_
          refine z_icmp_ne (tgt := 87) dX10_readsCommand_75 rfl (fun hc63 => ?_) (fun hc63 => ?_)
          · have h := it_f h hc63
            refine z_aload_n (i := 0) dX10_readsCommand_87 rfl rfl ?_
            refine z_iload_n (i := 3) dX10_readsCommand_88 rfl rfl ?_
            obtain ⟨q64, hq65, h⟩ := bnd h
            refine z_fVv (sX10_readsSingle q61 (q57.2.1 (18, 0, 0) 23) hq65) dX10_readsCommand_89 ml_X10_241 cd_X10_readsSingle mk18 rfl rfl rfl (rmk_d (by omega) (by decide)) rfl rfl ?_
            refine z_aload_n (i := 0) dX10_readsCommand_92 rfl rfl ?_
            refine z_bipush (v := (59 : Int32)) dX10_readsCommand_93 kb_59 ?_
            obtain ⟨q66, hq67, h⟩ := bnd h
            refine z_fVv (sX10_takesSign q64 (59 : Int32) hq67) dX10_readsCommand_95 ml_X10_180 cd_X10_takesSign mk18 rfl rfl rfl (rmk_d (by omega) (by decide)) rfl rfl ?_
            cases h
            exact z_vret dX10_readsCommand_98 rfl (Nat.le_refl _) (Nat.le_refl _) ⟨rfl, rfl⟩
          · have h := it_t h hc63
            refine z_aload_n (i := 0) dX10_readsCommand_78 rfl rfl ?_
            refine z_iload_n (i := 3) dX10_readsCommand_79 rfl rfl ?_
            refine z_iload_n (i := 1) dX10_readsCommand_80 rfl rfl ?_
            obtain ⟨q68, hq69, h⟩ := bnd h
            refine z_fVv (sX10_readsRepeat rc dd hrc q61 (q57.2.1 (18, 0, 0) 23) x1 hq69) dX10_readsCommand_81 ml_X10_237 cd_X10_readsRepeat mk18 rfl rfl rfl (rmk_d (by omega) (by decide)) rfl rfl ?_
            refine z_goto (tgt := 92) dX10_readsCommand_84 rfl ?_
            refine z_aload_n (i := 0) dX10_readsCommand_92 rfl rfl ?_
            refine z_bipush (v := (59 : Int32)) dX10_readsCommand_93 kb_59 ?_
            obtain ⟨q70, hq71, h⟩ := bnd h
            refine z_fVv (sX10_takesSign q68 (59 : Int32) hq71) dX10_readsCommand_95 ml_X10_180 cd_X10_takesSign mk18 rfl rfl rfl (rmk_d (by omega) (by decide)) rfl rfl ?_
            cases h
            exact z_vret dX10_readsCommand_98 rfl (Nat.le_refl _) (Nat.le_refl _) ⟨rfl, rfl⟩
        · have h := it_t h hc59
          cases h
          exact z_vret dX10_readsCommand_45 rfl (Nat.le_refl _) (Nat.le_refl _) ⟨rfl, rfl⟩
theorem dX10_readsCommands_0 : decode cX10_readsCommands 0 = .ok (.aload_n 0, 1) := by decide +kernel
theorem dX10_readsCommands_1 : decode cX10_readsCommands 1 = .ok (.getfield 149, 3) := by decide +kernel
theorem dX10_readsCommands_4 : decode cX10_readsCommands 4 = .ok (.ifCond .ne 27, 3) := by decide +kernel
theorem dX10_readsCommands_7 : decode cX10_readsCommands 7 = .ok (.aload_n 0, 1) := by decide +kernel
theorem dX10_readsCommands_8 : decode cX10_readsCommands 8 = .ok (.getfield 143, 3) := by decide +kernel
theorem dX10_readsCommands_11 : decode cX10_readsCommands 11 = .ok (.ifCond .eq 20, 3) := by decide +kernel
theorem dX10_readsCommands_14 : decode cX10_readsCommands 14 = .ok (.aload_n 0, 1) := by decide +kernel
theorem dX10_readsCommands_15 : decode cX10_readsCommands 15 = .ok (.bipush 41, 2) := by decide +kernel
theorem dX10_readsCommands_17 : decode cX10_readsCommands 17 = .ok (.invokevirtual 158, 3) := by decide +kernel
theorem dX10_readsCommands_20 : decode cX10_readsCommands 20 = .ok (.ifCond .ne 11, 3) := by decide +kernel
theorem dX10_readsCommands_23 : decode cX10_readsCommands 23 = .ok (.aload_n 0, 1) := by decide +kernel
theorem dX10_readsCommands_24 : decode cX10_readsCommands 24 = .ok (.iload_n 1, 1) := by decide +kernel
theorem dX10_readsCommands_25 : decode cX10_readsCommands 25 = .ok (.invokevirtual 244, 3) := by decide +kernel
theorem dX10_readsCommands_28 : decode cX10_readsCommands 28 = .ok (.goto (-28), 3) := by decide +kernel
theorem dX10_readsCommands_31 : decode cX10_readsCommands 31 = .ok (.return_, 1) := by decide +kernel
def fX10_readsCommands_L0 (rc : Mm → Int32 → Option Mm) (c1 : Int32) (K : Mm → Option Mm) : Nat → Mm → Option Mm
  | 0, _ => none
  | n + 1, M => if (M.1 (18, 0, 0) 17) = 0 then (if (M.1 (18, 0, 0) 15) = 0 then K M else (fX10_isSign M (41 : Int32)).bind fun q3 => if q3 = 0 then ((fX10_readsCommand rc M c1).bind fun q6 => fX10_readsCommands_L0 rc c1 K n q6) else K M) else K M
def fX10_readsCommands (rc : Mm → Int32 → Option Mm) (M : Mm) (x1 : Int32) : Option Mm := fX10_readsCommands_L0 rc x1 (fun M8 => some M8) NF M
def gX10_readsCommands : Nat → Mm → Int32 → Option Mm
  | 0, _, _ => none
  | n + 1, M, x1 => fX10_readsCommands (gX10_readsCommands n) M x1
set_option maxRecDepth 20000 in
set_option maxHeartbeats 2000000 in
theorem sX10_readsCommands_L0 {wv : Nat} (rc : Mm → Int32 → Option Mm) (c1 : Int32) (dd : Nat) (hrc : ∀ (M : Mm) (x1 : Int32) (res : Mm), rc M x1 = some res → TF (wv + 1) yX10_readsCommands cX10_readsCommands 2 none dd [.inr (18, 0, 0), .inl (.int x1)] M (none) res) {res : Mm} {K : Mm → Option Mm} : ∀ (n : Nat) (M : Mm), fX10_readsCommands_L0 rc c1 K n M = some res →
    (∀ (M : Mm), K M = some res → Z RX10 cX10_readsCommands 2 none [] "readsCommands" (rmD (dd + 11) 0 0) (QM SH (allR (wv + 1)) 0 0 (fun v M9 => v = none ∧ M9 = res) (fun _ _ => False)) (allR (wv + 1)) SH 0 0 31 [some (.inr (18, 0, 0)), some (.inl (.int c1))] [] M) → Z RX10 cX10_readsCommands 2 none [] "readsCommands" (rmD (dd + 11) 0 0) (QM SH (allR (wv + 1)) 0 0 (fun v M9 => v = none ∧ M9 = res) (fun _ _ => False)) (allR (wv + 1)) SH 0 0 0 [some (.inr (18, 0, 0)), some (.inl (.int c1))] [] M := by
  intro n
  induction n with
  | zero => intro M h; cases h
  | succ n ih =>
    intro M h hK
    rw [fX10_readsCommands_L0] at h
    refine z_aload_n (i := 0) dX10_readsCommands_0 rfl rfl ?_
    refine z_getI (x := (M.1 (18, 0, 0) 17)) dX10_readsCommands_1 fl_X10_149 mk18 rfl rfl ?_
    refine z_if_ne (tgt := 31) dX10_readsCommands_4 rfl (fun hc1 => ?_) (fun hc1 => ?_)
    · have h := it_f h hc1
      exact hK _ h
    · have h := it_t h hc1
      refine z_aload_n (i := 0) dX10_readsCommands_7 rfl rfl ?_
      refine z_getI (x := (M.1 (18, 0, 0) 15)) dX10_readsCommands_8 fl_X10_143 mk18 rfl rfl ?_
      refine z_if_eq (tgt := 31) dX10_readsCommands_11 rfl (fun hc2 => ?_) (fun hc2 => ?_)
      · have h := it_t h hc2
        exact hK _ h
      · have h := it_f h hc2
        refine z_aload_n (i := 0) dX10_readsCommands_14 rfl rfl ?_
        refine z_bipush (v := (41 : Int32)) dX10_readsCommands_15 kb_41 ?_
        obtain ⟨q3, hq4, h⟩ := bnd h
        refine z_fVi (sX10_isSign M (41 : Int32) hq4) dX10_readsCommands_17 ml_X10_158 cd_X10_isSign mk18 rfl rfl rfl (rmk_d (by omega) (by decide)) rfl rfl ?_
        refine z_if_ne (tgt := 31) dX10_readsCommands_20 rfl (fun hc5 => ?_) (fun hc5 => ?_)
        · have h := it_f h hc5
          exact hK _ h
        · have h := it_t h hc5
          refine z_aload_n (i := 0) dX10_readsCommands_23 rfl rfl ?_
          refine z_iload_n (i := 1) dX10_readsCommands_24 rfl rfl ?_
          obtain ⟨q6, hq7, h⟩ := bnd h
          refine z_fVv (sX10_readsCommand rc dd hrc M c1 hq7) dX10_readsCommands_25 ml_X10_244 cd_X10_readsCommand mk18 rfl rfl rfl (rmk_d (by omega) (by decide)) rfl rfl ?_
          refine z_goto (tgt := 0) dX10_readsCommands_28 rfl ?_
          exact ih _ h hK
set_option maxRecDepth 20000 in
set_option maxHeartbeats 2000000 in
theorem sX10_readsCommands {wv : Nat} (rc : Mm → Int32 → Option Mm) (dd : Nat) (hrc : ∀ (M : Mm) (x1 : Int32) (res : Mm), rc M x1 = some res → TF (wv + 1) yX10_readsCommands cX10_readsCommands 2 none dd [.inr (18, 0, 0), .inl (.int x1)] M (none) res) (M : Mm) (x1 : Int32) {res : Mm} (h : fX10_readsCommands rc M x1 = some res) : TF (wv + 1) yX10_readsCommands cX10_readsCommands 2 none (dd + 11) [.inr (18, 0, 0), .inl (.int x1)] M (none) res := by
  rw [fX10_readsCommands] at h
  refine TF.go (n := 0) (ls := [some (.inr (18, 0, 0)), some (.inl (.int x1))]) rfl rfl rfl rfl rfl ?_
  refine sX10_readsCommands_L0 rc x1 dd hrc NF _ h (fun M8 h => ?_)
  cases h
  exact z_vret dX10_readsCommands_31 rfl (Nat.le_refl _) (Nat.le_refl _) ⟨rfl, rfl⟩
set_option maxRecDepth 20000 in
set_option maxHeartbeats 2000000 in
theorem uX10_readsCommands {wv : Nat} : ∀ (n : Nat) (M : Mm) (x1 : Int32) (res : Mm), gX10_readsCommands n M x1 = some res → TF (wv + 1) yX10_readsCommands cX10_readsCommands 2 none (11 * n) [.inr (18, 0, 0), .inl (.int x1)] M (none) res := by
  intro n
  induction n with
  | zero => intro M x1  res h; cases h
  | succ n ih =>
    intro M x1  res h
    exact sX10_readsCommands (gX10_readsCommands n) (11 * n) (fun M x1  res h => ih M x1  res h) M x1  h
