theorem dX5_readArguments_0 : decode cX5_readArguments 0 = .ok (.iload_n 2, 1) := by decide +kernel
theorem dX5_readArguments_1 : decode cX5_readArguments 1 = .ok (.tableswitch 195 0 7 #[47, 47, 88, 118, 156, 166, 176, 186], 47) := by decide +kernel
theorem dX5_readArguments_48 : decode cX5_readArguments 48 = .ok (.aload_n 0, 1) := by decide +kernel
theorem dX5_readArguments_49 : decode cX5_readArguments 49 = .ok (.iload_n 1, 1) := by decide +kernel
theorem dX5_readArguments_50 : decode cX5_readArguments 50 = .ok (.iconst 0, 1) := by decide +kernel
theorem dX5_readArguments_51 : decode cX5_readArguments 51 = .ok (.iconst 0, 1) := by decide +kernel
theorem dX5_readArguments_52 : decode cX5_readArguments 52 = .ok (.iconst 2, 1) := by decide +kernel
theorem dX5_readArguments_53 : decode cX5_readArguments 53 = .ok (.invokevirtual 69, 3) := by decide +kernel
theorem dX5_readArguments_56 : decode cX5_readArguments 56 = .ok (.ifCond .eq 31, 3) := by decide +kernel
theorem dX5_readArguments_59 : decode cX5_readArguments 59 = .ok (.aload_n 0, 1) := by decide +kernel
theorem dX5_readArguments_60 : decode cX5_readArguments 60 = .ok (.iload_n 1, 1) := by decide +kernel
theorem dX5_readArguments_61 : decode cX5_readArguments 61 = .ok (.iconst 1, 1) := by decide +kernel
theorem dX5_readArguments_62 : decode cX5_readArguments 62 = .ok (.iconst 0, 1) := by decide +kernel
theorem dX5_readArguments_63 : decode cX5_readArguments 63 = .ok (.bipush 11, 2) := by decide +kernel
theorem dX5_readArguments_65 : decode cX5_readArguments 65 = .ok (.invokevirtual 69, 3) := by decide +kernel
theorem dX5_readArguments_68 : decode cX5_readArguments 68 = .ok (.ifCond .eq 19, 3) := by decide +kernel
theorem dX5_readArguments_71 : decode cX5_readArguments 71 = .ok (.aload_n 0, 1) := by decide +kernel
theorem dX5_readArguments_72 : decode cX5_readArguments 72 = .ok (.iload_n 1, 1) := by decide +kernel
theorem dX5_readArguments_73 : decode cX5_readArguments 73 = .ok (.iconst 2, 1) := by decide +kernel
theorem dX5_readArguments_74 : decode cX5_readArguments 74 = .ok (.iconst 0, 1) := by decide +kernel
theorem dX5_readArguments_75 : decode cX5_readArguments 75 = .ok (.bipush 63, 2) := by decide +kernel
theorem dX5_readArguments_77 : decode cX5_readArguments 77 = .ok (.invokevirtual 69, 3) := by decide +kernel
theorem dX5_readArguments_80 : decode cX5_readArguments 80 = .ok (.ifCond .eq 7, 3) := by decide +kernel
theorem dX5_readArguments_83 : decode cX5_readArguments 83 = .ok (.iconst 1, 1) := by decide +kernel
theorem dX5_readArguments_84 : decode cX5_readArguments 84 = .ok (.goto 4, 3) := by decide +kernel
theorem dX5_readArguments_87 : decode cX5_readArguments 87 = .ok (.iconst 0, 1) := by decide +kernel
theorem dX5_readArguments_88 : decode cX5_readArguments 88 = .ok (.ireturn, 1) := by decide +kernel
theorem dX5_readArguments_89 : decode cX5_readArguments 89 = .ok (.aload_n 0, 1) := by decide +kernel
theorem dX5_readArguments_90 : decode cX5_readArguments 90 = .ok (.iload_n 1, 1) := by decide +kernel
theorem dX5_readArguments_91 : decode cX5_readArguments 91 = .ok (.iconst 0, 1) := by decide +kernel
theorem dX5_readArguments_92 : decode cX5_readArguments 92 = .ok (.iconst 0, 1) := by decide +kernel
theorem dX5_readArguments_93 : decode cX5_readArguments 93 = .ok (.bipush 11, 2) := by decide +kernel
theorem dX5_readArguments_95 : decode cX5_readArguments 95 = .ok (.invokevirtual 69, 3) := by decide +kernel
theorem dX5_readArguments_98 : decode cX5_readArguments 98 = .ok (.ifCond .eq 19, 3) := by decide +kernel
theorem dX5_readArguments_101 : decode cX5_readArguments 101 = .ok (.aload_n 0, 1) := by decide +kernel
theorem dX5_readArguments_102 : decode cX5_readArguments 102 = .ok (.iload_n 1, 1) := by decide +kernel
theorem dX5_readArguments_103 : decode cX5_readArguments 103 = .ok (.iconst 1, 1) := by decide +kernel
theorem dX5_readArguments_104 : decode cX5_readArguments 104 = .ok (.iconst 1, 1) := by decide +kernel
theorem dX5_readArguments_105 : decode cX5_readArguments 105 = .ok (.bipush 9, 2) := by decide +kernel
theorem dX5_readArguments_107 : decode cX5_readArguments 107 = .ok (.invokevirtual 69, 3) := by decide +kernel
theorem dX5_readArguments_110 : decode cX5_readArguments 110 = .ok (.ifCond .eq 7, 3) := by decide +kernel
theorem dX5_readArguments_113 : decode cX5_readArguments 113 = .ok (.iconst 1, 1) := by decide +kernel
theorem dX5_readArguments_114 : decode cX5_readArguments 114 = .ok (.goto 4, 3) := by decide +kernel
theorem dX5_readArguments_117 : decode cX5_readArguments 117 = .ok (.iconst 0, 1) := by decide +kernel
theorem dX5_readArguments_118 : decode cX5_readArguments 118 = .ok (.ireturn, 1) := by decide +kernel
theorem dX5_readArguments_119 : decode cX5_readArguments 119 = .ok (.aload_n 0, 1) := by decide +kernel
theorem dX5_readArguments_120 : decode cX5_readArguments 120 = .ok (.iload_n 1, 1) := by decide +kernel
theorem dX5_readArguments_121 : decode cX5_readArguments 121 = .ok (.iconst 0, 1) := by decide +kernel
theorem dX5_readArguments_122 : decode cX5_readArguments 122 = .ok (.iconst 0, 1) := by decide +kernel
theorem dX5_readArguments_123 : decode cX5_readArguments 123 = .ok (.bipush 11, 2) := by decide +kernel
theorem dX5_readArguments_125 : decode cX5_readArguments 125 = .ok (.invokevirtual 69, 3) := by decide +kernel
theorem dX5_readArguments_128 : decode cX5_readArguments 128 = .ok (.ifCond .eq 27, 3) := by decide +kernel
theorem dX5_readArguments_131 : decode cX5_readArguments 131 = .ok (.aload_n 0, 1) := by decide +kernel
theorem dX5_readArguments_132 : decode cX5_readArguments 132 = .ok (.iload_n 1, 1) := by decide +kernel
theorem dX5_readArguments_133 : decode cX5_readArguments 133 = .ok (.iconst 1, 1) := by decide +kernel
theorem dX5_readArguments_134 : decode cX5_readArguments 134 = .ok (.invokevirtual 104, 3) := by decide +kernel
theorem dX5_readArguments_137 : decode cX5_readArguments 137 = .ok (.ifCond .eq 18, 3) := by decide +kernel
theorem dX5_readArguments_140 : decode cX5_readArguments 140 = .ok (.aload_n 0, 1) := by decide +kernel
theorem dX5_readArguments_141 : decode cX5_readArguments 141 = .ok (.iload_n 1, 1) := by decide +kernel
theorem dX5_readArguments_142 : decode cX5_readArguments 142 = .ok (.iconst 2, 1) := by decide +kernel
theorem dX5_readArguments_143 : decode cX5_readArguments 143 = .ok (.iconst 1, 1) := by decide +kernel
theorem dX5_readArguments_144 : decode cX5_readArguments 144 = .ok (.iconst 3, 1) := by decide +kernel
theorem dX5_readArguments_145 : decode cX5_readArguments 145 = .ok (.invokevirtual 69, 3) := by decide +kernel
theorem dX5_readArguments_148 : decode cX5_readArguments 148 = .ok (.ifCond .eq 7, 3) := by decide +kernel
theorem dX5_readArguments_151 : decode cX5_readArguments 151 = .ok (.iconst 1, 1) := by decide +kernel
theorem dX5_readArguments_152 : decode cX5_readArguments 152 = .ok (.goto 4, 3) := by decide +kernel
theorem dX5_readArguments_155 : decode cX5_readArguments 155 = .ok (.iconst 0, 1) := by decide +kernel
theorem dX5_readArguments_156 : decode cX5_readArguments 156 = .ok (.ireturn, 1) := by decide +kernel
theorem dX5_readArguments_157 : decode cX5_readArguments 157 = .ok (.aload_n 0, 1) := by decide +kernel
theorem dX5_readArguments_158 : decode cX5_readArguments 158 = .ok (.iload_n 1, 1) := by decide +kernel
theorem dX5_readArguments_159 : decode cX5_readArguments 159 = .ok (.iconst 0, 1) := by decide +kernel
theorem dX5_readArguments_160 : decode cX5_readArguments 160 = .ok (.iconst 0, 1) := by decide +kernel
theorem dX5_readArguments_161 : decode cX5_readArguments 161 = .ok (.bipush 11, 2) := by decide +kernel
theorem dX5_readArguments_163 : decode cX5_readArguments 163 = .ok (.invokevirtual 69, 3) := by decide +kernel
theorem dX5_readArguments_166 : decode cX5_readArguments 166 = .ok (.ireturn, 1) := by decide +kernel
theorem dX5_readArguments_167 : decode cX5_readArguments 167 = .ok (.aload_n 0, 1) := by decide +kernel
theorem dX5_readArguments_168 : decode cX5_readArguments 168 = .ok (.iload_n 1, 1) := by decide +kernel
theorem dX5_readArguments_169 : decode cX5_readArguments 169 = .ok (.iconst 0, 1) := by decide +kernel
theorem dX5_readArguments_170 : decode cX5_readArguments 170 = .ok (.iconst 0, 1) := by decide +kernel
theorem dX5_readArguments_171 : decode cX5_readArguments 171 = .ok (.bipush 90, 2) := by decide +kernel
theorem dX5_readArguments_173 : decode cX5_readArguments 173 = .ok (.invokevirtual 69, 3) := by decide +kernel
theorem dX5_readArguments_176 : decode cX5_readArguments 176 = .ok (.ireturn, 1) := by decide +kernel
theorem dX5_readArguments_177 : decode cX5_readArguments 177 = .ok (.aload_n 0, 1) := by decide +kernel
theorem dX5_readArguments_178 : decode cX5_readArguments 178 = .ok (.iload_n 1, 1) := by decide +kernel
theorem dX5_readArguments_179 : decode cX5_readArguments 179 = .ok (.iconst 0, 1) := by decide +kernel
theorem dX5_readArguments_180 : decode cX5_readArguments 180 = .ok (.iconst 1, 1) := by decide +kernel
theorem dX5_readArguments_181 : decode cX5_readArguments 181 = .ok (.bipush 20, 2) := by decide +kernel
theorem dX5_readArguments_183 : decode cX5_readArguments 183 = .ok (.invokevirtual 69, 3) := by decide +kernel
theorem dX5_readArguments_186 : decode cX5_readArguments 186 = .ok (.ireturn, 1) := by decide +kernel
theorem dX5_readArguments_187 : decode cX5_readArguments 187 = .ok (.aload_n 0, 1) := by decide +kernel
theorem dX5_readArguments_188 : decode cX5_readArguments 188 = .ok (.iload_n 1, 1) := by decide +kernel
theorem dX5_readArguments_189 : decode cX5_readArguments 189 = .ok (.iconst 0, 1) := by decide +kernel
theorem dX5_readArguments_190 : decode cX5_readArguments 190 = .ok (.iconst 0, 1) := by decide +kernel
theorem dX5_readArguments_191 : decode cX5_readArguments 191 = .ok (.iconst 2, 1) := by decide +kernel
theorem dX5_readArguments_192 : decode cX5_readArguments 192 = .ok (.invokevirtual 69, 3) := by decide +kernel
theorem dX5_readArguments_195 : decode cX5_readArguments 195 = .ok (.ireturn, 1) := by decide +kernel
theorem dX5_readArguments_196 : decode cX5_readArguments 196 = .ok (.aload_n 0, 1) := by decide +kernel
theorem dX5_readArguments_197 : decode cX5_readArguments 197 = .ok (.iload_n 1, 1) := by decide +kernel
theorem dX5_readArguments_198 : decode cX5_readArguments 198 = .ok (.iconst 0, 1) := by decide +kernel
theorem dX5_readArguments_199 : decode cX5_readArguments 199 = .ok (.iconst 1, 1) := by decide +kernel
theorem dX5_readArguments_200 : decode cX5_readArguments 200 = .ok (.sipush 300, 3) := by decide +kernel
theorem dX5_readArguments_203 : decode cX5_readArguments 203 = .ok (.invokevirtual 69, 3) := by decide +kernel
theorem dX5_readArguments_206 : decode cX5_readArguments 206 = .ok (.ireturn, 1) := by decide +kernel
def fX5_readArguments (M : Mm) (x1 : Int32) (x2 : Int32) : Option (Int32 × Mm) := if x2 = (0 : Int32) then ((fX5_readArgument M x1 (0 : Int32) (0 : Int32) (2 : Int32)).bind fun q2 => if q2.1 = 0 then some ((0 : Int32), q2.2) else (fX5_readArgument q2.2 x1 (1 : Int32) (0 : Int32) (11 : Int32)).bind fun q5 => if q5.1 = 0 then some ((0 : Int32), q5.2) else (fX5_readArgument q5.2 x1 (2 : Int32) (0 : Int32) (63 : Int32)).bind fun q8 => if q8.1 = 0 then some ((0 : Int32), q8.2) else some ((1 : Int32), q8.2)) else if x2 = (1 : Int32) then ((fX5_readArgument M x1 (0 : Int32) (0 : Int32) (2 : Int32)).bind fun q12 => if q12.1 = 0 then some ((0 : Int32), q12.2) else (fX5_readArgument q12.2 x1 (1 : Int32) (0 : Int32) (11 : Int32)).bind fun q15 => if q15.1 = 0 then some ((0 : Int32), q15.2) else (fX5_readArgument q15.2 x1 (2 : Int32) (0 : Int32) (63 : Int32)).bind fun q18 => if q18.1 = 0 then some ((0 : Int32), q18.2) else some ((1 : Int32), q18.2)) else if x2 = (2 : Int32) then ((fX5_readArgument M x1 (0 : Int32) (0 : Int32) (11 : Int32)).bind fun q22 => if q22.1 = 0 then some ((0 : Int32), q22.2) else (fX5_readArgument q22.2 x1 (1 : Int32) (1 : Int32) (9 : Int32)).bind fun q25 => if q25.1 = 0 then some ((0 : Int32), q25.2) else some ((1 : Int32), q25.2)) else if x2 = (3 : Int32) then ((fX5_readArgument M x1 (0 : Int32) (0 : Int32) (11 : Int32)).bind fun q29 => if q29.1 = 0 then some ((0 : Int32), q29.2) else (fX5_readDirection q29.2 x1 (1 : Int32)).bind fun q32 => if q32.1 = 0 then some ((0 : Int32), q32.2) else (fX5_readArgument q32.2 x1 (2 : Int32) (1 : Int32) (3 : Int32)).bind fun q35 => if q35.1 = 0 then some ((0 : Int32), q35.2) else some ((1 : Int32), q35.2)) else if x2 = (4 : Int32) then ((fX5_readArgument M x1 (0 : Int32) (0 : Int32) (11 : Int32)).bind fun q39 => some ((bz q39.1), q39.2)) else if x2 = (5 : Int32) then ((fX5_readArgument M x1 (0 : Int32) (0 : Int32) (90 : Int32)).bind fun q42 => some ((bz q42.1), q42.2)) else if x2 = (6 : Int32) then ((fX5_readArgument M x1 (0 : Int32) (1 : Int32) (20 : Int32)).bind fun q45 => some ((bz q45.1), q45.2)) else if x2 = (7 : Int32) then ((fX5_readArgument M x1 (0 : Int32) (0 : Int32) (2 : Int32)).bind fun q48 => some ((bz q48.1), q48.2)) else (fX5_readArgument M x1 (0 : Int32) (1 : Int32) (300 : Int32)).bind fun q50 => some ((bz q50.1), q50.2)
set_option maxRecDepth 20000 in
set_option maxHeartbeats 2000000 in
theorem sX5_readArguments {wv : Nat} (M : Mm) (x1 : Int32) (x2 : Int32) {res : (Int32 × Mm)} (h : fX5_readArguments M x1 x2 = some res) : TF wv yX5_readArguments cX5_readArguments 3 (some .boolean) 9 [.inr (6, 0, 0), .inl (.int x1), .inl (.int x2)] M (some (.int res.1)) res.2 := by
  rw [fX5_readArguments] at h
  refine TF.go (n := 0) (ls := [some (.inr (6, 0, 0)), some (.inl (.int x1)), some (.inl (.int x2))]) rfl rfl rfl rfl rfl ?_
  refine z_iload_n (i := 2) dX5_readArguments_0 rfl rfl ?_
  by_cases hc1 : x2 = (0 : Int32)
  · have h := it_t h hc1
    refine z_tin (tgt := 48) dX5_readArguments_1 (by rw [hc1]; decide) (by rw [hc1]; decide) (off := 47) (by rw [hc1]; decide) rfl ?_
    refine z_aload_n (i := 0) dX5_readArguments_48 rfl rfl ?_
    refine z_iload_n (i := 1) dX5_readArguments_49 rfl rfl ?_
    refine z_iconst (v := (0 : Int32)) dX5_readArguments_50 kc_0 ?_
    refine z_iconst (v := (0 : Int32)) dX5_readArguments_51 kc_0 ?_
    refine z_iconst (v := (2 : Int32)) dX5_readArguments_52 kc_2 ?_
    obtain ⟨q2, hq3, h⟩ := bnd h
    refine z_fVi (sX5_readArgument M x1 (0 : Int32) (0 : Int32) (2 : Int32) hq3) dX5_readArguments_53 ml_X5_69 cd_X5_readArgument mk6 rfl rfl rfl rfl rfl rfl ?_
    refine z_if_eq (tgt := 87) dX5_readArguments_56 rfl (fun hc4 => ?_) (fun hc4 => ?_)
    · have h := it_t h hc4
      refine z_iconst (v := (0 : Int32)) dX5_readArguments_87 kc_0 ?_
      cases h
      exact z_iret dX5_readArguments_88 rfl rfl (Nat.le_refl _) (Nat.le_refl _) ⟨rfl, rfl⟩
    · have h := it_f h hc4
      refine z_aload_n (i := 0) dX5_readArguments_59 rfl rfl ?_
      refine z_iload_n (i := 1) dX5_readArguments_60 rfl rfl ?_
      refine z_iconst (v := (1 : Int32)) dX5_readArguments_61 kc_1 ?_
      refine z_iconst (v := (0 : Int32)) dX5_readArguments_62 kc_0 ?_
      refine z_bipush (v := (11 : Int32)) dX5_readArguments_63 kb_11 ?_
      obtain ⟨q5, hq6, h⟩ := bnd h
      refine z_fVi (sX5_readArgument q2.2 x1 (1 : Int32) (0 : Int32) (11 : Int32) hq6) dX5_readArguments_65 ml_X5_69 cd_X5_readArgument mk6 rfl rfl rfl rfl rfl rfl ?_
      refine z_if_eq (tgt := 87) dX5_readArguments_68 rfl (fun hc7 => ?_) (fun hc7 => ?_)
      · have h := it_t h hc7
        refine z_iconst (v := (0 : Int32)) dX5_readArguments_87 kc_0 ?_
        cases h
        exact z_iret dX5_readArguments_88 rfl rfl (Nat.le_refl _) (Nat.le_refl _) ⟨rfl, rfl⟩
      · have h := it_f h hc7
        refine z_aload_n (i := 0) dX5_readArguments_71 rfl rfl ?_
        refine z_iload_n (i := 1) dX5_readArguments_72 rfl rfl ?_
        refine z_iconst (v := (2 : Int32)) dX5_readArguments_73 kc_2 ?_
        refine z_iconst (v := (0 : Int32)) dX5_readArguments_74 kc_0 ?_
        refine z_bipush (v := (63 : Int32)) dX5_readArguments_75 kb_63 ?_
        obtain ⟨q8, hq9, h⟩ := bnd h
        refine z_fVi (sX5_readArgument q5.2 x1 (2 : Int32) (0 : Int32) (63 : Int32) hq9) dX5_readArguments_77 ml_X5_69 cd_X5_readArgument mk6 rfl rfl rfl rfl rfl rfl ?_
        refine z_if_eq (tgt := 87) dX5_readArguments_80 rfl (fun hc10 => ?_) (fun hc10 => ?_)
        · have h := it_t h hc10
          refine z_iconst (v := (0 : Int32)) dX5_readArguments_87 kc_0 ?_
          cases h
          exact z_iret dX5_readArguments_88 rfl rfl (Nat.le_refl _) (Nat.le_refl _) ⟨rfl, rfl⟩
        · have h := it_f h hc10
          refine z_iconst (v := (1 : Int32)) dX5_readArguments_83 kc_1 ?_
          refine z_goto (tgt := 88) dX5_readArguments_84 rfl ?_
          cases h
          exact z_iret dX5_readArguments_88 rfl rfl (Nat.le_refl _) (Nat.le_refl _) ⟨rfl, rfl⟩
  have h := it_f h hc1
  by_cases hc11 : x2 = (1 : Int32)
  · have h := it_t h hc11
    refine z_tin (tgt := 48) dX5_readArguments_1 (by rw [hc11]; decide) (by rw [hc11]; decide) (off := 47) (by rw [hc11]; decide) rfl ?_
    refine z_aload_n (i := 0) dX5_readArguments_48 rfl rfl ?_
    refine z_iload_n (i := 1) dX5_readArguments_49 rfl rfl ?_
    refine z_iconst (v := (0 : Int32)) dX5_readArguments_50 kc_0 ?_
    refine z_iconst (v := (0 : Int32)) dX5_readArguments_51 kc_0 ?_
    refine z_iconst (v := (2 : Int32)) dX5_readArguments_52 kc_2 ?_
    obtain ⟨q12, hq13, h⟩ := bnd h
    refine z_fVi (sX5_readArgument M x1 (0 : Int32) (0 : Int32) (2 : Int32) hq13) dX5_readArguments_53 ml_X5_69 cd_X5_readArgument mk6 rfl rfl rfl rfl rfl rfl ?_
    refine z_if_eq (tgt := 87) dX5_readArguments_56 rfl (fun hc14 => ?_) (fun hc14 => ?_)
    · have h := it_t h hc14
      refine z_iconst (v := (0 : Int32)) dX5_readArguments_87 kc_0 ?_
      cases h
      exact z_iret dX5_readArguments_88 rfl rfl (Nat.le_refl _) (Nat.le_refl _) ⟨rfl, rfl⟩
    · have h := it_f h hc14
      refine z_aload_n (i := 0) dX5_readArguments_59 rfl rfl ?_
      refine z_iload_n (i := 1) dX5_readArguments_60 rfl rfl ?_
      refine z_iconst (v := (1 : Int32)) dX5_readArguments_61 kc_1 ?_
      refine z_iconst (v := (0 : Int32)) dX5_readArguments_62 kc_0 ?_
      refine z_bipush (v := (11 : Int32)) dX5_readArguments_63 kb_11 ?_
      obtain ⟨q15, hq16, h⟩ := bnd h
      refine z_fVi (sX5_readArgument q12.2 x1 (1 : Int32) (0 : Int32) (11 : Int32) hq16) dX5_readArguments_65 ml_X5_69 cd_X5_readArgument mk6 rfl rfl rfl rfl rfl rfl ?_
      refine z_if_eq (tgt := 87) dX5_readArguments_68 rfl (fun hc17 => ?_) (fun hc17 => ?_)
      · have h := it_t h hc17
        refine z_iconst (v := (0 : Int32)) dX5_readArguments_87 kc_0 ?_
        cases h
        exact z_iret dX5_readArguments_88 rfl rfl (Nat.le_refl _) (Nat.le_refl _) ⟨rfl, rfl⟩
      · have h := it_f h hc17
        refine z_aload_n (i := 0) dX5_readArguments_71 rfl rfl ?_
        refine z_iload_n (i := 1) dX5_readArguments_72 rfl rfl ?_
        refine z_iconst (v := (2 : Int32)) dX5_readArguments_73 kc_2 ?_
        refine z_iconst (v := (0 : Int32)) dX5_readArguments_74 kc_0 ?_
        refine z_bipush (v := (63 : Int32)) dX5_readArguments_75 kb_63 ?_
        obtain ⟨q18, hq19, h⟩ := bnd h
        refine z_fVi (sX5_readArgument q15.2 x1 (2 : Int32) (0 : Int32) (63 : Int32) hq19) dX5_readArguments_77 ml_X5_69 cd_X5_readArgument mk6 rfl rfl rfl rfl rfl rfl ?_
        refine z_if_eq (tgt := 87) dX5_readArguments_80 rfl (fun hc20 => ?_) (fun hc20 => ?_)
        · have h := it_t h hc20
          refine z_iconst (v := (0 : Int32)) dX5_readArguments_87 kc_0 ?_
          cases h
          exact z_iret dX5_readArguments_88 rfl rfl (Nat.le_refl _) (Nat.le_refl _) ⟨rfl, rfl⟩
        · have h := it_f h hc20
          refine z_iconst (v := (1 : Int32)) dX5_readArguments_83 kc_1 ?_
          refine z_goto (tgt := 88) dX5_readArguments_84 rfl ?_
          cases h
          exact z_iret dX5_readArguments_88 rfl rfl (Nat.le_refl _) (Nat.le_refl _) ⟨rfl, rfl⟩
  have h := it_f h hc11
  by_cases hc21 : x2 = (2 : Int32)
  · have h := it_t h hc21
    refine z_tin (tgt := 89) dX5_readArguments_1 (by rw [hc21]; decide) (by rw [hc21]; decide) (off := 88) (by rw [hc21]; decide) rfl ?_
    refine z_aload_n (i := 0) dX5_readArguments_89 rfl rfl ?_
    refine z_iload_n (i := 1) dX5_readArguments_90 rfl rfl ?_
    refine z_iconst (v := (0 : Int32)) dX5_readArguments_91 kc_0 ?_
    refine z_iconst (v := (0 : Int32)) dX5_readArguments_92 kc_0 ?_
    refine z_bipush (v := (11 : Int32)) dX5_readArguments_93 kb_11 ?_
    obtain ⟨q22, hq23, h⟩ := bnd h
    refine z_fVi (sX5_readArgument M x1 (0 : Int32) (0 : Int32) (11 : Int32) hq23) dX5_readArguments_95 ml_X5_69 cd_X5_readArgument mk6 rfl rfl rfl rfl rfl rfl ?_
    refine z_if_eq (tgt := 117) dX5_readArguments_98 rfl (fun hc24 => ?_) (fun hc24 => ?_)
    · have h := it_t h hc24
      refine z_iconst (v := (0 : Int32)) dX5_readArguments_117 kc_0 ?_
      cases h
      exact z_iret dX5_readArguments_118 rfl rfl (Nat.le_refl _) (Nat.le_refl _) ⟨rfl, rfl⟩
    · have h := it_f h hc24
      refine z_aload_n (i := 0) dX5_readArguments_101 rfl rfl ?_
      refine z_iload_n (i := 1) dX5_readArguments_102 rfl rfl ?_
      refine z_iconst (v := (1 : Int32)) dX5_readArguments_103 kc_1 ?_
      refine z_iconst (v := (1 : Int32)) dX5_readArguments_104 kc_1 ?_
      refine z_bipush (v := (9 : Int32)) dX5_readArguments_105 kb_9 ?_
      obtain ⟨q25, hq26, h⟩ := bnd h
      refine z_fVi (sX5_readArgument q22.2 x1 (1 : Int32) (1 : Int32) (9 : Int32) hq26) dX5_readArguments_107 ml_X5_69 cd_X5_readArgument mk6 rfl rfl rfl rfl rfl rfl ?_
      refine z_if_eq (tgt := 117) dX5_readArguments_110 rfl (fun hc27 => ?_) (fun hc27 => ?_)
      · have h := it_t h hc27
        refine z_iconst (v := (0 : Int32)) dX5_readArguments_117 kc_0 ?_
        cases h
        exact z_iret dX5_readArguments_118 rfl rfl (Nat.le_refl _) (Nat.le_refl _) ⟨rfl, rfl⟩
      · have h := it_f h hc27
        refine z_iconst (v := (1 : Int32)) dX5_readArguments_113 kc_1 ?_
        refine z_goto (tgt := 118) dX5_readArguments_114 rfl ?_
        cases h
        exact z_iret dX5_readArguments_118 rfl rfl (Nat.le_refl _) (Nat.le_refl _) ⟨rfl, rfl⟩
  have h := it_f h hc21
  by_cases hc28 : x2 = (3 : Int32)
  · have h := it_t h hc28
    refine z_tin (tgt := 119) dX5_readArguments_1 (by rw [hc28]; decide) (by rw [hc28]; decide) (off := 118) (by rw [hc28]; decide) rfl ?_
    refine z_aload_n (i := 0) dX5_readArguments_119 rfl rfl ?_
    refine z_iload_n (i := 1) dX5_readArguments_120 rfl rfl ?_
    refine z_iconst (v := (0 : Int32)) dX5_readArguments_121 kc_0 ?_
    refine z_iconst (v := (0 : Int32)) dX5_readArguments_122 kc_0 ?_
    refine z_bipush (v := (11 : Int32)) dX5_readArguments_123 kb_11 ?_
    obtain ⟨q29, hq30, h⟩ := bnd h
    refine z_fVi (sX5_readArgument M x1 (0 : Int32) (0 : Int32) (11 : Int32) hq30) dX5_readArguments_125 ml_X5_69 cd_X5_readArgument mk6 rfl rfl rfl rfl rfl rfl ?_
    refine z_if_eq (tgt := 155) dX5_readArguments_128 rfl (fun hc31 => ?_) (fun hc31 => ?_)
    · have h := it_t h hc31
      refine z_iconst (v := (0 : Int32)) dX5_readArguments_155 kc_0 ?_
      cases h
      exact z_iret dX5_readArguments_156 rfl rfl (Nat.le_refl _) (Nat.le_refl _) ⟨rfl, rfl⟩
    · have h := it_f h hc31
      refine z_aload_n (i := 0) dX5_readArguments_131 rfl rfl ?_
      refine z_iload_n (i := 1) dX5_readArguments_132 rfl rfl ?_
      refine z_iconst (v := (1 : Int32)) dX5_readArguments_133 kc_1 ?_
      obtain ⟨q32, hq33, h⟩ := bnd h
      refine z_fVi (sX5_readDirection q29.2 x1 (1 : Int32) hq33) dX5_readArguments_134 ml_X5_104 cd_X5_readDirection mk6 rfl rfl rfl rfl rfl rfl ?_
      refine z_if_eq (tgt := 155) dX5_readArguments_137 rfl (fun hc34 => ?_) (fun hc34 => ?_)
      · have h := it_t h hc34
        refine z_iconst (v := (0 : Int32)) dX5_readArguments_155 kc_0 ?_
        cases h
        exact z_iret dX5_readArguments_156 rfl rfl (Nat.le_refl _) (Nat.le_refl _) ⟨rfl, rfl⟩
      · have h := it_f h hc34
        refine z_aload_n (i := 0) dX5_readArguments_140 rfl rfl ?_
        refine z_iload_n (i := 1) dX5_readArguments_141 rfl rfl ?_
        refine z_iconst (v := (2 : Int32)) dX5_readArguments_142 kc_2 ?_
        refine z_iconst (v := (1 : Int32)) dX5_readArguments_143 kc_1 ?_
        refine z_iconst (v := (3 : Int32)) dX5_readArguments_144 kc_3 ?_
        obtain ⟨q35, hq36, h⟩ := bnd h
        refine z_fVi (sX5_readArgument q32.2 x1 (2 : Int32) (1 : Int32) (3 : Int32) hq36) dX5_readArguments_145 ml_X5_69 cd_X5_readArgument mk6 rfl rfl rfl rfl rfl rfl ?_
        refine z_if_eq (tgt := 155) dX5_readArguments_148 rfl (fun hc37 => ?_) (fun hc37 => ?_)
        · have h := it_t h hc37
          refine z_iconst (v := (0 : Int32)) dX5_readArguments_155 kc_0 ?_
          cases h
          exact z_iret dX5_readArguments_156 rfl rfl (Nat.le_refl _) (Nat.le_refl _) ⟨rfl, rfl⟩
        · have h := it_f h hc37
          refine z_iconst (v := (1 : Int32)) dX5_readArguments_151 kc_1 ?_
          refine z_goto (tgt := 156) dX5_readArguments_152 rfl ?_
          cases h
          exact z_iret dX5_readArguments_156 rfl rfl (Nat.le_refl _) (Nat.le_refl _) ⟨rfl, rfl⟩
  have h := it_f h hc28
  by_cases hc38 : x2 = (4 : Int32)
  · have h := it_t h hc38
    refine z_tin (tgt := 157) dX5_readArguments_1 (by rw [hc38]; decide) (by rw [hc38]; decide) (off := 156) (by rw [hc38]; decide) rfl ?_
    refine z_aload_n (i := 0) dX5_readArguments_157 rfl rfl ?_
    refine z_iload_n (i := 1) dX5_readArguments_158 rfl rfl ?_
    refine z_iconst (v := (0 : Int32)) dX5_readArguments_159 kc_0 ?_
    refine z_iconst (v := (0 : Int32)) dX5_readArguments_160 kc_0 ?_
    refine z_bipush (v := (11 : Int32)) dX5_readArguments_161 kb_11 ?_
    obtain ⟨q39, hq40, h⟩ := bnd h
    refine z_fVi (sX5_readArgument M x1 (0 : Int32) (0 : Int32) (11 : Int32) hq40) dX5_readArguments_163 ml_X5_69 cd_X5_readArgument mk6 rfl rfl rfl rfl rfl rfl ?_
    cases h
    exact z_iret dX5_readArguments_166 rfl (bz_ok _) (Nat.le_refl _) (Nat.le_refl _) ⟨rfl, rfl⟩
  have h := it_f h hc38
  by_cases hc41 : x2 = (5 : Int32)
  · have h := it_t h hc41
    refine z_tin (tgt := 167) dX5_readArguments_1 (by rw [hc41]; decide) (by rw [hc41]; decide) (off := 166) (by rw [hc41]; decide) rfl ?_
    refine z_aload_n (i := 0) dX5_readArguments_167 rfl rfl ?_
    refine z_iload_n (i := 1) dX5_readArguments_168 rfl rfl ?_
    refine z_iconst (v := (0 : Int32)) dX5_readArguments_169 kc_0 ?_
    refine z_iconst (v := (0 : Int32)) dX5_readArguments_170 kc_0 ?_
    refine z_bipush (v := (90 : Int32)) dX5_readArguments_171 kb_90 ?_
    obtain ⟨q42, hq43, h⟩ := bnd h
    refine z_fVi (sX5_readArgument M x1 (0 : Int32) (0 : Int32) (90 : Int32) hq43) dX5_readArguments_173 ml_X5_69 cd_X5_readArgument mk6 rfl rfl rfl rfl rfl rfl ?_
    cases h
    exact z_iret dX5_readArguments_176 rfl (bz_ok _) (Nat.le_refl _) (Nat.le_refl _) ⟨rfl, rfl⟩
  have h := it_f h hc41
  by_cases hc44 : x2 = (6 : Int32)
  · have h := it_t h hc44
    refine z_tin (tgt := 177) dX5_readArguments_1 (by rw [hc44]; decide) (by rw [hc44]; decide) (off := 176) (by rw [hc44]; decide) rfl ?_
    refine z_aload_n (i := 0) dX5_readArguments_177 rfl rfl ?_
    refine z_iload_n (i := 1) dX5_readArguments_178 rfl rfl ?_
    refine z_iconst (v := (0 : Int32)) dX5_readArguments_179 kc_0 ?_
    refine z_iconst (v := (1 : Int32)) dX5_readArguments_180 kc_1 ?_
    refine z_bipush (v := (20 : Int32)) dX5_readArguments_181 kb_20 ?_
    obtain ⟨q45, hq46, h⟩ := bnd h
    refine z_fVi (sX5_readArgument M x1 (0 : Int32) (1 : Int32) (20 : Int32) hq46) dX5_readArguments_183 ml_X5_69 cd_X5_readArgument mk6 rfl rfl rfl rfl rfl rfl ?_
    cases h
    exact z_iret dX5_readArguments_186 rfl (bz_ok _) (Nat.le_refl _) (Nat.le_refl _) ⟨rfl, rfl⟩
  have h := it_f h hc44
  by_cases hc47 : x2 = (7 : Int32)
  · have h := it_t h hc47
    refine z_tin (tgt := 187) dX5_readArguments_1 (by rw [hc47]; decide) (by rw [hc47]; decide) (off := 186) (by rw [hc47]; decide) rfl ?_
    refine z_aload_n (i := 0) dX5_readArguments_187 rfl rfl ?_
    refine z_iload_n (i := 1) dX5_readArguments_188 rfl rfl ?_
    refine z_iconst (v := (0 : Int32)) dX5_readArguments_189 kc_0 ?_
    refine z_iconst (v := (0 : Int32)) dX5_readArguments_190 kc_0 ?_
    refine z_iconst (v := (2 : Int32)) dX5_readArguments_191 kc_2 ?_
    obtain ⟨q48, hq49, h⟩ := bnd h
    refine z_fVi (sX5_readArgument M x1 (0 : Int32) (0 : Int32) (2 : Int32) hq49) dX5_readArguments_192 ml_X5_69 cd_X5_readArgument mk6 rfl rfl rfl rfl rfl rfl ?_
    cases h
    exact z_iret dX5_readArguments_195 rfl (bz_ok _) (Nat.le_refl _) (Nat.le_refl _) ⟨rfl, rfl⟩
  have h := it_f h hc47
  refine z_tout (tgt := 196) dX5_readArguments_1 (tswo (fun k h1 h2 h3 => ?_)) rfl ?_
  · have h4 : k = 0 ∨ k = 1 ∨ k = 2 ∨ k = 3 ∨ k = 4 ∨ k = 5 ∨ k = 6 ∨ k = 7 := by omega
    rcases h4 with rfl | rfl | rfl | rfl | rfl | rfl | rfl | rfl
    · exact hc1 (Int32.toInt_inj.mp (h3.trans (by decide)))
    · exact hc11 (Int32.toInt_inj.mp (h3.trans (by decide)))
    · exact hc21 (Int32.toInt_inj.mp (h3.trans (by decide)))
    · exact hc28 (Int32.toInt_inj.mp (h3.trans (by decide)))
    · exact hc38 (Int32.toInt_inj.mp (h3.trans (by decide)))
    · exact hc41 (Int32.toInt_inj.mp (h3.trans (by decide)))
    · exact hc44 (Int32.toInt_inj.mp (h3.trans (by decide)))
    · exact hc47 (Int32.toInt_inj.mp (h3.trans (by decide)))
  · refine z_aload_n (i := 0) dX5_readArguments_196 rfl rfl ?_
    refine z_iload_n (i := 1) dX5_readArguments_197 rfl rfl ?_
    refine z_iconst (v := (0 : Int32)) dX5_readArguments_198 kc_0 ?_
    refine z_iconst (v := (1 : Int32)) dX5_readArguments_199 kc_1 ?_
    refine z_sipush (v := (300 : Int32)) dX5_readArguments_200 ks_300 ?_
    obtain ⟨q50, hq51, h⟩ := bnd h
    refine z_fVi (sX5_readArgument M x1 (0 : Int32) (1 : Int32) (300 : Int32) hq51) dX5_readArguments_203 ml_X5_69 cd_X5_readArgument mk6 rfl rfl rfl rfl rfl rfl ?_
    cases h
    exact z_iret dX5_readArguments_206 rfl (bz_ok _) (Nat.le_refl _) (Nat.le_refl _) ⟨rfl, rfl⟩
theorem dX5_readCommands_0 : decode cX5_readCommands 0 = .ok (.iconst 0, 1) := by decide +kernel
theorem dX5_readCommands_1 : decode cX5_readCommands 1 = .ok (.istore_n 2, 1) := by decide +kernel
theorem dX5_readCommands_2 : decode cX5_readCommands 2 = .ok (.iload_n 2, 1) := by decide +kernel
theorem dX5_readCommands_3 : decode cX5_readCommands 3 = .ok (.bipush 30, 2) := by decide +kernel
theorem dX5_readCommands_5 : decode cX5_readCommands 5 = .ok (.if_icmp .gt 121, 3) := by decide +kernel
theorem dX5_readCommands_8 : decode cX5_readCommands 8 = .ok (.aload_n 0, 1) := by decide +kernel
theorem dX5_readCommands_9 : decode cX5_readCommands 9 = .ok (.getfield 9, 3) := by decide +kernel
theorem dX5_readCommands_12 : decode cX5_readCommands 12 = .ok (.invokevirtual 37, 3) := by decide +kernel
theorem dX5_readCommands_15 : decode cX5_readCommands 15 = .ok (.ifCond .eq 111, 3) := by decide +kernel
theorem dX5_readCommands_18 : decode cX5_readCommands 18 = .ok (.aload_n 0, 1) := by decide +kernel
theorem dX5_readCommands_19 : decode cX5_readCommands 19 = .ok (.invokevirtual 40, 3) := by decide +kernel
theorem dX5_readCommands_22 : decode cX5_readCommands 22 = .ok (.istore_n 3, 1) := by decide +kernel
theorem dX5_readCommands_23 : decode cX5_readCommands 23 = .ok (.iload_n 3, 1) := by decide +kernel
theorem dX5_readCommands_24 : decode cX5_readCommands 24 = .ok (.iconst (-1), 1) := by decide +kernel
theorem dX5_readCommands_25 : decode cX5_readCommands 25 = .ok (.if_icmp .ne 12, 3) := by decide +kernel
theorem dX5_readCommands_28 : decode cX5_readCommands 28 = .ok (.aload_n 0, 1) := by decide +kernel
theorem dX5_readCommands_29 : decode cX5_readCommands 29 = .ok (.getfield 9, 3) := by decide +kernel
theorem dX5_readCommands_32 : decode cX5_readCommands 32 = .ok (.iconst 1, 1) := by decide +kernel
theorem dX5_readCommands_33 : decode cX5_readCommands 33 = .ok (.invokevirtual 44, 3) := by decide +kernel
theorem dX5_readCommands_36 : decode cX5_readCommands 36 = .ok (.ireturn, 1) := by decide +kernel
theorem dX5_readCommands_37 : decode cX5_readCommands 37 = .ok (.aload_n 0, 1) := by decide +kernel
theorem dX5_readCommands_38 : decode cX5_readCommands 38 = .ok (.getfield 15, 3) := by decide +kernel
theorem dX5_readCommands_41 : decode cX5_readCommands 41 = .ok (.getfield 47, 3) := by decide +kernel
theorem dX5_readCommands_44 : decode cX5_readCommands 44 = .ok (.bipush 30, 2) := by decide +kernel
theorem dX5_readCommands_46 : decode cX5_readCommands 46 = .ok (.if_icmp .lt 12, 3) := by decide +kernel
theorem dX5_readCommands_49 : decode cX5_readCommands 49 = .ok (.aload_n 0, 1) := by decide +kernel
theorem dX5_readCommands_50 : decode cX5_readCommands 50 = .ok (.getfield 9, 3) := by decide +kernel
theorem dX5_readCommands_53 : decode cX5_readCommands 53 = .ok (.iconst 4, 1) := by decide +kernel
theorem dX5_readCommands_54 : decode cX5_readCommands 54 = .ok (.invokevirtual 44, 3) := by decide +kernel
theorem dX5_readCommands_57 : decode cX5_readCommands 57 = .ok (.ireturn, 1) := by decide +kernel
theorem dX5_readCommands_58 : decode cX5_readCommands 58 = .ok (.aload_n 0, 1) := by decide +kernel
theorem dX5_readCommands_59 : decode cX5_readCommands 59 = .ok (.getfield 9, 3) := by decide +kernel
theorem dX5_readCommands_62 : decode cX5_readCommands 62 = .ok (.invokevirtual 51, 3) := by decide +kernel
theorem dX5_readCommands_65 : decode cX5_readCommands 65 = .ok (.aload_n 0, 1) := by decide +kernel
theorem dX5_readCommands_66 : decode cX5_readCommands 66 = .ok (.getfield 15, 3) := by decide +kernel
theorem dX5_readCommands_69 : decode cX5_readCommands 69 = .ok (.iload_n 3, 1) := by decide +kernel
theorem dX5_readCommands_70 : decode cX5_readCommands 70 = .ok (.iload_n 1, 1) := by decide +kernel
theorem dX5_readCommands_71 : decode cX5_readCommands 71 = .ok (.invokevirtual 54, 3) := by decide +kernel
theorem dX5_readCommands_74 : decode cX5_readCommands 74 = .ok (.istore 4, 2) := by decide +kernel
theorem dX5_readCommands_76 : decode cX5_readCommands 76 = .ok (.iload_n 3, 1) := by decide +kernel
theorem dX5_readCommands_77 : decode cX5_readCommands 77 = .ok (.bipush 9, 2) := by decide +kernel
theorem dX5_readCommands_79 : decode cX5_readCommands 79 = .ok (.if_icmp .ne 13, 3) := by decide +kernel
theorem dX5_readCommands_82 : decode cX5_readCommands 82 = .ok (.aload_n 0, 1) := by decide +kernel
theorem dX5_readCommands_83 : decode cX5_readCommands 83 = .ok (.iload 4, 2) := by decide +kernel
theorem dX5_readCommands_85 : decode cX5_readCommands 85 = .ok (.iload_n 1, 1) := by decide +kernel
theorem dX5_readCommands_86 : decode cX5_readCommands 86 = .ok (.invokevirtual 58, 3) := by decide +kernel
theorem dX5_readCommands_89 : decode cX5_readCommands 89 = .ok (.goto 10, 3) := by decide +kernel
theorem dX5_readCommands_92 : decode cX5_readCommands 92 = .ok (.aload_n 0, 1) := by decide +kernel
theorem dX5_readCommands_93 : decode cX5_readCommands 93 = .ok (.iload 4, 2) := by decide +kernel
theorem dX5_readCommands_95 : decode cX5_readCommands 95 = .ok (.iload_n 3, 1) := by decide +kernel
theorem dX5_readCommands_96 : decode cX5_readCommands 96 = .ok (.invokevirtual 62, 3) := by decide +kernel
theorem dX5_readCommands_99 : decode cX5_readCommands 99 = .ok (.istore 5, 2) := by decide +kernel
theorem dX5_readCommands_101 : decode cX5_readCommands 101 = .ok (.iload 5, 2) := by decide +kernel
theorem dX5_readCommands_103 : decode cX5_readCommands 103 = .ok (.ifCond .eq 15, 3) := by decide +kernel
theorem dX5_readCommands_106 : decode cX5_readCommands 106 = .ok (.aload_n 0, 1) := by decide +kernel
theorem dX5_readCommands_107 : decode cX5_readCommands 107 = .ok (.getfield 9, 3) := by decide +kernel
theorem dX5_readCommands_110 : decode cX5_readCommands 110 = .ok (.bipush 59, 2) := by decide +kernel
theorem dX5_readCommands_112 : decode cX5_readCommands 112 = .ok (.invokevirtual 65, 3) := by decide +kernel
theorem dX5_readCommands_115 : decode cX5_readCommands 115 = .ok (.ifCond .ne 5, 3) := by decide +kernel
theorem dX5_readCommands_118 : decode cX5_readCommands 118 = .ok (.iconst 0, 1) := by decide +kernel
theorem dX5_readCommands_119 : decode cX5_readCommands 119 = .ok (.ireturn, 1) := by decide +kernel
theorem dX5_readCommands_120 : decode cX5_readCommands 120 = .ok (.iinc 2 1, 3) := by decide +kernel
theorem dX5_readCommands_123 : decode cX5_readCommands 123 = .ok (.goto (-121), 3) := by decide +kernel
theorem dX5_readCommands_126 : decode cX5_readCommands 126 = .ok (.iconst 1, 1) := by decide +kernel
theorem dX5_readCommands_127 : decode cX5_readCommands 127 = .ok (.ireturn, 1) := by decide +kernel
def fX5_readCommands_L2 (rc : Mm → Int32 → Option (Int32 × Mm)) (c1 : Int32) (K : Int32 → Mm → Option (Int32 × Mm)) : Nat → Int32 → Mm → Option (Int32 × Mm)
  | 0, _, _ => none
  | n + 1, v2, M => if (30 : Int32) < v2 then K v2 M else (fX7_atAnyWord M).bind fun q2 => if q2 = 0 then K v2 M else (fX5_kindHere M).bind fun q5 => if q5 = (-1 : Int32) then ((fX7_fail M (1 : Int32)).bind fun q26 => some ((bz q26.1), q26.2)) else if (M.1 (7, 0, 0) 4) < (30 : Int32) then ((fX4_putCommand (fX7_advance M) q5 c1).bind fun q9 => if q5 = (9 : Int32) then ((fX5_readRepeat rc q9.2 q9.1 c1).bind fun q18 => if q18.1 = 0 then some ((0 : Int32), q18.2) else (fX7_takeSign q18.2 (59 : Int32)).bind fun q21 => if q21.1 = 0 then some ((0 : Int32), q21.2) else fX5_readCommands_L2 rc c1 K n (v2 + (1 : Int32)) q21.2) else (fX5_readArguments q9.2 q9.1 q5).bind fun q12 => if q12.1 = 0 then some ((0 : Int32), q12.2) else (fX7_takeSign q12.2 (59 : Int32)).bind fun q15 => if q15.1 = 0 then some ((0 : Int32), q15.2) else fX5_readCommands_L2 rc c1 K n (v2 + (1 : Int32)) q15.2) else (fX7_fail M (4 : Int32)).bind fun q24 => some ((bz q24.1), q24.2)
def fX5_readCommands (rc : Mm → Int32 → Option (Int32 × Mm)) (M : Mm) (x1 : Int32) : Option (Int32 × Mm) := fX5_readCommands_L2 rc x1 (fun w28 M29 => some ((1 : Int32), M29)) NF (0 : Int32) M
def gX5_readCommands : Nat → Mm → Int32 → Option (Int32 × Mm)
  | 0, _, _ => none
  | n + 1, M, x1 => fX5_readCommands (gX5_readCommands n) M x1
set_option maxRecDepth 20000 in
set_option maxHeartbeats 2000000 in
theorem sX5_readCommands_L2 {wv : Nat} (rc : Mm → Int32 → Option (Int32 × Mm)) (c1 : Int32) (dd : Nat) (hrc : ∀ (M : Mm) (x1 : Int32) (res : (Int32 × Mm)), rc M x1 = some res → TF wv yX5_readCommands cX5_readCommands 6 (some .boolean) dd [.inr (6, 0, 0), .inl (.int x1)] M (some (.int res.1)) res.2) {res : (Int32 × Mm)} {K : Int32 → Mm → Option (Int32 × Mm)} : ∀ (n : Nat) (v2 : Int32) (M : Mm), fX5_readCommands_L2 rc c1 K n v2 M = some res →
    (∀ (v2 : Int32) (M : Mm), K v2 M = some res → Z RX5 cX5_readCommands 6 (some .boolean) [] "readCommands" (rmD (dd + 10) 0 0) (QM SH (allR wv) 0 0 (fun v M9 => v = some (.int res.1) ∧ M9 = res.2) (fun _ _ => False)) (allR wv) SH 0 0 126 [some (.inr (6, 0, 0)), some (.inl (.int c1)), some (.inl (.int v2)), none, none, none] [] M) → Z RX5 cX5_readCommands 6 (some .boolean) [] "readCommands" (rmD (dd + 10) 0 0) (QM SH (allR wv) 0 0 (fun v M9 => v = some (.int res.1) ∧ M9 = res.2) (fun _ _ => False)) (allR wv) SH 0 0 2 [some (.inr (6, 0, 0)), some (.inl (.int c1)), some (.inl (.int v2)), none, none, none] [] M := by
  intro n
  induction n with
  | zero => intro v2 M h; cases h
  | succ n ih =>
    intro v2 M h hK
    rw [fX5_readCommands_L2] at h
    refine z_iload_n (i := 2) dX5_readCommands_2 rfl rfl ?_
    refine z_bipush (v := (30 : Int32)) dX5_readCommands_3 kb_30 ?_
    refine z_icmp_gt (tgt := 126) dX5_readCommands_5 rfl (fun hc1 => ?_) (fun hc1 => ?_)
    · have h := it_t h hc1
      exact hK _ _ h
    · have h := it_f h hc1
      refine z_aload_n (i := 0) dX5_readCommands_8 rfl rfl ?_
      refine z_getR (r' := (3, 0, 0)) dX5_readCommands_9 fl_X5_9 mk6 rfl rfl ?_
      obtain ⟨q2, hq3, h⟩ := bnd h
      refine z_fVi (sX7_atAnyWord M hq3) dX5_readCommands_12 ml_X5_37 cd_X7_atAnyWord mk3 rfl rfl rfl (rmk_d (by omega) (by decide)) rfl rfl ?_
      refine z_if_eq (tgt := 126) dX5_readCommands_15 rfl (fun hc4 => ?_) (fun hc4 => ?_)
      · have h := it_t h hc4
        exact hK _ _ h
      · have h := it_f h hc4
        refine z_aload_n (i := 0) dX5_readCommands_18 rfl rfl ?_
        obtain ⟨q5, hq6, h⟩ := bnd h
        refine z_fVi (sX5_kindHere M hq6) dX5_readCommands_19 ml_X5_40 cd_X5_kindHere mk6 rfl rfl rfl (rmk_d (by omega) (by decide)) rfl rfl ?_
        refine z_istore_n (i := 3) dX5_readCommands_22 rfl (Nat.le_of_ble_eq_true rfl) rfl ?_
        refine z_iload_n (i := 3) dX5_readCommands_23 rfl rfl ?_
        refine z_iconst (v := (-1 : Int32)) dX5_readCommands_24 kc_m1 ?_
        refine z_icmp_ne (tgt := 37) dX5_readCommands_25 rfl (fun hc7 => ?_) (fun hc7 => ?_)
        · have h := it_f h hc7
          refine z_aload_n (i := 0) dX5_readCommands_37 rfl rfl ?_
          refine z_getR (r' := (7, 0, 0)) dX5_readCommands_38 fl_X5_15 mk6 rfl rfl ?_
          refine z_getI (x := (M.1 (7, 0, 0) 4)) dX5_readCommands_41 fl_X5_47 mk7 rfl rfl ?_
          refine z_bipush (v := (30 : Int32)) dX5_readCommands_44 kb_30 ?_
          refine z_icmp_lt (tgt := 58) dX5_readCommands_46 rfl (fun hc8 => ?_) (fun hc8 => ?_)
          · have h := it_t h hc8
            refine z_aload_n (i := 0) dX5_readCommands_58 rfl rfl ?_
            refine z_getR (r' := (3, 0, 0)) dX5_readCommands_59 fl_X5_9 mk6 rfl rfl ?_
            refine z_fVv (sX7_advance M) dX5_readCommands_62 ml_X5_51 cd_X7_advance mk3 rfl rfl rfl (rmk_d (by omega) (by decide)) rfl rfl ?_
            refine z_aload_n (i := 0) dX5_readCommands_65 rfl rfl ?_
            refine z_getR (r' := (7, 0, 0)) dX5_readCommands_66 fl_X5_15 mk6 rfl rfl ?_
            refine z_iload_n (i := 3) dX5_readCommands_69 rfl rfl ?_
            refine z_iload_n (i := 1) dX5_readCommands_70 rfl rfl ?_
            obtain ⟨q9, hq10, h⟩ := bnd h
            refine z_fVi (sX4_putCommand (fX7_advance M) q5 c1 hq10) dX5_readCommands_71 ml_X5_54 cd_X4_putCommand mk7 rfl rfl rfl (rmk_d (by omega) (by decide)) rfl rfl ?_
            refine z_istore (i := 4) dX5_readCommands_74 (Nat.le_of_ble_eq_true rfl) rfl ?_
            refine z_iload_n (i := 3) dX5_readCommands_76 rfl rfl ?_
            refine z_bipush (v := (9 : Int32)) dX5_readCommands_77 kb_9 ?_
            refine z_icmp_ne (tgt := 92) dX5_readCommands_79 rfl (fun hc11 => ?_) (fun hc11 => ?_)
            · have h := it_f h hc11
              refine z_aload_n (i := 0) dX5_readCommands_92 rfl rfl ?_
              refine z_iload (i := 4) dX5_readCommands_93 rfl ?_
              refine z_iload_n (i := 3) dX5_readCommands_95 rfl rfl ?_
              obtain ⟨q12, hq13, h⟩ := bnd h
              refine z_fVi (sX5_readArguments q9.2 q9.1 q5 hq13) dX5_readCommands_96 ml_X5_62 cd_X5_readArguments mk6 rfl rfl rfl (rmk_d (by omega) (by decide)) rfl rfl ?_
              refine z_istore (i := 5) dX5_readCommands_99 (Nat.le_of_ble_eq_true rfl) rfl ?_
              refine z_iload (i := 5) dX5_readCommands_101 rfl ?_
              refine z_if_eq (tgt := 118) dX5_readCommands_103 rfl (fun hc14 => ?_) (fun hc14 => ?_)
              · have h := it_t h hc14
                refine z_iconst (v := (0 : Int32)) dX5_readCommands_118 kc_0 ?_
                cases h
                exact z_iret dX5_readCommands_119 rfl rfl (Nat.le_refl _) (Nat.le_refl _) ⟨rfl, rfl⟩
              · have h := it_f h hc14
                refine z_aload_n (i := 0) dX5_readCommands_106 rfl rfl ?_
                refine z_getR (r' := (3, 0, 0)) dX5_readCommands_107 fl_X5_9 mk6 rfl rfl ?_
                refine z_bipush (v := (59 : Int32)) dX5_readCommands_110 kb_59 ?_
                obtain ⟨q15, hq16, h⟩ := bnd h
                refine z_fVi (sX7_takeSign q12.2 (59 : Int32) hq16) dX5_readCommands_112 ml_X5_65 cd_X7_takeSign mk3 rfl rfl rfl (rmk_d (by omega) (by decide)) rfl rfl ?_
                refine z_if_ne (tgt := 120) dX5_readCommands_115 rfl (fun hc17 => ?_) (fun hc17 => ?_)
                · have h := it_f h hc17
                  refine z_iinc (i := 2) (v := (v2 + (1 : Int32))) dX5_readCommands_120 rfl (iinc_k kc_1) (Nat.le_of_ble_eq_true rfl) rfl ?_
                  refine z_goto (tgt := 2) dX5_readCommands_123 rfl ?_
                  refine z_fgt (i := 3) ?_
                  refine z_fgt (i := 4) ?_
                  refine z_fgt (i := 5) ?_
                  exact ih _ _ h hK
                · have h := it_t h hc17
                  refine z_iconst (v := (0 : Int32)) dX5_readCommands_118 kc_0 ?_
                  cases h
                  exact z_iret dX5_readCommands_119 rfl rfl (Nat.le_refl _) (Nat.le_refl _) ⟨rfl, rfl⟩
            · have h := it_t h hc11
              refine z_aload_n (i := 0) dX5_readCommands_82 rfl rfl ?_
              refine z_iload (i := 4) dX5_readCommands_83 rfl ?_
              refine z_iload_n (i := 1) dX5_readCommands_85 rfl rfl ?_
              obtain ⟨q18, hq19, h⟩ := bnd h
              refine z_fVi (sX5_readRepeat rc dd hrc q9.2 q9.1 c1 hq19) dX5_readCommands_86 ml_X5_58 cd_X5_readRepeat mk6 rfl rfl rfl (rmk_d (by omega) (by decide)) rfl rfl ?_
              refine z_goto (tgt := 99) dX5_readCommands_89 rfl ?_
              refine z_istore (i := 5) dX5_readCommands_99 (Nat.le_of_ble_eq_true rfl) rfl ?_
              refine z_iload (i := 5) dX5_readCommands_101 rfl ?_
              refine z_if_eq (tgt := 118) dX5_readCommands_103 rfl (fun hc20 => ?_) (fun hc20 => ?_)
              · have h := it_t h hc20
                refine z_iconst (v := (0 : Int32)) dX5_readCommands_118 kc_0 ?_
                cases h
                exact z_iret dX5_readCommands_119 rfl rfl (Nat.le_refl _) (Nat.le_refl _) ⟨rfl, rfl⟩
              · have h := it_f h hc20
                refine z_aload_n (i := 0) dX5_readCommands_106 rfl rfl ?_
                refine z_getR (r' := (3, 0, 0)) dX5_readCommands_107 fl_X5_9 mk6 rfl rfl ?_
                refine z_bipush (v := (59 : Int32)) dX5_readCommands_110 kb_59 ?_
                obtain ⟨q21, hq22, h⟩ := bnd h
                refine z_fVi (sX7_takeSign q18.2 (59 : Int32) hq22) dX5_readCommands_112 ml_X5_65 cd_X7_takeSign mk3 rfl rfl rfl (rmk_d (by omega) (by decide)) rfl rfl ?_
                refine z_if_ne (tgt := 120) dX5_readCommands_115 rfl (fun hc23 => ?_) (fun hc23 => ?_)
                · have h := it_f h hc23
                  refine z_iinc (i := 2) (v := (v2 + (1 : Int32))) dX5_readCommands_120 rfl (iinc_k kc_1) (Nat.le_of_ble_eq_true rfl) rfl ?_
                  refine z_goto (tgt := 2) dX5_readCommands_123 rfl ?_
                  refine z_fgt (i := 3) ?_
                  refine z_fgt (i := 4) ?_
                  refine z_fgt (i := 5) ?_
                  exact ih _ _ h hK
                · have h := it_t h hc23
                  refine z_iconst (v := (0 : Int32)) dX5_readCommands_118 kc_0 ?_
                  cases h
                  exact z_iret dX5_readCommands_119 rfl rfl (Nat.le_refl _) (Nat.le_refl _) ⟨rfl, rfl⟩
          · have h := it_f h hc8
            refine z_aload_n (i := 0) dX5_readCommands_49 rfl rfl ?_
            refine z_getR (r' := (3, 0, 0)) dX5_readCommands_50 fl_X5_9 mk6 rfl rfl ?_
            refine z_iconst (v := (4 : Int32)) dX5_readCommands_53 kc_4 ?_
            obtain ⟨q24, hq25, h⟩ := bnd h
            refine z_fVi (sX7_fail M (4 : Int32) hq25) dX5_readCommands_54 ml_X5_44 cd_X7_fail mk3 rfl rfl rfl (rmk_d (by omega) (by decide)) rfl rfl ?_
            cases h
            exact z_iret dX5_readCommands_57 rfl (bz_ok _) (Nat.le_refl _) (Nat.le_refl _) ⟨rfl, rfl⟩
        · have h := it_t h hc7
          refine z_aload_n (i := 0) dX5_readCommands_28 rfl rfl ?_
          refine z_getR (r' := (3, 0, 0)) dX5_readCommands_29 fl_X5_9 mk6 rfl rfl ?_
          refine z_iconst (v := (1 : Int32)) dX5_readCommands_32 kc_1 ?_
          obtain ⟨q26, hq27, h⟩ := bnd h
          refine z_fVi (sX7_fail M (1 : Int32) hq27) dX5_readCommands_33 ml_X5_44 cd_X7_fail mk3 rfl rfl rfl (rmk_d (by omega) (by decide)) rfl rfl ?_
          cases h
          exact z_iret dX5_readCommands_36 rfl (bz_ok _) (Nat.le_refl _) (Nat.le_refl _) ⟨rfl, rfl⟩
set_option maxRecDepth 20000 in
set_option maxHeartbeats 2000000 in
theorem sX5_readCommands {wv : Nat} (rc : Mm → Int32 → Option (Int32 × Mm)) (dd : Nat) (hrc : ∀ (M : Mm) (x1 : Int32) (res : (Int32 × Mm)), rc M x1 = some res → TF wv yX5_readCommands cX5_readCommands 6 (some .boolean) dd [.inr (6, 0, 0), .inl (.int x1)] M (some (.int res.1)) res.2) (M : Mm) (x1 : Int32) {res : (Int32 × Mm)} (h : fX5_readCommands rc M x1 = some res) : TF wv yX5_readCommands cX5_readCommands 6 (some .boolean) (dd + 10) [.inr (6, 0, 0), .inl (.int x1)] M (some (.int res.1)) res.2 := by
  rw [fX5_readCommands] at h
  refine TF.go (n := 4) (ls := [some (.inr (6, 0, 0)), some (.inl (.int x1)), none, none, none, none]) rfl rfl rfl rfl rfl ?_
  refine z_iconst (v := (0 : Int32)) dX5_readCommands_0 kc_0 ?_
  refine z_istore_n (i := 2) dX5_readCommands_1 rfl (Nat.le_of_ble_eq_true rfl) rfl ?_
  refine sX5_readCommands_L2 rc x1 dd hrc NF _ _ h (fun w28 M29 h => ?_)
  refine z_iconst (v := (1 : Int32)) dX5_readCommands_126 kc_1 ?_
  cases h
  exact z_iret dX5_readCommands_127 rfl rfl (Nat.le_refl _) (Nat.le_refl _) ⟨rfl, rfl⟩
set_option maxRecDepth 20000 in
set_option maxHeartbeats 2000000 in
theorem uX5_readCommands {wv : Nat} : ∀ (n : Nat) (M : Mm) (x1 : Int32) (res : (Int32 × Mm)), gX5_readCommands n M x1 = some res → TF wv yX5_readCommands cX5_readCommands 6 (some .boolean) (10 * n) [.inr (6, 0, 0), .inl (.int x1)] M (some (.int res.1)) res.2 := by
  intro n
  induction n with
  | zero => intro M x1  res h; cases h
  | succ n ih =>
    intro M x1  res h
    exact sX5_readCommands (gX5_readCommands n) (10 * n) (fun M x1  res h => ih M x1  res h) M x1  h
theorem dX7_takeEnd_0 : decode cX7_takeEnd 0 = .ok (.aload_n 0, 1) := by decide +kernel
theorem dX7_takeEnd_1 : decode cX7_takeEnd 1 = .ok (.iconst 0, 1) := by decide +kernel
theorem dX7_takeEnd_2 : decode cX7_takeEnd 2 = .ok (.invokevirtual 68, 3) := by decide +kernel
theorem dX7_takeEnd_5 : decode cX7_takeEnd 5 = .ok (.ifCond .ne 11, 3) := by decide +kernel
theorem dX7_takeEnd_8 : decode cX7_takeEnd 8 = .ok (.aload_n 0, 1) := by decide +kernel
theorem dX7_takeEnd_9 : decode cX7_takeEnd 9 = .ok (.iconst 1, 1) := by decide +kernel
theorem dX7_takeEnd_10 : decode cX7_takeEnd 10 = .ok (.invokevirtual 85, 3) := by decide +kernel
theorem dX7_takeEnd_13 : decode cX7_takeEnd 13 = .ok (.ifCond .eq 7, 3) := by decide +kernel
theorem dX7_takeEnd_16 : decode cX7_takeEnd 16 = .ok (.iconst 1, 1) := by decide +kernel
theorem dX7_takeEnd_17 : decode cX7_takeEnd 17 = .ok (.goto 4, 3) := by decide +kernel
theorem dX7_takeEnd_20 : decode cX7_takeEnd 20 = .ok (.iconst 0, 1) := by decide +kernel
theorem dX7_takeEnd_21 : decode cX7_takeEnd 21 = .ok (.ireturn, 1) := by decide +kernel
def fX7_takeEnd (M : Mm) : Option (Int32 × Mm) := (fX7_atKind M (0 : Int32)).bind fun q1 => if q1 = 0 then ((fX7_fail M (1 : Int32)).bind fun q4 => if q4.1 = 0 then some ((0 : Int32), q4.2) else some ((1 : Int32), q4.2)) else some ((1 : Int32), M)
set_option maxRecDepth 20000 in
set_option maxHeartbeats 2000000 in
theorem sX7_takeEnd {wv : Nat} (M : Mm) {res : (Int32 × Mm)} (h : fX7_takeEnd M  = some res) : TF wv yX7_takeEnd cX7_takeEnd 1 (some .boolean) 1 [.inr (3, 0, 0)] M (some (.int res.1)) res.2 := by
  rw [fX7_takeEnd] at h
  refine TF.go (n := 0) (ls := [some (.inr (3, 0, 0))]) rfl rfl rfl rfl rfl ?_
  refine z_aload_n (i := 0) dX7_takeEnd_0 rfl rfl ?_
  refine z_iconst (v := (0 : Int32)) dX7_takeEnd_1 kc_0 ?_
  obtain ⟨q1, hq2, h⟩ := bnd h
  refine z_fVi (sX7_atKind M (0 : Int32) hq2) dX7_takeEnd_2 ml_X7_68 cd_X7_atKind mk3 rfl rfl rfl rfl rfl rfl ?_
  refine z_if_ne (tgt := 16) dX7_takeEnd_5 rfl (fun hc3 => ?_) (fun hc3 => ?_)
  · have h := it_f h hc3
    refine z_iconst (v := (1 : Int32)) dX7_takeEnd_16 kc_1 ?_
    refine z_goto (tgt := 21) dX7_takeEnd_17 rfl ?_
    cases h
    exact z_iret dX7_takeEnd_21 rfl rfl (Nat.le_refl _) (Nat.le_refl _) ⟨rfl, rfl⟩
  · have h := it_t h hc3
    refine z_aload_n (i := 0) dX7_takeEnd_8 rfl rfl ?_
    refine z_iconst (v := (1 : Int32)) dX7_takeEnd_9 kc_1 ?_
    obtain ⟨q4, hq5, h⟩ := bnd h
    refine z_fVi (sX7_fail M (1 : Int32) hq5) dX7_takeEnd_10 ml_X7_85 cd_X7_fail mk3 rfl rfl rfl rfl rfl rfl ?_
    refine z_if_eq (tgt := 20) dX7_takeEnd_13 rfl (fun hc6 => ?_) (fun hc6 => ?_)
    · have h := it_t h hc6
      refine z_iconst (v := (0 : Int32)) dX7_takeEnd_20 kc_0 ?_
      cases h
      exact z_iret dX7_takeEnd_21 rfl rfl (Nat.le_refl _) (Nat.le_refl _) ⟨rfl, rfl⟩
    · have h := it_f h hc6
      refine z_iconst (v := (1 : Int32)) dX7_takeEnd_16 kc_1 ?_
      refine z_goto (tgt := 21) dX7_takeEnd_17 rfl ?_
      cases h
      exact z_iret dX7_takeEnd_21 rfl rfl (Nat.le_refl _) (Nat.le_refl _) ⟨rfl, rfl⟩
theorem dX5_readScript_0 : decode cX5_readScript 0 = .ok (.aload_n 0, 1) := by decide +kernel
theorem dX5_readScript_1 : decode cX5_readScript 1 = .ok (.getfield 15, 3) := by decide +kernel
theorem dX5_readScript_4 : decode cX5_readScript 4 = .ok (.invokevirtual 19, 3) := by decide +kernel
theorem dX5_readScript_7 : decode cX5_readScript 7 = .ok (.aload_n 0, 1) := by decide +kernel
theorem dX5_readScript_8 : decode cX5_readScript 8 = .ok (.getfield 9, 3) := by decide +kernel
theorem dX5_readScript_11 : decode cX5_readScript 11 = .ok (.invokevirtual 24, 3) := by decide +kernel
theorem dX5_readScript_14 : decode cX5_readScript 14 = .ok (.aload_n 0, 1) := by decide +kernel
theorem dX5_readScript_15 : decode cX5_readScript 15 = .ok (.iconst 0, 1) := by decide +kernel
theorem dX5_readScript_16 : decode cX5_readScript 16 = .ok (.invokevirtual 29, 3) := by decide +kernel
theorem dX5_readScript_19 : decode cX5_readScript 19 = .ok (.ifCond .eq 17, 3) := by decide +kernel
theorem dX5_readScript_22 : decode cX5_readScript 22 = .ok (.aload_n 0, 1) := by decide +kernel
theorem dX5_readScript_23 : decode cX5_readScript 23 = .ok (.getfield 9, 3) := by decide +kernel
theorem dX5_readScript_26 : decode cX5_readScript 26 = .ok (.invokevirtual 33, 3) := by decide +kernel
theorem dX5_readScript_29 : decode cX5_readScript 29 = .ok (.ifCond .eq 7, 3) := by decide +kernel
theorem dX5_readScript_32 : decode cX5_readScript 32 = .ok (.iconst 1, 1) := by decide +kernel
theorem dX5_readScript_33 : decode cX5_readScript 33 = .ok (.goto 4, 3) := by decide +kernel
theorem dX5_readScript_36 : decode cX5_readScript 36 = .ok (.iconst 0, 1) := by decide +kernel
theorem dX5_readScript_37 : decode cX5_readScript 37 = .ok (.ireturn, 1) := by decide +kernel
def fX5_readScript (M : Mm) : Option (Int32 × Mm) := (fX7_scan (fX4_begin M)).bind fun q1 => (gX5_readCommands 6 q1 (0 : Int32)).bind fun q3 => if q3.1 = 0 then some ((0 : Int32), q3.2) else (fX7_takeEnd q3.2).bind fun q6 => if q6.1 = 0 then some ((0 : Int32), q6.2) else some ((1 : Int32), q6.2)
set_option maxRecDepth 20000 in
set_option maxHeartbeats 2000000 in
theorem sX5_readScript {wv : Nat} (M : Mm) {res : (Int32 × Mm)} (h : fX5_readScript M  = some res) : TF wv yX5_readScript cX5_readScript 1 (some .boolean) 61 [.inr (6, 0, 0)] M (some (.int res.1)) res.2 := by
  rw [fX5_readScript] at h
  refine TF.go (n := 0) (ls := [some (.inr (6, 0, 0))]) rfl rfl rfl rfl rfl ?_
  refine z_aload_n (i := 0) dX5_readScript_0 rfl rfl ?_
  refine z_getR (r' := (7, 0, 0)) dX5_readScript_1 fl_X5_15 mk6 rfl rfl ?_
  refine z_fVv (sX4_begin M) dX5_readScript_4 ml_X5_19 cd_X4_begin mk7 rfl rfl rfl rfl rfl rfl ?_
  refine z_aload_n (i := 0) dX5_readScript_7 rfl rfl ?_
  refine z_getR (r' := (3, 0, 0)) dX5_readScript_8 fl_X5_9 mk6 rfl rfl ?_
  obtain ⟨q1, hq2, h⟩ := bnd h
  refine z_fVv (sX7_scan (fX4_begin M) hq2) dX5_readScript_11 ml_X5_24 cd_X7_scan mk3 rfl rfl rfl rfl rfl rfl ?_
  refine z_aload_n (i := 0) dX5_readScript_14 rfl rfl ?_
  refine z_iconst (v := (0 : Int32)) dX5_readScript_15 kc_0 ?_
  obtain ⟨q3, hq4, h⟩ := bnd h
  refine z_fVi (uX5_readCommands 6 q1 (0 : Int32) _ hq4) dX5_readScript_16 ml_X5_29 cd_X5_readCommands mk6 rfl rfl rfl rfl rfl rfl ?_
  refine z_if_eq (tgt := 36) dX5_readScript_19 rfl (fun hc5 => ?_) (fun hc5 => ?_)
  · have h := it_t h hc5
    refine z_iconst (v := (0 : Int32)) dX5_readScript_36 kc_0 ?_
    cases h
    exact z_iret dX5_readScript_37 rfl rfl (Nat.le_refl _) (Nat.le_refl _) ⟨rfl, rfl⟩
  · have h := it_f h hc5
    refine z_aload_n (i := 0) dX5_readScript_22 rfl rfl ?_
    refine z_getR (r' := (3, 0, 0)) dX5_readScript_23 fl_X5_9 mk6 rfl rfl ?_
    obtain ⟨q6, hq7, h⟩ := bnd h
    refine z_fVi (sX7_takeEnd q3.2 hq7) dX5_readScript_26 ml_X5_33 cd_X7_takeEnd mk3 rfl rfl rfl rfl rfl rfl ?_
    refine z_if_eq (tgt := 36) dX5_readScript_29 rfl (fun hc8 => ?_) (fun hc8 => ?_)
    · have h := it_t h hc8
      refine z_iconst (v := (0 : Int32)) dX5_readScript_36 kc_0 ?_
      cases h
      exact z_iret dX5_readScript_37 rfl rfl (Nat.le_refl _) (Nat.le_refl _) ⟨rfl, rfl⟩
    · have h := it_f h hc8
      refine z_iconst (v := (1 : Int32)) dX5_readScript_32 kc_1 ?_
      refine z_goto (tgt := 37) dX5_readScript_33 rfl ?_
      cases h
      exact z_iret dX5_readScript_37 rfl rfl (Nat.le_refl _) (Nat.le_refl _) ⟨rfl, rfl⟩
theorem dX7_takeWord_0 : decode cX7_takeWord 0 = .ok (.aload_n 0, 1) := by decide +kernel
theorem dX7_takeWord_1 : decode cX7_takeWord 1 = .ok (.aload_n 1, 1) := by decide +kernel
theorem dX7_takeWord_2 : decode cX7_takeWord 2 = .ok (.invokevirtual 81, 3) := by decide +kernel
theorem dX7_takeWord_5 : decode cX7_takeWord 5 = .ok (.ifCond .ne 9, 3) := by decide +kernel
theorem dX7_takeWord_8 : decode cX7_takeWord 8 = .ok (.aload_n 0, 1) := by decide +kernel
theorem dX7_takeWord_9 : decode cX7_takeWord 9 = .ok (.iconst 1, 1) := by decide +kernel
theorem dX7_takeWord_10 : decode cX7_takeWord 10 = .ok (.invokevirtual 85, 3) := by decide +kernel
theorem dX7_takeWord_13 : decode cX7_takeWord 13 = .ok (.ireturn, 1) := by decide +kernel
theorem dX7_takeWord_14 : decode cX7_takeWord 14 = .ok (.aload_n 0, 1) := by decide +kernel
theorem dX7_takeWord_15 : decode cX7_takeWord 15 = .ok (.invokevirtual 88, 3) := by decide +kernel
theorem dX7_takeWord_18 : decode cX7_takeWord 18 = .ok (.iconst 1, 1) := by decide +kernel
theorem dX7_takeWord_19 : decode cX7_takeWord 19 = .ok (.ireturn, 1) := by decide +kernel
def fX7_takeWord (M : Mm) (j1 : Nat) : Option (Int32 × Mm) := (fX7_atWord M j1).bind fun q1 => if q1 = 0 then ((fX7_fail M (1 : Int32)).bind fun q4 => some ((bz q4.1), q4.2)) else some ((1 : Int32), (fX7_advance M))
set_option maxRecDepth 20000 in
set_option maxHeartbeats 2000000 in
theorem sX7_takeWord {wv : Nat} (M : Mm) (j1 : Nat) (hj1 : j1 < 22) {res : (Int32 × Mm)} (h : fX7_takeWord M j1 = some res) : TF wv yX7_takeWord cX7_takeWord 2 (some .boolean) 8 [.inr (3, 0, 0), .inr (30, j1, 0)] M (some (.int res.1)) res.2 := by
  rw [fX7_takeWord] at h
  refine TF.go (n := 0) (ls := [some (.inr (3, 0, 0)), some (.inr (30, j1, 0))]) rfl rfl rfl rfl rfl ?_
  refine z_aload_n (i := 0) dX7_takeWord_0 rfl rfl ?_
  refine z_aload_n (i := 1) dX7_takeWord_1 rfl rfl ?_
  obtain ⟨q1, hq2, h⟩ := bnd h
  refine z_fVi (sX7_atWord M j1 hj1 hq2) dX7_takeWord_2 ml_X7_81 cd_X7_atWord mk3 rfl rfl rfl rfl rfl rfl ?_
  refine z_if_ne (tgt := 14) dX7_takeWord_5 rfl (fun hc3 => ?_) (fun hc3 => ?_)
  · have h := it_f h hc3
    refine z_aload_n (i := 0) dX7_takeWord_14 rfl rfl ?_
    refine z_fVv (sX7_advance M) dX7_takeWord_15 ml_X7_88 cd_X7_advance mk3 rfl rfl rfl rfl rfl rfl ?_
    refine z_iconst (v := (1 : Int32)) dX7_takeWord_18 kc_1 ?_
    cases h
    exact z_iret dX7_takeWord_19 rfl rfl (Nat.le_refl _) (Nat.le_refl _) ⟨rfl, rfl⟩
  · have h := it_t h hc3
    refine z_aload_n (i := 0) dX7_takeWord_8 rfl rfl ?_
    refine z_iconst (v := (1 : Int32)) dX7_takeWord_9 kc_1 ?_
    obtain ⟨q4, hq5, h⟩ := bnd h
    refine z_fVi (sX7_fail M (1 : Int32) hq5) dX7_takeWord_10 ml_X7_85 cd_X7_fail mk3 rfl rfl rfl rfl rfl rfl ?_
    cases h
    exact z_iret dX7_takeWord_13 rfl (bz_ok _) (Nat.le_refl _) (Nat.le_refl _) ⟨rfl, rfl⟩
theorem dX6_readHead_0 : decode cX6_readHead 0 = .ok (.aload_n 0, 1) := by decide +kernel
theorem dX6_readHead_1 : decode cX6_readHead 1 = .ok (.getfield 9, 3) := by decide +kernel
theorem dX6_readHead_4 : decode cX6_readHead 4 = .ok (.ldc 48, 2) := by decide +kernel
theorem dX6_readHead_6 : decode cX6_readHead 6 = .ok (.invokevirtual 50, 3) := by decide +kernel
theorem dX6_readHead_9 : decode cX6_readHead 9 = .ok (.ifCond .ne 5, 3) := by decide +kernel
theorem dX6_readHead_12 : decode cX6_readHead 12 = .ok (.iconst 0, 1) := by decide +kernel
theorem dX6_readHead_13 : decode cX6_readHead 13 = .ok (.ireturn, 1) := by decide +kernel
theorem dX6_readHead_14 : decode cX6_readHead 14 = .ok (.aload_n 0, 1) := by decide +kernel
theorem dX6_readHead_15 : decode cX6_readHead 15 = .ok (.getfield 9, 3) := by decide +kernel
theorem dX6_readHead_18 : decode cX6_readHead 18 = .ok (.iconst 4, 1) := by decide +kernel
theorem dX6_readHead_19 : decode cX6_readHead 19 = .ok (.bipush 64, 2) := by decide +kernel
theorem dX6_readHead_21 : decode cX6_readHead 21 = .ok (.invokevirtual 53, 3) := by decide +kernel
theorem dX6_readHead_24 : decode cX6_readHead 24 = .ok (.istore_n 1, 1) := by decide +kernel
theorem dX6_readHead_25 : decode cX6_readHead 25 = .ok (.iload_n 1, 1) := by decide +kernel
theorem dX6_readHead_26 : decode cX6_readHead 26 = .ok (.iconst (-1), 1) := by decide +kernel
theorem dX6_readHead_27 : decode cX6_readHead 27 = .ok (.if_icmp .ne 5, 3) := by decide +kernel
theorem dX6_readHead_30 : decode cX6_readHead 30 = .ok (.iconst 0, 1) := by decide +kernel
theorem dX6_readHead_31 : decode cX6_readHead 31 = .ok (.ireturn, 1) := by decide +kernel
theorem dX6_readHead_32 : decode cX6_readHead 32 = .ok (.aload_n 0, 1) := by decide +kernel
theorem dX6_readHead_33 : decode cX6_readHead 33 = .ok (.getfield 9, 3) := by decide +kernel
theorem dX6_readHead_36 : decode cX6_readHead 36 = .ok (.iconst 0, 1) := by decide +kernel
theorem dX6_readHead_37 : decode cX6_readHead 37 = .ok (.bipush 20, 2) := by decide +kernel
theorem dX6_readHead_39 : decode cX6_readHead 39 = .ok (.invokevirtual 53, 3) := by decide +kernel
theorem dX6_readHead_42 : decode cX6_readHead 42 = .ok (.istore_n 2, 1) := by decide +kernel
theorem dX6_readHead_43 : decode cX6_readHead 43 = .ok (.iload_n 2, 1) := by decide +kernel
theorem dX6_readHead_44 : decode cX6_readHead 44 = .ok (.iconst (-1), 1) := by decide +kernel
theorem dX6_readHead_45 : decode cX6_readHead 45 = .ok (.if_icmp .ne 5, 3) := by decide +kernel
theorem dX6_readHead_48 : decode cX6_readHead 48 = .ok (.iconst 0, 1) := by decide +kernel
theorem dX6_readHead_49 : decode cX6_readHead 49 = .ok (.ireturn, 1) := by decide +kernel
theorem dX6_readHead_50 : decode cX6_readHead 50 = .ok (.aload_n 0, 1) := by decide +kernel
theorem dX6_readHead_51 : decode cX6_readHead 51 = .ok (.getfield 9, 3) := by decide +kernel
theorem dX6_readHead_54 : decode cX6_readHead 54 = .ok (.iconst 0, 1) := by decide +kernel
theorem dX6_readHead_55 : decode cX6_readHead 55 = .ok (.bipush 90, 2) := by decide +kernel
theorem dX6_readHead_57 : decode cX6_readHead 57 = .ok (.invokevirtual 53, 3) := by decide +kernel
theorem dX6_readHead_60 : decode cX6_readHead 60 = .ok (.istore_n 3, 1) := by decide +kernel
theorem dX6_readHead_61 : decode cX6_readHead 61 = .ok (.iload_n 3, 1) := by decide +kernel
theorem dX6_readHead_62 : decode cX6_readHead 62 = .ok (.iconst (-1), 1) := by decide +kernel
theorem dX6_readHead_63 : decode cX6_readHead 63 = .ok (.if_icmp .ne 5, 3) := by decide +kernel
theorem dX6_readHead_66 : decode cX6_readHead 66 = .ok (.iconst 0, 1) := by decide +kernel
theorem dX6_readHead_67 : decode cX6_readHead 67 = .ok (.ireturn, 1) := by decide +kernel
theorem dX6_readHead_68 : decode cX6_readHead 68 = .ok (.aload_n 0, 1) := by decide +kernel
theorem dX6_readHead_69 : decode cX6_readHead 69 = .ok (.getfield 15, 3) := by decide +kernel
theorem dX6_readHead_72 : decode cX6_readHead 72 = .ok (.iload_n 1, 1) := by decide +kernel
theorem dX6_readHead_73 : decode cX6_readHead 73 = .ok (.iload_n 2, 1) := by decide +kernel
theorem dX6_readHead_74 : decode cX6_readHead 74 = .ok (.iload_n 3, 1) := by decide +kernel
theorem dX6_readHead_75 : decode cX6_readHead 75 = .ok (.invokevirtual 57, 3) := by decide +kernel
theorem dX6_readHead_78 : decode cX6_readHead 78 = .ok (.aload_n 0, 1) := by decide +kernel
theorem dX6_readHead_79 : decode cX6_readHead 79 = .ok (.getfield 9, 3) := by decide +kernel
theorem dX6_readHead_82 : decode cX6_readHead 82 = .ok (.bipush 59, 2) := by decide +kernel
theorem dX6_readHead_84 : decode cX6_readHead 84 = .ok (.invokevirtual 63, 3) := by decide +kernel
theorem dX6_readHead_87 : decode cX6_readHead 87 = .ok (.ireturn, 1) := by decide +kernel
def fX6_readHead (M : Mm) : Option (Int32 × Mm) := (fX7_takeWord M 1).bind fun q1 => if q1.1 = 0 then some ((0 : Int32), q1.2) else (fX7_takeNumber q1.2 (4 : Int32) (64 : Int32)).bind fun q4 => if q4.1 = (-1 : Int32) then some ((0 : Int32), q4.2) else (fX7_takeNumber q4.2 (0 : Int32) (20 : Int32)).bind fun q7 => if q7.1 = (-1 : Int32) then some ((0 : Int32), q7.2) else (fX7_takeNumber q7.2 (0 : Int32) (90 : Int32)).bind fun q10 => if q10.1 = (-1 : Int32) then some ((0 : Int32), q10.2) else (fX0_begin q10.2 1 q4.1 q7.1 q10.1).bind fun q13 => (fX7_takeSign q13 (59 : Int32)).bind fun q15 => some ((bz q15.1), q15.2)
set_option maxRecDepth 20000 in
set_option maxHeartbeats 2000000 in
theorem sX6_readHead {wv : Nat} (M : Mm) {res : (Int32 × Mm)} (h : fX6_readHead M  = some res) : TF wv yX6_readHead cX6_readHead 4 (some .boolean) 9 [.inr (5, 0, 0)] M (some (.int res.1)) res.2 := by
  rw [fX6_readHead] at h
  refine TF.go (n := 3) (ls := [some (.inr (5, 0, 0)), none, none, none]) rfl rfl rfl rfl rfl ?_
  refine z_aload_n (i := 0) dX6_readHead_0 rfl rfl ?_
  refine z_getR (r' := (3, 0, 0)) dX6_readHead_1 fl_X6_9 mk5 rfl rfl ?_
  refine z_ldcS (j := 1) dX6_readHead_4 sw_RX6_48 ?_
  obtain ⟨q1, hq2, h⟩ := bnd h
  refine z_fVi (sX7_takeWord M 1 (Nat.le_of_ble_eq_true rfl) hq2) dX6_readHead_6 ml_X6_50 cd_X7_takeWord mk3 rfl rfl rfl rfl rfl rfl ?_
  refine z_if_ne (tgt := 14) dX6_readHead_9 rfl (fun hc3 => ?_) (fun hc3 => ?_)
  · have h := it_f h hc3
    refine z_aload_n (i := 0) dX6_readHead_14 rfl rfl ?_
    refine z_getR (r' := (3, 0, 0)) dX6_readHead_15 fl_X6_9 mk5 rfl rfl ?_
    refine z_iconst (v := (4 : Int32)) dX6_readHead_18 kc_4 ?_
    refine z_bipush (v := (64 : Int32)) dX6_readHead_19 kb_64 ?_
    obtain ⟨q4, hq5, h⟩ := bnd h
    refine z_fVi (sX7_takeNumber q1.2 (4 : Int32) (64 : Int32) hq5) dX6_readHead_21 ml_X6_53 cd_X7_takeNumber mk3 rfl rfl rfl rfl rfl rfl ?_
    refine z_istore_n (i := 1) dX6_readHead_24 rfl (Nat.le_of_ble_eq_true rfl) rfl ?_
    refine z_iload_n (i := 1) dX6_readHead_25 rfl rfl ?_
    refine z_iconst (v := (-1 : Int32)) dX6_readHead_26 kc_m1 ?_
    refine z_icmp_ne (tgt := 32) dX6_readHead_27 rfl (fun hc6 => ?_) (fun hc6 => ?_)
    · have h := it_f h hc6
      refine z_aload_n (i := 0) dX6_readHead_32 rfl rfl ?_
      refine z_getR (r' := (3, 0, 0)) dX6_readHead_33 fl_X6_9 mk5 rfl rfl ?_
      refine z_iconst (v := (0 : Int32)) dX6_readHead_36 kc_0 ?_
      refine z_bipush (v := (20 : Int32)) dX6_readHead_37 kb_20 ?_
      obtain ⟨q7, hq8, h⟩ := bnd h
      refine z_fVi (sX7_takeNumber q4.2 (0 : Int32) (20 : Int32) hq8) dX6_readHead_39 ml_X6_53 cd_X7_takeNumber mk3 rfl rfl rfl rfl rfl rfl ?_
      refine z_istore_n (i := 2) dX6_readHead_42 rfl (Nat.le_of_ble_eq_true rfl) rfl ?_
      refine z_iload_n (i := 2) dX6_readHead_43 rfl rfl ?_
      refine z_iconst (v := (-1 : Int32)) dX6_readHead_44 kc_m1 ?_
      refine z_icmp_ne (tgt := 50) dX6_readHead_45 rfl (fun hc9 => ?_) (fun hc9 => ?_)
      · have h := it_f h hc9
        refine z_aload_n (i := 0) dX6_readHead_50 rfl rfl ?_
        refine z_getR (r' := (3, 0, 0)) dX6_readHead_51 fl_X6_9 mk5 rfl rfl ?_
        refine z_iconst (v := (0 : Int32)) dX6_readHead_54 kc_0 ?_
        refine z_bipush (v := (90 : Int32)) dX6_readHead_55 kb_90 ?_
        obtain ⟨q10, hq11, h⟩ := bnd h
        refine z_fVi (sX7_takeNumber q7.2 (0 : Int32) (90 : Int32) hq11) dX6_readHead_57 ml_X6_53 cd_X7_takeNumber mk3 rfl rfl rfl rfl rfl rfl ?_
        refine z_istore_n (i := 3) dX6_readHead_60 rfl (Nat.le_of_ble_eq_true rfl) rfl ?_
        refine z_iload_n (i := 3) dX6_readHead_61 rfl rfl ?_
        refine z_iconst (v := (-1 : Int32)) dX6_readHead_62 kc_m1 ?_
        refine z_icmp_ne (tgt := 68) dX6_readHead_63 rfl (fun hc12 => ?_) (fun hc12 => ?_)
        · have h := it_f h hc12
          refine z_aload_n (i := 0) dX6_readHead_68 rfl rfl ?_
          refine z_getR (r' := (9, 1, 0)) dX6_readHead_69 fl_X6_15 mk5 rfl rfl ?_
          refine z_iload_n (i := 1) dX6_readHead_72 rfl rfl ?_
          refine z_iload_n (i := 2) dX6_readHead_73 rfl rfl ?_
          refine z_iload_n (i := 3) dX6_readHead_74 rfl rfl ?_
          obtain ⟨q13, hq14, h⟩ := bnd h
          refine z_fVv (sX0_begin q10.2 1 q4.1 q7.1 q10.1 (Nat.le_of_ble_eq_true rfl) hq14) dX6_readHead_75 ml_X6_57 cd_X0_begin (m9 _ (Nat.le_of_ble_eq_true rfl)) rfl rfl rfl rfl rfl rfl ?_
          refine z_aload_n (i := 0) dX6_readHead_78 rfl rfl ?_
          refine z_getR (r' := (3, 0, 0)) dX6_readHead_79 fl_X6_9 mk5 rfl rfl ?_
          refine z_bipush (v := (59 : Int32)) dX6_readHead_82 kb_59 ?_
          obtain ⟨q15, hq16, h⟩ := bnd h
          refine z_fVi (sX7_takeSign q13 (59 : Int32) hq16) dX6_readHead_84 ml_X6_63 cd_X7_takeSign mk3 rfl rfl rfl rfl rfl rfl ?_
          cases h
          exact z_iret dX6_readHead_87 rfl (bz_ok _) (Nat.le_refl _) (Nat.le_refl _) ⟨rfl, rfl⟩
        · have h := it_t h hc12
          refine z_iconst (v := (0 : Int32)) dX6_readHead_66 kc_0 ?_
          cases h
          exact z_iret dX6_readHead_67 rfl rfl (Nat.le_refl _) (Nat.le_refl _) ⟨rfl, rfl⟩
      · have h := it_t h hc9
        refine z_iconst (v := (0 : Int32)) dX6_readHead_48 kc_0 ?_
        cases h
        exact z_iret dX6_readHead_49 rfl rfl (Nat.le_refl _) (Nat.le_refl _) ⟨rfl, rfl⟩
    · have h := it_t h hc6
      refine z_iconst (v := (0 : Int32)) dX6_readHead_30 kc_0 ?_
      cases h
      exact z_iret dX6_readHead_31 rfl rfl (Nat.le_refl _) (Nat.le_refl _) ⟨rfl, rfl⟩
  · have h := it_t h hc3
    refine z_iconst (v := (0 : Int32)) dX6_readHead_12 kc_0 ?_
    cases h
    exact z_iret dX6_readHead_13 rfl rfl (Nat.le_refl _) (Nat.le_refl _) ⟨rfl, rfl⟩
