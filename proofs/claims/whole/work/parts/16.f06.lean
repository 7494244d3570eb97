theorem dX4_faultOf_0 : decode cX4_faultOf 0 = .ok (.aload_n 0, 1) := by decide +kernel
theorem dX4_faultOf_1 : decode cX4_faultOf 1 = .ok (.iload_n 3, 1) := by decide +kernel
theorem dX4_faultOf_2 : decode cX4_faultOf 2 = .ok (.iconst 0, 1) := by decide +kernel
theorem dX4_faultOf_3 : decode cX4_faultOf 3 = .ok (.invokevirtual 44, 3) := by decide +kernel
theorem dX4_faultOf_6 : decode cX4_faultOf 6 = .ok (.istore 4, 2) := by decide +kernel
theorem dX4_faultOf_8 : decode cX4_faultOf 8 = .ok (.aload_n 0, 1) := by decide +kernel
theorem dX4_faultOf_9 : decode cX4_faultOf 9 = .ok (.iload_n 3, 1) := by decide +kernel
theorem dX4_faultOf_10 : decode cX4_faultOf 10 = .ok (.iconst 1, 1) := by decide +kernel
theorem dX4_faultOf_11 : decode cX4_faultOf 11 = .ok (.invokevirtual 44, 3) := by decide +kernel
theorem dX4_faultOf_14 : decode cX4_faultOf 14 = .ok (.istore 5, 2) := by decide +kernel
theorem dX4_faultOf_16 : decode cX4_faultOf 16 = .ok (.aload_n 0, 1) := by decide +kernel
theorem dX4_faultOf_17 : decode cX4_faultOf 17 = .ok (.iload_n 3, 1) := by decide +kernel
theorem dX4_faultOf_18 : decode cX4_faultOf 18 = .ok (.iconst 2, 1) := by decide +kernel
theorem dX4_faultOf_19 : decode cX4_faultOf 19 = .ok (.invokevirtual 44, 3) := by decide +kernel
theorem dX4_faultOf_22 : decode cX4_faultOf 22 = .ok (.istore 6, 2) := by decide +kernel
theorem dX4_faultOf_24 : decode cX4_faultOf 24 = .ok (.iload_n 2, 1) := by decide +kernel
theorem dX4_faultOf_25 : decode cX4_faultOf 25 = .ok (.tableswitch 120 0 7 #[47, 58, 69, 78, 90, 97, 106, 113], 47) := by decide +kernel
theorem dX4_faultOf_72 : decode cX4_faultOf 72 = .ok (.aload_n 1, 1) := by decide +kernel
theorem dX4_faultOf_73 : decode cX4_faultOf 73 = .ok (.iload 4, 2) := by decide +kernel
theorem dX4_faultOf_75 : decode cX4_faultOf 75 = .ok (.iload 5, 2) := by decide +kernel
theorem dX4_faultOf_77 : decode cX4_faultOf 77 = .ok (.iload 6, 2) := by decide +kernel
theorem dX4_faultOf_79 : decode cX4_faultOf 79 = .ok (.invokevirtual 59, 3) := by decide +kernel
theorem dX4_faultOf_82 : decode cX4_faultOf 82 = .ok (.ireturn, 1) := by decide +kernel
theorem dX4_faultOf_83 : decode cX4_faultOf 83 = .ok (.aload_n 1, 1) := by decide +kernel
theorem dX4_faultOf_84 : decode cX4_faultOf 84 = .ok (.iload 4, 2) := by decide +kernel
theorem dX4_faultOf_86 : decode cX4_faultOf 86 = .ok (.iload 5, 2) := by decide +kernel
theorem dX4_faultOf_88 : decode cX4_faultOf 88 = .ok (.iload 6, 2) := by decide +kernel
theorem dX4_faultOf_90 : decode cX4_faultOf 90 = .ok (.invokevirtual 65, 3) := by decide +kernel
theorem dX4_faultOf_93 : decode cX4_faultOf 93 = .ok (.ireturn, 1) := by decide +kernel
theorem dX4_faultOf_94 : decode cX4_faultOf 94 = .ok (.aload_n 1, 1) := by decide +kernel
theorem dX4_faultOf_95 : decode cX4_faultOf 95 = .ok (.iload 4, 2) := by decide +kernel
theorem dX4_faultOf_97 : decode cX4_faultOf 97 = .ok (.iload 5, 2) := by decide +kernel
theorem dX4_faultOf_99 : decode cX4_faultOf 99 = .ok (.invokevirtual 68, 3) := by decide +kernel
theorem dX4_faultOf_102 : decode cX4_faultOf 102 = .ok (.ireturn, 1) := by decide +kernel
theorem dX4_faultOf_103 : decode cX4_faultOf 103 = .ok (.aload_n 1, 1) := by decide +kernel
theorem dX4_faultOf_104 : decode cX4_faultOf 104 = .ok (.iload 4, 2) := by decide +kernel
theorem dX4_faultOf_106 : decode cX4_faultOf 106 = .ok (.iload 5, 2) := by decide +kernel
theorem dX4_faultOf_108 : decode cX4_faultOf 108 = .ok (.iload 6, 2) := by decide +kernel
theorem dX4_faultOf_110 : decode cX4_faultOf 110 = .ok (.imul, 1) := by decide +kernel
theorem dX4_faultOf_111 : decode cX4_faultOf 111 = .ok (.invokevirtual 71, 3) := by decide +kernel
theorem dX4_faultOf_114 : decode cX4_faultOf 114 = .ok (.ireturn, 1) := by decide +kernel
theorem dX4_faultOf_115 : decode cX4_faultOf 115 = .ok (.aload_n 1, 1) := by decide +kernel
theorem dX4_faultOf_116 : decode cX4_faultOf 116 = .ok (.iload 4, 2) := by decide +kernel
theorem dX4_faultOf_118 : decode cX4_faultOf 118 = .ok (.invokevirtual 74, 3) := by decide +kernel
theorem dX4_faultOf_121 : decode cX4_faultOf 121 = .ok (.ireturn, 1) := by decide +kernel
theorem dX4_faultOf_122 : decode cX4_faultOf 122 = .ok (.iload 4, 2) := by decide +kernel
theorem dX4_faultOf_124 : decode cX4_faultOf 124 = .ok (.iconst 0, 1) := by decide +kernel
theorem dX4_faultOf_125 : decode cX4_faultOf 125 = .ok (.bipush 90, 2) := by decide +kernel
theorem dX4_faultOf_127 : decode cX4_faultOf 127 = .ok (.invokestatic 78, 3) := by decide +kernel
theorem dX4_faultOf_130 : decode cX4_faultOf 130 = .ok (.ireturn, 1) := by decide +kernel
theorem dX4_faultOf_131 : decode cX4_faultOf 131 = .ok (.aload_n 1, 1) := by decide +kernel
theorem dX4_faultOf_132 : decode cX4_faultOf 132 = .ok (.iload 4, 2) := by decide +kernel
theorem dX4_faultOf_134 : decode cX4_faultOf 134 = .ok (.invokevirtual 81, 3) := by decide +kernel
theorem dX4_faultOf_137 : decode cX4_faultOf 137 = .ok (.ireturn, 1) := by decide +kernel
theorem dX4_faultOf_138 : decode cX4_faultOf 138 = .ok (.aload_n 1, 1) := by decide +kernel
theorem dX4_faultOf_139 : decode cX4_faultOf 139 = .ok (.iload 4, 2) := by decide +kernel
theorem dX4_faultOf_141 : decode cX4_faultOf 141 = .ok (.invokevirtual 84, 3) := by decide +kernel
theorem dX4_faultOf_144 : decode cX4_faultOf 144 = .ok (.ireturn, 1) := by decide +kernel
theorem dX4_faultOf_145 : decode cX4_faultOf 145 = .ok (.aload_n 1, 1) := by decide +kernel
theorem dX4_faultOf_146 : decode cX4_faultOf 146 = .ok (.iload 4, 2) := by decide +kernel
theorem dX4_faultOf_148 : decode cX4_faultOf 148 = .ok (.invokevirtual 87, 3) := by decide +kernel
theorem dX4_faultOf_151 : decode cX4_faultOf 151 = .ok (.ireturn, 1) := by decide +kernel
def fX4_faultOf (M : Mm) (j1 : Nat) (x2 : Int32) (x3 : Int32) : Option Int32 := (fX4_argument M x3 (0 : Int32)).bind fun q1 => (fX4_argument M x3 (1 : Int32)).bind fun q3 => (fX4_argument M x3 (2 : Int32)).bind fun q5 => if x2 = (0 : Int32) then ((fX0_putPinFault M j1 q1 q3 q5).bind fun q8 => some q8) else if x2 = (1 : Int32) then ((fX0_takePinFault M j1 q1 q3 q5).bind fun q11 => some q11) else if x2 = (2 : Int32) then some (fX0_gapFault M j1 q1 q3) else if x2 = (3 : Int32) then ((fX0_bendFault M j1 q1 (q3 * q5)).bind fun q15 => some q15) else if x2 = (4 : Int32) then some (fX0_toothFault M j1 q1) else if x2 = (5 : Int32) then some (fX9_rangeFault M q1 (0 : Int32) (90 : Int32)) else if x2 = (6 : Int32) then some (fX0_windFault M j1 q1) else if x2 = (7 : Int32) then some (fX0_tuneFault M j1 q1) else some (fX0_playFault M j1 q1)
set_option maxRecDepth 20000 in
set_option maxHeartbeats 2000000 in
theorem sX4_faultOf {wv : Nat} (M : Mm) (j1 : Nat) (x2 : Int32) (x3 : Int32) (hj1 : j1 < 12) {res : Int32} (h : fX4_faultOf M j1 x2 x3 = some res) : TF wv yX4_faultOf cX4_faultOf 7 (some .int) 3 [.inr (7, 0, 0), .inr (9, j1, 0), .inl (.int x2), .inl (.int x3)] M (some (.int res)) M := by
  rw [fX4_faultOf] at h
  refine TF.go (n := 3) (ls := [some (.inr (7, 0, 0)), some (.inr (9, j1, 0)), some (.inl (.int x2)), some (.inl (.int x3)), none, none, none]) rfl rfl rfl rfl rfl ?_
  refine z_aload_n (i := 0) dX4_faultOf_0 rfl rfl ?_
  refine z_iload_n (i := 3) dX4_faultOf_1 rfl rfl ?_
  refine z_iconst (v := (0 : Int32)) dX4_faultOf_2 kc_0 ?_
  obtain ⟨q1, hq2, h⟩ := bnd h
  refine z_fVi (sX4_argument M x3 (0 : Int32) hq2) dX4_faultOf_3 ml_X4_44 cd_X4_argument mk7 rfl rfl rfl rfl rfl rfl ?_
  refine z_istore (i := 4) dX4_faultOf_6 (Nat.le_of_ble_eq_true rfl) rfl ?_
  refine z_aload_n (i := 0) dX4_faultOf_8 rfl rfl ?_
  refine z_iload_n (i := 3) dX4_faultOf_9 rfl rfl ?_
  refine z_iconst (v := (1 : Int32)) dX4_faultOf_10 kc_1 ?_
  obtain ⟨q3, hq4, h⟩ := bnd h
  refine z_fVi (sX4_argument M x3 (1 : Int32) hq4) dX4_faultOf_11 ml_X4_44 cd_X4_argument mk7 rfl rfl rfl rfl rfl rfl ?_
  refine z_istore (i := 5) dX4_faultOf_14 (Nat.le_of_ble_eq_true rfl) rfl ?_
  refine z_aload_n (i := 0) dX4_faultOf_16 rfl rfl ?_
  refine z_iload_n (i := 3) dX4_faultOf_17 rfl rfl ?_
  refine z_iconst (v := (2 : Int32)) dX4_faultOf_18 kc_2 ?_
  obtain ⟨q5, hq6, h⟩ := bnd h
  refine z_fVi (sX4_argument M x3 (2 : Int32) hq6) dX4_faultOf_19 ml_X4_44 cd_X4_argument mk7 rfl rfl rfl rfl rfl rfl ?_
  refine z_istore (i := 6) dX4_faultOf_22 (Nat.le_of_ble_eq_true rfl) rfl ?_
  refine z_iload_n (i := 2) dX4_faultOf_24 rfl rfl ?_
  by_cases hc7 : x2 = (0 : Int32)
  · have h := it_t h hc7
    refine z_tin (tgt := 72) dX4_faultOf_25 (by rw [hc7]; decide) (by rw [hc7]; decide) (off := 47) (by rw [hc7]; decide) rfl ?_
    refine z_aload_n (i := 1) dX4_faultOf_72 rfl rfl ?_
    refine z_iload (i := 4) dX4_faultOf_73 rfl ?_
    refine z_iload (i := 5) dX4_faultOf_75 rfl ?_
    refine z_iload (i := 6) dX4_faultOf_77 rfl ?_
    obtain ⟨q8, hq9, h⟩ := bnd h
    refine z_fVi (sX0_putPinFault M j1 q1 q3 q5 hj1 hq9) dX4_faultOf_79 ml_X4_59 cd_X0_putPinFault (m9 _ hj1) rfl rfl rfl rfl rfl rfl ?_
    cases h
    exact z_iret dX4_faultOf_82 rfl rfl (Nat.le_refl _) (Nat.le_refl _) ⟨rfl, rfl⟩
  have h := it_f h hc7
  by_cases hc10 : x2 = (1 : Int32)
  · have h := it_t h hc10
    refine z_tin (tgt := 83) dX4_faultOf_25 (by rw [hc10]; decide) (by rw [hc10]; decide) (off := 58) (by rw [hc10]; decide) rfl ?_
    refine z_aload_n (i := 1) dX4_faultOf_83 rfl rfl ?_
    refine z_iload (i := 4) dX4_faultOf_84 rfl ?_
    refine z_iload (i := 5) dX4_faultOf_86 rfl ?_
    refine z_iload (i := 6) dX4_faultOf_88 rfl ?_
    obtain ⟨q11, hq12, h⟩ := bnd h
    refine z_fVi (sX0_takePinFault M j1 q1 q3 q5 hj1 hq12) dX4_faultOf_90 ml_X4_65 cd_X0_takePinFault (m9 _ hj1) rfl rfl rfl rfl rfl rfl ?_
    cases h
    exact z_iret dX4_faultOf_93 rfl rfl (Nat.le_refl _) (Nat.le_refl _) ⟨rfl, rfl⟩
  have h := it_f h hc10
  by_cases hc13 : x2 = (2 : Int32)
  · have h := it_t h hc13
    refine z_tin (tgt := 94) dX4_faultOf_25 (by rw [hc13]; decide) (by rw [hc13]; decide) (off := 69) (by rw [hc13]; decide) rfl ?_
    refine z_aload_n (i := 1) dX4_faultOf_94 rfl rfl ?_
    refine z_iload (i := 4) dX4_faultOf_95 rfl ?_
    refine z_iload (i := 5) dX4_faultOf_97 rfl ?_
    refine z_fVi (sX0_gapFault M j1 q1 q3 hj1) dX4_faultOf_99 ml_X4_68 cd_X0_gapFault (m9 _ hj1) rfl rfl rfl rfl rfl rfl ?_
    cases h
    exact z_iret dX4_faultOf_102 rfl rfl (Nat.le_refl _) (Nat.le_refl _) ⟨rfl, rfl⟩
  have h := it_f h hc13
  by_cases hc14 : x2 = (3 : Int32)
  · have h := it_t h hc14
    refine z_tin (tgt := 103) dX4_faultOf_25 (by rw [hc14]; decide) (by rw [hc14]; decide) (off := 78) (by rw [hc14]; decide) rfl ?_
    refine z_aload_n (i := 1) dX4_faultOf_103 rfl rfl ?_
    refine z_iload (i := 4) dX4_faultOf_104 rfl ?_
    refine z_iload (i := 5) dX4_faultOf_106 rfl ?_
    refine z_iload (i := 6) dX4_faultOf_108 rfl ?_
    refine z_imul dX4_faultOf_110 ?_
    obtain ⟨q15, hq16, h⟩ := bnd h
    refine z_fVi (sX0_bendFault M j1 q1 (q3 * q5) hj1 hq16) dX4_faultOf_111 ml_X4_71 cd_X0_bendFault (m9 _ hj1) rfl rfl rfl rfl rfl rfl ?_
    cases h
    exact z_iret dX4_faultOf_114 rfl rfl (Nat.le_refl _) (Nat.le_refl _) ⟨rfl, rfl⟩
  have h := it_f h hc14
  by_cases hc17 : x2 = (4 : Int32)
  · have h := it_t h hc17
    refine z_tin (tgt := 115) dX4_faultOf_25 (by rw [hc17]; decide) (by rw [hc17]; decide) (off := 90) (by rw [hc17]; decide) rfl ?_
    refine z_aload_n (i := 1) dX4_faultOf_115 rfl rfl ?_
    refine z_iload (i := 4) dX4_faultOf_116 rfl ?_
    refine z_fVi (sX0_toothFault M j1 q1 hj1) dX4_faultOf_118 ml_X4_74 cd_X0_toothFault (m9 _ hj1) rfl rfl rfl rfl rfl rfl ?_
    cases h
    exact z_iret dX4_faultOf_121 rfl rfl (Nat.le_refl _) (Nat.le_refl _) ⟨rfl, rfl⟩
  have h := it_f h hc17
  by_cases hc18 : x2 = (5 : Int32)
  · have h := it_t h hc18
    refine z_tin (tgt := 122) dX4_faultOf_25 (by rw [hc18]; decide) (by rw [hc18]; decide) (off := 97) (by rw [hc18]; decide) rfl ?_
    refine z_iload (i := 4) dX4_faultOf_122 rfl ?_
    refine z_iconst (v := (0 : Int32)) dX4_faultOf_124 kc_0 ?_
    refine z_bipush (v := (90 : Int32)) dX4_faultOf_125 kb_90 ?_
    refine z_fSNi (sX9_rangeFault M q1 (0 : Int32) (90 : Int32)) dX4_faultOf_127 ml_X4_78 cd_X9_rangeFault rfl rfl rfl rfl rfl ?_
    cases h
    exact z_iret dX4_faultOf_130 rfl rfl (Nat.le_refl _) (Nat.le_refl _) ⟨rfl, rfl⟩
  have h := it_f h hc18
  by_cases hc19 : x2 = (6 : Int32)
  · have h := it_t h hc19
    refine z_tin (tgt := 131) dX4_faultOf_25 (by rw [hc19]; decide) (by rw [hc19]; decide) (off := 106) (by rw [hc19]; decide) rfl ?_
    refine z_aload_n (i := 1) dX4_faultOf_131 rfl rfl ?_
    refine z_iload (i := 4) dX4_faultOf_132 rfl ?_
    refine z_fVi (sX0_windFault M j1 q1 hj1) dX4_faultOf_134 ml_X4_81 cd_X0_windFault (m9 _ hj1) rfl rfl rfl rfl rfl rfl ?_
    cases h
    exact z_iret dX4_faultOf_137 rfl rfl (Nat.le_refl _) (Nat.le_refl _) ⟨rfl, rfl⟩
  have h := it_f h hc19
  by_cases hc20 : x2 = (7 : Int32)
  · have h := it_t h hc20
    refine z_tin (tgt := 138) dX4_faultOf_25 (by rw [hc20]; decide) (by rw [hc20]; decide) (off := 113) (by rw [hc20]; decide) rfl ?_
    refine z_aload_n (i := 1) dX4_faultOf_138 rfl rfl ?_
    refine z_iload (i := 4) dX4_faultOf_139 rfl ?_
    refine z_fVi (sX0_tuneFault M j1 q1 hj1) dX4_faultOf_141 ml_X4_84 cd_X0_tuneFault (m9 _ hj1) rfl rfl rfl rfl rfl rfl ?_
    cases h
    exact z_iret dX4_faultOf_144 rfl rfl (Nat.le_refl _) (Nat.le_refl _) ⟨rfl, rfl⟩
  have h := it_f h hc20
  refine z_tout (tgt := 145) dX4_faultOf_25 (tswo (fun k h1 h2 h3 => ?_)) rfl ?_
  · have h4 : k = 0 ∨ k = 1 ∨ k = 2 ∨ k = 3 ∨ k = 4 ∨ k = 5 ∨ k = 6 ∨ k = 7 := by omega
    rcases h4 with rfl | rfl | rfl | rfl | rfl | rfl | rfl | rfl
    · exact hc7 (Int32.toInt_inj.mp (h3.trans (by decide)))
    · exact hc10 (Int32.toInt_inj.mp (h3.trans (by decide)))
    · exact hc13 (Int32.toInt_inj.mp (h3.trans (by decide)))
    · exact hc14 (Int32.toInt_inj.mp (h3.trans (by decide)))
    · exact hc17 (Int32.toInt_inj.mp (h3.trans (by decide)))
    · exact hc18 (Int32.toInt_inj.mp (h3.trans (by decide)))
    · exact hc19 (Int32.toInt_inj.mp (h3.trans (by decide)))
    · exact hc20 (Int32.toInt_inj.mp (h3.trans (by decide)))
  · refine z_aload_n (i := 1) dX4_faultOf_145 rfl rfl ?_
    refine z_iload (i := 4) dX4_faultOf_146 rfl ?_
    refine z_fVi (sX0_playFault M j1 q1 hj1) dX4_faultOf_148 ml_X4_87 cd_X0_playFault (m9 _ hj1) rfl rfl rfl rfl rfl rfl ?_
    cases h
    exact z_iret dX4_faultOf_151 rfl rfl (Nat.le_refl _) (Nat.le_refl _) ⟨rfl, rfl⟩
theorem dX4_execute_0 : decode cX4_execute 0 = .ok (.aload_n 0, 1) := by decide +kernel
theorem dX4_execute_1 : decode cX4_execute 1 = .ok (.iload_n 3, 1) := by decide +kernel
theorem dX4_execute_2 : decode cX4_execute 2 = .ok (.iconst 0, 1) := by decide +kernel
theorem dX4_execute_3 : decode cX4_execute 3 = .ok (.invokevirtual 44, 3) := by decide +kernel
theorem dX4_execute_6 : decode cX4_execute 6 = .ok (.istore 4, 2) := by decide +kernel
theorem dX4_execute_8 : decode cX4_execute 8 = .ok (.aload_n 0, 1) := by decide +kernel
theorem dX4_execute_9 : decode cX4_execute 9 = .ok (.iload_n 3, 1) := by decide +kernel
theorem dX4_execute_10 : decode cX4_execute 10 = .ok (.iconst 1, 1) := by decide +kernel
theorem dX4_execute_11 : decode cX4_execute 11 = .ok (.invokevirtual 44, 3) := by decide +kernel
theorem dX4_execute_14 : decode cX4_execute 14 = .ok (.istore 5, 2) := by decide +kernel
theorem dX4_execute_16 : decode cX4_execute 16 = .ok (.aload_n 0, 1) := by decide +kernel
theorem dX4_execute_17 : decode cX4_execute 17 = .ok (.iload_n 3, 1) := by decide +kernel
theorem dX4_execute_18 : decode cX4_execute 18 = .ok (.iconst 2, 1) := by decide +kernel
theorem dX4_execute_19 : decode cX4_execute 19 = .ok (.invokevirtual 44, 3) := by decide +kernel
theorem dX4_execute_22 : decode cX4_execute 22 = .ok (.istore 6, 2) := by decide +kernel
theorem dX4_execute_24 : decode cX4_execute 24 = .ok (.iload_n 2, 1) := by decide +kernel
theorem dX4_execute_25 : decode cX4_execute 25 = .ok (.tableswitch 152 0 7 #[47, 63, 79, 94, 108, 117, 126, 140], 47) := by decide +kernel
theorem dX4_execute_72 : decode cX4_execute 72 = .ok (.aload_n 1, 1) := by decide +kernel
theorem dX4_execute_73 : decode cX4_execute 73 = .ok (.getfield 90, 3) := by decide +kernel
theorem dX4_execute_76 : decode cX4_execute 76 = .ok (.iload 4, 2) := by decide +kernel
theorem dX4_execute_78 : decode cX4_execute 78 = .ok (.iload 5, 2) := by decide +kernel
theorem dX4_execute_80 : decode cX4_execute 80 = .ok (.iload 6, 2) := by decide +kernel
theorem dX4_execute_82 : decode cX4_execute 82 = .ok (.invokevirtual 94, 3) := by decide +kernel
theorem dX4_execute_85 : decode cX4_execute 85 = .ok (.goto 99, 3) := by decide +kernel
theorem dX4_execute_88 : decode cX4_execute 88 = .ok (.aload_n 1, 1) := by decide +kernel
theorem dX4_execute_89 : decode cX4_execute 89 = .ok (.getfield 90, 3) := by decide +kernel
theorem dX4_execute_92 : decode cX4_execute 92 = .ok (.iload 4, 2) := by decide +kernel
theorem dX4_execute_94 : decode cX4_execute 94 = .ok (.iload 5, 2) := by decide +kernel
theorem dX4_execute_96 : decode cX4_execute 96 = .ok (.iload 6, 2) := by decide +kernel
theorem dX4_execute_98 : decode cX4_execute 98 = .ok (.invokevirtual 100, 3) := by decide +kernel
theorem dX4_execute_101 : decode cX4_execute 101 = .ok (.goto 83, 3) := by decide +kernel
theorem dX4_execute_104 : decode cX4_execute 104 = .ok (.aload_n 1, 1) := by decide +kernel
theorem dX4_execute_105 : decode cX4_execute 105 = .ok (.getfield 103, 3) := by decide +kernel
theorem dX4_execute_108 : decode cX4_execute 108 = .ok (.iload 4, 2) := by decide +kernel
theorem dX4_execute_110 : decode cX4_execute 110 = .ok (.aaload, 1) := by decide +kernel
theorem dX4_execute_111 : decode cX4_execute 111 = .ok (.iload 5, 2) := by decide +kernel
theorem dX4_execute_113 : decode cX4_execute 113 = .ok (.putfield 107, 3) := by decide +kernel
theorem dX4_execute_116 : decode cX4_execute 116 = .ok (.goto 68, 3) := by decide +kernel
theorem dX4_execute_119 : decode cX4_execute 119 = .ok (.aload_n 1, 1) := by decide +kernel
theorem dX4_execute_120 : decode cX4_execute 120 = .ok (.iload 4, 2) := by decide +kernel
theorem dX4_execute_122 : decode cX4_execute 122 = .ok (.iload 5, 2) := by decide +kernel
theorem dX4_execute_124 : decode cX4_execute 124 = .ok (.iload 6, 2) := by decide +kernel
theorem dX4_execute_126 : decode cX4_execute 126 = .ok (.imul, 1) := by decide +kernel
theorem dX4_execute_127 : decode cX4_execute 127 = .ok (.invokevirtual 112, 3) := by decide +kernel
theorem dX4_execute_130 : decode cX4_execute 130 = .ok (.goto 54, 3) := by decide +kernel
theorem dX4_execute_133 : decode cX4_execute 133 = .ok (.aload_n 1, 1) := by decide +kernel
theorem dX4_execute_134 : decode cX4_execute 134 = .ok (.iload 4, 2) := by decide +kernel
theorem dX4_execute_136 : decode cX4_execute 136 = .ok (.invokevirtual 116, 3) := by decide +kernel
theorem dX4_execute_139 : decode cX4_execute 139 = .ok (.goto 45, 3) := by decide +kernel
theorem dX4_execute_142 : decode cX4_execute 142 = .ok (.aload_n 1, 1) := by decide +kernel
theorem dX4_execute_143 : decode cX4_execute 143 = .ok (.iload 4, 2) := by decide +kernel
theorem dX4_execute_145 : decode cX4_execute 145 = .ok (.putfield 120, 3) := by decide +kernel
theorem dX4_execute_148 : decode cX4_execute 148 = .ok (.goto 36, 3) := by decide +kernel
theorem dX4_execute_151 : decode cX4_execute 151 = .ok (.aload_n 1, 1) := by decide +kernel
theorem dX4_execute_152 : decode cX4_execute 152 = .ok (.dup, 1) := by decide +kernel
theorem dX4_execute_153 : decode cX4_execute 153 = .ok (.getfield 123, 3) := by decide +kernel
theorem dX4_execute_156 : decode cX4_execute 156 = .ok (.iload 4, 2) := by decide +kernel
theorem dX4_execute_158 : decode cX4_execute 158 = .ok (.iadd, 1) := by decide +kernel
theorem dX4_execute_159 : decode cX4_execute 159 = .ok (.putfield 123, 3) := by decide +kernel
theorem dX4_execute_162 : decode cX4_execute 162 = .ok (.goto 22, 3) := by decide +kernel
theorem dX4_execute_165 : decode cX4_execute 165 = .ok (.aload_n 1, 1) := by decide +kernel
theorem dX4_execute_166 : decode cX4_execute 166 = .ok (.getfield 90, 3) := by decide +kernel
theorem dX4_execute_169 : decode cX4_execute 169 = .ok (.iload 4, 2) := by decide +kernel
theorem dX4_execute_171 : decode cX4_execute 171 = .ok (.putfield 126, 3) := by decide +kernel
theorem dX4_execute_174 : decode cX4_execute 174 = .ok (.goto 10, 3) := by decide +kernel
theorem dX4_execute_177 : decode cX4_execute 177 = .ok (.aload_n 1, 1) := by decide +kernel
theorem dX4_execute_178 : decode cX4_execute 178 = .ok (.iload 4, 2) := by decide +kernel
theorem dX4_execute_180 : decode cX4_execute 180 = .ok (.invokevirtual 129, 3) := by decide +kernel
theorem dX4_execute_183 : decode cX4_execute 183 = .ok (.pop, 1) := by decide +kernel
theorem dX4_execute_184 : decode cX4_execute 184 = .ok (.return_, 1) := by decide +kernel
def fX4_execute (M : Mm) (j1 : Nat) (x2 : Int32) (x3 : Int32) : Option Mm := (fX4_argument M x3 (0 : Int32)).bind fun q1 => (fX4_argument M x3 (1 : Int32)).bind fun q3 => (fX4_argument M x3 (2 : Int32)).bind fun q5 => if x2 = (0 : Int32) then ((fX3_putPin M j1 q1 q3 q5).bind fun q8 => some q8) else if x2 = (1 : Int32) then ((fX3_takePin M j1 q1 q3 q5).bind fun q11 => some q11) else if x2 = (2 : Int32) then (if q1 < 0 ∨ 12 ≤ q1.toNatClampNeg then none else some (putI M (13, j1, q1.toNatClampNeg) 2 q3)) else if x2 = (3 : Int32) then ((fX0_bendTooth M j1 q1 (q3 * q5)).bind fun q16 => some q16) else if x2 = (4 : Int32) then ((fX0_mendTooth M j1 q1).bind fun q19 => some q19) else if x2 = (5 : Int32) then some (putI M (9, j1, 0) 4 q1) else if x2 = (6 : Int32) then some (putI M (9, j1, 0) 3 ((M.1 (9, j1, 0) 3) + q1)) else if x2 = (7 : Int32) then some (putI M (10, j1, 0) 3 q1) else (fX0_playSteps M j1 q1).bind fun q24 => some (q24.2)
set_option maxRecDepth 20000 in
set_option maxHeartbeats 2000000 in
theorem sX4_execute {wv : Nat} (M : Mm) (j1 : Nat) (x2 : Int32) (x3 : Int32) (hj1 : j1 < 12) {res : Mm} (h : fX4_execute M j1 x2 x3 = some res) : TF wv yX4_execute cX4_execute 7 none 4 [.inr (7, 0, 0), .inr (9, j1, 0), .inl (.int x2), .inl (.int x3)] M (none) res := by
  rw [fX4_execute] at h
  refine TF.go (n := 3) (ls := [some (.inr (7, 0, 0)), some (.inr (9, j1, 0)), some (.inl (.int x2)), some (.inl (.int x3)), none, none, none]) rfl rfl rfl rfl rfl ?_
  refine z_aload_n (i := 0) dX4_execute_0 rfl rfl ?_
  refine z_iload_n (i := 3) dX4_execute_1 rfl rfl ?_
  refine z_iconst (v := (0 : Int32)) dX4_execute_2 kc_0 ?_
  obtain ⟨q1, hq2, h⟩ := bnd h
  refine z_fVi (sX4_argument M x3 (0 : Int32) hq2) dX4_execute_3 ml_X4_44 cd_X4_argument mk7 rfl rfl rfl rfl rfl rfl ?_
  refine z_istore (i := 4) dX4_execute_6 (Nat.le_of_ble_eq_true rfl) rfl ?_
  refine z_aload_n (i := 0) dX4_execute_8 rfl rfl ?_
  refine z_iload_n (i := 3) dX4_execute_9 rfl rfl ?_
  refine z_iconst (v := (1 : Int32)) dX4_execute_10 kc_1 ?_
  obtain ⟨q3, hq4, h⟩ := bnd h
  refine z_fVi (sX4_argument M x3 (1 : Int32) hq4) dX4_execute_11 ml_X4_44 cd_X4_argument mk7 rfl rfl rfl rfl rfl rfl ?_
  refine z_istore (i := 5) dX4_execute_14 (Nat.le_of_ble_eq_true rfl) rfl ?_
  refine z_aload_n (i := 0) dX4_execute_16 rfl rfl ?_
  refine z_iload_n (i := 3) dX4_execute_17 rfl rfl ?_
  refine z_iconst (v := (2 : Int32)) dX4_execute_18 kc_2 ?_
  obtain ⟨q5, hq6, h⟩ := bnd h
  refine z_fVi (sX4_argument M x3 (2 : Int32) hq6) dX4_execute_19 ml_X4_44 cd_X4_argument mk7 rfl rfl rfl rfl rfl rfl ?_
  refine z_istore (i := 6) dX4_execute_22 (Nat.le_of_ble_eq_true rfl) rfl ?_
  refine z_iload_n (i := 2) dX4_execute_24 rfl rfl ?_
  by_cases hc7 : x2 = (0 : Int32)
  · have h := it_t h hc7
    refine z_tin (tgt := 72) dX4_execute_25 (by rw [hc7]; decide) (by rw [hc7]; decide) (off := 47) (by rw [hc7]; decide) rfl ?_
    refine z_aload_n (i := 1) dX4_execute_72 rfl rfl ?_
    refine z_getR (r' := (10, j1, 0)) dX4_execute_73 fl_X4_90 (m9 _ hj1) rfl rfl ?_
    refine z_iload (i := 4) dX4_execute_76 rfl ?_
    refine z_iload (i := 5) dX4_execute_78 rfl ?_
    refine z_iload (i := 6) dX4_execute_80 rfl ?_
    obtain ⟨q8, hq9, h⟩ := bnd h
    refine z_fVv (sX3_putPin M j1 q1 q3 q5 hj1 hq9) dX4_execute_82 ml_X4_94 cd_X3_putPin (m10 _ hj1) rfl rfl rfl rfl rfl rfl ?_
    refine z_goto (tgt := 184) dX4_execute_85 rfl ?_
    cases h
    exact z_vret dX4_execute_184 rfl (Nat.le_refl _) (Nat.le_refl _) ⟨rfl, rfl⟩
  have h := it_f h hc7
  by_cases hc10 : x2 = (1 : Int32)
  · have h := it_t h hc10
    refine z_tin (tgt := 88) dX4_execute_25 (by rw [hc10]; decide) (by rw [hc10]; decide) (off := 63) (by rw [hc10]; decide) rfl ?_
    refine z_aload_n (i := 1) dX4_execute_88 rfl rfl ?_
    refine z_getR (r' := (10, j1, 0)) dX4_execute_89 fl_X4_90 (m9 _ hj1) rfl rfl ?_
    refine z_iload (i := 4) dX4_execute_92 rfl ?_
    refine z_iload (i := 5) dX4_execute_94 rfl ?_
    refine z_iload (i := 6) dX4_execute_96 rfl ?_
    obtain ⟨q11, hq12, h⟩ := bnd h
    refine z_fVv (sX3_takePin M j1 q1 q3 q5 hj1 hq12) dX4_execute_98 ml_X4_100 cd_X3_takePin (m10 _ hj1) rfl rfl rfl rfl rfl rfl ?_
    refine z_goto (tgt := 184) dX4_execute_101 rfl ?_
    cases h
    exact z_vret dX4_execute_184 rfl (Nat.le_refl _) (Nat.le_refl _) ⟨rfl, rfl⟩
  have h := it_f h hc10
  by_cases hc13 : x2 = (2 : Int32)
  · have h := it_t h hc13
    refine z_tin (tgt := 104) dX4_execute_25 (by rw [hc13]; decide) (by rw [hc13]; decide) (off := 79) (by rw [hc13]; decide) rfl ?_
    refine z_aload_n (i := 1) dX4_execute_104 rfl rfl ?_
    refine z_getR (r' := (12, j1, 0)) dX4_execute_105 fl_X4_103 (m9 _ hj1) rfl rfl ?_
    refine z_iload (i := 4) dX4_execute_108 rfl ?_
    obtain ⟨hc14, h⟩ := chk h
    refine z_aald (t := 0) (r' := (13, j1, q1.toNatClampNeg)) dX4_execute_110 (m12 _ hj1) rfl (Nat.le_of_ble_eq_true rfl) hc14 rfl ?_
    refine z_iload (i := 5) dX4_execute_111 rfl ?_
    refine z_putI allR_nd dX4_execute_113 fl_X4_107 (m13 _ hj1 _ (ltN hc14)) rfl rfl ?_
    refine z_goto (tgt := 184) dX4_execute_116 rfl ?_
    cases h
    exact z_vret dX4_execute_184 rfl (Nat.le_refl _) (Nat.le_refl _) ⟨rfl, rfl⟩
  have h := it_f h hc13
  by_cases hc15 : x2 = (3 : Int32)
  · have h := it_t h hc15
    refine z_tin (tgt := 119) dX4_execute_25 (by rw [hc15]; decide) (by rw [hc15]; decide) (off := 94) (by rw [hc15]; decide) rfl ?_
    refine z_aload_n (i := 1) dX4_execute_119 rfl rfl ?_
    refine z_iload (i := 4) dX4_execute_120 rfl ?_
    refine z_iload (i := 5) dX4_execute_122 rfl ?_
    refine z_iload (i := 6) dX4_execute_124 rfl ?_
    refine z_imul dX4_execute_126 ?_
    obtain ⟨q16, hq17, h⟩ := bnd h
    refine z_fVv (sX0_bendTooth M j1 q1 (q3 * q5) hj1 hq17) dX4_execute_127 ml_X4_112 cd_X0_bendTooth (m9 _ hj1) rfl rfl rfl rfl rfl rfl ?_
    refine z_goto (tgt := 184) dX4_execute_130 rfl ?_
    cases h
    exact z_vret dX4_execute_184 rfl (Nat.le_refl _) (Nat.le_refl _) ⟨rfl, rfl⟩
  have h := it_f h hc15
  by_cases hc18 : x2 = (4 : Int32)
  · have h := it_t h hc18
    refine z_tin (tgt := 133) dX4_execute_25 (by rw [hc18]; decide) (by rw [hc18]; decide) (off := 108) (by rw [hc18]; decide) rfl ?_
    refine z_aload_n (i := 1) dX4_execute_133 rfl rfl ?_
    refine z_iload (i := 4) dX4_execute_134 rfl ?_
    obtain ⟨q19, hq20, h⟩ := bnd h
    refine z_fVv (sX0_mendTooth M j1 q1 hj1 hq20) dX4_execute_136 ml_X4_116 cd_X0_mendTooth (m9 _ hj1) rfl rfl rfl rfl rfl rfl ?_
    refine z_goto (tgt := 184) dX4_execute_139 rfl ?_
    cases h
    exact z_vret dX4_execute_184 rfl (Nat.le_refl _) (Nat.le_refl _) ⟨rfl, rfl⟩
  have h := it_f h hc18
  by_cases hc21 : x2 = (5 : Int32)
  · have h := it_t h hc21
    refine z_tin (tgt := 142) dX4_execute_25 (by rw [hc21]; decide) (by rw [hc21]; decide) (off := 117) (by rw [hc21]; decide) rfl ?_
    refine z_aload_n (i := 1) dX4_execute_142 rfl rfl ?_
    refine z_iload (i := 4) dX4_execute_143 rfl ?_
    refine z_putI allR_nd dX4_execute_145 fl_X4_120 (m9 _ hj1) rfl rfl ?_
    refine z_goto (tgt := 184) dX4_execute_148 rfl ?_
    cases h
    exact z_vret dX4_execute_184 rfl (Nat.le_refl _) (Nat.le_refl _) ⟨rfl, rfl⟩
  have h := it_f h hc21
  by_cases hc22 : x2 = (6 : Int32)
  · have h := it_t h hc22
    refine z_tin (tgt := 151) dX4_execute_25 (by rw [hc22]; decide) (by rw [hc22]; decide) (off := 126) (by rw [hc22]; decide) rfl ?_
    refine z_aload_n (i := 1) dX4_execute_151 rfl rfl ?_
    refine z_dup dX4_execute_152 rfl ?_
    refine z_getI (x := (M.1 (9, j1, 0) 3)) dX4_execute_153 fl_X4_123 (m9 _ hj1) rfl rfl ?_
    refine z_iload (i := 4) dX4_execute_156 rfl ?_
    refine z_iadd dX4_execute_158 ?_
    refine z_putI allR_nd dX4_execute_159 fl_X4_123 (m9 _ hj1) rfl rfl ?_
    refine z_goto (tgt := 184) dX4_execute_162 rfl ?_
    cases h
    exact z_vret dX4_execute_184 rfl (Nat.le_refl _) (Nat.le_refl _) ⟨rfl, rfl⟩
  have h := it_f h hc22
  by_cases hc23 : x2 = (7 : Int32)
  · have h := it_t h hc23
    refine z_tin (tgt := 165) dX4_execute_25 (by rw [hc23]; decide) (by rw [hc23]; decide) (off := 140) (by rw [hc23]; decide) rfl ?_
    refine z_aload_n (i := 1) dX4_execute_165 rfl rfl ?_
    refine z_getR (r' := (10, j1, 0)) dX4_execute_166 fl_X4_90 (m9 _ hj1) rfl rfl ?_
    refine z_iload (i := 4) dX4_execute_169 rfl ?_
    refine z_putI allR_nd dX4_execute_171 fl_X4_126 (m10 _ hj1) rfl rfl ?_
    refine z_goto (tgt := 184) dX4_execute_174 rfl ?_
    cases h
    exact z_vret dX4_execute_184 rfl (Nat.le_refl _) (Nat.le_refl _) ⟨rfl, rfl⟩
  have h := it_f h hc23
  refine z_tout (tgt := 177) dX4_execute_25 (tswo (fun k h1 h2 h3 => ?_)) rfl ?_
  · have h4 : k = 0 ∨ k = 1 ∨ k = 2 ∨ k = 3 ∨ k = 4 ∨ k = 5 ∨ k = 6 ∨ k = 7 := by omega
    rcases h4 with rfl | rfl | rfl | rfl | rfl | rfl | rfl | rfl
    · exact hc7 (Int32.toInt_inj.mp (h3.trans (by decide)))
    · exact hc10 (Int32.toInt_inj.mp (h3.trans (by decide)))
    · exact hc13 (Int32.toInt_inj.mp (h3.trans (by decide)))
    · exact hc15 (Int32.toInt_inj.mp (h3.trans (by decide)))
    · exact hc18 (Int32.toInt_inj.mp (h3.trans (by decide)))
    · exact hc21 (Int32.toInt_inj.mp (h3.trans (by decide)))
    · exact hc22 (Int32.toInt_inj.mp (h3.trans (by decide)))
    · exact hc23 (Int32.toInt_inj.mp (h3.trans (by decide)))
  · refine z_aload_n (i := 1) dX4_execute_177 rfl rfl ?_
    refine z_iload (i := 4) dX4_execute_178 rfl ?_
    obtain ⟨q24, hq25, h⟩ := bnd h
    refine z_fVi (sX0_playSteps M j1 q1 hj1 hq25) dX4_execute_180 ml_X4_129 cd_X0_playSteps (m9 _ hj1) rfl rfl rfl rfl rfl rfl ?_
    refine z_pop dX4_execute_183 rfl ?_
    cases h
    exact z_vret dX4_execute_184 rfl (Nat.le_refl _) (Nat.le_refl _) ⟨rfl, rfl⟩
theorem dX4_runPart_0 : decode cX4_runPart 0 = .ok (.iload 4, 2) := by decide +kernel
theorem dX4_runPart_2 : decode cX4_runPart 2 = .ok (.iconst 2, 1) := by decide +kernel
theorem dX4_runPart_3 : decode cX4_runPart 3 = .ok (.if_icmp .le 7, 3) := by decide +kernel
theorem dX4_runPart_6 : decode cX4_runPart 6 = .ok (.iload_n 2, 1) := by decide +kernel
theorem dX4_runPart_7 : decode cX4_runPart 7 = .ok (.goto 9, 3) := by decide +kernel
theorem dX4_runPart_10 : decode cX4_runPart 10 = .ok (.iload_n 3, 1) := by decide +kernel
theorem dX4_runPart_11 : decode cX4_runPart 11 = .ok (.bipush 30, 2) := by decide +kernel
theorem dX4_runPart_13 : decode cX4_runPart 13 = .ok (.invokestatic 35, 3) := by decide +kernel
theorem dX4_runPart_16 : decode cX4_runPart 16 = .ok (.istore 5, 2) := by decide +kernel
theorem dX4_runPart_18 : decode cX4_runPart 18 = .ok (.iconst 0, 1) := by decide +kernel
theorem dX4_runPart_19 : decode cX4_runPart 19 = .ok (.iload_n 2, 1) := by decide +kernel
theorem dX4_runPart_20 : decode cX4_runPart 20 = .ok (.invokestatic 41, 3) := by decide +kernel
theorem dX4_runPart_23 : decode cX4_runPart 23 = .ok (.istore 6, 2) := by decide +kernel
theorem dX4_runPart_25 : decode cX4_runPart 25 = .ok (.iload 6, 2) := by decide +kernel
theorem dX4_runPart_27 : decode cX4_runPart 27 = .ok (.iload 5, 2) := by decide +kernel
theorem dX4_runPart_29 : decode cX4_runPart 29 = .ok (.if_icmp .ge 154, 3) := by decide +kernel
theorem dX4_runPart_32 : decode cX4_runPart 32 = .ok (.aload_n 0, 1) := by decide +kernel
theorem dX4_runPart_33 : decode cX4_runPart 33 = .ok (.getfield 31, 3) := by decide +kernel
theorem dX4_runPart_36 : decode cX4_runPart 36 = .ok (.ifCond .ne 147, 3) := by decide +kernel
theorem dX4_runPart_39 : decode cX4_runPart 39 = .ok (.aload_n 0, 1) := by decide +kernel
theorem dX4_runPart_40 : decode cX4_runPart 40 = .ok (.getfield 15, 3) := by decide +kernel
theorem dX4_runPart_43 : decode cX4_runPart 43 = .ok (.iload 6, 2) := by decide +kernel
theorem dX4_runPart_45 : decode cX4_runPart 45 = .ok (.iaload, 1) := by decide +kernel
theorem dX4_runPart_46 : decode cX4_runPart 46 = .ok (.iload 4, 2) := by decide +kernel
theorem dX4_runPart_48 : decode cX4_runPart 48 = .ok (.if_icmp .eq 6, 3) := by decide +kernel
theorem dX4_runPart_51 : decode cX4_runPart 51 = .ok (.goto 126, 3) := by decide +kernel
theorem dX4_runPart_54 : decode cX4_runPart 54 = .ok (.aload_n 0, 1) := by decide +kernel
theorem dX4_runPart_55 : decode cX4_runPart 55 = .ok (.getfield 11, 3) := by decide +kernel
theorem dX4_runPart_58 : decode cX4_runPart 58 = .ok (.iload 6, 2) := by decide +kernel
theorem dX4_runPart_60 : decode cX4_runPart 60 = .ok (.iaload, 1) := by decide +kernel
theorem dX4_runPart_61 : decode cX4_runPart 61 = .ok (.istore 7, 2) := by decide +kernel
theorem dX4_runPart_63 : decode cX4_runPart 63 = .ok (.iload 7, 2) := by decide +kernel
theorem dX4_runPart_65 : decode cX4_runPart 65 = .ok (.bipush 9, 2) := by decide +kernel
theorem dX4_runPart_67 : decode cX4_runPart 67 = .ok (.if_icmp .ne 53, 3) := by decide +kernel
theorem dX4_runPart_70 : decode cX4_runPart 70 = .ok (.aload_n 0, 1) := by decide +kernel
theorem dX4_runPart_71 : decode cX4_runPart 71 = .ok (.iload 6, 2) := by decide +kernel
theorem dX4_runPart_73 : decode cX4_runPart 73 = .ok (.iconst 0, 1) := by decide +kernel
theorem dX4_runPart_74 : decode cX4_runPart 74 = .ok (.invokevirtual 44, 3) := by decide +kernel
theorem dX4_runPart_77 : decode cX4_runPart 77 = .ok (.istore 8, 2) := by decide +kernel
theorem dX4_runPart_79 : decode cX4_runPart 79 = .ok (.iload 8, 2) := by decide +kernel
theorem dX4_runPart_81 : decode cX4_runPart 81 = .ok (.ifCond .le 36, 3) := by decide +kernel
theorem dX4_runPart_84 : decode cX4_runPart 84 = .ok (.aload_n 0, 1) := by decide +kernel
theorem dX4_runPart_85 : decode cX4_runPart 85 = .ok (.getfield 31, 3) := by decide +kernel
theorem dX4_runPart_88 : decode cX4_runPart 88 = .ok (.ifCond .ne 29, 3) := by decide +kernel
theorem dX4_runPart_91 : decode cX4_runPart 91 = .ok (.aload_n 0, 1) := by decide +kernel
theorem dX4_runPart_92 : decode cX4_runPart 92 = .ok (.aload_n 1, 1) := by decide +kernel
theorem dX4_runPart_93 : decode cX4_runPart 93 = .ok (.iload 6, 2) := by decide +kernel
theorem dX4_runPart_95 : decode cX4_runPart 95 = .ok (.iconst 1, 1) := by decide +kernel
theorem dX4_runPart_96 : decode cX4_runPart 96 = .ok (.iadd, 1) := by decide +kernel
theorem dX4_runPart_97 : decode cX4_runPart 97 = .ok (.aload_n 0, 1) := by decide +kernel
theorem dX4_runPart_98 : decode cX4_runPart 98 = .ok (.getfield 18, 3) := by decide +kernel
theorem dX4_runPart_101 : decode cX4_runPart 101 = .ok (.iload 6, 2) := by decide +kernel
theorem dX4_runPart_103 : decode cX4_runPart 103 = .ok (.iaload, 1) := by decide +kernel
theorem dX4_runPart_104 : decode cX4_runPart 104 = .ok (.iload 4, 2) := by decide +kernel
theorem dX4_runPart_106 : decode cX4_runPart 106 = .ok (.iconst 1, 1) := by decide +kernel
theorem dX4_runPart_107 : decode cX4_runPart 107 = .ok (.iadd, 1) := by decide +kernel
theorem dX4_runPart_108 : decode cX4_runPart 108 = .ok (.invokevirtual 47, 3) := by decide +kernel
theorem dX4_runPart_111 : decode cX4_runPart 111 = .ok (.iinc 8 (-1), 3) := by decide +kernel
theorem dX4_runPart_114 : decode cX4_runPart 114 = .ok (.goto (-35), 3) := by decide +kernel
theorem dX4_runPart_117 : decode cX4_runPart 117 = .ok (.goto 60, 3) := by decide +kernel
theorem dX4_runPart_120 : decode cX4_runPart 120 = .ok (.aload_n 0, 1) := by decide +kernel
theorem dX4_runPart_121 : decode cX4_runPart 121 = .ok (.aload_n 1, 1) := by decide +kernel
theorem dX4_runPart_122 : decode cX4_runPart 122 = .ok (.iload 7, 2) := by decide +kernel
theorem dX4_runPart_124 : decode cX4_runPart 124 = .ok (.iload 6, 2) := by decide +kernel
theorem dX4_runPart_126 : decode cX4_runPart 126 = .ok (.invokevirtual 51, 3) := by decide +kernel
theorem dX4_runPart_129 : decode cX4_runPart 129 = .ok (.ifCond .ne 43, 3) := by decide +kernel
theorem dX4_runPart_132 : decode cX4_runPart 132 = .ok (.aload_n 0, 1) := by decide +kernel
theorem dX4_runPart_133 : decode cX4_runPart 133 = .ok (.aload_n 1, 1) := by decide +kernel
theorem dX4_runPart_134 : decode cX4_runPart 134 = .ok (.iload 7, 2) := by decide +kernel
theorem dX4_runPart_136 : decode cX4_runPart 136 = .ok (.iload 6, 2) := by decide +kernel
theorem dX4_runPart_138 : decode cX4_runPart 138 = .ok (.invokevirtual 55, 3) := by decide +kernel
theorem dX4_runPart_141 : decode cX4_runPart 141 = .ok (.aload_n 0, 1) := by decide +kernel
theorem dX4_runPart_142 : decode cX4_runPart 142 = .ok (.dup, 1) := by decide +kernel
theorem dX4_runPart_143 : decode cX4_runPart 143 = .ok (.getfield 28, 3) := by decide +kernel
theorem dX4_runPart_146 : decode cX4_runPart 146 = .ok (.iconst 1, 1) := by decide +kernel
theorem dX4_runPart_147 : decode cX4_runPart 147 = .ok (.iadd, 1) := by decide +kernel
theorem dX4_runPart_148 : decode cX4_runPart 148 = .ok (.putfield 28, 3) := by decide +kernel
theorem dX4_runPart_151 : decode cX4_runPart 151 = .ok (.aload_n 0, 1) := by decide +kernel
theorem dX4_runPart_152 : decode cX4_runPart 152 = .ok (.aload_n 0, 1) := by decide +kernel
theorem dX4_runPart_153 : decode cX4_runPart 153 = .ok (.getfield 28, 3) := by decide +kernel
theorem dX4_runPart_156 : decode cX4_runPart 156 = .ok (.bipush 40, 2) := by decide +kernel
theorem dX4_runPart_158 : decode cX4_runPart 158 = .ok (.if_icmp .lt 7, 3) := by decide +kernel
theorem dX4_runPart_161 : decode cX4_runPart 161 = .ok (.iconst 1, 1) := by decide +kernel
theorem dX4_runPart_162 : decode cX4_runPart 162 = .ok (.goto 4, 3) := by decide +kernel
theorem dX4_runPart_165 : decode cX4_runPart 165 = .ok (.iconst 0, 1) := by decide +kernel
theorem dX4_runPart_166 : decode cX4_runPart 166 = .ok (.putfield 31, 3) := by decide +kernel
theorem dX4_runPart_169 : decode cX4_runPart 169 = .ok (.goto 8, 3) := by decide +kernel
theorem dX4_runPart_172 : decode cX4_runPart 172 = .ok (.aload_n 0, 1) := by decide +kernel
theorem dX4_runPart_173 : decode cX4_runPart 173 = .ok (.iconst 1, 1) := by decide +kernel
theorem dX4_runPart_174 : decode cX4_runPart 174 = .ok (.putfield 31, 3) := by decide +kernel
theorem dX4_runPart_177 : decode cX4_runPart 177 = .ok (.iinc 6 1, 3) := by decide +kernel
theorem dX4_runPart_180 : decode cX4_runPart 180 = .ok (.goto (-155), 3) := by decide +kernel
theorem dX4_runPart_183 : decode cX4_runPart 183 = .ok (.return_, 1) := by decide +kernel
def fX4_runPart_L79 (rc : Mm → Nat → Int32 → Int32 → Int32 → Option Mm) (j1 : Nat) (c4 : Int32) (c5 : Int32) (c6 : Int32) (c7 : Int32) (K : Int32 → Mm → Option Mm) : Nat → Int32 → Mm → Option Mm
  | 0, _, _ => none
  | n + 1, v8, M => if v8 ≤ 0 then K v8 M else if (M.1 (7, 0, 0) 6) = 0 then (if c6 < 0 ∨ 30 ≤ c6.toNatClampNeg then none else (rc M j1 (c6 + (1 : Int32)) (M.1 (8, 2, 0) c6.toNatClampNeg) (c4 + (1 : Int32))).bind fun q19 => fX4_runPart_L79 rc j1 c4 c5 c6 c7 K n (v8 + (-1 : Int32)) q19) else K v8 M
def fX4_runPart_L25 (rc : Mm → Nat → Int32 → Int32 → Int32 → Option Mm) (j1 : Nat) (c4 : Int32) (c5 : Int32) (K : Int32 → Mm → Option Mm) : Nat → Int32 → Mm → Option Mm
  | 0, _, _ => none
  | n + 1, v6, M => if c5 ≤ v6 then K v6 M else if (M.1 (7, 0, 0) 6) = 0 then (if v6 < 0 ∨ 30 ≤ v6.toNatClampNeg then none else if (M.1 (8, 1, 0) v6.toNatClampNeg) = c4 then (if v6 < 0 ∨ 30 ≤ v6.toNatClampNeg then none else if (M.1 (8, 0, 0) v6.toNatClampNeg) = (9 : Int32) then ((fX4_argument M v6 (0 : Int32)).bind fun q14 => fX4_runPart_L79 rc j1 c4 c5 v6 (M.1 (8, 0, 0) v6.toNatClampNeg) (fun w21 M22 => fX4_runPart_L25 rc j1 c4 c5 K n (v6 + (1 : Int32)) M22) NF q14 M) else (fX4_faultOf M j1 (M.1 (8, 0, 0) v6.toNatClampNeg) v6).bind fun q8 => if q8 = 0 then ((fX4_execute M j1 (M.1 (8, 0, 0) v6.toNatClampNeg) v6).bind fun q11 => if ((q11.1 (7, 0, 0) 5) + (1 : Int32)) < (40 : Int32) then fX4_runPart_L25 rc j1 c4 c5 K n (v6 + (1 : Int32)) (putI (putI q11 (7, 0, 0) 5 ((q11.1 (7, 0, 0) 5) + (1 : Int32))) (7, 0, 0) 6 (0 : Int32)) else fX4_runPart_L25 rc j1 c4 c5 K n (v6 + (1 : Int32)) (putI (putI q11 (7, 0, 0) 5 ((q11.1 (7, 0, 0) 5) + (1 : Int32))) (7, 0, 0) 6 (1 : Int32))) else fX4_runPart_L25 rc j1 c4 c5 K n (v6 + (1 : Int32)) (putI M (7, 0, 0) 6 (1 : Int32))) else fX4_runPart_L25 rc j1 c4 c5 K n (v6 + (1 : Int32)) M) else K v6 M
def fX4_runPart (rc : Mm → Nat → Int32 → Int32 → Int32 → Option Mm) (M : Mm) (j1 : Nat) (x2 : Int32) (x3 : Int32) (x4 : Int32) : Option Mm := if x4 ≤ (2 : Int32) then (fX4_runPart_L25 rc j1 x4 (fJ9_min_7cf53 M x3 (30 : Int32)) (fun w23 M24 => some M24) NF (fJ9_max_7cf53 M (0 : Int32) x2) M) else fX4_runPart_L25 rc j1 x4 x2 (fun w25 M26 => some M26) NF (fJ9_max_7cf53 M (0 : Int32) x2) M
def gX4_runPart : Nat → Mm → Nat → Int32 → Int32 → Int32 → Option Mm
  | 0, _, _, _, _, _ => none
  | n + 1, M, j1, x2, x3, x4 => fX4_runPart (gX4_runPart n) M j1 x2 x3 x4
set_option maxRecDepth 20000 in
set_option maxHeartbeats 2000000 in
theorem sX4_runPart_L79 {wv : Nat} (rc : Mm → Nat → Int32 → Int32 → Int32 → Option Mm) (j1 : Nat) (c4 : Int32) (c5 : Int32) (c6 : Int32) (c7 : Int32) (hj1 : j1 < 12) (dd : Nat) (hrc : ∀ (M : Mm) (j1 : Nat) (x2 : Int32) (x3 : Int32) (x4 : Int32) (hj1 : j1 < 12) (res : Mm), rc M j1 x2 x3 x4 = some res → TF wv yX4_runPart cX4_runPart 9 none dd [.inr (7, 0, 0), .inr (9, j1, 0), .inl (.int x2), .inl (.int x3), .inl (.int x4)] M (none) res) {res : Mm} {K : Int32 → Mm → Option Mm} : ∀ (n : Nat) (v8 : Int32) (M : Mm), fX4_runPart_L79 rc j1 c4 c5 c6 c7 K n v8 M = some res →
    (∀ (v8 : Int32) (M : Mm), K v8 M = some res → Z RX4 cX4_runPart 9 none [] "runPart" (rmD (dd + 5) 0 0) (QM SH (allR wv) 0 0 (fun v M9 => v = none ∧ M9 = res) (fun _ _ => False)) (allR wv) SH 0 0 117 [some (.inr (7, 0, 0)), some (.inr (9, j1, 0)), none, none, some (.inl (.int c4)), some (.inl (.int c5)), some (.inl (.int c6)), some (.inl (.int c7)), some (.inl (.int v8))] [] M) → Z RX4 cX4_runPart 9 none [] "runPart" (rmD (dd + 5) 0 0) (QM SH (allR wv) 0 0 (fun v M9 => v = none ∧ M9 = res) (fun _ _ => False)) (allR wv) SH 0 0 79 [some (.inr (7, 0, 0)), some (.inr (9, j1, 0)), none, none, some (.inl (.int c4)), some (.inl (.int c5)), some (.inl (.int c6)), some (.inl (.int c7)), some (.inl (.int v8))] [] M := by
  intro n
  induction n with
  | zero => intro v8 M h; cases h
  | succ n ih =>
    intro v8 M h hK
    rw [fX4_runPart_L79] at h
    refine z_iload (i := 8) dX4_runPart_79 rfl ?_
    refine z_if_le (tgt := 117) dX4_runPart_81 rfl (fun hc16 => ?_) (fun hc16 => ?_)
    · have h := it_t h hc16
      exact hK _ _ h
    · have h := it_f h hc16
      refine z_aload_n (i := 0) dX4_runPart_84 rfl rfl ?_
      refine z_getI (x := (M.1 (7, 0, 0) 6)) dX4_runPart_85 fl_X4_31 mk7 rfl rfl ?_
      refine z_if_ne (tgt := 117) dX4_runPart_88 rfl (fun hc17 => ?_) (fun hc17 => ?_)
      · have h := it_f h hc17
        exact hK _ _ h
      · have h := it_t h hc17
        refine z_aload_n (i := 0) dX4_runPart_91 rfl rfl ?_
        refine z_aload_n (i := 1) dX4_runPart_92 rfl rfl ?_
        refine z_iload (i := 6) dX4_runPart_93 rfl ?_
        refine z_iconst (v := (1 : Int32)) dX4_runPart_95 kc_1 ?_
        refine z_iadd dX4_runPart_96 ?_
        refine z_aload_n (i := 0) dX4_runPart_97 rfl rfl ?_
        refine z_getR (r' := (8, 2, 0)) dX4_runPart_98 fl_X4_18 mk7 rfl rfl ?_
        refine z_iload (i := 6) dX4_runPart_101 rfl ?_
        obtain ⟨hc18, h⟩ := chk h
        refine z_iald (x := (M.1 (8, 2, 0) c6.toNatClampNeg)) dX4_runPart_103 (m8 _ (Nat.le_of_ble_eq_true rfl)) rfl hc18 rfl ?_
        refine z_iload (i := 4) dX4_runPart_104 rfl ?_
        refine z_iconst (v := (1 : Int32)) dX4_runPart_106 kc_1 ?_
        refine z_iadd dX4_runPart_107 ?_
        obtain ⟨q19, hq20, h⟩ := bnd h
        refine z_fVv (hrc M j1 (c6 + (1 : Int32)) (M.1 (8, 2, 0) c6.toNatClampNeg) (c4 + (1 : Int32)) hj1 _ hq20) dX4_runPart_108 ml_X4_47 cd_X4_runPart mk7 rfl rfl rfl (rmk_d (by omega) (by decide)) rfl rfl ?_
        refine z_iinc (i := 8) (v := (v8 + (-1 : Int32))) dX4_runPart_111 rfl (iinc_k kc_m1) (Nat.le_of_ble_eq_true rfl) rfl ?_
        refine z_goto (tgt := 79) dX4_runPart_114 rfl ?_
        exact ih _ _ h hK
set_option maxRecDepth 20000 in
set_option maxHeartbeats 2000000 in
theorem sX4_runPart_L25 {wv : Nat} (rc : Mm → Nat → Int32 → Int32 → Int32 → Option Mm) (j1 : Nat) (c4 : Int32) (c5 : Int32) (hj1 : j1 < 12) (dd : Nat) (hrc : ∀ (M : Mm) (j1 : Nat) (x2 : Int32) (x3 : Int32) (x4 : Int32) (hj1 : j1 < 12) (res : Mm), rc M j1 x2 x3 x4 = some res → TF wv yX4_runPart cX4_runPart 9 none dd [.inr (7, 0, 0), .inr (9, j1, 0), .inl (.int x2), .inl (.int x3), .inl (.int x4)] M (none) res) {res : Mm} {K : Int32 → Mm → Option Mm} : ∀ (n : Nat) (v6 : Int32) (M : Mm), fX4_runPart_L25 rc j1 c4 c5 K n v6 M = some res →
    (∀ (v6 : Int32) (M : Mm), K v6 M = some res → Z RX4 cX4_runPart 9 none [] "runPart" (rmD (dd + 5) 0 0) (QM SH (allR wv) 0 0 (fun v M9 => v = none ∧ M9 = res) (fun _ _ => False)) (allR wv) SH 0 0 183 [some (.inr (7, 0, 0)), some (.inr (9, j1, 0)), none, none, some (.inl (.int c4)), some (.inl (.int c5)), some (.inl (.int v6)), none, none] [] M) → Z RX4 cX4_runPart 9 none [] "runPart" (rmD (dd + 5) 0 0) (QM SH (allR wv) 0 0 (fun v M9 => v = none ∧ M9 = res) (fun _ _ => False)) (allR wv) SH 0 0 25 [some (.inr (7, 0, 0)), some (.inr (9, j1, 0)), none, none, some (.inl (.int c4)), some (.inl (.int c5)), some (.inl (.int v6)), none, none] [] M := by
  intro n
  induction n with
  | zero => intro v6 M h; cases h
  | succ n ih =>
    intro v6 M h hK
    rw [fX4_runPart_L25] at h
    refine z_iload (i := 6) dX4_runPart_25 rfl ?_
    refine z_iload (i := 5) dX4_runPart_27 rfl ?_
    refine z_icmp_ge (tgt := 183) dX4_runPart_29 rfl (fun hc2 => ?_) (fun hc2 => ?_)
    · have h := it_t h hc2
      exact hK _ _ h
    · have h := it_f h hc2
      refine z_aload_n (i := 0) dX4_runPart_32 rfl rfl ?_
      refine z_getI (x := (M.1 (7, 0, 0) 6)) dX4_runPart_33 fl_X4_31 mk7 rfl rfl ?_
      refine z_if_ne (tgt := 183) dX4_runPart_36 rfl (fun hc3 => ?_) (fun hc3 => ?_)
      · have h := it_f h hc3
        exact hK _ _ h
      · have h := it_t h hc3
        refine z_aload_n (i := 0) dX4_runPart_39 rfl rfl ?_
        refine z_getR (r' := (8, 1, 0)) dX4_runPart_40 fl_X4_15 mk7 rfl rfl ?_
        refine z_iload (i := 6) dX4_runPart_43 rfl ?_
        obtain ⟨hc4, h⟩ := chk h
        refine z_iald (x := (M.1 (8, 1, 0) v6.toNatClampNeg)) dX4_runPart_45 (m8 _ (Nat.le_of_ble_eq_true rfl)) rfl hc4 rfl ?_
        refine z_iload (i := 4) dX4_runPart_46 rfl ?_
        refine z_icmp_eq (tgt := 54) dX4_runPart_48 rfl (fun hc5 => ?_) (fun hc5 => ?_)
        · have h := it_t h hc5
          refine z_aload_n (i := 0) dX4_runPart_54 rfl rfl ?_
          refine z_getR (r' := (8, 0, 0)) dX4_runPart_55 fl_X4_11 mk7 rfl rfl ?_
          refine z_iload (i := 6) dX4_runPart_58 rfl ?_
          obtain ⟨hc6, h⟩ := chk h
          refine z_iald (x := (M.1 (8, 0, 0) v6.toNatClampNeg)) dX4_runPart_60 (m8 _ (Nat.le_of_ble_eq_true rfl)) rfl hc6 rfl ?_
          refine z_istore (i := 7) dX4_runPart_61 (Nat.le_of_ble_eq_true rfl) rfl ?_
          refine z_iload (i := 7) dX4_runPart_63 rfl ?_
          refine z_bipush (v := (9 : Int32)) dX4_runPart_65 kb_9 ?_
          refine z_icmp_ne (tgt := 120) dX4_runPart_67 rfl (fun hc7 => ?_) (fun hc7 => ?_)
          · have h := it_f h hc7
            refine z_aload_n (i := 0) dX4_runPart_120 rfl rfl ?_
            refine z_aload_n (i := 1) dX4_runPart_121 rfl rfl ?_
            refine z_iload (i := 7) dX4_runPart_122 rfl ?_
            refine z_iload (i := 6) dX4_runPart_124 rfl ?_
            obtain ⟨q8, hq9, h⟩ := bnd h
            refine z_fVi (sX4_faultOf M j1 (M.1 (8, 0, 0) v6.toNatClampNeg) v6 hj1 hq9) dX4_runPart_126 ml_X4_51 cd_X4_faultOf mk7 rfl rfl rfl (rmk_d (by omega) (by decide)) rfl rfl ?_
            refine z_if_ne (tgt := 172) dX4_runPart_129 rfl (fun hc10 => ?_) (fun hc10 => ?_)
            · have h := it_f h hc10
              refine z_aload_n (i := 0) dX4_runPart_172 rfl rfl ?_
              refine z_iconst (v := (1 : Int32)) dX4_runPart_173 kc_1 ?_
              refine z_putX allR_nd dX4_runPart_174 fl_X4_31 mk7 rfl rfl rfl rfl ?_
              refine z_iinc (i := 6) (v := (v6 + (1 : Int32))) dX4_runPart_177 rfl (iinc_k kc_1) (Nat.le_of_ble_eq_true rfl) rfl ?_
              refine z_goto (tgt := 25) dX4_runPart_180 rfl ?_
              refine z_fgt (i := 7) ?_
              exact ih _ _ h hK
            · have h := it_t h hc10
              refine z_aload_n (i := 0) dX4_runPart_132 rfl rfl ?_
              refine z_aload_n (i := 1) dX4_runPart_133 rfl rfl ?_
              refine z_iload (i := 7) dX4_runPart_134 rfl ?_
              refine z_iload (i := 6) dX4_runPart_136 rfl ?_
              obtain ⟨q11, hq12, h⟩ := bnd h
              refine z_fVv (sX4_execute M j1 (M.1 (8, 0, 0) v6.toNatClampNeg) v6 hj1 hq12) dX4_runPart_138 ml_X4_55 cd_X4_execute mk7 rfl rfl rfl (rmk_d (by omega) (by decide)) rfl rfl ?_
              refine z_aload_n (i := 0) dX4_runPart_141 rfl rfl ?_
              refine z_dup dX4_runPart_142 rfl ?_
              refine z_getI (x := (q11.1 (7, 0, 0) 5)) dX4_runPart_143 fl_X4_28 mk7 rfl rfl ?_
              refine z_iconst (v := (1 : Int32)) dX4_runPart_146 kc_1 ?_
              refine z_iadd dX4_runPart_147 ?_
              refine z_putI allR_nd dX4_runPart_148 fl_X4_28 mk7 rfl rfl ?_
              refine z_aload_n (i := 0) dX4_runPart_151 rfl rfl ?_
              refine z_aload_n (i := 0) dX4_runPart_152 rfl rfl ?_
              refine z_getI (x := ((q11.1 (7, 0, 0) 5) + (1 : Int32))) dX4_runPart_153 fl_X4_28 mk7 rfl (gp1 (M := q11) (r := (7, 0, 0)) (j := 5) (v := ((q11.1 (7, 0, 0) 5) + (1 : Int32)))) ?_
              refine z_bipush (v := (40 : Int32)) dX4_runPart_156 kb_40 ?_
              refine z_icmp_lt (tgt := 165) dX4_runPart_158 rfl (fun hc13 => ?_) (fun hc13 => ?_)
              · have h := it_t h hc13
                refine z_iconst (v := (0 : Int32)) dX4_runPart_165 kc_0 ?_
                refine z_putX allR_nd dX4_runPart_166 fl_X4_31 mk7 rfl rfl rfl rfl ?_
                refine z_goto (tgt := 177) dX4_runPart_169 rfl ?_
                refine z_iinc (i := 6) (v := (v6 + (1 : Int32))) dX4_runPart_177 rfl (iinc_k kc_1) (Nat.le_of_ble_eq_true rfl) rfl ?_
                refine z_goto (tgt := 25) dX4_runPart_180 rfl ?_
                refine z_fgt (i := 7) ?_
                exact ih _ _ h hK
              · have h := it_f h hc13
                refine z_iconst (v := (1 : Int32)) dX4_runPart_161 kc_1 ?_
                refine z_goto (tgt := 166) dX4_runPart_162 rfl ?_
                refine z_putX allR_nd dX4_runPart_166 fl_X4_31 mk7 rfl rfl rfl rfl ?_
                refine z_goto (tgt := 177) dX4_runPart_169 rfl ?_
                refine z_iinc (i := 6) (v := (v6 + (1 : Int32))) dX4_runPart_177 rfl (iinc_k kc_1) (Nat.le_of_ble_eq_true rfl) rfl ?_
                refine z_goto (tgt := 25) dX4_runPart_180 rfl ?_
                refine z_fgt (i := 7) ?_
                exact ih _ _ h hK
          · have h := it_t h hc7
            refine z_aload_n (i := 0) dX4_runPart_70 rfl rfl ?_
            refine z_iload (i := 6) dX4_runPart_71 rfl ?_
            refine z_iconst (v := (0 : Int32)) dX4_runPart_73 kc_0 ?_
            obtain ⟨q14, hq15, h⟩ := bnd h
            refine z_fVi (sX4_argument M v6 (0 : Int32) hq15) dX4_runPart_74 ml_X4_44 cd_X4_argument mk7 rfl rfl rfl (rmk_d (by omega) (by decide)) rfl rfl ?_
            refine z_istore (i := 8) dX4_runPart_77 (Nat.le_of_ble_eq_true rfl) rfl ?_
            refine sX4_runPart_L79 rc j1 c4 c5 v6 (M.1 (8, 0, 0) v6.toNatClampNeg) hj1 dd hrc NF _ _ h (fun w21 M22 h => ?_)
            refine z_goto (tgt := 177) dX4_runPart_117 rfl ?_
            refine z_iinc (i := 6) (v := (v6 + (1 : Int32))) dX4_runPart_177 rfl (iinc_k kc_1) (Nat.le_of_ble_eq_true rfl) rfl ?_
            refine z_goto (tgt := 25) dX4_runPart_180 rfl ?_
            refine z_fgt (i := 7) ?_
            refine z_fgt (i := 8) ?_
            exact ih _ _ h hK
        · have h := it_f h hc5
          refine z_goto (tgt := 177) dX4_runPart_51 rfl ?_
          refine z_iinc (i := 6) (v := (v6 + (1 : Int32))) dX4_runPart_177 rfl (iinc_k kc_1) (Nat.le_of_ble_eq_true rfl) rfl ?_
          refine z_goto (tgt := 25) dX4_runPart_180 rfl ?_
          exact ih _ _ h hK
set_option maxRecDepth 20000 in
set_option maxHeartbeats 2000000 in
theorem sX4_runPart {wv : Nat} (rc : Mm → Nat → Int32 → Int32 → Int32 → Option Mm) (dd : Nat) (hrc : ∀ (M : Mm) (j1 : Nat) (x2 : Int32) (x3 : Int32) (x4 : Int32) (hj1 : j1 < 12) (res : Mm), rc M j1 x2 x3 x4 = some res → TF wv yX4_runPart cX4_runPart 9 none dd [.inr (7, 0, 0), .inr (9, j1, 0), .inl (.int x2), .inl (.int x3), .inl (.int x4)] M (none) res) (M : Mm) (j1 : Nat) (x2 : Int32) (x3 : Int32) (x4 : Int32) (hj1 : j1 < 12) {res : Mm} (h : fX4_runPart rc M j1 x2 x3 x4 = some res) : TF wv yX4_runPart cX4_runPart 9 none (dd + 5) [.inr (7, 0, 0), .inr (9, j1, 0), .inl (.int x2), .inl (.int x3), .inl (.int x4)] M (none) res := by
  rw [fX4_runPart] at h
  refine TF.go (n := 4) (ls := [some (.inr (7, 0, 0)), some (.inr (9, j1, 0)), some (.inl (.int x2)), some (.inl (.int x3)), some (.inl (.int x4)), none, none, none, none]) rfl rfl rfl rfl rfl ?_
  refine z_iload (i := 4) dX4_runPart_0 rfl ?_
  refine z_iconst (v := (2 : Int32)) dX4_runPart_2 kc_2 ?_
  refine z_icmp_le (tgt := 10) dX4_runPart_3 rfl (fun hc1 => ?_) (fun hc1 => ?_)
  · have h := it_t h hc1
    refine z_iload_n (i := 3) dX4_runPart_10 rfl rfl ?_
    refine z_bipush (v := (30 : Int32)) dX4_runPart_11 kb_30 ?_
    refine z_fSi (sJ9_min_7cf53 M x3 (30 : Int32)) dX4_runPart_13 ml_X4_35 cd_J9_min_7cf53 rfl rfl (rmk_d (by omega) (by decide)) rfl rfl ?_
    refine z_istore (i := 5) dX4_runPart_16 (Nat.le_of_ble_eq_true rfl) rfl ?_
    refine z_iconst (v := (0 : Int32)) dX4_runPart_18 kc_0 ?_
    refine z_iload_n (i := 2) dX4_runPart_19 rfl rfl ?_
    refine z_fSi (sJ9_max_7cf53 M (0 : Int32) x2) dX4_runPart_20 ml_X4_41 cd_J9_max_7cf53 rfl rfl (rmk_d (by omega) (by decide)) rfl rfl ?_
    refine z_istore (i := 6) dX4_runPart_23 (Nat.le_of_ble_eq_true rfl) rfl ?_
    refine z_fgt (i := 2) ?_
    refine z_fgt (i := 3) ?_
    refine sX4_runPart_L25 rc j1 x4 (fJ9_min_7cf53 M x3 (30 : Int32)) hj1 dd hrc NF _ _ h (fun w23 M24 h => ?_)
    cases h
    exact z_vret dX4_runPart_183 rfl (Nat.le_refl _) (Nat.le_refl _) ⟨rfl, rfl⟩
  · have h := it_f h hc1
    refine z_iload_n (i := 2) dX4_runPart_6 rfl rfl ?_
    refine z_goto (tgt := 16) dX4_runPart_7 rfl ?_
    refine z_istore (i := 5) dX4_runPart_16 (Nat.le_of_ble_eq_true rfl) rfl ?_
    refine z_iconst (v := (0 : Int32)) dX4_runPart_18 kc_0 ?_
    refine z_iload_n (i := 2) dX4_runPart_19 rfl rfl ?_
    refine z_fSi (sJ9_max_7cf53 M (0 : Int32) x2) dX4_runPart_20 ml_X4_41 cd_J9_max_7cf53 rfl rfl (rmk_d (by omega) (by decide)) rfl rfl ?_
    refine z_istore (i := 6) dX4_runPart_23 (Nat.le_of_ble_eq_true rfl) rfl ?_
    refine z_fgt (i := 2) ?_
    refine z_fgt (i := 3) ?_
    refine sX4_runPart_L25 rc j1 x4 x2 hj1 dd hrc NF _ _ h (fun w25 M26 h => ?_)
    cases h
    exact z_vret dX4_runPart_183 rfl (Nat.le_refl _) (Nat.le_refl _) ⟨rfl, rfl⟩
set_option maxRecDepth 20000 in
set_option maxHeartbeats 2000000 in
theorem uX4_runPart {wv : Nat} : ∀ (n : Nat) (M : Mm) (j1 : Nat) (x2 : Int32) (x3 : Int32) (x4 : Int32) (hj1 : j1 < 12) (res : Mm), gX4_runPart n M j1 x2 x3 x4 = some res → TF wv yX4_runPart cX4_runPart 9 none (5 * n) [.inr (7, 0, 0), .inr (9, j1, 0), .inl (.int x2), .inl (.int x3), .inl (.int x4)] M (none) res := by
  intro n
  induction n with
  | zero => intro M j1 x2 x3 x4 hj1 res h; cases h
  | succ n ih =>
    intro M j1 x2 x3 x4 hj1 res h
    exact sX4_runPart (gX4_runPart n) (5 * n) (fun M j1 x2 x3 x4 hj1 res h => ih M j1 x2 x3 x4 hj1 res h) M j1 x2 x3 x4 hj1 h
theorem dX7_kindOf_0 : decode cX7_kindOf 0 = .ok (.iload_n 0, 1) := by decide +kernel
theorem dX7_kindOf_1 : decode cX7_kindOf 1 = .ok (.bipush 32, 2) := by decide +kernel
theorem dX7_kindOf_3 : decode cX7_kindOf 3 = .ok (.if_icmp .eq 9, 3) := by decide +kernel
theorem dX7_kindOf_6 : decode cX7_kindOf 6 = .ok (.iload_n 0, 1) := by decide +kernel
theorem dX7_kindOf_7 : decode cX7_kindOf 7 = .ok (.bipush 10, 2) := by decide +kernel
theorem dX7_kindOf_9 : decode cX7_kindOf 9 = .ok (.if_icmp .ne 5, 3) := by decide +kernel
theorem dX7_kindOf_12 : decode cX7_kindOf 12 = .ok (.iconst 4, 1) := by decide +kernel
theorem dX7_kindOf_13 : decode cX7_kindOf 13 = .ok (.ireturn, 1) := by decide +kernel
theorem dX7_kindOf_14 : decode cX7_kindOf 14 = .ok (.iload_n 0, 1) := by decide +kernel
theorem dX7_kindOf_15 : decode cX7_kindOf 15 = .ok (.bipush 97, 2) := by decide +kernel
theorem dX7_kindOf_17 : decode cX7_kindOf 17 = .ok (.if_icmp .lt 11, 3) := by decide +kernel
theorem dX7_kindOf_20 : decode cX7_kindOf 20 = .ok (.iload_n 0, 1) := by decide +kernel
theorem dX7_kindOf_21 : decode cX7_kindOf 21 = .ok (.bipush 122, 2) := by decide +kernel
theorem dX7_kindOf_23 : decode cX7_kindOf 23 = .ok (.if_icmp .gt 5, 3) := by decide +kernel
theorem dX7_kindOf_26 : decode cX7_kindOf 26 = .ok (.iconst 1, 1) := by decide +kernel
theorem dX7_kindOf_27 : decode cX7_kindOf 27 = .ok (.ireturn, 1) := by decide +kernel
theorem dX7_kindOf_28 : decode cX7_kindOf 28 = .ok (.iload_n 0, 1) := by decide +kernel
theorem dX7_kindOf_29 : decode cX7_kindOf 29 = .ok (.bipush 48, 2) := by decide +kernel
theorem dX7_kindOf_31 : decode cX7_kindOf 31 = .ok (.if_icmp .lt 13, 3) := by decide +kernel
theorem dX7_kindOf_34 : decode cX7_kindOf 34 = .ok (.iload_n 0, 1) := by decide +kernel
theorem dX7_kindOf_35 : decode cX7_kindOf 35 = .ok (.bipush 57, 2) := by decide +kernel
theorem dX7_kindOf_37 : decode cX7_kindOf 37 = .ok (.if_icmp .gt 7, 3) := by decide +kernel
theorem dX7_kindOf_40 : decode cX7_kindOf 40 = .ok (.iconst 2, 1) := by decide +kernel
theorem dX7_kindOf_41 : decode cX7_kindOf 41 = .ok (.goto 4, 3) := by decide +kernel
theorem dX7_kindOf_44 : decode cX7_kindOf 44 = .ok (.iconst 3, 1) := by decide +kernel
theorem dX7_kindOf_45 : decode cX7_kindOf 45 = .ok (.ireturn, 1) := by decide +kernel
def fX7_kindOf (M : Mm) (x1 : Int32) : Int32 := if x1 = (32 : Int32) then (4 : Int32) else if x1 = (10 : Int32) then (4 : Int32) else if x1 < (97 : Int32) then (if x1 < (48 : Int32) then (3 : Int32) else if (57 : Int32) < x1 then (3 : Int32) else (2 : Int32)) else if (122 : Int32) < x1 then (if x1 < (48 : Int32) then (3 : Int32) else if (57 : Int32) < x1 then (3 : Int32) else (2 : Int32)) else (1 : Int32)
set_option maxRecDepth 20000 in
set_option maxHeartbeats 2000000 in
theorem tX7_kindOf {wv : Nat} (M : Mm) (x1 : Int32) {res : Int32} (h : fX7_kindOf M x1 = res) : TF wv yX7_kindOf cX7_kindOf 1 (some .int) 0 [.inl (.int x1)] M (some (.int res)) M := by
  rw [fX7_kindOf] at h
  refine TF.go (n := 0) (ls := [some (.inl (.int x1))]) rfl rfl rfl rfl rfl ?_
  refine z_iload_n (i := 0) dX7_kindOf_0 rfl rfl ?_
  refine z_bipush (v := (32 : Int32)) dX7_kindOf_1 kb_32 ?_
  refine z_icmp_eq (tgt := 12) dX7_kindOf_3 rfl (fun hc1 => ?_) (fun hc1 => ?_)
  · have h := it_t h hc1
    refine z_iconst (v := (4 : Int32)) dX7_kindOf_12 kc_4 ?_
    subst h
    exact z_iret dX7_kindOf_13 rfl rfl (Nat.le_refl _) (Nat.le_refl _) ⟨rfl, rfl⟩
  · have h := it_f h hc1
    refine z_iload_n (i := 0) dX7_kindOf_6 rfl rfl ?_
    refine z_bipush (v := (10 : Int32)) dX7_kindOf_7 kb_10 ?_
    refine z_icmp_ne (tgt := 14) dX7_kindOf_9 rfl (fun hc2 => ?_) (fun hc2 => ?_)
    · have h := it_f h hc2
      refine z_iload_n (i := 0) dX7_kindOf_14 rfl rfl ?_
      refine z_bipush (v := (97 : Int32)) dX7_kindOf_15 kb_97 ?_
      refine z_icmp_lt (tgt := 28) dX7_kindOf_17 rfl (fun hc3 => ?_) (fun hc3 => ?_)
      · have h := it_t h hc3
        refine z_iload_n (i := 0) dX7_kindOf_28 rfl rfl ?_
        refine z_bipush (v := (48 : Int32)) dX7_kindOf_29 kb_48 ?_
        refine z_icmp_lt (tgt := 44) dX7_kindOf_31 rfl (fun hc4 => ?_) (fun hc4 => ?_)
        · have h := it_t h hc4
          refine z_iconst (v := (3 : Int32)) dX7_kindOf_44 kc_3 ?_
          subst h
          exact z_iret dX7_kindOf_45 rfl rfl (Nat.le_refl _) (Nat.le_refl _) ⟨rfl, rfl⟩
        · have h := it_f h hc4
          refine z_iload_n (i := 0) dX7_kindOf_34 rfl rfl ?_
          refine z_bipush (v := (57 : Int32)) dX7_kindOf_35 kb_57 ?_
          refine z_icmp_gt (tgt := 44) dX7_kindOf_37 rfl (fun hc5 => ?_) (fun hc5 => ?_)
          · have h := it_t h hc5
            refine z_iconst (v := (3 : Int32)) dX7_kindOf_44 kc_3 ?_
            subst h
            exact z_iret dX7_kindOf_45 rfl rfl (Nat.le_refl _) (Nat.le_refl _) ⟨rfl, rfl⟩
          · have h := it_f h hc5
            refine z_iconst (v := (2 : Int32)) dX7_kindOf_40 kc_2 ?_
            refine z_goto (tgt := 45) dX7_kindOf_41 rfl ?_
            subst h
            exact z_iret dX7_kindOf_45 rfl rfl (Nat.le_refl _) (Nat.le_refl _) ⟨rfl, rfl⟩
      · have h := it_f h hc3
        refine z_iload_n (i := 0) dX7_kindOf_20 rfl rfl ?_
        refine z_bipush (v := (122 : Int32)) dX7_kindOf_21 kb_122 ?_
        refine z_icmp_gt (tgt := 28) dX7_kindOf_23 rfl (fun hc6 => ?_) (fun hc6 => ?_)
        · have h := it_t h hc6
          refine z_iload_n (i := 0) dX7_kindOf_28 rfl rfl ?_
          refine z_bipush (v := (48 : Int32)) dX7_kindOf_29 kb_48 ?_
          refine z_icmp_lt (tgt := 44) dX7_kindOf_31 rfl (fun hc7 => ?_) (fun hc7 => ?_)
          · have h := it_t h hc7
            refine z_iconst (v := (3 : Int32)) dX7_kindOf_44 kc_3 ?_
            subst h
            exact z_iret dX7_kindOf_45 rfl rfl (Nat.le_refl _) (Nat.le_refl _) ⟨rfl, rfl⟩
          · have h := it_f h hc7
            refine z_iload_n (i := 0) dX7_kindOf_34 rfl rfl ?_
            refine z_bipush (v := (57 : Int32)) dX7_kindOf_35 kb_57 ?_
            refine z_icmp_gt (tgt := 44) dX7_kindOf_37 rfl (fun hc8 => ?_) (fun hc8 => ?_)
            · have h := it_t h hc8
              refine z_iconst (v := (3 : Int32)) dX7_kindOf_44 kc_3 ?_
              subst h
              exact z_iret dX7_kindOf_45 rfl rfl (Nat.le_refl _) (Nat.le_refl _) ⟨rfl, rfl⟩
            · have h := it_f h hc8
              refine z_iconst (v := (2 : Int32)) dX7_kindOf_40 kc_2 ?_
              refine z_goto (tgt := 45) dX7_kindOf_41 rfl ?_
              subst h
              exact z_iret dX7_kindOf_45 rfl rfl (Nat.le_refl _) (Nat.le_refl _) ⟨rfl, rfl⟩
        · have h := it_f h hc6
          refine z_iconst (v := (1 : Int32)) dX7_kindOf_26 kc_1 ?_
          subst h
          exact z_iret dX7_kindOf_27 rfl rfl (Nat.le_refl _) (Nat.le_refl _) ⟨rfl, rfl⟩
    · have h := it_t h hc2
      refine z_iconst (v := (4 : Int32)) dX7_kindOf_12 kc_4 ?_
      subst h
      exact z_iret dX7_kindOf_13 rfl rfl (Nat.le_refl _) (Nat.le_refl _) ⟨rfl, rfl⟩
theorem sX7_kindOf {wv : Nat} (M : Mm) (x1 : Int32) : TF wv yX7_kindOf cX7_kindOf 1 (some .int) 0 [.inl (.int x1)] M (some (.int (fX7_kindOf M x1))) M := tX7_kindOf M x1  rfl
