theorem dX4_faultOf_0 : decode cX4_faultOf 0 = .ok (.aload_n 0, 1) := by decide +kernel
theorem dX4_faultOf_1 : decode cX4_faultOf 1 = .ok (.iload_n 2, 1) := by decide +kernel
theorem dX4_faultOf_2 : decode cX4_faultOf 2 = .ok (.iconst 0, 1) := by decide +kernel
theorem dX4_faultOf_3 : decode cX4_faultOf 3 = .ok (.invokevirtual 44, 3) := by decide +kernel
theorem dX4_faultOf_6 : decode cX4_faultOf 6 = .ok (.istore_n 3, 1) := by decide +kernel
theorem dX4_faultOf_7 : decode cX4_faultOf 7 = .ok (.aload_n 0, 1) := by decide +kernel
theorem dX4_faultOf_8 : decode cX4_faultOf 8 = .ok (.iload_n 2, 1) := by decide +kernel
theorem dX4_faultOf_9 : decode cX4_faultOf 9 = .ok (.iconst 1, 1) := by decide +kernel
theorem dX4_faultOf_10 : decode cX4_faultOf 10 = .ok (.invokevirtual 44, 3) := by decide +kernel
theorem dX4_faultOf_13 : decode cX4_faultOf 13 = .ok (.istore 4, 2) := by decide +kernel
theorem dX4_faultOf_15 : decode cX4_faultOf 15 = .ok (.aload_n 0, 1) := by decide +kernel
theorem dX4_faultOf_16 : decode cX4_faultOf 16 = .ok (.iload_n 2, 1) := by decide +kernel
theorem dX4_faultOf_17 : decode cX4_faultOf 17 = .ok (.iconst 2, 1) := by decide +kernel
theorem dX4_faultOf_18 : decode cX4_faultOf 18 = .ok (.invokevirtual 44, 3) := by decide +kernel
theorem dX4_faultOf_21 : decode cX4_faultOf 21 = .ok (.istore 5, 2) := by decide +kernel
theorem dX4_faultOf_23 : decode cX4_faultOf 23 = .ok (.aload_n 0, 1) := by decide +kernel
theorem dX4_faultOf_24 : decode cX4_faultOf 24 = .ok (.getfield 11, 3) := by decide +kernel
theorem dX4_faultOf_27 : decode cX4_faultOf 27 = .ok (.iload_n 2, 1) := by decide +kernel
theorem dX4_faultOf_28 : decode cX4_faultOf 28 = .ok (.iaload, 1) := by decide +kernel
theorem dX4_faultOf_29 : decode cX4_faultOf 29 = .ok (.tableswitch 112 0 7 #[47, 57, 67, 75, 86, 92, 100, 106], 47) := by decide +kernel
theorem dX4_faultOf_76 : decode cX4_faultOf 76 = .ok (.aload_n 1, 1) := by decide +kernel
theorem dX4_faultOf_77 : decode cX4_faultOf 77 = .ok (.iload_n 3, 1) := by decide +kernel
theorem dX4_faultOf_78 : decode cX4_faultOf 78 = .ok (.iload 4, 2) := by decide +kernel
theorem dX4_faultOf_80 : decode cX4_faultOf 80 = .ok (.iload 5, 2) := by decide +kernel
theorem dX4_faultOf_82 : decode cX4_faultOf 82 = .ok (.invokevirtual 59, 3) := by decide +kernel
theorem dX4_faultOf_85 : decode cX4_faultOf 85 = .ok (.ireturn, 1) := by decide +kernel
theorem dX4_faultOf_86 : decode cX4_faultOf 86 = .ok (.aload_n 1, 1) := by decide +kernel
theorem dX4_faultOf_87 : decode cX4_faultOf 87 = .ok (.iload_n 3, 1) := by decide +kernel
theorem dX4_faultOf_88 : decode cX4_faultOf 88 = .ok (.iload 4, 2) := by decide +kernel
theorem dX4_faultOf_90 : decode cX4_faultOf 90 = .ok (.iload 5, 2) := by decide +kernel
theorem dX4_faultOf_92 : decode cX4_faultOf 92 = .ok (.invokevirtual 65, 3) := by decide +kernel
theorem dX4_faultOf_95 : decode cX4_faultOf 95 = .ok (.ireturn, 1) := by decide +kernel
theorem dX4_faultOf_96 : decode cX4_faultOf 96 = .ok (.aload_n 1, 1) := by decide +kernel
theorem dX4_faultOf_97 : decode cX4_faultOf 97 = .ok (.iload_n 3, 1) := by decide +kernel
theorem dX4_faultOf_98 : decode cX4_faultOf 98 = .ok (.iload 4, 2) := by decide +kernel
theorem dX4_faultOf_100 : decode cX4_faultOf 100 = .ok (.invokevirtual 68, 3) := by decide +kernel
theorem dX4_faultOf_103 : decode cX4_faultOf 103 = .ok (.ireturn, 1) := by decide +kernel
theorem dX4_faultOf_104 : decode cX4_faultOf 104 = .ok (.aload_n 1, 1) := by decide +kernel
theorem dX4_faultOf_105 : decode cX4_faultOf 105 = .ok (.iload_n 3, 1) := by decide +kernel
theorem dX4_faultOf_106 : decode cX4_faultOf 106 = .ok (.iload 4, 2) := by decide +kernel
theorem dX4_faultOf_108 : decode cX4_faultOf 108 = .ok (.iload 5, 2) := by decide +kernel
theorem dX4_faultOf_110 : decode cX4_faultOf 110 = .ok (.imul, 1) := by decide +kernel
theorem dX4_faultOf_111 : decode cX4_faultOf 111 = .ok (.invokevirtual 71, 3) := by decide +kernel
theorem dX4_faultOf_114 : decode cX4_faultOf 114 = .ok (.ireturn, 1) := by decide +kernel
theorem dX4_faultOf_115 : decode cX4_faultOf 115 = .ok (.aload_n 1, 1) := by decide +kernel
theorem dX4_faultOf_116 : decode cX4_faultOf 116 = .ok (.iload_n 3, 1) := by decide +kernel
theorem dX4_faultOf_117 : decode cX4_faultOf 117 = .ok (.invokevirtual 74, 3) := by decide +kernel
theorem dX4_faultOf_120 : decode cX4_faultOf 120 = .ok (.ireturn, 1) := by decide +kernel
theorem dX4_faultOf_121 : decode cX4_faultOf 121 = .ok (.iload_n 3, 1) := by decide +kernel
theorem dX4_faultOf_122 : decode cX4_faultOf 122 = .ok (.iconst 0, 1) := by decide +kernel
theorem dX4_faultOf_123 : decode cX4_faultOf 123 = .ok (.bipush 90, 2) := by decide +kernel
theorem dX4_faultOf_125 : decode cX4_faultOf 125 = .ok (.invokestatic 78, 3) := by decide +kernel
theorem dX4_faultOf_128 : decode cX4_faultOf 128 = .ok (.ireturn, 1) := by decide +kernel
theorem dX4_faultOf_129 : decode cX4_faultOf 129 = .ok (.aload_n 1, 1) := by decide +kernel
theorem dX4_faultOf_130 : decode cX4_faultOf 130 = .ok (.iload_n 3, 1) := by decide +kernel
theorem dX4_faultOf_131 : decode cX4_faultOf 131 = .ok (.invokevirtual 81, 3) := by decide +kernel
theorem dX4_faultOf_134 : decode cX4_faultOf 134 = .ok (.ireturn, 1) := by decide +kernel
theorem dX4_faultOf_135 : decode cX4_faultOf 135 = .ok (.aload_n 1, 1) := by decide +kernel
theorem dX4_faultOf_136 : decode cX4_faultOf 136 = .ok (.iload_n 3, 1) := by decide +kernel
theorem dX4_faultOf_137 : decode cX4_faultOf 137 = .ok (.invokevirtual 84, 3) := by decide +kernel
theorem dX4_faultOf_140 : decode cX4_faultOf 140 = .ok (.ireturn, 1) := by decide +kernel
theorem dX4_faultOf_141 : decode cX4_faultOf 141 = .ok (.aload_n 1, 1) := by decide +kernel
theorem dX4_faultOf_142 : decode cX4_faultOf 142 = .ok (.iload_n 3, 1) := by decide +kernel
theorem dX4_faultOf_143 : decode cX4_faultOf 143 = .ok (.invokevirtual 87, 3) := by decide +kernel
theorem dX4_faultOf_146 : decode cX4_faultOf 146 = .ok (.ireturn, 1) := by decide +kernel
def fX4_faultOf (M : Mm) (j1 : Nat) (x2 : Int32) : Option Int32 := (fX4_argument M x2 (0 : Int32)).bind fun q1 => (fX4_argument M x2 (1 : Int32)).bind fun q3 => (fX4_argument M x2 (2 : Int32)).bind fun q5 => if x2 < 0 ∨ 30 ≤ x2.toNatClampNeg then none else if (M.1 (8, 0, 0) x2.toNatClampNeg) = (0 : Int32) then ((fX0_putPinFault M j1 q1 q3 q5).bind fun q9 => some q9) else if (M.1 (8, 0, 0) x2.toNatClampNeg) = (1 : Int32) then ((fX0_takePinFault M j1 q1 q3 q5).bind fun q12 => some q12) else if (M.1 (8, 0, 0) x2.toNatClampNeg) = (2 : Int32) then some (fX0_gapFault M j1 q1 q3) else if (M.1 (8, 0, 0) x2.toNatClampNeg) = (3 : Int32) then ((fX0_bendFault M j1 q1 (q3 * q5)).bind fun q16 => some q16) else if (M.1 (8, 0, 0) x2.toNatClampNeg) = (4 : Int32) then some (fX0_toothFault M j1 q1) else if (M.1 (8, 0, 0) x2.toNatClampNeg) = (5 : Int32) then some (fX9_rangeFault M q1 (0 : Int32) (90 : Int32)) else if (M.1 (8, 0, 0) x2.toNatClampNeg) = (6 : Int32) then some (fX0_windFault M j1 q1) else if (M.1 (8, 0, 0) x2.toNatClampNeg) = (7 : Int32) then some (fX0_tuneFault M j1 q1) else some (fX0_playFault M j1 q1)
set_option maxRecDepth 20000 in
set_option maxHeartbeats 2000000 in
theorem sX4_faultOf {wv : Nat} (M : Mm) (j1 : Nat) (x2 : Int32) (hj1 : j1 < 12) {res : Int32} (h : fX4_faultOf M j1 x2 = some res) : TF wv yX4_faultOf cX4_faultOf 6 (some .int) 3 [.inr (7, 0, 0), .inr (9, j1, 0), .inl (.int x2)] M (some (.int res)) M := by
  rw [fX4_faultOf] at h
  refine TF.go (n := 3) (ls := [some (.inr (7, 0, 0)), some (.inr (9, j1, 0)), some (.inl (.int x2)), none, none, none]) rfl rfl rfl rfl rfl ?_
  refine z_aload_n (i := 0) dX4_faultOf_0 rfl rfl ?_
  refine z_iload_n (i := 2) dX4_faultOf_1 rfl rfl ?_
  refine z_iconst (v := (0 : Int32)) dX4_faultOf_2 kc_0 ?_
  obtain ⟨q1, hq2, h⟩ := bnd h
  refine z_fVi (sX4_argument M x2 (0 : Int32) hq2) dX4_faultOf_3 ml_X4_44 cd_X4_argument mk7 rfl rfl rfl rfl rfl rfl ?_
  refine z_istore_n (i := 3) dX4_faultOf_6 rfl (Nat.le_of_ble_eq_true rfl) rfl ?_
  refine z_aload_n (i := 0) dX4_faultOf_7 rfl rfl ?_
  refine z_iload_n (i := 2) dX4_faultOf_8 rfl rfl ?_
  refine z_iconst (v := (1 : Int32)) dX4_faultOf_9 kc_1 ?_
  obtain ⟨q3, hq4, h⟩ := bnd h
  refine z_fVi (sX4_argument M x2 (1 : Int32) hq4) dX4_faultOf_10 ml_X4_44 cd_X4_argument mk7 rfl rfl rfl rfl rfl rfl ?_
  refine z_istore (i := 4) dX4_faultOf_13 (Nat.le_of_ble_eq_true rfl) rfl ?_
  refine z_aload_n (i := 0) dX4_faultOf_15 rfl rfl ?_
  refine z_iload_n (i := 2) dX4_faultOf_16 rfl rfl ?_
  refine z_iconst (v := (2 : Int32)) dX4_faultOf_17 kc_2 ?_
  obtain ⟨q5, hq6, h⟩ := bnd h
  refine z_fVi (sX4_argument M x2 (2 : Int32) hq6) dX4_faultOf_18 ml_X4_44 cd_X4_argument mk7 rfl rfl rfl rfl rfl rfl ?_
  refine z_istore (i := 5) dX4_faultOf_21 (Nat.le_of_ble_eq_true rfl) rfl ?_
  refine z_aload_n (i := 0) dX4_faultOf_23 rfl rfl ?_
  refine z_getR (r' := (8, 0, 0)) dX4_faultOf_24 fl_X4_11 mk7 rfl rfl ?_
  refine z_iload_n (i := 2) dX4_faultOf_27 rfl rfl ?_
  obtain ⟨hc7, h⟩ := chk h
  refine z_iald (x := (M.1 (8, 0, 0) x2.toNatClampNeg)) dX4_faultOf_28 (m8 _ (Nat.le_of_ble_eq_true rfl)) rfl hc7 rfl ?_
  by_cases hc8 : (M.1 (8, 0, 0) x2.toNatClampNeg) = (0 : Int32)
  · have h := it_t h hc8
    refine z_tin (tgt := 76) dX4_faultOf_29 (by rw [hc8]; decide) (by rw [hc8]; decide) (off := 47) (by rw [hc8]; decide) rfl ?_
    refine z_aload_n (i := 1) dX4_faultOf_76 rfl rfl ?_
    refine z_iload_n (i := 3) dX4_faultOf_77 rfl rfl ?_
    refine z_iload (i := 4) dX4_faultOf_78 rfl ?_
    refine z_iload (i := 5) dX4_faultOf_80 rfl ?_
    obtain ⟨q9, hq10, h⟩ := bnd h
    refine z_fVi (sX0_putPinFault M j1 q1 q3 q5 hj1 hq10) dX4_faultOf_82 ml_X4_59 cd_X0_putPinFault (m9 _ hj1) rfl rfl rfl rfl rfl rfl ?_
    cases h
    exact z_iret dX4_faultOf_85 rfl rfl (Nat.le_refl _) (Nat.le_refl _) ⟨rfl, rfl⟩
  have h := it_f h hc8
  by_cases hc11 : (M.1 (8, 0, 0) x2.toNatClampNeg) = (1 : Int32)
  · have h := it_t h hc11
    refine z_tin (tgt := 86) dX4_faultOf_29 (by rw [hc11]; decide) (by rw [hc11]; decide) (off := 57) (by rw [hc11]; decide) rfl ?_
    refine z_aload_n (i := 1) dX4_faultOf_86 rfl rfl ?_
    refine z_iload_n (i := 3) dX4_faultOf_87 rfl rfl ?_
    refine z_iload (i := 4) dX4_faultOf_88 rfl ?_
    refine z_iload (i := 5) dX4_faultOf_90 rfl ?_
    obtain ⟨q12, hq13, h⟩ := bnd h
    refine z_fVi (sX0_takePinFault M j1 q1 q3 q5 hj1 hq13) dX4_faultOf_92 ml_X4_65 cd_X0_takePinFault (m9 _ hj1) rfl rfl rfl rfl rfl rfl ?_
    cases h
    exact z_iret dX4_faultOf_95 rfl rfl (Nat.le_refl _) (Nat.le_refl _) ⟨rfl, rfl⟩
  have h := it_f h hc11
  by_cases hc14 : (M.1 (8, 0, 0) x2.toNatClampNeg) = (2 : Int32)
  · have h := it_t h hc14
    refine z_tin (tgt := 96) dX4_faultOf_29 (by rw [hc14]; decide) (by rw [hc14]; decide) (off := 67) (by rw [hc14]; decide) rfl ?_
    refine z_aload_n (i := 1) dX4_faultOf_96 rfl rfl ?_
    refine z_iload_n (i := 3) dX4_faultOf_97 rfl rfl ?_
    refine z_iload (i := 4) dX4_faultOf_98 rfl ?_
    refine z_fVi (sX0_gapFault M j1 q1 q3 hj1) dX4_faultOf_100 ml_X4_68 cd_X0_gapFault (m9 _ hj1) rfl rfl rfl rfl rfl rfl ?_
    cases h
    exact z_iret dX4_faultOf_103 rfl rfl (Nat.le_refl _) (Nat.le_refl _) ⟨rfl, rfl⟩
  have h := it_f h hc14
  by_cases hc15 : (M.1 (8, 0, 0) x2.toNatClampNeg) = (3 : Int32)
  · have h := it_t h hc15
    refine z_tin (tgt := 104) dX4_faultOf_29 (by rw [hc15]; decide) (by rw [hc15]; decide) (off := 75) (by rw [hc15]; decide) rfl ?_
    refine z_aload_n (i := 1) dX4_faultOf_104 rfl rfl ?_
    refine z_iload_n (i := 3) dX4_faultOf_105 rfl rfl ?_
    refine z_iload (i := 4) dX4_faultOf_106 rfl ?_
    refine z_iload (i := 5) dX4_faultOf_108 rfl ?_
    refine z_imul dX4_faultOf_110 ?_
    obtain ⟨q16, hq17, h⟩ := bnd h
    refine z_fVi (sX0_bendFault M j1 q1 (q3 * q5) hj1 hq17) dX4_faultOf_111 ml_X4_71 cd_X0_bendFault (m9 _ hj1) rfl rfl rfl rfl rfl rfl ?_
    cases h
    exact z_iret dX4_faultOf_114 rfl rfl (Nat.le_refl _) (Nat.le_refl _) ⟨rfl, rfl⟩
  have h := it_f h hc15
  by_cases hc18 : (M.1 (8, 0, 0) x2.toNatClampNeg) = (4 : Int32)
  · have h := it_t h hc18
    refine z_tin (tgt := 115) dX4_faultOf_29 (by rw [hc18]; decide) (by rw [hc18]; decide) (off := 86) (by rw [hc18]; decide) rfl ?_
    refine z_aload_n (i := 1) dX4_faultOf_115 rfl rfl ?_
    refine z_iload_n (i := 3) dX4_faultOf_116 rfl rfl ?_
    refine z_fVi (sX0_toothFault M j1 q1 hj1) dX4_faultOf_117 ml_X4_74 cd_X0_toothFault (m9 _ hj1) rfl rfl rfl rfl rfl rfl ?_
    cases h
    exact z_iret dX4_faultOf_120 rfl rfl (Nat.le_refl _) (Nat.le_refl _) ⟨rfl, rfl⟩
  have h := it_f h hc18
  by_cases hc19 : (M.1 (8, 0, 0) x2.toNatClampNeg) = (5 : Int32)
  · have h := it_t h hc19
    refine z_tin (tgt := 121) dX4_faultOf_29 (by rw [hc19]; decide) (by rw [hc19]; decide) (off := 92) (by rw [hc19]; decide) rfl ?_
    refine z_iload_n (i := 3) dX4_faultOf_121 rfl rfl ?_
    refine z_iconst (v := (0 : Int32)) dX4_faultOf_122 kc_0 ?_
    refine z_bipush (v := (90 : Int32)) dX4_faultOf_123 kb_90 ?_
    refine z_fSNi (sX9_rangeFault M q1 (0 : Int32) (90 : Int32)) dX4_faultOf_125 ml_X4_78 cd_X9_rangeFault rfl rfl rfl rfl rfl ?_
    cases h
    exact z_iret dX4_faultOf_128 rfl rfl (Nat.le_refl _) (Nat.le_refl _) ⟨rfl, rfl⟩
  have h := it_f h hc19
  by_cases hc20 : (M.1 (8, 0, 0) x2.toNatClampNeg) = (6 : Int32)
  · have h := it_t h hc20
    refine z_tin (tgt := 129) dX4_faultOf_29 (by rw [hc20]; decide) (by rw [hc20]; decide) (off := 100) (by rw [hc20]; decide) rfl ?_
    refine z_aload_n (i := 1) dX4_faultOf_129 rfl rfl ?_
    refine z_iload_n (i := 3) dX4_faultOf_130 rfl rfl ?_
    refine z_fVi (sX0_windFault M j1 q1 hj1) dX4_faultOf_131 ml_X4_81 cd_X0_windFault (m9 _ hj1) rfl rfl rfl rfl rfl rfl ?_
    cases h
    exact z_iret dX4_faultOf_134 rfl rfl (Nat.le_refl _) (Nat.le_refl _) ⟨rfl, rfl⟩
  have h := it_f h hc20
  by_cases hc21 : (M.1 (8, 0, 0) x2.toNatClampNeg) = (7 : Int32)
  · have h := it_t h hc21
    refine z_tin (tgt := 135) dX4_faultOf_29 (by rw [hc21]; decide) (by rw [hc21]; decide) (off := 106) (by rw [hc21]; decide) rfl ?_
    refine z_aload_n (i := 1) dX4_faultOf_135 rfl rfl ?_
    refine z_iload_n (i := 3) dX4_faultOf_136 rfl rfl ?_
    refine z_fVi (sX0_tuneFault M j1 q1 hj1) dX4_faultOf_137 ml_X4_84 cd_X0_tuneFault (m9 _ hj1) rfl rfl rfl rfl rfl rfl ?_
    cases h
    exact z_iret dX4_faultOf_140 rfl rfl (Nat.le_refl _) (Nat.le_refl _) ⟨rfl, rfl⟩
  have h := it_f h hc21
  refine z_tout (tgt := 141) dX4_faultOf_29 (tswo (fun k h1 h2 h3 => ?_)) rfl ?_
  · have h4 : k = 0 ∨ k = 1 ∨ k = 2 ∨ k = 3 ∨ k = 4 ∨ k = 5 ∨ k = 6 ∨ k = 7 := by omega
    rcases h4 with rfl | rfl | rfl | rfl | rfl | rfl | rfl | rfl
    · exact hc8 (Int32.toInt_inj.mp (h3.trans (by decide)))
    · exact hc11 (Int32.toInt_inj.mp (h3.trans (by decide)))
    · exact hc14 (Int32.toInt_inj.mp (h3.trans (by decide)))
    · exact hc15 (Int32.toInt_inj.mp (h3.trans (by decide)))
    · exact hc18 (Int32.toInt_inj.mp (h3.trans (by decide)))
    · exact hc19 (Int32.toInt_inj.mp (h3.trans (by decide)))
    · exact hc20 (Int32.toInt_inj.mp (h3.trans (by decide)))
    · exact hc21 (Int32.toInt_inj.mp (h3.trans (by decide)))
  · refine z_aload_n (i := 1) dX4_faultOf_141 rfl rfl ?_
    refine z_iload_n (i := 3) dX4_faultOf_142 rfl rfl ?_
    refine z_fVi (sX0_playFault M j1 q1 hj1) dX4_faultOf_143 ml_X4_87 cd_X0_playFault (m9 _ hj1) rfl rfl rfl rfl rfl rfl ?_
    cases h
    exact z_iret dX4_faultOf_146 rfl rfl (Nat.le_refl _) (Nat.le_refl _) ⟨rfl, rfl⟩
theorem dX4_execute_0 : decode cX4_execute 0 = .ok (.aload_n 0, 1) := by decide +kernel
theorem dX4_execute_1 : decode cX4_execute 1 = .ok (.iload_n 2, 1) := by decide +kernel
theorem dX4_execute_2 : decode cX4_execute 2 = .ok (.iconst 0, 1) := by decide +kernel
theorem dX4_execute_3 : decode cX4_execute 3 = .ok (.invokevirtual 44, 3) := by decide +kernel
theorem dX4_execute_6 : decode cX4_execute 6 = .ok (.istore_n 3, 1) := by decide +kernel
theorem dX4_execute_7 : decode cX4_execute 7 = .ok (.aload_n 0, 1) := by decide +kernel
theorem dX4_execute_8 : decode cX4_execute 8 = .ok (.iload_n 2, 1) := by decide +kernel
theorem dX4_execute_9 : decode cX4_execute 9 = .ok (.iconst 1, 1) := by decide +kernel
theorem dX4_execute_10 : decode cX4_execute 10 = .ok (.invokevirtual 44, 3) := by decide +kernel
theorem dX4_execute_13 : decode cX4_execute 13 = .ok (.istore 4, 2) := by decide +kernel
theorem dX4_execute_15 : decode cX4_execute 15 = .ok (.aload_n 0, 1) := by decide +kernel
theorem dX4_execute_16 : decode cX4_execute 16 = .ok (.iload_n 2, 1) := by decide +kernel
theorem dX4_execute_17 : decode cX4_execute 17 = .ok (.iconst 2, 1) := by decide +kernel
theorem dX4_execute_18 : decode cX4_execute 18 = .ok (.invokevirtual 44, 3) := by decide +kernel
theorem dX4_execute_21 : decode cX4_execute 21 = .ok (.istore 5, 2) := by decide +kernel
theorem dX4_execute_23 : decode cX4_execute 23 = .ok (.aload_n 0, 1) := by decide +kernel
theorem dX4_execute_24 : decode cX4_execute 24 = .ok (.getfield 11, 3) := by decide +kernel
theorem dX4_execute_27 : decode cX4_execute 27 = .ok (.iload_n 2, 1) := by decide +kernel
theorem dX4_execute_28 : decode cX4_execute 28 = .ok (.iaload, 1) := by decide +kernel
theorem dX4_execute_29 : decode cX4_execute 29 = .ok (.tableswitch 144 0 7 #[47, 62, 77, 91, 104, 112, 120, 133], 47) := by decide +kernel
theorem dX4_execute_76 : decode cX4_execute 76 = .ok (.aload_n 1, 1) := by decide +kernel
theorem dX4_execute_77 : decode cX4_execute 77 = .ok (.getfield 90, 3) := by decide +kernel
theorem dX4_execute_80 : decode cX4_execute 80 = .ok (.iload_n 3, 1) := by decide +kernel
theorem dX4_execute_81 : decode cX4_execute 81 = .ok (.iload 4, 2) := by decide +kernel
theorem dX4_execute_83 : decode cX4_execute 83 = .ok (.iload 5, 2) := by decide +kernel
theorem dX4_execute_85 : decode cX4_execute 85 = .ok (.invokevirtual 94, 3) := by decide +kernel
theorem dX4_execute_88 : decode cX4_execute 88 = .ok (.goto 91, 3) := by decide +kernel
theorem dX4_execute_91 : decode cX4_execute 91 = .ok (.aload_n 1, 1) := by decide +kernel
theorem dX4_execute_92 : decode cX4_execute 92 = .ok (.getfield 90, 3) := by decide +kernel
theorem dX4_execute_95 : decode cX4_execute 95 = .ok (.iload_n 3, 1) := by decide +kernel
theorem dX4_execute_96 : decode cX4_execute 96 = .ok (.iload 4, 2) := by decide +kernel
theorem dX4_execute_98 : decode cX4_execute 98 = .ok (.iload 5, 2) := by decide +kernel
theorem dX4_execute_100 : decode cX4_execute 100 = .ok (.invokevirtual 100, 3) := by decide +kernel
theorem dX4_execute_103 : decode cX4_execute 103 = .ok (.goto 76, 3) := by decide +kernel
theorem dX4_execute_106 : decode cX4_execute 106 = .ok (.aload_n 1, 1) := by decide +kernel
theorem dX4_execute_107 : decode cX4_execute 107 = .ok (.getfield 103, 3) := by decide +kernel
theorem dX4_execute_110 : decode cX4_execute 110 = .ok (.iload_n 3, 1) := by decide +kernel
theorem dX4_execute_111 : decode cX4_execute 111 = .ok (.aaload, 1) := by decide +kernel
theorem dX4_execute_112 : decode cX4_execute 112 = .ok (.iload 4, 2) := by decide +kernel
theorem dX4_execute_114 : decode cX4_execute 114 = .ok (.putfield 107, 3) := by decide +kernel
theorem dX4_execute_117 : decode cX4_execute 117 = .ok (.goto 62, 3) := by decide +kernel
theorem dX4_execute_120 : decode cX4_execute 120 = .ok (.aload_n 1, 1) := by decide +kernel
theorem dX4_execute_121 : decode cX4_execute 121 = .ok (.iload_n 3, 1) := by decide +kernel
theorem dX4_execute_122 : decode cX4_execute 122 = .ok (.iload 4, 2) := by decide +kernel
theorem dX4_execute_124 : decode cX4_execute 124 = .ok (.iload 5, 2) := by decide +kernel
theorem dX4_execute_126 : decode cX4_execute 126 = .ok (.imul, 1) := by decide +kernel
theorem dX4_execute_127 : decode cX4_execute 127 = .ok (.invokevirtual 112, 3) := by decide +kernel
theorem dX4_execute_130 : decode cX4_execute 130 = .ok (.goto 49, 3) := by decide +kernel
theorem dX4_execute_133 : decode cX4_execute 133 = .ok (.aload_n 1, 1) := by decide +kernel
theorem dX4_execute_134 : decode cX4_execute 134 = .ok (.iload_n 3, 1) := by decide +kernel
theorem dX4_execute_135 : decode cX4_execute 135 = .ok (.invokevirtual 116, 3) := by decide +kernel
theorem dX4_execute_138 : decode cX4_execute 138 = .ok (.goto 41, 3) := by decide +kernel
theorem dX4_execute_141 : decode cX4_execute 141 = .ok (.aload_n 1, 1) := by decide +kernel
theorem dX4_execute_142 : decode cX4_execute 142 = .ok (.iload_n 3, 1) := by decide +kernel
theorem dX4_execute_143 : decode cX4_execute 143 = .ok (.putfield 120, 3) := by decide +kernel
theorem dX4_execute_146 : decode cX4_execute 146 = .ok (.goto 33, 3) := by decide +kernel
theorem dX4_execute_149 : decode cX4_execute 149 = .ok (.aload_n 1, 1) := by decide +kernel
theorem dX4_execute_150 : decode cX4_execute 150 = .ok (.dup, 1) := by decide +kernel
theorem dX4_execute_151 : decode cX4_execute 151 = .ok (.getfield 123, 3) := by decide +kernel
theorem dX4_execute_154 : decode cX4_execute 154 = .ok (.iload_n 3, 1) := by decide +kernel
theorem dX4_execute_155 : decode cX4_execute 155 = .ok (.iadd, 1) := by decide +kernel
theorem dX4_execute_156 : decode cX4_execute 156 = .ok (.putfield 123, 3) := by decide +kernel
theorem dX4_execute_159 : decode cX4_execute 159 = .ok (.goto 20, 3) := by decide +kernel
theorem dX4_execute_162 : decode cX4_execute 162 = .ok (.aload_n 1, 1) := by decide +kernel
theorem dX4_execute_163 : decode cX4_execute 163 = .ok (.getfield 90, 3) := by decide +kernel
theorem dX4_execute_166 : decode cX4_execute 166 = .ok (.iload_n 3, 1) := by decide +kernel
theorem dX4_execute_167 : decode cX4_execute 167 = .ok (.putfield 126, 3) := by decide +kernel
theorem dX4_execute_170 : decode cX4_execute 170 = .ok (.goto 9, 3) := by decide +kernel
theorem dX4_execute_173 : decode cX4_execute 173 = .ok (.aload_n 1, 1) := by decide +kernel
theorem dX4_execute_174 : decode cX4_execute 174 = .ok (.iload_n 3, 1) := by decide +kernel
theorem dX4_execute_175 : decode cX4_execute 175 = .ok (.invokevirtual 129, 3) := by decide +kernel
theorem dX4_execute_178 : decode cX4_execute 178 = .ok (.pop, 1) := by decide +kernel
theorem dX4_execute_179 : decode cX4_execute 179 = .ok (.return_, 1) := by decide +kernel
def fX4_execute (M : Mm) (j1 : Nat) (x2 : Int32) : Option Mm := (fX4_argument M x2 (0 : Int32)).bind fun q1 => (fX4_argument M x2 (1 : Int32)).bind fun q3 => (fX4_argument M x2 (2 : Int32)).bind fun q5 => if x2 < 0 ∨ 30 ≤ x2.toNatClampNeg then none else if (M.1 (8, 0, 0) x2.toNatClampNeg) = (0 : Int32) then ((fX3_putPin M j1 q1 q3 q5).bind fun q9 => some q9) else if (M.1 (8, 0, 0) x2.toNatClampNeg) = (1 : Int32) then ((fX3_takePin M j1 q1 q3 q5).bind fun q12 => some q12) else if (M.1 (8, 0, 0) x2.toNatClampNeg) = (2 : Int32) then (if q1 < 0 ∨ 12 ≤ q1.toNatClampNeg then none else some (putI M (13, j1, q1.toNatClampNeg) 2 q3)) else if (M.1 (8, 0, 0) x2.toNatClampNeg) = (3 : Int32) then ((fX0_bendTooth M j1 q1 (q3 * q5)).bind fun q17 => some q17) else if (M.1 (8, 0, 0) x2.toNatClampNeg) = (4 : Int32) then ((fX0_mendTooth M j1 q1).bind fun q20 => some q20) else if (M.1 (8, 0, 0) x2.toNatClampNeg) = (5 : Int32) then some (putI M (9, j1, 0) 4 q1) else if (M.1 (8, 0, 0) x2.toNatClampNeg) = (6 : Int32) then some (putI M (9, j1, 0) 3 ((M.1 (9, j1, 0) 3) + q1)) else if (M.1 (8, 0, 0) x2.toNatClampNeg) = (7 : Int32) then some (putI M (10, j1, 0) 3 q1) else (fX0_playSteps M j1 q1).bind fun q25 => some (q25.2)
set_option maxRecDepth 20000 in
set_option maxHeartbeats 2000000 in
theorem sX4_execute {wv : Nat} (M : Mm) (j1 : Nat) (x2 : Int32) (hj1 : j1 < 12) {res : Mm} (h : fX4_execute M j1 x2 = some res) : TF wv yX4_execute cX4_execute 6 none 4 [.inr (7, 0, 0), .inr (9, j1, 0), .inl (.int x2)] M (none) res := by
  rw [fX4_execute] at h
  refine TF.go (n := 3) (ls := [some (.inr (7, 0, 0)), some (.inr (9, j1, 0)), some (.inl (.int x2)), none, none, none]) rfl rfl rfl rfl rfl ?_
  refine z_aload_n (i := 0) dX4_execute_0 rfl rfl ?_
  refine z_iload_n (i := 2) dX4_execute_1 rfl rfl ?_
  refine z_iconst (v := (0 : Int32)) dX4_execute_2 kc_0 ?_
  obtain ⟨q1, hq2, h⟩ := bnd h
  refine z_fVi (sX4_argument M x2 (0 : Int32) hq2) dX4_execute_3 ml_X4_44 cd_X4_argument mk7 rfl rfl rfl rfl rfl rfl ?_
  refine z_istore_n (i := 3) dX4_execute_6 rfl (Nat.le_of_ble_eq_true rfl) rfl ?_
  refine z_aload_n (i := 0) dX4_execute_7 rfl rfl ?_
  refine z_iload_n (i := 2) dX4_execute_8 rfl rfl ?_
  refine z_iconst (v := (1 : Int32)) dX4_execute_9 kc_1 ?_
  obtain ⟨q3, hq4, h⟩ := bnd h
  refine z_fVi (sX4_argument M x2 (1 : Int32) hq4) dX4_execute_10 ml_X4_44 cd_X4_argument mk7 rfl rfl rfl rfl rfl rfl ?_
  refine z_istore (i := 4) dX4_execute_13 (Nat.le_of_ble_eq_true rfl) rfl ?_
  refine z_aload_n (i := 0) dX4_execute_15 rfl rfl ?_
  refine z_iload_n (i := 2) dX4_execute_16 rfl rfl ?_
  refine z_iconst (v := (2 : Int32)) dX4_execute_17 kc_2 ?_
  obtain ⟨q5, hq6, h⟩ := bnd h
  refine z_fVi (sX4_argument M x2 (2 : Int32) hq6) dX4_execute_18 ml_X4_44 cd_X4_argument mk7 rfl rfl rfl rfl rfl rfl ?_
  refine z_istore (i := 5) dX4_execute_21 (Nat.le_of_ble_eq_true rfl) rfl ?_
  refine z_aload_n (i := 0) dX4_execute_23 rfl rfl ?_
  refine z_getR (r' := (8, 0, 0)) dX4_execute_24 fl_X4_11 mk7 rfl rfl ?_
  refine z_iload_n (i := 2) dX4_execute_27 rfl rfl ?_
  obtain ⟨hc7, h⟩ := chk h
  refine z_iald (x := (M.1 (8, 0, 0) x2.toNatClampNeg)) dX4_execute_28 (m8 _ (Nat.le_of_ble_eq_true rfl)) rfl hc7 rfl ?_
  by_cases hc8 : (M.1 (8, 0, 0) x2.toNatClampNeg) = (0 : Int32)
  · have h := it_t h hc8
    refine z_tin (tgt := 76) dX4_execute_29 (by rw [hc8]; decide) (by rw [hc8]; decide) (off := 47) (by rw [hc8]; decide) rfl ?_
    refine z_aload_n (i := 1) dX4_execute_76 rfl rfl ?_
    refine z_getR (r' := (10, j1, 0)) dX4_execute_77 fl_X4_90 (m9 _ hj1) rfl rfl ?_
    refine z_iload_n (i := 3) dX4_execute_80 rfl rfl ?_
    refine z_iload (i := 4) dX4_execute_81 rfl ?_
    refine z_iload (i := 5) dX4_execute_83 rfl ?_
    obtain ⟨q9, hq10, h⟩ := bnd h
    refine z_fVv (sX3_putPin M j1 q1 q3 q5 hj1 hq10) dX4_execute_85 ml_X4_94 cd_X3_putPin (m10 _ hj1) rfl rfl rfl rfl rfl rfl ?_
    refine z_goto (tgt := 179) dX4_execute_88 rfl ?_
    cases h
    exact z_vret dX4_execute_179 rfl (Nat.le_refl _) (Nat.le_refl _) ⟨rfl, rfl⟩
  have h := it_f h hc8
  by_cases hc11 : (M.1 (8, 0, 0) x2.toNatClampNeg) = (1 : Int32)
  · have h := it_t h hc11
    refine z_tin (tgt := 91) dX4_execute_29 (by rw [hc11]; decide) (by rw [hc11]; decide) (off := 62) (by rw [hc11]; decide) rfl ?_
    refine z_aload_n (i := 1) dX4_execute_91 rfl rfl ?_
    refine z_getR (r' := (10, j1, 0)) dX4_execute_92 fl_X4_90 (m9 _ hj1) rfl rfl ?_
    refine z_iload_n (i := 3) dX4_execute_95 rfl rfl ?_
    refine z_iload (i := 4) dX4_execute_96 rfl ?_
    refine z_iload (i := 5) dX4_execute_98 rfl ?_
    obtain ⟨q12, hq13, h⟩ := bnd h
    refine z_fVv (sX3_takePin M j1 q1 q3 q5 hj1 hq13) dX4_execute_100 ml_X4_100 cd_X3_takePin (m10 _ hj1) rfl rfl rfl rfl rfl rfl ?_
    refine z_goto (tgt := 179) dX4_execute_103 rfl ?_
    cases h
    exact z_vret dX4_execute_179 rfl (Nat.le_refl _) (Nat.le_refl _) ⟨rfl, rfl⟩
  have h := it_f h hc11
  by_cases hc14 : (M.1 (8, 0, 0) x2.toNatClampNeg) = (2 : Int32)
  · have h := it_t h hc14
    refine z_tin (tgt := 106) dX4_execute_29 (by rw [hc14]; decide) (by rw [hc14]; decide) (off := 77) (by rw [hc14]; decide) rfl ?_
    refine z_aload_n (i := 1) dX4_execute_106 rfl rfl ?_
    refine z_getR (r' := (12, j1, 0)) dX4_execute_107 fl_X4_103 (m9 _ hj1) rfl rfl ?_
    refine z_iload_n (i := 3) dX4_execute_110 rfl rfl ?_
    obtain ⟨hc15, h⟩ := chk h
    refine z_aald (t := 0) (r' := (13, j1, q1.toNatClampNeg)) dX4_execute_111 (m12 _ hj1) rfl (Nat.le_of_ble_eq_true rfl) hc15 rfl ?_
    refine z_iload (i := 4) dX4_execute_112 rfl ?_
    refine z_putI allR_nd dX4_execute_114 fl_X4_107 (m13 _ hj1 _ (ltN hc15)) rfl rfl ?_
    refine z_goto (tgt := 179) dX4_execute_117 rfl ?_
    cases h
    exact z_vret dX4_execute_179 rfl (Nat.le_refl _) (Nat.le_refl _) ⟨rfl, rfl⟩
  have h := it_f h hc14
  by_cases hc16 : (M.1 (8, 0, 0) x2.toNatClampNeg) = (3 : Int32)
  · have h := it_t h hc16
    refine z_tin (tgt := 120) dX4_execute_29 (by rw [hc16]; decide) (by rw [hc16]; decide) (off := 91) (by rw [hc16]; decide) rfl ?_
    refine z_aload_n (i := 1) dX4_execute_120 rfl rfl ?_
    refine z_iload_n (i := 3) dX4_execute_121 rfl rfl ?_
    refine z_iload (i := 4) dX4_execute_122 rfl ?_
    refine z_iload (i := 5) dX4_execute_124 rfl ?_
    refine z_imul dX4_execute_126 ?_
    obtain ⟨q17, hq18, h⟩ := bnd h
    refine z_fVv (sX0_bendTooth M j1 q1 (q3 * q5) hj1 hq18) dX4_execute_127 ml_X4_112 cd_X0_bendTooth (m9 _ hj1) rfl rfl rfl rfl rfl rfl ?_
    refine z_goto (tgt := 179) dX4_execute_130 rfl ?_
    cases h
    exact z_vret dX4_execute_179 rfl (Nat.le_refl _) (Nat.le_refl _) ⟨rfl, rfl⟩
  have h := it_f h hc16
  by_cases hc19 : (M.1 (8, 0, 0) x2.toNatClampNeg) = (4 : Int32)
  · have h := it_t h hc19
    refine z_tin (tgt := 133) dX4_execute_29 (by rw [hc19]; decide) (by rw [hc19]; decide) (off := 104) (by rw [hc19]; decide) rfl ?_
    refine z_aload_n (i := 1) dX4_execute_133 rfl rfl ?_
    refine z_iload_n (i := 3) dX4_execute_134 rfl rfl ?_
    obtain ⟨q20, hq21, h⟩ := bnd h
    refine z_fVv (sX0_mendTooth M j1 q1 hj1 hq21) dX4_execute_135 ml_X4_116 cd_X0_mendTooth (m9 _ hj1) rfl rfl rfl rfl rfl rfl ?_
    refine z_goto (tgt := 179) dX4_execute_138 rfl ?_
    cases h
    exact z_vret dX4_execute_179 rfl (Nat.le_refl _) (Nat.le_refl _) ⟨rfl, rfl⟩
  have h := it_f h hc19
  by_cases hc22 : (M.1 (8, 0, 0) x2.toNatClampNeg) = (5 : Int32)
  · have h := it_t h hc22
    refine z_tin (tgt := 141) dX4_execute_29 (by rw [hc22]; decide) (by rw [hc22]; decide) (off := 112) (by rw [hc22]; decide) rfl ?_
    refine z_aload_n (i := 1) dX4_execute_141 rfl rfl ?_
    refine z_iload_n (i := 3) dX4_execute_142 rfl rfl ?_
    refine z_putI allR_nd dX4_execute_143 fl_X4_120 (m9 _ hj1) rfl rfl ?_
    refine z_goto (tgt := 179) dX4_execute_146 rfl ?_
    cases h
    exact z_vret dX4_execute_179 rfl (Nat.le_refl _) (Nat.le_refl _) ⟨rfl, rfl⟩
  have h := it_f h hc22
  by_cases hc23 : (M.1 (8, 0, 0) x2.toNatClampNeg) = (6 : Int32)
  · have h := it_t h hc23
    refine z_tin (tgt := 149) dX4_execute_29 (by rw [hc23]; decide) (by rw [hc23]; decide) (off := 120) (by rw [hc23]; decide) rfl ?_
    refine z_aload_n (i := 1) dX4_execute_149 rfl rfl ?_
    refine z_dup dX4_execute_150 rfl ?_
    refine z_getI (x := (M.1 (9, j1, 0) 3)) dX4_execute_151 fl_X4_123 (m9 _ hj1) rfl rfl ?_
    refine z_iload_n (i := 3) dX4_execute_154 rfl rfl ?_
    refine z_iadd dX4_execute_155 ?_
    refine z_putI allR_nd dX4_execute_156 fl_X4_123 (m9 _ hj1) rfl rfl ?_
    refine z_goto (tgt := 179) dX4_execute_159 rfl ?_
    cases h
    exact z_vret dX4_execute_179 rfl (Nat.le_refl _) (Nat.le_refl _) ⟨rfl, rfl⟩
  have h := it_f h hc23
  by_cases hc24 : (M.1 (8, 0, 0) x2.toNatClampNeg) = (7 : Int32)
  · have h := it_t h hc24
    refine z_tin (tgt := 162) dX4_execute_29 (by rw [hc24]; decide) (by rw [hc24]; decide) (off := 133) (by rw [hc24]; decide) rfl ?_
    refine z_aload_n (i := 1) dX4_execute_162 rfl rfl ?_
    refine z_getR (r' := (10, j1, 0)) dX4_execute_163 fl_X4_90 (m9 _ hj1) rfl rfl ?_
    refine z_iload_n (i := 3) dX4_execute_166 rfl rfl ?_
    refine z_putI allR_nd dX4_execute_167 fl_X4_126 (m10 _ hj1) rfl rfl ?_
    refine z_goto (tgt := 179) dX4_execute_170 rfl ?_
    cases h
    exact z_vret dX4_execute_179 rfl (Nat.le_refl _) (Nat.le_refl _) ⟨rfl, rfl⟩
  have h := it_f h hc24
  refine z_tout (tgt := 173) dX4_execute_29 (tswo (fun k h1 h2 h3 => ?_)) rfl ?_
  · have h4 : k = 0 ∨ k = 1 ∨ k = 2 ∨ k = 3 ∨ k = 4 ∨ k = 5 ∨ k = 6 ∨ k = 7 := by omega
    rcases h4 with rfl | rfl | rfl | rfl | rfl | rfl | rfl | rfl
    · exact hc8 (Int32.toInt_inj.mp (h3.trans (by decide)))
    · exact hc11 (Int32.toInt_inj.mp (h3.trans (by decide)))
    · exact hc14 (Int32.toInt_inj.mp (h3.trans (by decide)))
    · exact hc16 (Int32.toInt_inj.mp (h3.trans (by decide)))
    · exact hc19 (Int32.toInt_inj.mp (h3.trans (by decide)))
    · exact hc22 (Int32.toInt_inj.mp (h3.trans (by decide)))
    · exact hc23 (Int32.toInt_inj.mp (h3.trans (by decide)))
    · exact hc24 (Int32.toInt_inj.mp (h3.trans (by decide)))
  · refine z_aload_n (i := 1) dX4_execute_173 rfl rfl ?_
    refine z_iload_n (i := 3) dX4_execute_174 rfl rfl ?_
    obtain ⟨q25, hq26, h⟩ := bnd h
    refine z_fVi (sX0_playSteps M j1 q1 hj1 hq26) dX4_execute_175 ml_X4_129 cd_X0_playSteps (m9 _ hj1) rfl rfl rfl rfl rfl rfl ?_
    refine z_pop dX4_execute_178 rfl ?_
    cases h
    exact z_vret dX4_execute_179 rfl (Nat.le_refl _) (Nat.le_refl _) ⟨rfl, rfl⟩
theorem dX4_runPart_0 : decode cX4_runPart 0 = .ok (.iload 4, 2) := by decide +kernel
theorem dX4_runPart_2 : decode cX4_runPart 2 = .ok (.iconst 2, 1) := by decide +kernel
theorem dX4_runPart_3 : decode cX4_runPart 3 = .ok (.if_icmp .le 7, 3) := by decide +kernel
theorem dX4_runPart_6 : decode cX4_runPart 6 = .ok (.iload_n 2, 1) := by decide +kernel
theorem dX4_runPart_7 : decode cX4_runPart 7 = .ok (.goto 9, 3) := by decide +kernel
theorem dX4_runPart_10 : decode cX4_runPart 10 = .ok (.iload_n 3, 1) := by decide +kernel
theorem dX4_runPart_11 : decode cX4_runPart 11 = .ok (.bipush 30, 2) := by decide +kernel
theorem dX4_runPart_13 : decode cX4_runPart 13 = .ok (.invokestatic 35, 3) := by decide +kernel
theorem dX4_runPart_16 : decode cX4_runPart 16 = .ok (.istore 5, 2) := by decide +kernel
theorem dX4_runPart_18 : decode cX4_runPart 18 = .ok (.iconst 0, 1) := by decide +kernel
theorem dX4_runPart_19 : decode cX4_runPart 19 = .ok (.iload_n 2, 1) := by decide +kernel
theorem dX4_runPart_20 : decode cX4_runPart 20 = .ok (.invokestatic 41, 3) := by decide +kernel
theorem dX4_runPart_23 : decode cX4_runPart 23 = .ok (.istore 6, 2) := by decide +kernel
theorem dX4_runPart_25 : decode cX4_runPart 25 = .ok (.iload 6, 2) := by decide +kernel
theorem dX4_runPart_27 : decode cX4_runPart 27 = .ok (.iload 5, 2) := by decide +kernel
theorem dX4_runPart_29 : decode cX4_runPart 29 = .ok (.if_icmp .ge 146, 3) := by decide +kernel
theorem dX4_runPart_32 : decode cX4_runPart 32 = .ok (.aload_n 0, 1) := by decide +kernel
theorem dX4_runPart_33 : decode cX4_runPart 33 = .ok (.getfield 31, 3) := by decide +kernel
theorem dX4_runPart_36 : decode cX4_runPart 36 = .ok (.ifCond .ne 139, 3) := by decide +kernel
theorem dX4_runPart_39 : decode cX4_runPart 39 = .ok (.aload_n 0, 1) := by decide +kernel
theorem dX4_runPart_40 : decode cX4_runPart 40 = .ok (.getfield 15, 3) := by decide +kernel
theorem dX4_runPart_43 : decode cX4_runPart 43 = .ok (.iload 6, 2) := by decide +kernel
theorem dX4_runPart_45 : decode cX4_runPart 45 = .ok (.iaload, 1) := by decide +kernel
theorem dX4_runPart_46 : decode cX4_runPart 46 = .ok (.iload 4, 2) := by decide +kernel
theorem dX4_runPart_48 : decode cX4_runPart 48 = .ok (.if_icmp .eq 6, 3) := by decide +kernel
theorem dX4_runPart_51 : decode cX4_runPart 51 = .ok (.goto 118, 3) := by decide +kernel
theorem dX4_runPart_54 : decode cX4_runPart 54 = .ok (.aload_n 0, 1) := by decide +kernel
theorem dX4_runPart_55 : decode cX4_runPart 55 = .ok (.getfield 11, 3) := by decide +kernel
theorem dX4_runPart_58 : decode cX4_runPart 58 = .ok (.iload 6, 2) := by decide +kernel
theorem dX4_runPart_60 : decode cX4_runPart 60 = .ok (.iaload, 1) := by decide +kernel
theorem dX4_runPart_61 : decode cX4_runPart 61 = .ok (.bipush 9, 2) := by decide +kernel
theorem dX4_runPart_63 : decode cX4_runPart 63 = .ok (.if_icmp .ne 53, 3) := by decide +kernel
theorem dX4_runPart_66 : decode cX4_runPart 66 = .ok (.aload_n 0, 1) := by decide +kernel
theorem dX4_runPart_67 : decode cX4_runPart 67 = .ok (.iload 6, 2) := by decide +kernel
theorem dX4_runPart_69 : decode cX4_runPart 69 = .ok (.iconst 0, 1) := by decide +kernel
theorem dX4_runPart_70 : decode cX4_runPart 70 = .ok (.invokevirtual 44, 3) := by decide +kernel
theorem dX4_runPart_73 : decode cX4_runPart 73 = .ok (.istore 7, 2) := by decide +kernel
theorem dX4_runPart_75 : decode cX4_runPart 75 = .ok (.iload 7, 2) := by decide +kernel
theorem dX4_runPart_77 : decode cX4_runPart 77 = .ok (.ifCond .le 36, 3) := by decide +kernel
theorem dX4_runPart_80 : decode cX4_runPart 80 = .ok (.aload_n 0, 1) := by decide +kernel
theorem dX4_runPart_81 : decode cX4_runPart 81 = .ok (.getfield 31, 3) := by decide +kernel
theorem dX4_runPart_84 : decode cX4_runPart 84 = .ok (.ifCond .ne 29, 3) := by decide +kernel
theorem dX4_runPart_87 : decode cX4_runPart 87 = .ok (.aload_n 0, 1) := by decide +kernel
theorem dX4_runPart_88 : decode cX4_runPart 88 = .ok (.aload_n 1, 1) := by decide +kernel
theorem dX4_runPart_89 : decode cX4_runPart 89 = .ok (.iload 6, 2) := by decide +kernel
theorem dX4_runPart_91 : decode cX4_runPart 91 = .ok (.iconst 1, 1) := by decide +kernel
theorem dX4_runPart_92 : decode cX4_runPart 92 = .ok (.iadd, 1) := by decide +kernel
theorem dX4_runPart_93 : decode cX4_runPart 93 = .ok (.aload_n 0, 1) := by decide +kernel
theorem dX4_runPart_94 : decode cX4_runPart 94 = .ok (.getfield 18, 3) := by decide +kernel
theorem dX4_runPart_97 : decode cX4_runPart 97 = .ok (.iload 6, 2) := by decide +kernel
theorem dX4_runPart_99 : decode cX4_runPart 99 = .ok (.iaload, 1) := by decide +kernel
theorem dX4_runPart_100 : decode cX4_runPart 100 = .ok (.iload 4, 2) := by decide +kernel
theorem dX4_runPart_102 : decode cX4_runPart 102 = .ok (.iconst 1, 1) := by decide +kernel
theorem dX4_runPart_103 : decode cX4_runPart 103 = .ok (.iadd, 1) := by decide +kernel
theorem dX4_runPart_104 : decode cX4_runPart 104 = .ok (.invokevirtual 47, 3) := by decide +kernel
theorem dX4_runPart_107 : decode cX4_runPart 107 = .ok (.iinc 7 (-1), 3) := by decide +kernel
theorem dX4_runPart_110 : decode cX4_runPart 110 = .ok (.goto (-35), 3) := by decide +kernel
theorem dX4_runPart_113 : decode cX4_runPart 113 = .ok (.goto 56, 3) := by decide +kernel
theorem dX4_runPart_116 : decode cX4_runPart 116 = .ok (.aload_n 0, 1) := by decide +kernel
theorem dX4_runPart_117 : decode cX4_runPart 117 = .ok (.aload_n 1, 1) := by decide +kernel
theorem dX4_runPart_118 : decode cX4_runPart 118 = .ok (.iload 6, 2) := by decide +kernel
theorem dX4_runPart_120 : decode cX4_runPart 120 = .ok (.invokevirtual 51, 3) := by decide +kernel
theorem dX4_runPart_123 : decode cX4_runPart 123 = .ok (.ifCond .ne 41, 3) := by decide +kernel
theorem dX4_runPart_126 : decode cX4_runPart 126 = .ok (.aload_n 0, 1) := by decide +kernel
theorem dX4_runPart_127 : decode cX4_runPart 127 = .ok (.aload_n 1, 1) := by decide +kernel
theorem dX4_runPart_128 : decode cX4_runPart 128 = .ok (.iload 6, 2) := by decide +kernel
theorem dX4_runPart_130 : decode cX4_runPart 130 = .ok (.invokevirtual 55, 3) := by decide +kernel
theorem dX4_runPart_133 : decode cX4_runPart 133 = .ok (.aload_n 0, 1) := by decide +kernel
theorem dX4_runPart_134 : decode cX4_runPart 134 = .ok (.dup, 1) := by decide +kernel
theorem dX4_runPart_135 : decode cX4_runPart 135 = .ok (.getfield 28, 3) := by decide +kernel
theorem dX4_runPart_138 : decode cX4_runPart 138 = .ok (.iconst 1, 1) := by decide +kernel
theorem dX4_runPart_139 : decode cX4_runPart 139 = .ok (.iadd, 1) := by decide +kernel
theorem dX4_runPart_140 : decode cX4_runPart 140 = .ok (.putfield 28, 3) := by decide +kernel
theorem dX4_runPart_143 : decode cX4_runPart 143 = .ok (.aload_n 0, 1) := by decide +kernel
theorem dX4_runPart_144 : decode cX4_runPart 144 = .ok (.aload_n 0, 1) := by decide +kernel
theorem dX4_runPart_145 : decode cX4_runPart 145 = .ok (.getfield 28, 3) := by decide +kernel
theorem dX4_runPart_148 : decode cX4_runPart 148 = .ok (.bipush 40, 2) := by decide +kernel
theorem dX4_runPart_150 : decode cX4_runPart 150 = .ok (.if_icmp .lt 7, 3) := by decide +kernel
theorem dX4_runPart_153 : decode cX4_runPart 153 = .ok (.iconst 1, 1) := by decide +kernel
theorem dX4_runPart_154 : decode cX4_runPart 154 = .ok (.goto 4, 3) := by decide +kernel
theorem dX4_runPart_157 : decode cX4_runPart 157 = .ok (.iconst 0, 1) := by decide +kernel
theorem dX4_runPart_158 : decode cX4_runPart 158 = .ok (.putfield 31, 3) := by decide +kernel
theorem dX4_runPart_161 : decode cX4_runPart 161 = .ok (.goto 8, 3) := by decide +kernel
theorem dX4_runPart_164 : decode cX4_runPart 164 = .ok (.aload_n 0, 1) := by decide +kernel
theorem dX4_runPart_165 : decode cX4_runPart 165 = .ok (.iconst 1, 1) := by decide +kernel
theorem dX4_runPart_166 : decode cX4_runPart 166 = .ok (.putfield 31, 3) := by decide +kernel
theorem dX4_runPart_169 : decode cX4_runPart 169 = .ok (.iinc 6 1, 3) := by decide +kernel
theorem dX4_runPart_172 : decode cX4_runPart 172 = .ok (.goto (-147), 3) := by decide +kernel
theorem dX4_runPart_175 : decode cX4_runPart 175 = .ok (.return_, 1) := by decide +kernel
def fX4_runPart_L75 (rc : Mm → Nat → Int32 → Int32 → Int32 → Option Mm) (j1 : Nat) (c4 : Int32) (c5 : Int32) (c6 : Int32) (K : Int32 → Mm → Option Mm) : Nat → Int32 → Mm → Option Mm
  | 0, _, _ => none
  | n + 1, v7, M => if v7 ≤ 0 then K v7 M else if (M.1 (7, 0, 0) 6) = 0 then (if c6 < 0 ∨ 30 ≤ c6.toNatClampNeg then none else (rc M j1 (c6 + (1 : Int32)) (M.1 (8, 2, 0) c6.toNatClampNeg) (c4 + (1 : Int32))).bind fun q19 => fX4_runPart_L75 rc j1 c4 c5 c6 K n (v7 + (-1 : Int32)) q19) else K v7 M
def fX4_runPart_L25 (rc : Mm → Nat → Int32 → Int32 → Int32 → Option Mm) (j1 : Nat) (c4 : Int32) (c5 : Int32) (K : Int32 → Mm → Option Mm) : Nat → Int32 → Mm → Option Mm
  | 0, _, _ => none
  | n + 1, v6, M => if c5 ≤ v6 then K v6 M else if (M.1 (7, 0, 0) 6) = 0 then (if v6 < 0 ∨ 30 ≤ v6.toNatClampNeg then none else if (M.1 (8, 1, 0) v6.toNatClampNeg) = c4 then (if v6 < 0 ∨ 30 ≤ v6.toNatClampNeg then none else if (M.1 (8, 0, 0) v6.toNatClampNeg) = (9 : Int32) then ((fX4_argument M v6 (0 : Int32)).bind fun q14 => fX4_runPart_L75 rc j1 c4 c5 v6 (fun w21 M22 => fX4_runPart_L25 rc j1 c4 c5 K n (v6 + (1 : Int32)) M22) NF q14 M) else (fX4_faultOf M j1 v6).bind fun q8 => if q8 = 0 then ((fX4_execute M j1 v6).bind fun q11 => if ((q11.1 (7, 0, 0) 5) + (1 : Int32)) < (40 : Int32) then fX4_runPart_L25 rc j1 c4 c5 K n (v6 + (1 : Int32)) (putI (putI q11 (7, 0, 0) 5 ((q11.1 (7, 0, 0) 5) + (1 : Int32))) (7, 0, 0) 6 (0 : Int32)) else fX4_runPart_L25 rc j1 c4 c5 K n (v6 + (1 : Int32)) (putI (putI q11 (7, 0, 0) 5 ((q11.1 (7, 0, 0) 5) + (1 : Int32))) (7, 0, 0) 6 (1 : Int32))) else fX4_runPart_L25 rc j1 c4 c5 K n (v6 + (1 : Int32)) (putI M (7, 0, 0) 6 (1 : Int32))) else fX4_runPart_L25 rc j1 c4 c5 K n (v6 + (1 : Int32)) M) else K v6 M
def fX4_runPart (rc : Mm → Nat → Int32 → Int32 → Int32 → Option Mm) (M : Mm) (j1 : Nat) (x2 : Int32) (x3 : Int32) (x4 : Int32) : Option Mm := if x4 ≤ (2 : Int32) then (fX4_runPart_L25 rc j1 x4 (fJ9_min_7cf53 M x3 (30 : Int32)) (fun w23 M24 => some M24) NF (fJ9_max_7cf53 M (0 : Int32) x2) M) else fX4_runPart_L25 rc j1 x4 x2 (fun w25 M26 => some M26) NF (fJ9_max_7cf53 M (0 : Int32) x2) M
def gX4_runPart : Nat → Mm → Nat → Int32 → Int32 → Int32 → Option Mm
  | 0, _, _, _, _, _ => none
  | n + 1, M, j1, x2, x3, x4 => fX4_runPart (gX4_runPart n) M j1 x2 x3 x4
set_option maxRecDepth 20000 in
set_option maxHeartbeats 2000000 in
theorem sX4_runPart_L75 {wv : Nat} (rc : Mm → Nat → Int32 → Int32 → Int32 → Option Mm) (j1 : Nat) (c4 : Int32) (c5 : Int32) (c6 : Int32) (hj1 : j1 < 12) (dd : Nat) (hrc : ∀ (M : Mm) (j1 : Nat) (x2 : Int32) (x3 : Int32) (x4 : Int32) (hj1 : j1 < 12) (res : Mm), rc M j1 x2 x3 x4 = some res → TF wv yX4_runPart cX4_runPart 8 none dd [.inr (7, 0, 0), .inr (9, j1, 0), .inl (.int x2), .inl (.int x3), .inl (.int x4)] M (none) res) {res : Mm} {K : Int32 → Mm → Option Mm} : ∀ (n : Nat) (v7 : Int32) (M : Mm), fX4_runPart_L75 rc j1 c4 c5 c6 K n v7 M = some res →
    (∀ (v7 : Int32) (M : Mm), K v7 M = some res → Z RX4 cX4_runPart 8 none [] "runPart" (rmD (dd + 5) 0 0) (QM SH (allR wv) 0 0 (fun v M9 => v = none ∧ M9 = res) (fun _ _ => False)) (allR wv) SH 0 0 113 [some (.inr (7, 0, 0)), some (.inr (9, j1, 0)), none, none, some (.inl (.int c4)), some (.inl (.int c5)), some (.inl (.int c6)), some (.inl (.int v7))] [] M) → Z RX4 cX4_runPart 8 none [] "runPart" (rmD (dd + 5) 0 0) (QM SH (allR wv) 0 0 (fun v M9 => v = none ∧ M9 = res) (fun _ _ => False)) (allR wv) SH 0 0 75 [some (.inr (7, 0, 0)), some (.inr (9, j1, 0)), none, none, some (.inl (.int c4)), some (.inl (.int c5)), some (.inl (.int c6)), some (.inl (.int v7))] [] M := by
  intro n
  induction n with
  | zero => intro v7 M h; cases h
  | succ n ih =>
    intro v7 M h hK
    rw [fX4_runPart_L75] at h
    refine z_iload (i := 7) dX4_runPart_75 rfl ?_
    refine z_if_le (tgt := 113) dX4_runPart_77 rfl (fun hc16 => ?_) (fun hc16 => ?_)
    · have h := it_t h hc16
      exact hK _ _ h
    · have h := it_f h hc16
      refine z_aload_n (i := 0) dX4_runPart_80 rfl rfl ?_
      refine z_getI (x := (M.1 (7, 0, 0) 6)) dX4_runPart_81 fl_X4_31 mk7 rfl rfl ?_
      refine z_if_ne (tgt := 113) dX4_runPart_84 rfl (fun hc17 => ?_) (fun hc17 => ?_)
      · have h := it_f h hc17
        exact hK _ _ h
      · have h := it_t h hc17
        refine z_aload_n (i := 0) dX4_runPart_87 rfl rfl ?_
        refine z_aload_n (i := 1) dX4_runPart_88 rfl rfl ?_
        refine z_iload (i := 6) dX4_runPart_89 rfl ?_
        refine z_iconst (v := (1 : Int32)) dX4_runPart_91 kc_1 ?_
        refine z_iadd dX4_runPart_92 ?_
        refine z_aload_n (i := 0) dX4_runPart_93 rfl rfl ?_
        refine z_getR (r' := (8, 2, 0)) dX4_runPart_94 fl_X4_18 mk7 rfl rfl ?_
        refine z_iload (i := 6) dX4_runPart_97 rfl ?_
        obtain ⟨hc18, h⟩ := chk h
        refine z_iald (x := (M.1 (8, 2, 0) c6.toNatClampNeg)) dX4_runPart_99 (m8 _ (Nat.le_of_ble_eq_true rfl)) rfl hc18 rfl ?_
        refine z_iload (i := 4) dX4_runPart_100 rfl ?_
        refine z_iconst (v := (1 : Int32)) dX4_runPart_102 kc_1 ?_
        refine z_iadd dX4_runPart_103 ?_
        obtain ⟨q19, hq20, h⟩ := bnd h
        refine z_fVv (hrc M j1 (c6 + (1 : Int32)) (M.1 (8, 2, 0) c6.toNatClampNeg) (c4 + (1 : Int32)) hj1 _ hq20) dX4_runPart_104 ml_X4_47 cd_X4_runPart mk7 rfl rfl rfl (rmk_d (by omega) (by decide)) rfl rfl ?_
        refine z_iinc (i := 7) (v := (v7 + (-1 : Int32))) dX4_runPart_107 rfl (iinc_k kc_m1) (Nat.le_of_ble_eq_true rfl) rfl ?_
        refine z_goto (tgt := 75) dX4_runPart_110 rfl ?_
        exact ih _ _ h hK
set_option maxRecDepth 20000 in
set_option maxHeartbeats 2000000 in
theorem sX4_runPart_L25 {wv : Nat} (rc : Mm → Nat → Int32 → Int32 → Int32 → Option Mm) (j1 : Nat) (c4 : Int32) (c5 : Int32) (hj1 : j1 < 12) (dd : Nat) (hrc : ∀ (M : Mm) (j1 : Nat) (x2 : Int32) (x3 : Int32) (x4 : Int32) (hj1 : j1 < 12) (res : Mm), rc M j1 x2 x3 x4 = some res → TF wv yX4_runPart cX4_runPart 8 none dd [.inr (7, 0, 0), .inr (9, j1, 0), .inl (.int x2), .inl (.int x3), .inl (.int x4)] M (none) res) {res : Mm} {K : Int32 → Mm → Option Mm} : ∀ (n : Nat) (v6 : Int32) (M : Mm), fX4_runPart_L25 rc j1 c4 c5 K n v6 M = some res →
    (∀ (v6 : Int32) (M : Mm), K v6 M = some res → Z RX4 cX4_runPart 8 none [] "runPart" (rmD (dd + 5) 0 0) (QM SH (allR wv) 0 0 (fun v M9 => v = none ∧ M9 = res) (fun _ _ => False)) (allR wv) SH 0 0 175 [some (.inr (7, 0, 0)), some (.inr (9, j1, 0)), none, none, some (.inl (.int c4)), some (.inl (.int c5)), some (.inl (.int v6)), none] [] M) → Z RX4 cX4_runPart 8 none [] "runPart" (rmD (dd + 5) 0 0) (QM SH (allR wv) 0 0 (fun v M9 => v = none ∧ M9 = res) (fun _ _ => False)) (allR wv) SH 0 0 25 [some (.inr (7, 0, 0)), some (.inr (9, j1, 0)), none, none, some (.inl (.int c4)), some (.inl (.int c5)), some (.inl (.int v6)), none] [] M := by
  intro n
  induction n with
  | zero => intro v6 M h; cases h
  | succ n ih =>
    intro v6 M h hK
    rw [fX4_runPart_L25] at h
    refine z_iload (i := 6) dX4_runPart_25 rfl ?_
    refine z_iload (i := 5) dX4_runPart_27 rfl ?_
    refine z_icmp_ge (tgt := 175) dX4_runPart_29 rfl (fun hc2 => ?_) (fun hc2 => ?_)
    · have h := it_t h hc2
      exact hK _ _ h
    · have h := it_f h hc2
      refine z_aload_n (i := 0) dX4_runPart_32 rfl rfl ?_
      refine z_getI (x := (M.1 (7, 0, 0) 6)) dX4_runPart_33 fl_X4_31 mk7 rfl rfl ?_
      refine z_if_ne (tgt := 175) dX4_runPart_36 rfl (fun hc3 => ?_) (fun hc3 => ?_)
      · have h := it_f h hc3
        exact hK _ _ h
      · have h := it_t h hc3
        refine z_aload_n (i := 0) dX4_runPart_39 rfl rfl ?_
        refine z_getR (r' := (8, 1, 0)) dX4_runPart_40 fl_X4_15 mk7 rfl rfl ?_
        refine z_iload (i := 6) dX4_runPart_43 rfl ?_
        obtain ⟨hc4, h⟩ := chk h
        refine z_iald (x := (M.1 (8, 1, 0) v6.toNatClampNeg)) dX4_runPart_45 (m8 _ (Nat.le_of_ble_eq_true rfl)) rfl hc4 rfl ?_
        refine z_iload (i := 4) dX4_runPart_46 rfl ?_
        refine z_icmp_eq (tgt := 54) dX4_runPart_48 rfl (fun hc5 => ?_) (fun hc5 => ?_)
        · have h := it_t h hc5
          refine z_aload_n (i := 0) dX4_runPart_54 rfl rfl ?_
          refine z_getR (r' := (8, 0, 0)) dX4_runPart_55 fl_X4_11 mk7 rfl rfl ?_
          refine z_iload (i := 6) dX4_runPart_58 rfl ?_
          obtain ⟨hc6, h⟩ := chk h
          refine z_iald (x := (M.1 (8, 0, 0) v6.toNatClampNeg)) dX4_runPart_60 (m8 _ (Nat.le_of_ble_eq_true rfl)) rfl hc6 rfl ?_
          refine z_bipush (v := (9 : Int32)) dX4_runPart_61 kb_9 ?_
          refine z_icmp_ne (tgt := 116) dX4_runPart_63 rfl (fun hc7 => ?_) (fun hc7 => ?_)
          · have h := it_f h hc7
            refine z_aload_n (i := 0) dX4_runPart_116 rfl rfl ?_
            refine z_aload_n (i := 1) dX4_runPart_117 rfl rfl ?_
            refine z_iload (i := 6) dX4_runPart_118 rfl ?_
            obtain ⟨q8, hq9, h⟩ := bnd h
            refine z_fVi (sX4_faultOf M j1 v6 hj1 hq9) dX4_runPart_120 ml_X4_51 cd_X4_faultOf mk7 rfl rfl rfl (rmk_d (by omega) (by decide)) rfl rfl ?_
            refine z_if_ne (tgt := 164) dX4_runPart_123 rfl (fun hc10 => ?_) (fun hc10 => ?_)
            · have h := it_f h hc10
              refine z_aload_n (i := 0) dX4_runPart_164 rfl rfl ?_
              refine z_iconst (v := (1 : Int32)) dX4_runPart_165 kc_1 ?_
              refine z_putX allR_nd dX4_runPart_166 fl_X4_31 mk7 rfl rfl rfl rfl ?_
              refine z_iinc (i := 6) (v := (v6 + (1 : Int32))) dX4_runPart_169 rfl (iinc_k kc_1) (Nat.le_of_ble_eq_true rfl) rfl ?_
              refine z_goto (tgt := 25) dX4_runPart_172 rfl ?_
              exact ih _ _ h hK
            · have h := it_t h hc10
              refine z_aload_n (i := 0) dX4_runPart_126 rfl rfl ?_
              refine z_aload_n (i := 1) dX4_runPart_127 rfl rfl ?_
              refine z_iload (i := 6) dX4_runPart_128 rfl ?_
              obtain ⟨q11, hq12, h⟩ := bnd h
              refine z_fVv (sX4_execute M j1 v6 hj1 hq12) dX4_runPart_130 ml_X4_55 cd_X4_execute mk7 rfl rfl rfl (rmk_d (by omega) (by decide)) rfl rfl ?_
              refine z_aload_n (i := 0) dX4_runPart_133 rfl rfl ?_
              refine z_dup dX4_runPart_134 rfl ?_
              refine z_getI (x := (q11.1 (7, 0, 0) 5)) dX4_runPart_135 fl_X4_28 mk7 rfl rfl ?_
              refine z_iconst (v := (1 : Int32)) dX4_runPart_138 kc_1 ?_
              refine z_iadd dX4_runPart_139 ?_
              refine z_putI allR_nd dX4_runPart_140 fl_X4_28 mk7 rfl rfl ?_
              refine z_aload_n (i := 0) dX4_runPart_143 rfl rfl ?_
              refine z_aload_n (i := 0) dX4_runPart_144 rfl rfl ?_
              refine z_getI (x := ((q11.1 (7, 0, 0) 5) + (1 : Int32))) dX4_runPart_145 fl_X4_28 mk7 rfl (gp1 (M := q11) (r := (7, 0, 0)) (j := 5) (v := ((q11.1 (7, 0, 0) 5) + (1 : Int32)))) ?_
              refine z_bipush (v := (40 : Int32)) dX4_runPart_148 kb_40 ?_
              refine z_icmp_lt (tgt := 157) dX4_runPart_150 rfl (fun hc13 => ?_) (fun hc13 => ?_)
              · have h := it_t h hc13
                refine z_iconst (v := (0 : Int32)) dX4_runPart_157 kc_0 ?_
                refine z_putX allR_nd dX4_runPart_158 fl_X4_31 mk7 rfl rfl rfl rfl ?_
                refine z_goto (tgt := 169) dX4_runPart_161 rfl ?_
                refine z_iinc (i := 6) (v := (v6 + (1 : Int32))) dX4_runPart_169 rfl (iinc_k kc_1) (Nat.le_of_ble_eq_true rfl) rfl ?_
                refine z_goto (tgt := 25) dX4_runPart_172 rfl ?_
                exact ih _ _ h hK
              · have h := it_f h hc13
                refine z_iconst (v := (1 : Int32)) dX4_runPart_153 kc_1 ?_
                refine z_goto (tgt := 158) dX4_runPart_154 rfl ?_
                refine z_putX allR_nd dX4_runPart_158 fl_X4_31 mk7 rfl rfl rfl rfl ?_
                refine z_goto (tgt := 169) dX4_runPart_161 rfl ?_
                refine z_iinc (i := 6) (v := (v6 + (1 : Int32))) dX4_runPart_169 rfl (iinc_k kc_1) (Nat.le_of_ble_eq_true rfl) rfl ?_
                refine z_goto (tgt := 25) dX4_runPart_172 rfl ?_
                exact ih _ _ h hK
          · have h := it_t h hc7
            refine z_aload_n (i := 0) dX4_runPart_66 rfl rfl ?_
            refine z_iload (i := 6) dX4_runPart_67 rfl ?_
            refine z_iconst (v := (0 : Int32)) dX4_runPart_69 kc_0 ?_
            obtain ⟨q14, hq15, h⟩ := bnd h
            refine z_fVi (sX4_argument M v6 (0 : Int32) hq15) dX4_runPart_70 ml_X4_44 cd_X4_argument mk7 rfl rfl rfl (rmk_d (by omega) (by decide)) rfl rfl ?_
            refine z_istore (i := 7) dX4_runPart_73 (Nat.le_of_ble_eq_true rfl) rfl ?_
            refine sX4_runPart_L75 rc j1 c4 c5 v6 hj1 dd hrc NF _ _ h (fun w21 M22 h => ?_)
            refine z_goto (tgt := 169) dX4_runPart_113 rfl ?_
            refine z_iinc (i := 6) (v := (v6 + (1 : Int32))) dX4_runPart_169 rfl (iinc_k kc_1) (Nat.le_of_ble_eq_true rfl) rfl ?_
            refine z_goto (tgt := 25) dX4_runPart_172 rfl ?_
            refine z_fgt (i := 7) ?_
            exact ih _ _ h hK
        · have h := it_f h hc5
          refine z_goto (tgt := 169) dX4_runPart_51 rfl ?_
          refine z_iinc (i := 6) (v := (v6 + (1 : Int32))) dX4_runPart_169 rfl (iinc_k kc_1) (Nat.le_of_ble_eq_true rfl) rfl ?_
          refine z_goto (tgt := 25) dX4_runPart_172 rfl ?_
          exact ih _ _ h hK
set_option maxRecDepth 20000 in
set_option maxHeartbeats 2000000 in
theorem sX4_runPart {wv : Nat} (rc : Mm → Nat → Int32 → Int32 → Int32 → Option Mm) (dd : Nat) (hrc : ∀ (M : Mm) (j1 : Nat) (x2 : Int32) (x3 : Int32) (x4 : Int32) (hj1 : j1 < 12) (res : Mm), rc M j1 x2 x3 x4 = some res → TF wv yX4_runPart cX4_runPart 8 none dd [.inr (7, 0, 0), .inr (9, j1, 0), .inl (.int x2), .inl (.int x3), .inl (.int x4)] M (none) res) (M : Mm) (j1 : Nat) (x2 : Int32) (x3 : Int32) (x4 : Int32) (hj1 : j1 < 12) {res : Mm} (h : fX4_runPart rc M j1 x2 x3 x4 = some res) : TF wv yX4_runPart cX4_runPart 8 none (dd + 5) [.inr (7, 0, 0), .inr (9, j1, 0), .inl (.int x2), .inl (.int x3), .inl (.int x4)] M (none) res := by
  rw [fX4_runPart] at h
  refine TF.go (n := 3) (ls := [some (.inr (7, 0, 0)), some (.inr (9, j1, 0)), some (.inl (.int x2)), some (.inl (.int x3)), some (.inl (.int x4)), none, none, none]) rfl rfl rfl rfl rfl ?_
  refine z_iload (i := 4) dX4_runPart_0 rfl ?_
  refine z_iconst (v := (2 : Int32)) dX4_runPart_2 kc_2 ?_
  refine z_icmp_le (tgt := 10) dX4_runPart_3 rfl (fun hc1 => ?_) (fun hc1 => ?_)
  · have h := it_t h hc1
    refine z_iload_n (i := 3) dX4_runPart_10 rfl rfl ?_
    refine z_bipush (v := (30 : Int32)) dX4_runPart_11 kb_30 ?_
    refine z_fSi (sJ9_min_7cf53 M x3 (30 : Int32)) dX4_runPart_13 ml_X4_35 cd_J9_min_7cf53 rfl rfl (rmk_d (by omega) (by decide)) rfl rfl ?_
    refine z_istore (i := 5) dX4_runPart_16 (Nat.le_of_ble_eq_true rfl) rfl ?_
    refine z_iconst (v := (0 : Int32)) dX4_runPart_18 kc_0 ?_
    refine z_iload_n (i := 2) dX4_runPart_19 rfl rfl ?_
    refine z_fSi (sJ9_max_7cf53 M (0 : Int32) x2) dX4_runPart_20 ml_X4_41 cd_J9_max_7cf53 rfl rfl (rmk_d (by omega) (by decide)) rfl rfl ?_
    refine z_istore (i := 6) dX4_runPart_23 (Nat.le_of_ble_eq_true rfl) rfl ?_
    refine z_fgt (i := 2) ?_
    refine z_fgt (i := 3) ?_
    refine sX4_runPart_L25 rc j1 x4 (fJ9_min_7cf53 M x3 (30 : Int32)) hj1 dd hrc NF _ _ h (fun w23 M24 h => ?_)
    cases h
    exact z_vret dX4_runPart_175 rfl (Nat.le_refl _) (Nat.le_refl _) ⟨rfl, rfl⟩
  · have h := it_f h hc1
    refine z_iload_n (i := 2) dX4_runPart_6 rfl rfl ?_
    refine z_goto (tgt := 16) dX4_runPart_7 rfl ?_
    refine z_istore (i := 5) dX4_runPart_16 (Nat.le_of_ble_eq_true rfl) rfl ?_
    refine z_iconst (v := (0 : Int32)) dX4_runPart_18 kc_0 ?_
    refine z_iload_n (i := 2) dX4_runPart_19 rfl rfl ?_
    refine z_fSi (sJ9_max_7cf53 M (0 : Int32) x2) dX4_runPart_20 ml_X4_41 cd_J9_max_7cf53 rfl rfl (rmk_d (by omega) (by decide)) rfl rfl ?_
    refine z_istore (i := 6) dX4_runPart_23 (Nat.le_of_ble_eq_true rfl) rfl ?_
    refine z_fgt (i := 2) ?_
    refine z_fgt (i := 3) ?_
    refine sX4_runPart_L25 rc j1 x4 x2 hj1 dd hrc NF _ _ h (fun w25 M26 h => ?_)
    cases h
    exact z_vret dX4_runPart_175 rfl (Nat.le_refl _) (Nat.le_refl _) ⟨rfl, rfl⟩
set_option maxRecDepth 20000 in
set_option maxHeartbeats 2000000 in
theorem uX4_runPart {wv : Nat} : ∀ (n : Nat) (M : Mm) (j1 : Nat) (x2 : Int32) (x3 : Int32) (x4 : Int32) (hj1 : j1 < 12) (res : Mm), gX4_runPart n M j1 x2 x3 x4 = some res → TF wv yX4_runPart cX4_runPart 8 none (5 * n) [.inr (7, 0, 0), .inr (9, j1, 0), .inl (.int x2), .inl (.int x3), .inl (.int x4)] M (none) res := by
  intro n
  induction n with
  | zero => intro M j1 x2 x3 x4 hj1 res h; cases h
  | succ n ih =>
    intro M j1 x2 x3 x4 hj1 res h
    exact sX4_runPart (gX4_runPart n) (5 * n) (fun M j1 x2 x3 x4 hj1 res h => ih M j1 x2 x3 x4 hj1 res h) M j1 x2 x3 x4 hj1 h
theorem dX7_kindOf_0 : decode cX7_kindOf 0 = .ok (.iload_n 0, 1) := by decide +kernel
theorem dX7_kindOf_1 : decode cX7_kindOf 1 = .ok (.bipush 32, 2) := by decide +kernel
theorem dX7_kindOf_3 : decode cX7_kindOf 3 = .ok (.if_icmp .eq 9, 3) := by decide +kernel
theorem dX7_kindOf_6 : decode cX7_kindOf 6 = .ok (.iload_n 0, 1) := by decide +kernel
theorem dX7_kindOf_7 : decode cX7_kindOf 7 = .ok (.bipush 10, 2) := by decide +kernel
theorem dX7_kindOf_9 : decode cX7_kindOf 9 = .ok (.if_icmp .ne 5, 3) := by decide +kernel
theorem dX7_kindOf_12 : decode cX7_kindOf 12 = .ok (.iconst 4, 1) := by decide +kernel
theorem dX7_kindOf_13 : decode cX7_kindOf 13 = .ok (.ireturn, 1) := by decide +kernel
theorem dX7_kindOf_14 : decode cX7_kindOf 14 = .ok (.iload_n 0, 1) := by decide +kernel
theorem dX7_kindOf_15 : decode cX7_kindOf 15 = .ok (.bipush 97, 2) := by decide +kernel
theorem dX7_kindOf_17 : decode cX7_kindOf 17 = .ok (.if_icmp .lt 11, 3) := by decide +kernel
theorem dX7_kindOf_20 : decode cX7_kindOf 20 = .ok (.iload_n 0, 1) := by decide +kernel
theorem dX7_kindOf_21 : decode cX7_kindOf 21 = .ok (.bipush 122, 2) := by decide +kernel
theorem dX7_kindOf_23 : decode cX7_kindOf 23 = .ok (.if_icmp .gt 5, 3) := by decide +kernel
theorem dX7_kindOf_26 : decode cX7_kindOf 26 = .ok (.iconst 1, 1) := by decide +kernel
theorem dX7_kindOf_27 : decode cX7_kindOf 27 = .ok (.ireturn, 1) := by decide +kernel
theorem dX7_kindOf_28 : decode cX7_kindOf 28 = .ok (.iload_n 0, 1) := by decide +kernel
theorem dX7_kindOf_29 : decode cX7_kindOf 29 = .ok (.bipush 48, 2) := by decide +kernel
theorem dX7_kindOf_31 : decode cX7_kindOf 31 = .ok (.if_icmp .lt 13, 3) := by decide +kernel
theorem dX7_kindOf_34 : decode cX7_kindOf 34 = .ok (.iload_n 0, 1) := by decide +kernel
theorem dX7_kindOf_35 : decode cX7_kindOf 35 = .ok (.bipush 57, 2) := by decide +kernel
theorem dX7_kindOf_37 : decode cX7_kindOf 37 = .ok (.if_icmp .gt 7, 3) := by decide +kernel
theorem dX7_kindOf_40 : decode cX7_kindOf 40 = .ok (.iconst 2, 1) := by decide +kernel
theorem dX7_kindOf_41 : decode cX7_kindOf 41 = .ok (.goto 4, 3) := by decide +kernel
theorem dX7_kindOf_44 : decode cX7_kindOf 44 = .ok (.iconst 3, 1) := by decide +kernel
theorem dX7_kindOf_45 : decode cX7_kindOf 45 = .ok (.ireturn, 1) := by decide +kernel
def fX7_kindOf (M : Mm) (x1 : Int32) : Int32 := if x1 = (32 : Int32) then (4 : Int32) else if x1 = (10 : Int32) then (4 : Int32) else if x1 < (97 : Int32) then (if x1 < (48 : Int32) then (3 : Int32) else if (57 : Int32) < x1 then (3 : Int32) else (2 : Int32)) else if (122 : Int32) < x1 then (if x1 < (48 : Int32) then (3 : Int32) else if (57 : Int32) < x1 then (3 : Int32) else (2 : Int32)) else (1 : Int32)
set_option maxRecDepth 20000 in
set_option maxHeartbeats 2000000 in
theorem tX7_kindOf {wv : Nat} (M : Mm) (x1 : Int32) {res : Int32} (h : fX7_kindOf M x1 = res) : TF wv yX7_kindOf cX7_kindOf 1 (some .int) 0 [.inl (.int x1)] M (some (.int res)) M := by
  rw [fX7_kindOf] at h
  refine TF.go (n := 0) (ls := [some (.inl (.int x1))]) rfl rfl rfl rfl rfl ?_
  refine z_iload_n (i := 0) dX7_kindOf_0 rfl rfl ?_
  refine z_bipush (v := (32 : Int32)) dX7_kindOf_1 kb_32 ?_
  refine z_icmp_eq (tgt := 12) dX7_kindOf_3 rfl (fun hc1 => ?_) (fun hc1 => ?_)
  · have h := it_t h hc1
    refine z_iconst (v := (4 : Int32)) dX7_kindOf_12 kc_4 ?_
    subst h
    exact z_iret dX7_kindOf_13 rfl rfl (Nat.le_refl _) (Nat.le_refl _) ⟨rfl, rfl⟩
  · have h := it_f h hc1
    refine z_iload_n (i := 0) dX7_kindOf_6 rfl rfl ?_
    refine z_bipush (v := (10 : Int32)) dX7_kindOf_7 kb_10 ?_
    refine z_icmp_ne (tgt := 14) dX7_kindOf_9 rfl (fun hc2 => ?_) (fun hc2 => ?_)
    · have h := it_f h hc2
      refine z_iload_n (i := 0) dX7_kindOf_14 rfl rfl ?_
      refine z_bipush (v := (97 : Int32)) dX7_kindOf_15 kb_97 ?_
      refine z_icmp_lt (tgt := 28) dX7_kindOf_17 rfl (fun hc3 => ?_) (fun hc3 => ?_)
      · have h := it_t h hc3
        refine z_iload_n (i := 0) dX7_kindOf_28 rfl rfl ?_
        refine z_bipush (v := (48 : Int32)) dX7_kindOf_29 kb_48 ?_
        refine z_icmp_lt (tgt := 44) dX7_kindOf_31 rfl (fun hc4 => ?_) (fun hc4 => ?_)
        · have h := it_t h hc4
          refine z_iconst (v := (3 : Int32)) dX7_kindOf_44 kc_3 ?_
          subst h
          exact z_iret dX7_kindOf_45 rfl rfl (Nat.le_refl _) (Nat.le_refl _) ⟨rfl, rfl⟩
        · have h := it_f h hc4
          refine z_iload_n (i := 0) dX7_kindOf_34 rfl rfl ?_
          refine z_bipush (v := (57 : Int32)) dX7_kindOf_35 kb_57 ?_
          refine z_icmp_gt (tgt := 44) dX7_kindOf_37 rfl (fun hc5 => ?_) (fun hc5 => ?_)
          · have h := it_t h hc5
            refine z_iconst (v := (3 : Int32)) dX7_kindOf_44 kc_3 ?_
            subst h
            exact z_iret dX7_kindOf_45 rfl rfl (Nat.le_refl _) (Nat.le_refl _) ⟨rfl, rfl⟩
          · have h := it_f h hc5
            refine z_iconst (v := (2 : Int32)) dX7_kindOf_40 kc_2 ?_
            refine z_goto (tgt := 45) dX7_kindOf_41 rfl ?_
            subst h
            exact z_iret dX7_kindOf_45 rfl rfl (Nat.le_refl _) (Nat.le_refl _) ⟨rfl, rfl⟩
      · have h := it_f h hc3
        refine z_iload_n (i := 0) dX7_kindOf_20 rfl rfl ?_
        refine z_bipush (v := (122 : Int32)) dX7_kindOf_21 kb_122 ?_
        refine z_icmp_gt (tgt := 28) dX7_kindOf_23 rfl (fun hc6 => ?_) (fun hc6 => ?_)
        · have h := it_t h hc6
          refine z_iload_n (i := 0) dX7_kindOf_28 rfl rfl ?_
          refine z_bipush (v := (48 : Int32)) dX7_kindOf_29 kb_48 ?_
          refine z_icmp_lt (tgt := 44) dX7_kindOf_31 rfl (fun hc7 => ?_) (fun hc7 => ?_)
          · have h := it_t h hc7
            refine z_iconst (v := (3 : Int32)) dX7_kindOf_44 kc_3 ?_
            subst h
            exact z_iret dX7_kindOf_45 rfl rfl (Nat.le_refl _) (Nat.le_refl _) ⟨rfl, rfl⟩
          · have h := it_f h hc7
            refine z_iload_n (i := 0) dX7_kindOf_34 rfl rfl ?_
            refine z_bipush (v := (57 : Int32)) dX7_kindOf_35 kb_57 ?_
            refine z_icmp_gt (tgt := 44) dX7_kindOf_37 rfl (fun hc8 => ?_) (fun hc8 => ?_)
            · have h := it_t h hc8
              refine z_iconst (v := (3 : Int32)) dX7_kindOf_44 kc_3 ?_
              subst h
              exact z_iret dX7_kindOf_45 rfl rfl (Nat.le_refl _) (Nat.le_refl _) ⟨rfl, rfl⟩
            · have h := it_f h hc8
              refine z_iconst (v := (2 : Int32)) dX7_kindOf_40 kc_2 ?_
              refine z_goto (tgt := 45) dX7_kindOf_41 rfl ?_
              subst h
              exact z_iret dX7_kindOf_45 rfl rfl (Nat.le_refl _) (Nat.le_refl _) ⟨rfl, rfl⟩
        · have h := it_f h hc6
          refine z_iconst (v := (1 : Int32)) dX7_kindOf_26 kc_1 ?_
          subst h
          exact z_iret dX7_kindOf_27 rfl rfl (Nat.le_refl _) (Nat.le_refl _) ⟨rfl, rfl⟩
    · have h := it_t h hc2
      refine z_iconst (v := (4 : Int32)) dX7_kindOf_12 kc_4 ?_
      subst h
      exact z_iret dX7_kindOf_13 rfl rfl (Nat.le_refl _) (Nat.le_refl _) ⟨rfl, rfl⟩
theorem sX7_kindOf {wv : Nat} (M : Mm) (x1 : Int32) : TF wv yX7_kindOf cX7_kindOf 1 (some .int) 0 [.inl (.int x1)] M (some (.int (fX7_kindOf M x1))) M := tX7_kindOf M x1  rfl
