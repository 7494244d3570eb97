theorem dX9_writePins_0 : decode cX9_writePins 0 = .ok (.aload_n 0, 1) := by decide +kernel
theorem dX9_writePins_1 : decode cX9_writePins 1 = .ok (.getfield 40, 3) := by decide +kernel
theorem dX9_writePins_4 : decode cX9_writePins 4 = .ok (.iload_n 1, 1) := by decide +kernel
theorem dX9_writePins_5 : decode cX9_writePins 5 = .ok (.invokevirtual 179, 3) := by decide +kernel
theorem dX9_writePins_8 : decode cX9_writePins 8 = .ok (.aload_n 0, 1) := by decide +kernel
theorem dX9_writePins_9 : decode cX9_writePins 9 = .ok (.getfield 40, 3) := by decide +kernel
theorem dX9_writePins_12 : decode cX9_writePins 12 = .ok (.iload_n 2, 1) := by decide +kernel
theorem dX9_writePins_13 : decode cX9_writePins 13 = .ok (.invokevirtual 214, 3) := by decide +kernel
theorem dX9_writePins_16 : decode cX9_writePins 16 = .ok (.invokestatic 188, 3) := by decide +kernel
theorem dX9_writePins_19 : decode cX9_writePins 19 = .ok (.invokestatic 172, 3) := by decide +kernel
theorem dX9_writePins_22 : decode cX9_writePins 22 = .ok (.aload_n 0, 1) := by decide +kernel
theorem dX9_writePins_23 : decode cX9_writePins 23 = .ok (.getfield 18, 3) := by decide +kernel
theorem dX9_writePins_26 : decode cX9_writePins 26 = .ok (.iconst 0, 1) := by decide +kernel
theorem dX9_writePins_27 : decode cX9_writePins 27 = .ok (.putfield 102, 3) := by decide +kernel
theorem dX9_writePins_30 : decode cX9_writePins 30 = .ok (.iconst 0, 1) := by decide +kernel
theorem dX9_writePins_31 : decode cX9_writePins 31 = .ok (.istore_n 3, 1) := by decide +kernel
theorem dX9_writePins_32 : decode cX9_writePins 32 = .ok (.iload_n 3, 1) := by decide +kernel
theorem dX9_writePins_33 : decode cX9_writePins 33 = .ok (.aload_n 0, 1) := by decide +kernel
theorem dX9_writePins_34 : decode cX9_writePins 34 = .ok (.getfield 40, 3) := by decide +kernel
theorem dX9_writePins_37 : decode cX9_writePins 37 = .ok (.getfield 153, 3) := by decide +kernel
theorem dX9_writePins_40 : decode cX9_writePins 40 = .ok (.getfield 157, 3) := by decide +kernel
theorem dX9_writePins_43 : decode cX9_writePins 43 = .ok (.if_icmp .ge 64, 3) := by decide +kernel
theorem dX9_writePins_46 : decode cX9_writePins 46 = .ok (.aload_n 0, 1) := by decide +kernel
theorem dX9_writePins_47 : decode cX9_writePins 47 = .ok (.getfield 40, 3) := by decide +kernel
theorem dX9_writePins_50 : decode cX9_writePins 50 = .ok (.getfield 153, 3) := by decide +kernel
theorem dX9_writePins_53 : decode cX9_writePins 53 = .ok (.iload_n 1, 1) := by decide +kernel
theorem dX9_writePins_54 : decode cX9_writePins 54 = .ok (.iload_n 2, 1) := by decide +kernel
theorem dX9_writePins_55 : decode cX9_writePins 55 = .ok (.iload_n 3, 1) := by decide +kernel
theorem dX9_writePins_56 : decode cX9_writePins 56 = .ok (.invokevirtual 175, 3) := by decide +kernel
theorem dX9_writePins_59 : decode cX9_writePins 59 = .ok (.ifCond .ne 15, 3) := by decide +kernel
theorem dX9_writePins_62 : decode cX9_writePins 62 = .ok (.aload_n 0, 1) := by decide +kernel
theorem dX9_writePins_63 : decode cX9_writePins 63 = .ok (.getfield 18, 3) := by decide +kernel
theorem dX9_writePins_66 : decode cX9_writePins 66 = .ok (.bipush 45, 2) := by decide +kernel
theorem dX9_writePins_68 : decode cX9_writePins 68 = .ok (.invokevirtual 92, 3) := by decide +kernel
theorem dX9_writePins_71 : decode cX9_writePins 71 = .ok (.goto 30, 3) := by decide +kernel
theorem dX9_writePins_74 : decode cX9_writePins 74 = .ok (.aload_n 0, 1) := by decide +kernel
theorem dX9_writePins_75 : decode cX9_writePins 75 = .ok (.getfield 18, 3) := by decide +kernel
theorem dX9_writePins_78 : decode cX9_writePins 78 = .ok (.aload_n 0, 1) := by decide +kernel
theorem dX9_writePins_79 : decode cX9_writePins 79 = .ok (.getfield 40, 3) := by decide +kernel
theorem dX9_writePins_82 : decode cX9_writePins 82 = .ok (.iload_n 1, 1) := by decide +kernel
theorem dX9_writePins_83 : decode cX9_writePins 83 = .ok (.iload_n 2, 1) := by decide +kernel
theorem dX9_writePins_84 : decode cX9_writePins 84 = .ok (.iload_n 3, 1) := by decide +kernel
theorem dX9_writePins_85 : decode cX9_writePins 85 = .ok (.invokevirtual 343, 3) := by decide +kernel
theorem dX9_writePins_88 : decode cX9_writePins 88 = .ok (.ifCond .eq 8, 3) := by decide +kernel
theorem dX9_writePins_91 : decode cX9_writePins 91 = .ok (.bipush 33, 2) := by decide +kernel
theorem dX9_writePins_93 : decode cX9_writePins 93 = .ok (.goto 5, 3) := by decide +kernel
theorem dX9_writePins_96 : decode cX9_writePins 96 = .ok (.bipush 35, 2) := by decide +kernel
theorem dX9_writePins_98 : decode cX9_writePins 98 = .ok (.invokevirtual 92, 3) := by decide +kernel
theorem dX9_writePins_101 : decode cX9_writePins 101 = .ok (.iinc 3 1, 3) := by decide +kernel
theorem dX9_writePins_104 : decode cX9_writePins 104 = .ok (.goto (-72), 3) := by decide +kernel
theorem dX9_writePins_107 : decode cX9_writePins 107 = .ok (.aload_n 0, 1) := by decide +kernel
theorem dX9_writePins_108 : decode cX9_writePins 108 = .ok (.getfield 18, 3) := by decide +kernel
theorem dX9_writePins_111 : decode cX9_writePins 111 = .ok (.getfield 102, 3) := by decide +kernel
theorem dX9_writePins_114 : decode cX9_writePins 114 = .ok (.ireturn, 1) := by decide +kernel
def fX9_writePins_L32 (c1 : Int32) (c2 : Int32) (K : Int32 → Mm → Option (Int32 × Mm)) : Nat → Int32 → Mm → Option (Int32 × Mm)
  | 0, _, _ => none
  | n + 1, v3, M => if (M.1 (10, 0, 0) 1) ≤ v3 then K v3 M else (fX3_hasPin M 0 c1 c2 v3).bind fun q4 => if q4 = 0 then ((fX1_put M 1 (45 : Int32)).bind fun q14 => fX9_writePins_L32 c1 c2 K n (v3 + (1 : Int32)) q14) else (fX0_closePinAt M 0 c1 c2 v3).bind fun q7 => if q7 = 0 then ((fX1_put M 1 (35 : Int32)).bind fun q10 => fX9_writePins_L32 c1 c2 K n (v3 + (1 : Int32)) q10) else (fX1_put M 1 (33 : Int32)).bind fun q12 => fX9_writePins_L32 c1 c2 K n (v3 + (1 : Int32)) q12
def fX9_writePins (M : Mm) (x1 : Int32) (x2 : Int32) : Option (Int32 × Mm) := (fX9_refuse M (fJ9_max_7cf53 M (fX0_tuneFault M 0 x1) (fX0_toothFault M 0 x2))).bind fun q1 => fX9_writePins_L32 x1 x2 (fun w16 M17 => some ((M17.1 (1, 1, 0) 1), M17)) NF (0 : Int32) (putI q1 (1, 1, 0) 1 (0 : Int32))
set_option maxRecDepth 20000 in
set_option maxHeartbeats 2000000 in
theorem sX9_writePins_L32 {wv : Wv} (c1 : Int32) (c2 : Int32) {res : (Int32 × Mm)} {K : Int32 → Mm → Option (Int32 × Mm)} : ∀ (n : Nat) (v3 : Int32) (M : Mm), fX9_writePins_L32 c1 c2 K n v3 M = some res →
    (∀ (v3 : Int32) (M : Mm), K v3 M = some res → Z RX9 cX9_writePins 4 (some .int) [] "writePins" (rmD 3 0 0) (QM SH (allR wv) 0 0 (fun v M9 => v = some (.int res.1) ∧ M9 = res.2) (fun _ _ => False)) (allR wv) SH 0 0 107 [some (.inr (0, 0, 0)), some (.inl (.int c1)), some (.inl (.int c2)), some (.inl (.int v3))] [] M) → Z RX9 cX9_writePins 4 (some .int) [] "writePins" (rmD 3 0 0) (QM SH (allR wv) 0 0 (fun v M9 => v = some (.int res.1) ∧ M9 = res.2) (fun _ _ => False)) (allR wv) SH 0 0 32 [some (.inr (0, 0, 0)), some (.inl (.int c1)), some (.inl (.int c2)), some (.inl (.int v3))] [] M := by
  intro n
  induction n with
  | zero => intro v3 M h; cases h
  | succ n ih =>
    intro v3 M h hK
    rw [fX9_writePins_L32] at h
    refine z_iload_n (i := 3) dX9_writePins_32 rfl rfl ?_
    refine z_aload_n (i := 0) dX9_writePins_33 rfl rfl ?_
    refine z_getR (r' := (9, 0, 0)) dX9_writePins_34 fl_X9_40 mk0 rfl rfl ?_
    refine z_getR (r' := (10, 0, 0)) dX9_writePins_37 fl_X9_153 (m9 _ (Nat.le_of_ble_eq_true rfl)) rfl rfl ?_
    refine z_getI (x := (M.1 (10, 0, 0) 1)) dX9_writePins_40 fl_X9_157 (m10 _ (Nat.le_of_ble_eq_true rfl)) rfl rfl ?_
    refine z_icmp_ge (tgt := 107) dX9_writePins_43 rfl (fun hc3 => ?_) (fun hc3 => ?_)
    · have h := it_t h hc3
      exact hK _ _ h
    · have h := it_f h hc3
      refine z_aload_n (i := 0) dX9_writePins_46 rfl rfl ?_
      refine z_getR (r' := (9, 0, 0)) dX9_writePins_47 fl_X9_40 mk0 rfl rfl ?_
      refine z_getR (r' := (10, 0, 0)) dX9_writePins_50 fl_X9_153 (m9 _ (Nat.le_of_ble_eq_true rfl)) rfl rfl ?_
      refine z_iload_n (i := 1) dX9_writePins_53 rfl rfl ?_
      refine z_iload_n (i := 2) dX9_writePins_54 rfl rfl ?_
      refine z_iload_n (i := 3) dX9_writePins_55 rfl rfl ?_
      obtain ⟨q4, hq5, h⟩ := bnd h
      refine z_fVi (sX3_hasPin M 0 c1 c2 v3 (Nat.le_of_ble_eq_true rfl) hq5) dX9_writePins_56 ml_X9_175 cd_X3_hasPin (m10 _ (Nat.le_of_ble_eq_true rfl)) rfl rfl rfl rfl rfl rfl ?_
      refine z_if_ne (tgt := 74) dX9_writePins_59 rfl (fun hc6 => ?_) (fun hc6 => ?_)
      · have h := it_f h hc6
        refine z_aload_n (i := 0) dX9_writePins_74 rfl rfl ?_
        refine z_getR (r' := (1, 1, 0)) dX9_writePins_75 fl_X9_18 mk0 rfl rfl ?_
        refine z_aload_n (i := 0) dX9_writePins_78 rfl rfl ?_
        refine z_getR (r' := (9, 0, 0)) dX9_writePins_79 fl_X9_40 mk0 rfl rfl ?_
        refine z_iload_n (i := 1) dX9_writePins_82 rfl rfl ?_
        refine z_iload_n (i := 2) dX9_writePins_83 rfl rfl ?_
        refine z_iload_n (i := 3) dX9_writePins_84 rfl rfl ?_
        obtain ⟨q7, hq8, h⟩ := bnd h
        refine z_fVi (sX0_closePinAt M 0 c1 c2 v3 (Nat.le_of_ble_eq_true rfl) hq8) dX9_writePins_85 ml_X9_343 cd_X0_closePinAt (m9 _ (Nat.le_of_ble_eq_true rfl)) rfl rfl rfl rfl rfl rfl ?_
        refine z_if_eq (tgt := 96) dX9_writePins_88 rfl (fun hc9 => ?_) (fun hc9 => ?_)
        · have h := it_t h hc9
          refine z_bipush (v := (35 : Int32)) dX9_writePins_96 kb_35 ?_
          obtain ⟨q10, hq11, h⟩ := bnd h
          refine z_fVv (sX1_put M 1 (35 : Int32) (Nat.le_of_ble_eq_true rfl) hq11) dX9_writePins_98 ml_X9_92 cd_X1_put (m1 _ (Nat.le_of_ble_eq_true rfl)) rfl rfl rfl rfl rfl rfl ?_
          refine z_iinc (i := 3) (v := (v3 + (1 : Int32))) dX9_writePins_101 rfl (iinc_k kc_1) (Nat.le_of_ble_eq_true rfl) rfl ?_
          refine z_goto (tgt := 32) dX9_writePins_104 rfl ?_
          exact ih _ _ h hK
        · have h := it_f h hc9
          refine z_bipush (v := (33 : Int32)) dX9_writePins_91 kb_33 ?_
          refine z_goto (tgt := 98) dX9_writePins_93 rfl ?_
          obtain ⟨q12, hq13, h⟩ := bnd h
          refine z_fVv (sX1_put M 1 (33 : Int32) (Nat.le_of_ble_eq_true rfl) hq13) dX9_writePins_98 ml_X9_92 cd_X1_put (m1 _ (Nat.le_of_ble_eq_true rfl)) rfl rfl rfl rfl rfl rfl ?_
          refine z_iinc (i := 3) (v := (v3 + (1 : Int32))) dX9_writePins_101 rfl (iinc_k kc_1) (Nat.le_of_ble_eq_true rfl) rfl ?_
          refine z_goto (tgt := 32) dX9_writePins_104 rfl ?_
          exact ih _ _ h hK
      · have h := it_t h hc6
        refine z_aload_n (i := 0) dX9_writePins_62 rfl rfl ?_
        refine z_getR (r' := (1, 1, 0)) dX9_writePins_63 fl_X9_18 mk0 rfl rfl ?_
        refine z_bipush (v := (45 : Int32)) dX9_writePins_66 kb_45 ?_
        obtain ⟨q14, hq15, h⟩ := bnd h
        refine z_fVv (sX1_put M 1 (45 : Int32) (Nat.le_of_ble_eq_true rfl) hq15) dX9_writePins_68 ml_X9_92 cd_X1_put (m1 _ (Nat.le_of_ble_eq_true rfl)) rfl rfl rfl rfl rfl rfl ?_
        refine z_goto (tgt := 101) dX9_writePins_71 rfl ?_
        refine z_iinc (i := 3) (v := (v3 + (1 : Int32))) dX9_writePins_101 rfl (iinc_k kc_1) (Nat.le_of_ble_eq_true rfl) rfl ?_
        refine z_goto (tgt := 32) dX9_writePins_104 rfl ?_
        exact ih _ _ h hK
set_option maxRecDepth 20000 in
set_option maxHeartbeats 2000000 in
theorem sX9_writePins {wv : Wv} (M : Mm) (x1 : Int32) (x2 : Int32) {res : (Int32 × Mm)} (h : fX9_writePins M x1 x2 = some res) : TF wv yX9_writePins cX9_writePins 4 (some .int) 3 [.inr (0, 0, 0), .inl (.int x1), .inl (.int x2)] M (some (.int res.1)) res.2 := by
  rw [fX9_writePins] at h
  refine TF.go (n := 1) (ls := [some (.inr (0, 0, 0)), some (.inl (.int x1)), some (.inl (.int x2)), none]) rfl rfl rfl rfl rfl ?_
  refine z_aload_n (i := 0) dX9_writePins_0 rfl rfl ?_
  refine z_getR (r' := (9, 0, 0)) dX9_writePins_1 fl_X9_40 mk0 rfl rfl ?_
  refine z_iload_n (i := 1) dX9_writePins_4 rfl rfl ?_
  refine z_fVi (sX0_tuneFault M 0 x1 (Nat.le_of_ble_eq_true rfl)) dX9_writePins_5 ml_X9_179 cd_X0_tuneFault (m9 _ (Nat.le_of_ble_eq_true rfl)) rfl rfl rfl rfl rfl rfl ?_
  refine z_aload_n (i := 0) dX9_writePins_8 rfl rfl ?_
  refine z_getR (r' := (9, 0, 0)) dX9_writePins_9 fl_X9_40 mk0 rfl rfl ?_
  refine z_iload_n (i := 2) dX9_writePins_12 rfl rfl ?_
  refine z_fVi (sX0_toothFault M 0 x2 (Nat.le_of_ble_eq_true rfl)) dX9_writePins_13 ml_X9_214 cd_X0_toothFault (m9 _ (Nat.le_of_ble_eq_true rfl)) rfl rfl rfl rfl rfl rfl ?_
  refine z_fSi (sJ9_max_7cf53 M (fX0_tuneFault M 0 x1) (fX0_toothFault M 0 x2)) dX9_writePins_16 ml_X9_188 cd_J9_max_7cf53 rfl rfl rfl rfl rfl ?_
  obtain ⟨q1, hq2, h⟩ := bnd h
  refine z_fSv (sX9_refuse M (fJ9_max_7cf53 M (fX0_tuneFault M 0 x1) (fX0_toothFault M 0 x2)) hq2) dX9_writePins_19 ml_X9_172 cd_X9_refuse rfl rfl rfl rfl rfl ?_
  refine z_aload_n (i := 0) dX9_writePins_22 rfl rfl ?_
  refine z_getR (r' := (1, 1, 0)) dX9_writePins_23 fl_X9_18 mk0 rfl rfl ?_
  refine z_iconst (v := (0 : Int32)) dX9_writePins_26 kc_0 ?_
  refine z_putI allR_nd dX9_writePins_27 fl_X9_102 (m1 _ (Nat.le_of_ble_eq_true rfl)) rfl rfl ?_
  refine z_iconst (v := (0 : Int32)) dX9_writePins_30 kc_0 ?_
  refine z_istore_n (i := 3) dX9_writePins_31 rfl (Nat.le_of_ble_eq_true rfl) rfl ?_
  refine sX9_writePins_L32 x1 x2 NF _ _ h (fun w16 M17 h => ?_)
  refine z_aload_n (i := 0) dX9_writePins_107 rfl rfl ?_
  refine z_getR (r' := (1, 1, 0)) dX9_writePins_108 fl_X9_18 mk0 rfl rfl ?_
  refine z_getI (x := (M17.1 (1, 1, 0) 1)) dX9_writePins_111 fl_X9_102 (m1 _ (Nat.le_of_ble_eq_true rfl)) rfl rfl ?_
  cases h
  exact z_iret dX9_writePins_114 rfl rfl (Nat.le_refl _) (Nat.le_refl _) ⟨rfl, rfl⟩
theorem dX9_writeComb_0 : decode cX9_writeComb 0 = .ok (.aload_n 0, 1) := by decide +kernel
theorem dX9_writeComb_1 : decode cX9_writeComb 1 = .ok (.getfield 18, 3) := by decide +kernel
theorem dX9_writeComb_4 : decode cX9_writeComb 4 = .ok (.iconst 0, 1) := by decide +kernel
theorem dX9_writeComb_5 : decode cX9_writeComb 5 = .ok (.putfield 102, 3) := by decide +kernel
theorem dX9_writeComb_8 : decode cX9_writeComb 8 = .ok (.iconst 0, 1) := by decide +kernel
theorem dX9_writeComb_9 : decode cX9_writeComb 9 = .ok (.istore_n 1, 1) := by decide +kernel
theorem dX9_writeComb_10 : decode cX9_writeComb 10 = .ok (.iload_n 1, 1) := by decide +kernel
theorem dX9_writeComb_11 : decode cX9_writeComb 11 = .ok (.aload_n 0, 1) := by decide +kernel
theorem dX9_writeComb_12 : decode cX9_writeComb 12 = .ok (.getfield 40, 3) := by decide +kernel
theorem dX9_writeComb_15 : decode cX9_writeComb 15 = .ok (.getfield 211, 3) := by decide +kernel
theorem dX9_writeComb_18 : decode cX9_writeComb 18 = .ok (.if_icmp .ge 74, 3) := by decide +kernel
theorem dX9_writeComb_21 : decode cX9_writeComb 21 = .ok (.iload_n 1, 1) := by decide +kernel
theorem dX9_writeComb_22 : decode cX9_writeComb 22 = .ok (.bipush 12, 2) := by decide +kernel
theorem dX9_writeComb_24 : decode cX9_writeComb 24 = .ok (.if_icmp .ge 68, 3) := by decide +kernel
theorem dX9_writeComb_27 : decode cX9_writeComb 27 = .ok (.iload_n 1, 1) := by decide +kernel
theorem dX9_writeComb_28 : decode cX9_writeComb 28 = .ok (.ifCond .le 12, 3) := by decide +kernel
theorem dX9_writeComb_31 : decode cX9_writeComb 31 = .ok (.aload_n 0, 1) := by decide +kernel
theorem dX9_writeComb_32 : decode cX9_writeComb 32 = .ok (.getfield 18, 3) := by decide +kernel
theorem dX9_writeComb_35 : decode cX9_writeComb 35 = .ok (.bipush 32, 2) := by decide +kernel
theorem dX9_writeComb_37 : decode cX9_writeComb 37 = .ok (.invokevirtual 92, 3) := by decide +kernel
theorem dX9_writeComb_40 : decode cX9_writeComb 40 = .ok (.aload_n 0, 1) := by decide +kernel
theorem dX9_writeComb_41 : decode cX9_writeComb 41 = .ok (.getfield 40, 3) := by decide +kernel
theorem dX9_writeComb_44 : decode cX9_writeComb 44 = .ok (.getfield 217, 3) := by decide +kernel
theorem dX9_writeComb_47 : decode cX9_writeComb 47 = .ok (.iload_n 1, 1) := by decide +kernel
theorem dX9_writeComb_48 : decode cX9_writeComb 48 = .ok (.aaload, 1) := by decide +kernel
theorem dX9_writeComb_49 : decode cX9_writeComb 49 = .ok (.invokevirtual 238, 3) := by decide +kernel
theorem dX9_writeComb_52 : decode cX9_writeComb 52 = .ok (.ifCond .eq 15, 3) := by decide +kernel
theorem dX9_writeComb_55 : decode cX9_writeComb 55 = .ok (.aload_n 0, 1) := by decide +kernel
theorem dX9_writeComb_56 : decode cX9_writeComb 56 = .ok (.getfield 18, 3) := by decide +kernel
theorem dX9_writeComb_59 : decode cX9_writeComb 59 = .ok (.bipush 120, 2) := by decide +kernel
theorem dX9_writeComb_61 : decode cX9_writeComb 61 = .ok (.invokevirtual 92, 3) := by decide +kernel
theorem dX9_writeComb_64 : decode cX9_writeComb 64 = .ok (.goto 22, 3) := by decide +kernel
theorem dX9_writeComb_67 : decode cX9_writeComb 67 = .ok (.aload_n 0, 1) := by decide +kernel
theorem dX9_writeComb_68 : decode cX9_writeComb 68 = .ok (.getfield 18, 3) := by decide +kernel
theorem dX9_writeComb_71 : decode cX9_writeComb 71 = .ok (.aload_n 0, 1) := by decide +kernel
theorem dX9_writeComb_72 : decode cX9_writeComb 72 = .ok (.getfield 40, 3) := by decide +kernel
theorem dX9_writeComb_75 : decode cX9_writeComb 75 = .ok (.getfield 217, 3) := by decide +kernel
theorem dX9_writeComb_78 : decode cX9_writeComb 78 = .ok (.iload_n 1, 1) := by decide +kernel
theorem dX9_writeComb_79 : decode cX9_writeComb 79 = .ok (.aaload, 1) := by decide +kernel
theorem dX9_writeComb_80 : decode cX9_writeComb 80 = .ok (.invokevirtual 221, 3) := by decide +kernel
theorem dX9_writeComb_83 : decode cX9_writeComb 83 = .ok (.invokevirtual 346, 3) := by decide +kernel
theorem dX9_writeComb_86 : decode cX9_writeComb 86 = .ok (.iinc 1 1, 3) := by decide +kernel
theorem dX9_writeComb_89 : decode cX9_writeComb 89 = .ok (.goto (-79), 3) := by decide +kernel
theorem dX9_writeComb_92 : decode cX9_writeComb 92 = .ok (.aload_n 0, 1) := by decide +kernel
theorem dX9_writeComb_93 : decode cX9_writeComb 93 = .ok (.getfield 18, 3) := by decide +kernel
theorem dX9_writeComb_96 : decode cX9_writeComb 96 = .ok (.getfield 102, 3) := by decide +kernel
theorem dX9_writeComb_99 : decode cX9_writeComb 99 = .ok (.ireturn, 1) := by decide +kernel
def fX9_writeComb_L10 (K : Int32 → Mm → Option (Int32 × Mm)) : Nat → Int32 → Mm → Option (Int32 × Mm)
  | 0, _, _ => none
  | n + 1, v1, M => if (M.1 (9, 0, 0) 2) ≤ v1 then K v1 M else if (12 : Int32) ≤ v1 then K v1 M else if v1 ≤ 0 then (if v1 < 0 ∨ 12 ≤ v1.toNatClampNeg then none else if (fX8_brokenNow M 0 v1.toNatClampNeg) = 0 then (if v1 < 0 ∨ 12 ≤ v1.toNatClampNeg then none else (fX1_putNumber M 1 (fX8_pitchNow M 0 v1.toNatClampNeg)).bind fun q7 => fX9_writeComb_L10 K n (v1 + (1 : Int32)) q7) else (fX1_put M 1 (120 : Int32)).bind fun q9 => fX9_writeComb_L10 K n (v1 + (1 : Int32)) q9) else (fX1_put M 1 (32 : Int32)).bind fun q11 => if v1 < 0 ∨ 12 ≤ v1.toNatClampNeg then none else if (fX8_brokenNow q11 0 v1.toNatClampNeg) = 0 then (if v1 < 0 ∨ 12 ≤ v1.toNatClampNeg then none else (fX1_putNumber q11 1 (fX8_pitchNow q11 0 v1.toNatClampNeg)).bind fun q16 => fX9_writeComb_L10 K n (v1 + (1 : Int32)) q16) else (fX1_put q11 1 (120 : Int32)).bind fun q18 => fX9_writeComb_L10 K n (v1 + (1 : Int32)) q18
def fX9_writeComb (M : Mm) : Option (Int32 × Mm) := fX9_writeComb_L10 (fun w20 M21 => some ((M21.1 (1, 1, 0) 1), M21)) NF (0 : Int32) (putI M (1, 1, 0) 1 (0 : Int32))
set_option maxRecDepth 20000 in
set_option maxHeartbeats 2000000 in
theorem sX9_writeComb_L10 {wv : Wv} {res : (Int32 × Mm)} {K : Int32 → Mm → Option (Int32 × Mm)} : ∀ (n : Nat) (v1 : Int32) (M : Mm), fX9_writeComb_L10 K n v1 M = some res →
    (∀ (v1 : Int32) (M : Mm), K v1 M = some res → Z RX9 cX9_writeComb 2 (some .int) [] "writeComb" (rmD 2 0 0) (QM SH (allR wv) 0 0 (fun v M9 => v = some (.int res.1) ∧ M9 = res.2) (fun _ _ => False)) (allR wv) SH 0 0 92 [some (.inr (0, 0, 0)), some (.inl (.int v1))] [] M) → Z RX9 cX9_writeComb 2 (some .int) [] "writeComb" (rmD 2 0 0) (QM SH (allR wv) 0 0 (fun v M9 => v = some (.int res.1) ∧ M9 = res.2) (fun _ _ => False)) (allR wv) SH 0 0 10 [some (.inr (0, 0, 0)), some (.inl (.int v1))] [] M := by
  intro n
  induction n with
  | zero => intro v1 M h; cases h
  | succ n ih =>
    intro v1 M h hK
    rw [fX9_writeComb_L10] at h
    refine z_iload_n (i := 1) dX9_writeComb_10 rfl rfl ?_
    refine z_aload_n (i := 0) dX9_writeComb_11 rfl rfl ?_
    refine z_getR (r' := (9, 0, 0)) dX9_writeComb_12 fl_X9_40 mk0 rfl rfl ?_
    refine z_getI (x := (M.1 (9, 0, 0) 2)) dX9_writeComb_15 fl_X9_211 (m9 _ (Nat.le_of_ble_eq_true rfl)) rfl rfl ?_
    refine z_icmp_ge (tgt := 92) dX9_writeComb_18 rfl (fun hc1 => ?_) (fun hc1 => ?_)
    · have h := it_t h hc1
      exact hK _ _ h
    · have h := it_f h hc1
      refine z_iload_n (i := 1) dX9_writeComb_21 rfl rfl ?_
      refine z_bipush (v := (12 : Int32)) dX9_writeComb_22 kb_12 ?_
      refine z_icmp_ge (tgt := 92) dX9_writeComb_24 rfl (fun hc2 => ?_) (fun hc2 => ?_)
      · have h := it_t h hc2
        exact hK _ _ h
      · have h := it_f h hc2
        refine z_iload_n (i := 1) dX9_writeComb_27 rfl rfl ?_
        refine z_if_le (tgt := 40) dX9_writeComb_28 rfl (fun hc3 => ?_) (fun hc3 => ?_)
        · have h := it_t h hc3
          refine z_aload_n (i := 0) dX9_writeComb_40 rfl rfl ?_
          refine z_getR (r' := (9, 0, 0)) dX9_writeComb_41 fl_X9_40 mk0 rfl rfl ?_
          refine z_getR (r' := (12, 0, 0)) dX9_writeComb_44 fl_X9_217 (m9 _ (Nat.le_of_ble_eq_true rfl)) rfl rfl ?_
          refine z_iload_n (i := 1) dX9_writeComb_47 rfl rfl ?_
          obtain ⟨hc4, h⟩ := chk h
          refine z_aald (t := 0) (r' := (13, 0, v1.toNatClampNeg)) dX9_writeComb_48 (m12 _ (Nat.le_of_ble_eq_true rfl)) rfl (Nat.le_of_ble_eq_true rfl) hc4 rfl ?_
          refine z_fVi (sX8_brokenNow M 0 v1.toNatClampNeg (Nat.le_of_ble_eq_true rfl) (ltN hc4)) dX9_writeComb_49 ml_X9_238 cd_X8_brokenNow (m13 _ (Nat.le_of_ble_eq_true rfl) _ (ltN hc4)) rfl rfl rfl rfl rfl rfl ?_
          refine z_if_eq (tgt := 67) dX9_writeComb_52 rfl (fun hc5 => ?_) (fun hc5 => ?_)
          · have h := it_t h hc5
            refine z_aload_n (i := 0) dX9_writeComb_67 rfl rfl ?_
            refine z_getR (r' := (1, 1, 0)) dX9_writeComb_68 fl_X9_18 mk0 rfl rfl ?_
            refine z_aload_n (i := 0) dX9_writeComb_71 rfl rfl ?_
            refine z_getR (r' := (9, 0, 0)) dX9_writeComb_72 fl_X9_40 mk0 rfl rfl ?_
            refine z_getR (r' := (12, 0, 0)) dX9_writeComb_75 fl_X9_217 (m9 _ (Nat.le_of_ble_eq_true rfl)) rfl rfl ?_
            refine z_iload_n (i := 1) dX9_writeComb_78 rfl rfl ?_
            obtain ⟨hc6, h⟩ := chk h
            refine z_aald (t := 0) (r' := (13, 0, v1.toNatClampNeg)) dX9_writeComb_79 (m12 _ (Nat.le_of_ble_eq_true rfl)) rfl (Nat.le_of_ble_eq_true rfl) hc6 rfl ?_
            refine z_fVi (sX8_pitchNow M 0 v1.toNatClampNeg (Nat.le_of_ble_eq_true rfl) (ltN hc6)) dX9_writeComb_80 ml_X9_221 cd_X8_pitchNow (m13 _ (Nat.le_of_ble_eq_true rfl) _ (ltN hc6)) rfl rfl rfl rfl rfl rfl ?_
            obtain ⟨q7, hq8, h⟩ := bnd h
            refine z_fVv (sX1_putNumber M 1 (fX8_pitchNow M 0 v1.toNatClampNeg) (Nat.le_of_ble_eq_true rfl) hq8) dX9_writeComb_83 ml_X9_346 cd_X1_putNumber (m1 _ (Nat.le_of_ble_eq_true rfl)) rfl rfl rfl rfl rfl rfl ?_
            refine z_iinc (i := 1) (v := (v1 + (1 : Int32))) dX9_writeComb_86 rfl (iinc_k kc_1) (Nat.le_of_ble_eq_true rfl) rfl ?_
            refine z_goto (tgt := 10) dX9_writeComb_89 rfl ?_
            exact ih _ _ h hK
          · have h := it_f h hc5
            refine z_aload_n (i := 0) dX9_writeComb_55 rfl rfl ?_
            refine z_getR (r' := (1, 1, 0)) dX9_writeComb_56 fl_X9_18 mk0 rfl rfl ?_
            refine z_bipush (v := (120 : Int32)) dX9_writeComb_59 kb_120 ?_
            obtain ⟨q9, hq10, h⟩ := bnd h
            refine z_fVv (sX1_put M 1 (120 : Int32) (Nat.le_of_ble_eq_true rfl) hq10) dX9_writeComb_61 ml_X9_92 cd_X1_put (m1 _ (Nat.le_of_ble_eq_true rfl)) rfl rfl rfl rfl rfl rfl ?_
            refine z_goto (tgt := 86) dX9_writeComb_64 rfl ?_
            refine z_iinc (i := 1) (v := (v1 + (1 : Int32))) dX9_writeComb_86 rfl (iinc_k kc_1) (Nat.le_of_ble_eq_true rfl) rfl ?_
            refine z_goto (tgt := 10) dX9_writeComb_89 rfl ?_
            exact ih _ _ h hK
        · have h := it_f h hc3
          refine z_aload_n (i := 0) dX9_writeComb_31 rfl rfl ?_
          refine z_getR (r' := (1, 1, 0)) dX9_writeComb_32 fl_X9_18 mk0 rfl rfl ?_
          refine z_bipush (v := (32 : Int32)) dX9_writeComb_35 kb_32 ?_
          obtain ⟨q11, hq12, h⟩ := bnd h
          refine z_fVv (sX1_put M 1 (32 : Int32) (Nat.le_of_ble_eq_true rfl) hq12) dX9_writeComb_37 ml_X9_92 cd_X1_put (m1 _ (Nat.le_of_ble_eq_true rfl)) rfl rfl rfl rfl rfl rfl ?_
          refine z_aload_n (i := 0) dX9_writeComb_40 rfl rfl ?_
          refine z_getR (r' := (9, 0, 0)) dX9_writeComb_41 fl_X9_40 mk0 rfl rfl ?_
          refine z_getR (r' := (12, 0, 0)) dX9_writeComb_44 fl_X9_217 (m9 _ (Nat.le_of_ble_eq_true rfl)) rfl rfl ?_
          refine z_iload_n (i := 1) dX9_writeComb_47 rfl rfl ?_
          obtain ⟨hc13, h⟩ := chk h
          refine z_aald (t := 0) (r' := (13, 0, v1.toNatClampNeg)) dX9_writeComb_48 (m12 _ (Nat.le_of_ble_eq_true rfl)) rfl (Nat.le_of_ble_eq_true rfl) hc13 rfl ?_
          refine z_fVi (sX8_brokenNow q11 0 v1.toNatClampNeg (Nat.le_of_ble_eq_true rfl) (ltN hc13)) dX9_writeComb_49 ml_X9_238 cd_X8_brokenNow (m13 _ (Nat.le_of_ble_eq_true rfl) _ (ltN hc13)) rfl rfl rfl rfl rfl rfl ?_
          refine z_if_eq (tgt := 67) dX9_writeComb_52 rfl (fun hc14 => ?_) (fun hc14 => ?_)
          · have h := it_t h hc14
            refine z_aload_n (i := 0) dX9_writeComb_67 rfl rfl ?_
            refine z_getR (r' := (1, 1, 0)) dX9_writeComb_68 fl_X9_18 mk0 rfl rfl ?_
            refine z_aload_n (i := 0) dX9_writeComb_71 rfl rfl ?_
            refine z_getR (r' := (9, 0, 0)) dX9_writeComb_72 fl_X9_40 mk0 rfl rfl ?_
            refine z_getR (r' := (12, 0, 0)) dX9_writeComb_75 fl_X9_217 (m9 _ (Nat.le_of_ble_eq_true rfl)) rfl rfl ?_
            refine z_iload_n (i := 1) dX9_writeComb_78 rfl rfl ?_
            obtain ⟨hc15, h⟩ := chk h
            refine z_aald (t := 0) (r' := (13, 0, v1.toNatClampNeg)) dX9_writeComb_79 (m12 _ (Nat.le_of_ble_eq_true rfl)) rfl (Nat.le_of_ble_eq_true rfl) hc15 rfl ?_
            refine z_fVi (sX8_pitchNow q11 0 v1.toNatClampNeg (Nat.le_of_ble_eq_true rfl) (ltN hc15)) dX9_writeComb_80 ml_X9_221 cd_X8_pitchNow (m13 _ (Nat.le_of_ble_eq_true rfl) _ (ltN hc15)) rfl rfl rfl rfl rfl rfl ?_
            obtain ⟨q16, hq17, h⟩ := bnd h
            refine z_fVv (sX1_putNumber q11 1 (fX8_pitchNow q11 0 v1.toNatClampNeg) (Nat.le_of_ble_eq_true rfl) hq17) dX9_writeComb_83 ml_X9_346 cd_X1_putNumber (m1 _ (Nat.le_of_ble_eq_true rfl)) rfl rfl rfl rfl rfl rfl ?_
            refine z_iinc (i := 1) (v := (v1 + (1 : Int32))) dX9_writeComb_86 rfl (iinc_k kc_1) (Nat.le_of_ble_eq_true rfl) rfl ?_
            refine z_goto (tgt := 10) dX9_writeComb_89 rfl ?_
            exact ih _ _ h hK
          · have h := it_f h hc14
            refine z_aload_n (i := 0) dX9_writeComb_55 rfl rfl ?_
            refine z_getR (r' := (1, 1, 0)) dX9_writeComb_56 fl_X9_18 mk0 rfl rfl ?_
            refine z_bipush (v := (120 : Int32)) dX9_writeComb_59 kb_120 ?_
            obtain ⟨q18, hq19, h⟩ := bnd h
            refine z_fVv (sX1_put q11 1 (120 : Int32) (Nat.le_of_ble_eq_true rfl) hq19) dX9_writeComb_61 ml_X9_92 cd_X1_put (m1 _ (Nat.le_of_ble_eq_true rfl)) rfl rfl rfl rfl rfl rfl ?_
            refine z_goto (tgt := 86) dX9_writeComb_64 rfl ?_
            refine z_iinc (i := 1) (v := (v1 + (1 : Int32))) dX9_writeComb_86 rfl (iinc_k kc_1) (Nat.le_of_ble_eq_true rfl) rfl ?_
            refine z_goto (tgt := 10) dX9_writeComb_89 rfl ?_
            exact ih _ _ h hK
set_option maxRecDepth 20000 in
set_option maxHeartbeats 2000000 in
theorem sX9_writeComb {wv : Wv} (M : Mm) {res : (Int32 × Mm)} (h : fX9_writeComb M  = some res) : TF wv yX9_writeComb cX9_writeComb 2 (some .int) 2 [.inr (0, 0, 0)] M (some (.int res.1)) res.2 := by
  rw [fX9_writeComb] at h
  refine TF.go (n := 1) (ls := [some (.inr (0, 0, 0)), none]) rfl rfl rfl rfl rfl ?_
  refine z_aload_n (i := 0) dX9_writeComb_0 rfl rfl ?_
  refine z_getR (r' := (1, 1, 0)) dX9_writeComb_1 fl_X9_18 mk0 rfl rfl ?_
  refine z_iconst (v := (0 : Int32)) dX9_writeComb_4 kc_0 ?_
  refine z_putI allR_nd dX9_writeComb_5 fl_X9_102 (m1 _ (Nat.le_of_ble_eq_true rfl)) rfl rfl ?_
  refine z_iconst (v := (0 : Int32)) dX9_writeComb_8 kc_0 ?_
  refine z_istore_n (i := 1) dX9_writeComb_9 rfl (Nat.le_of_ble_eq_true rfl) rfl ?_
  refine sX9_writeComb_L10  NF _ _ h (fun w20 M21 h => ?_)
  refine z_aload_n (i := 0) dX9_writeComb_92 rfl rfl ?_
  refine z_getR (r' := (1, 1, 0)) dX9_writeComb_93 fl_X9_18 mk0 rfl rfl ?_
  refine z_getI (x := (M21.1 (1, 1, 0) 1)) dX9_writeComb_96 fl_X9_102 (m1 _ (Nat.le_of_ble_eq_true rfl)) rfl rfl ?_
  cases h
  exact z_iret dX9_writeComb_99 rfl rfl (Nat.le_refl _) (Nat.le_refl _) ⟨rfl, rfl⟩
theorem dX9_outputByte_0 : decode cX9_outputByte 0 = .ok (.aload_n 0, 1) := by decide +kernel
theorem dX9_outputByte_1 : decode cX9_outputByte 1 = .ok (.getfield 18, 3) := by decide +kernel
theorem dX9_outputByte_4 : decode cX9_outputByte 4 = .ok (.iload_n 1, 1) := by decide +kernel
theorem dX9_outputByte_5 : decode cX9_outputByte 5 = .ok (.invokevirtual 349, 3) := by decide +kernel
theorem dX9_outputByte_8 : decode cX9_outputByte 8 = .ok (.ireturn, 1) := by decide +kernel
def fX9_outputByte (M : Mm) (x1 : Int32) : Option Int32 := (fX1_at M 1 x1).bind fun q1 => some q1
set_option maxRecDepth 20000 in
set_option maxHeartbeats 2000000 in
theorem sX9_outputByte {wv : Wv} (M : Mm) (x1 : Int32) {res : Int32} (h : fX9_outputByte M x1 = some res) : TF wv yX9_outputByte cX9_outputByte 2 (some .int) 1 [.inr (0, 0, 0), .inl (.int x1)] M (some (.int res)) M := by
  rw [fX9_outputByte] at h
  refine TF.go (n := 0) (ls := [some (.inr (0, 0, 0)), some (.inl (.int x1))]) rfl rfl rfl rfl rfl ?_
  refine z_aload_n (i := 0) dX9_outputByte_0 rfl rfl ?_
  refine z_getR (r' := (1, 1, 0)) dX9_outputByte_1 fl_X9_18 mk0 rfl rfl ?_
  refine z_iload_n (i := 1) dX9_outputByte_4 rfl rfl ?_
  obtain ⟨q1, hq2, h⟩ := bnd h
  refine z_fVi (sX1_at M 1 x1 (Nat.le_of_ble_eq_true rfl) hq2) dX9_outputByte_5 ml_X9_349 cd_X1_at (m1 _ (Nat.le_of_ble_eq_true rfl)) rfl rfl rfl rfl rfl rfl ?_
  cases h
  exact z_iret dX9_outputByte_8 rfl rfl (Nat.le_refl _) (Nat.le_refl _) ⟨rfl, rfl⟩
theorem dX9_undoCount_0 : decode cX9_undoCount 0 = .ok (.aload_n 0, 1) := by decide +kernel
theorem dX9_undoCount_1 : decode cX9_undoCount 1 = .ok (.getfield 68, 3) := by decide +kernel
theorem dX9_undoCount_4 : decode cX9_undoCount 4 = .ok (.getfield 352, 3) := by decide +kernel
theorem dX9_undoCount_7 : decode cX9_undoCount 7 = .ok (.ireturn, 1) := by decide +kernel
def fX9_undoCount (M : Mm) : Int32 := (M.1 (14, 0, 0) 1)
set_option maxRecDepth 20000 in
set_option maxHeartbeats 2000000 in
theorem tX9_undoCount {wv : Wv} (M : Mm) {res : Int32} (h : fX9_undoCount M  = res) : TF wv yX9_undoCount cX9_undoCount 1 (some .int) 0 [.inr (0, 0, 0)] M (some (.int res)) M := by
  rw [fX9_undoCount] at h
  refine TF.go (n := 0) (ls := [some (.inr (0, 0, 0))]) rfl rfl rfl rfl rfl ?_
  refine z_aload_n (i := 0) dX9_undoCount_0 rfl rfl ?_
  refine z_getR (r' := (14, 0, 0)) dX9_undoCount_1 fl_X9_68 mk0 rfl rfl ?_
  refine z_getI (x := (M.1 (14, 0, 0) 1)) dX9_undoCount_4 fl_X9_352 mk14 rfl rfl ?_
  subst h
  exact z_iret dX9_undoCount_7 rfl rfl (Nat.le_refl _) (Nat.le_refl _) ⟨rfl, rfl⟩
theorem sX9_undoCount {wv : Wv} (M : Mm) : TF wv yX9_undoCount cX9_undoCount 1 (some .int) 0 [.inr (0, 0, 0)] M (some (.int (fX9_undoCount M ))) M := tX9_undoCount M   rfl
theorem dX9_undo_0 : decode cX9_undo 0 = .ok (.aload_n 0, 1) := by decide +kernel
theorem dX9_undo_1 : decode cX9_undo 1 = .ok (.getfield 68, 3) := by decide +kernel
theorem dX9_undo_4 : decode cX9_undo 4 = .ok (.getfield 352, 3) := by decide +kernel
theorem dX9_undo_7 : decode cX9_undo 7 = .ok (.ifCond .ne 7, 3) := by decide +kernel
theorem dX9_undo_10 : decode cX9_undo 10 = .ok (.iconst 3, 1) := by decide +kernel
theorem dX9_undo_11 : decode cX9_undo 11 = .ok (.goto 4, 3) := by decide +kernel
theorem dX9_undo_14 : decode cX9_undo 14 = .ok (.iconst 0, 1) := by decide +kernel
theorem dX9_undo_15 : decode cX9_undo 15 = .ok (.invokestatic 172, 3) := by decide +kernel
theorem dX9_undo_18 : decode cX9_undo 18 = .ok (.aload_n 0, 1) := by decide +kernel
theorem dX9_undo_19 : decode cX9_undo 19 = .ok (.getfield 68, 3) := by decide +kernel
theorem dX9_undo_22 : decode cX9_undo 22 = .ok (.aload_n 0, 1) := by decide +kernel
theorem dX9_undo_23 : decode cX9_undo 23 = .ok (.getfield 40, 3) := by decide +kernel
theorem dX9_undo_26 : decode cX9_undo 26 = .ok (.invokevirtual 355, 3) := by decide +kernel
theorem dX9_undo_29 : decode cX9_undo 29 = .ok (.aload_n 0, 1) := by decide +kernel
theorem dX9_undo_30 : decode cX9_undo 30 = .ok (.getfield 68, 3) := by decide +kernel
theorem dX9_undo_33 : decode cX9_undo 33 = .ok (.getfield 352, 3) := by decide +kernel
theorem dX9_undo_36 : decode cX9_undo 36 = .ok (.ireturn, 1) := by decide +kernel
def fX9_undo (M : Mm) : Option (Int32 × Mm) := if (M.1 (14, 0, 0) 1) = 0 then ((fX9_refuse M (3 : Int32)).bind fun q6 => (fX2_takeBack q6 0).bind fun q8 => some ((q8.1 (14, 0, 0) 1), q8)) else (fX9_refuse M (0 : Int32)).bind fun q2 => (fX2_takeBack q2 0).bind fun q4 => some ((q4.1 (14, 0, 0) 1), q4)
set_option maxRecDepth 20000 in
set_option maxHeartbeats 2000000 in
theorem sX9_undo {wv : Wv} (M : Mm) {res : (Int32 × Mm)} (h : fX9_undo M  = some res) : TF wv yX9_undo cX9_undo 1 (some .int) 4 [.inr (0, 0, 0)] M (some (.int res.1)) res.2 := by
  rw [fX9_undo] at h
  refine TF.go (n := 0) (ls := [some (.inr (0, 0, 0))]) rfl rfl rfl rfl rfl ?_
  refine z_aload_n (i := 0) dX9_undo_0 rfl rfl ?_
  refine z_getR (r' := (14, 0, 0)) dX9_undo_1 fl_X9_68 mk0 rfl rfl ?_
  refine z_getI (x := (M.1 (14, 0, 0) 1)) dX9_undo_4 fl_X9_352 mk14 rfl rfl ?_
  refine z_if_ne (tgt := 14) dX9_undo_7 rfl (fun hc1 => ?_) (fun hc1 => ?_)
  · have h := it_f h hc1
    refine z_iconst (v := (0 : Int32)) dX9_undo_14 kc_0 ?_
    obtain ⟨q2, hq3, h⟩ := bnd h
    refine z_fSv (sX9_refuse M (0 : Int32) hq3) dX9_undo_15 ml_X9_172 cd_X9_refuse rfl rfl rfl rfl rfl ?_
    refine z_aload_n (i := 0) dX9_undo_18 rfl rfl ?_
    refine z_getR (r' := (14, 0, 0)) dX9_undo_19 fl_X9_68 mk0 rfl rfl ?_
    refine z_aload_n (i := 0) dX9_undo_22 rfl rfl ?_
    refine z_getR (r' := (9, 0, 0)) dX9_undo_23 fl_X9_40 mk0 rfl rfl ?_
    obtain ⟨q4, hq5, h⟩ := bnd h
    refine z_fVv (sX2_takeBack q2 0 (Nat.le_of_ble_eq_true rfl) hq5) dX9_undo_26 ml_X9_355 cd_X2_takeBack mk14 rfl rfl rfl rfl rfl rfl ?_
    refine z_aload_n (i := 0) dX9_undo_29 rfl rfl ?_
    refine z_getR (r' := (14, 0, 0)) dX9_undo_30 fl_X9_68 mk0 rfl rfl ?_
    refine z_getI (x := (q4.1 (14, 0, 0) 1)) dX9_undo_33 fl_X9_352 mk14 rfl rfl ?_
    cases h
    exact z_iret dX9_undo_36 rfl rfl (Nat.le_refl _) (Nat.le_refl _) ⟨rfl, rfl⟩
  · have h := it_t h hc1
    refine z_iconst (v := (3 : Int32)) dX9_undo_10 kc_3 ?_
    refine z_goto (tgt := 15) dX9_undo_11 rfl ?_
    obtain ⟨q6, hq7, h⟩ := bnd h
    refine z_fSv (sX9_refuse M (3 : Int32) hq7) dX9_undo_15 ml_X9_172 cd_X9_refuse rfl rfl rfl rfl rfl ?_
    refine z_aload_n (i := 0) dX9_undo_18 rfl rfl ?_
    refine z_getR (r' := (14, 0, 0)) dX9_undo_19 fl_X9_68 mk0 rfl rfl ?_
    refine z_aload_n (i := 0) dX9_undo_22 rfl rfl ?_
    refine z_getR (r' := (9, 0, 0)) dX9_undo_23 fl_X9_40 mk0 rfl rfl ?_
    obtain ⟨q8, hq9, h⟩ := bnd h
    refine z_fVv (sX2_takeBack q6 0 (Nat.le_of_ble_eq_true rfl) hq9) dX9_undo_26 ml_X9_355 cd_X2_takeBack mk14 rfl rfl rfl rfl rfl rfl ?_
    refine z_aload_n (i := 0) dX9_undo_29 rfl rfl ?_
    refine z_getR (r' := (14, 0, 0)) dX9_undo_30 fl_X9_68 mk0 rfl rfl ?_
    refine z_getI (x := (q8.1 (14, 0, 0) 1)) dX9_undo_33 fl_X9_352 mk14 rfl rfl ?_
    cases h
    exact z_iret dX9_undo_36 rfl rfl (Nat.le_refl _) (Nat.le_refl _) ⟨rfl, rfl⟩
theorem dX10_place_0 : decode cX10_place 0 = .ok (.sipush 768, 3) := by decide +kernel
theorem dX10_place_3 : decode cX10_place 3 = .ok (.iload_n 0, 1) := by decide +kernel
theorem dX10_place_4 : decode cX10_place 4 = .ok (.imul, 1) := by decide +kernel
theorem dX10_place_5 : decode cX10_place 5 = .ok (.bipush 64, 2) := by decide +kernel
theorem dX10_place_7 : decode cX10_place 7 = .ok (.iload_n 1, 1) := by decide +kernel
theorem dX10_place_8 : decode cX10_place 8 = .ok (.imul, 1) := by decide +kernel
theorem dX10_place_9 : decode cX10_place 9 = .ok (.iadd, 1) := by decide +kernel
theorem dX10_place_10 : decode cX10_place 10 = .ok (.iload_n 2, 1) := by decide +kernel
theorem dX10_place_11 : decode cX10_place 11 = .ok (.iadd, 1) := by decide +kernel
theorem dX10_place_12 : decode cX10_place 12 = .ok (.ireturn, 1) := by decide +kernel
def fX10_place (M : Mm) (x1 : Int32) (x2 : Int32) (x3 : Int32) : Int32 := ((((768 : Int32) * x1) + ((64 : Int32) * x2)) + x3)
set_option maxRecDepth 20000 in
set_option maxHeartbeats 2000000 in
theorem tX10_place {wv : Wv} (M : Mm) (x1 : Int32) (x2 : Int32) (x3 : Int32) {res : Int32} (h : fX10_place M x1 x2 x3 = res) : TF wv yX10_place cX10_place 3 (some .int) 0 [.inl (.int x1), .inl (.int x2), .inl (.int x3)] M (some (.int res)) M := by
  rw [fX10_place] at h
  refine TF.go (n := 0) (ls := [some (.inl (.int x1)), some (.inl (.int x2)), some (.inl (.int x3))]) rfl rfl rfl rfl rfl ?_
  refine z_sipush (v := (768 : Int32)) dX10_place_0 ks_768 ?_
  refine z_iload_n (i := 0) dX10_place_3 rfl rfl ?_
  refine z_imul dX10_place_4 ?_
  refine z_bipush (v := (64 : Int32)) dX10_place_5 kb_64 ?_
  refine z_iload_n (i := 1) dX10_place_7 rfl rfl ?_
  refine z_imul dX10_place_8 ?_
  refine z_iadd dX10_place_9 ?_
  refine z_iload_n (i := 2) dX10_place_10 rfl rfl ?_
  refine z_iadd dX10_place_11 ?_
  subst h
  exact z_iret dX10_place_12 rfl rfl (Nat.le_refl _) (Nat.le_refl _) ⟨rfl, rfl⟩
theorem sX10_place {wv : Wv} (M : Mm) (x1 : Int32) (x2 : Int32) (x3 : Int32) : TF wv yX10_place cX10_place 3 (some .int) 0 [.inl (.int x1), .inl (.int x2), .inl (.int x3)] M (some (.int (fX10_place M x1 x2 x3))) M := tX10_place M x1 x2 x3  rfl
theorem dX10_has_0 : decode cX10_has 0 = .ok (.aload_n 0, 1) := by decide +kernel
theorem dX10_has_1 : decode cX10_has 1 = .ok (.getfield 28, 3) := by decide +kernel
theorem dX10_has_4 : decode cX10_has 4 = .ok (.iload_n 1, 1) := by decide +kernel
theorem dX10_has_5 : decode cX10_has 5 = .ok (.iload_n 2, 1) := by decide +kernel
theorem dX10_has_6 : decode cX10_has 6 = .ok (.iload_n 3, 1) := by decide +kernel
theorem dX10_has_7 : decode cX10_has 7 = .ok (.invokestatic 67, 3) := by decide +kernel
theorem dX10_has_10 : decode cX10_has 10 = .ok (.baload, 1) := by decide +kernel
theorem dX10_has_11 : decode cX10_has 11 = .ok (.ireturn, 1) := by decide +kernel
def fX10_has (M : Mm) (k : Nat) (x1 : Int32) (x2 : Int32) (x3 : Int32) : Option Int32 := if (fX10_place M x1 x2 x3) < 0 ∨ 2304 ≤ (fX10_place M x1 x2 x3).toNatClampNeg then none else some (bz (M.1 (20, k, 0) (fX10_place M x1 x2 x3).toNatClampNeg))
set_option maxRecDepth 20000 in
set_option maxHeartbeats 2000000 in
theorem sX10_has {wv : Wv} (M : Mm) (k : Nat) (x1 : Int32) (x2 : Int32) (x3 : Int32) (hk : OwI wv k) {res : Int32} (h : fX10_has M k x1 x2 x3 = some res) : TF wv yX10_has cX10_has 4 (some .boolean) 1 [.inr (18, k, 0), .inl (.int x1), .inl (.int x2), .inl (.int x3)] M (some (.int res)) M := by
  rw [fX10_has] at h
  refine TF.go (n := 0) (ls := [some (.inr (18, k, 0)), some (.inl (.int x1)), some (.inl (.int x2)), some (.inl (.int x3))]) rfl rfl rfl rfl rfl ?_
  refine z_aload_n (i := 0) dX10_has_0 rfl rfl ?_
  refine z_getR (r' := (20, k, 0)) dX10_has_1 fl_X10_28 hk.1 rfl rfl ?_
  refine z_iload_n (i := 1) dX10_has_4 rfl rfl ?_
  refine z_iload_n (i := 2) dX10_has_5 rfl rfl ?_
  refine z_iload_n (i := 3) dX10_has_6 rfl rfl ?_
  refine z_fSi (sX10_place M x1 x2 x3) dX10_has_7 ml_X10_67 cd_X10_place rfl rfl rfl rfl rfl ?_
  obtain ⟨hc1, h⟩ := chk h
  refine z_zald (x := (M.1 (20, k, 0) (fX10_place M x1 x2 x3).toNatClampNeg)) dX10_has_10 hk.2.1 rfl hc1 rfl ?_
  cases h
  exact z_iret dX10_has_11 rfl (bz_ok _) (Nat.le_refl _) (Nat.le_refl _) ⟨rfl, rfl⟩
theorem dX10_silence_0 : decode cX10_silence 0 = .ok (.bipush 99, 2) := by decide +kernel
theorem dX10_silence_2 : decode cX10_silence 2 = .ok (.aload_n 0, 1) := by decide +kernel
theorem dX10_silence_3 : decode cX10_silence 3 = .ok (.getfield 25, 3) := by decide +kernel
theorem dX10_silence_6 : decode cX10_silence 6 = .ok (.iload_n 1, 1) := by decide +kernel
theorem dX10_silence_7 : decode cX10_silence 7 = .ok (.iaload, 1) := by decide +kernel
theorem dX10_silence_8 : decode cX10_silence 8 = .ok (.ifCond .ge 8, 3) := by decide +kernel
theorem dX10_silence_11 : decode cX10_silence 11 = .ok (.bipush 99, 2) := by decide +kernel
theorem dX10_silence_13 : decode cX10_silence 13 = .ok (.goto 14, 3) := by decide +kernel
theorem dX10_silence_16 : decode cX10_silence 16 = .ok (.aload_n 0, 1) := by decide +kernel
theorem dX10_silence_17 : decode cX10_silence 17 = .ok (.getfield 58, 3) := by decide +kernel
theorem dX10_silence_20 : decode cX10_silence 20 = .ok (.aload_n 0, 1) := by decide +kernel
theorem dX10_silence_21 : decode cX10_silence 21 = .ok (.getfield 25, 3) := by decide +kernel
theorem dX10_silence_24 : decode cX10_silence 24 = .ok (.iload_n 1, 1) := by decide +kernel
theorem dX10_silence_25 : decode cX10_silence 25 = .ok (.iaload, 1) := by decide +kernel
theorem dX10_silence_26 : decode cX10_silence 26 = .ok (.isub, 1) := by decide +kernel
theorem dX10_silence_27 : decode cX10_silence 27 = .ok (.invokestatic 71, 3) := by decide +kernel
theorem dX10_silence_30 : decode cX10_silence 30 = .ok (.ireturn, 1) := by decide +kernel
def fX10_silence (M : Mm) (k : Nat) (x1 : Int32) : Option Int32 := if x1 < 0 ∨ 12 ≤ x1.toNatClampNeg then none else if 0 ≤ (M.1 (19, k, 5) x1.toNatClampNeg) then (if x1 < 0 ∨ 12 ≤ x1.toNatClampNeg then none else some (fJ9_min_7cf53 M (99 : Int32) ((M.1 (18, k, 0) 8) - (M.1 (19, k, 5) x1.toNatClampNeg)))) else some (fJ9_min_7cf53 M (99 : Int32) (99 : Int32))
set_option maxRecDepth 20000 in
set_option maxHeartbeats 2000000 in
theorem sX10_silence {wv : Wv} (M : Mm) (k : Nat) (x1 : Int32) (hk : OwI wv k) {res : Int32} (h : fX10_silence M k x1 = some res) : TF wv yX10_silence cX10_silence 2 (some .int) 1 [.inr (18, k, 0), .inl (.int x1)] M (some (.int res)) M := by
  rw [fX10_silence] at h
  refine TF.go (n := 0) (ls := [some (.inr (18, k, 0)), some (.inl (.int x1))]) rfl rfl rfl rfl rfl ?_
  refine z_bipush (v := (99 : Int32)) dX10_silence_0 kb_99 ?_
  refine z_aload_n (i := 0) dX10_silence_2 rfl rfl ?_
  refine z_getR (r' := (19, k, 5)) dX10_silence_3 fl_X10_25 hk.1 rfl rfl ?_
  refine z_iload_n (i := 1) dX10_silence_6 rfl rfl ?_
  obtain ⟨hc1, h⟩ := chk h
  refine z_iald (x := (M.1 (19, k, 5) x1.toNatClampNeg)) dX10_silence_7 (hk.2.2 5 (Nat.le_of_ble_eq_true rfl)) rfl hc1 rfl ?_
  refine z_if_ge (tgt := 16) dX10_silence_8 rfl (fun hc2 => ?_) (fun hc2 => ?_)
  · have h := it_t h hc2
    refine z_aload_n (i := 0) dX10_silence_16 rfl rfl ?_
    refine z_getI (x := (M.1 (18, k, 0) 8)) dX10_silence_17 fl_X10_58 hk.1 rfl rfl ?_
    refine z_aload_n (i := 0) dX10_silence_20 rfl rfl ?_
    refine z_getR (r' := (19, k, 5)) dX10_silence_21 fl_X10_25 hk.1 rfl rfl ?_
    refine z_iload_n (i := 1) dX10_silence_24 rfl rfl ?_
    obtain ⟨hc3, h⟩ := chk h
    refine z_iald (x := (M.1 (19, k, 5) x1.toNatClampNeg)) dX10_silence_25 (hk.2.2 5 (Nat.le_of_ble_eq_true rfl)) rfl hc3 rfl ?_
    refine z_isub dX10_silence_26 ?_
    refine z_fSi (sJ9_min_7cf53 M (99 : Int32) ((M.1 (18, k, 0) 8) - (M.1 (19, k, 5) x1.toNatClampNeg))) dX10_silence_27 ml_X10_71 cd_J9_min_7cf53 rfl rfl rfl rfl rfl ?_
    cases h
    exact z_iret dX10_silence_30 rfl rfl (Nat.le_refl _) (Nat.le_refl _) ⟨rfl, rfl⟩
  · have h := it_f h hc2
    refine z_bipush (v := (99 : Int32)) dX10_silence_11 kb_99 ?_
    refine z_goto (tgt := 27) dX10_silence_13 rfl ?_
    refine z_fSi (sJ9_min_7cf53 M (99 : Int32) (99 : Int32)) dX10_silence_27 ml_X10_71 cd_J9_min_7cf53 rfl rfl rfl rfl rfl ?_
    cases h
    exact z_iret dX10_silence_30 rfl rfl (Nat.le_refl _) (Nat.le_refl _) ⟨rfl, rfl⟩
theorem dX10_isBad_0 : decode cX10_isBad 0 = .ok (.aload_n 0, 1) := by decide +kernel
theorem dX10_isBad_1 : decode cX10_isBad 1 = .ok (.getfield 22, 3) := by decide +kernel
theorem dX10_isBad_4 : decode cX10_isBad 4 = .ok (.iload_n 1, 1) := by decide +kernel
theorem dX10_isBad_5 : decode cX10_isBad 5 = .ok (.iaload, 1) := by decide +kernel
theorem dX10_isBad_6 : decode cX10_isBad 6 = .ok (.aload_n 0, 1) := by decide +kernel
theorem dX10_isBad_7 : decode cX10_isBad 7 = .ok (.getfield 19, 3) := by decide +kernel
theorem dX10_isBad_10 : decode cX10_isBad 10 = .ok (.iload_n 1, 1) := by decide +kernel
theorem dX10_isBad_11 : decode cX10_isBad 11 = .ok (.iaload, 1) := by decide +kernel
theorem dX10_isBad_12 : decode cX10_isBad 12 = .ok (.if_icmp .lt 7, 3) := by decide +kernel
theorem dX10_isBad_15 : decode cX10_isBad 15 = .ok (.iconst 1, 1) := by decide +kernel
theorem dX10_isBad_16 : decode cX10_isBad 16 = .ok (.goto 4, 3) := by decide +kernel
theorem dX10_isBad_19 : decode cX10_isBad 19 = .ok (.iconst 0, 1) := by decide +kernel
theorem dX10_isBad_20 : decode cX10_isBad 20 = .ok (.ireturn, 1) := by decide +kernel
def fX10_isBad (M : Mm) (k : Nat) (x1 : Int32) : Option Int32 := if x1 < 0 ∨ 12 ≤ x1.toNatClampNeg then none else if x1 < 0 ∨ 12 ≤ x1.toNatClampNeg then none else if (M.1 (19, k, 4) x1.toNatClampNeg) < (M.1 (19, k, 3) x1.toNatClampNeg) then some (0 : Int32) else some (1 : Int32)
set_option maxRecDepth 20000 in
set_option maxHeartbeats 2000000 in
theorem sX10_isBad {wv : Wv} (M : Mm) (k : Nat) (x1 : Int32) (hk : OwI wv k) {res : Int32} (h : fX10_isBad M k x1 = some res) : TF wv yX10_isBad cX10_isBad 2 (some .boolean) 0 [.inr (18, k, 0), .inl (.int x1)] M (some (.int res)) M := by
  rw [fX10_isBad] at h
  refine TF.go (n := 0) (ls := [some (.inr (18, k, 0)), some (.inl (.int x1))]) rfl rfl rfl rfl rfl ?_
  refine z_aload_n (i := 0) dX10_isBad_0 rfl rfl ?_
  refine z_getR (r' := (19, k, 4)) dX10_isBad_1 fl_X10_22 hk.1 rfl rfl ?_
  refine z_iload_n (i := 1) dX10_isBad_4 rfl rfl ?_
  obtain ⟨hc1, h⟩ := chk h
  refine z_iald (x := (M.1 (19, k, 4) x1.toNatClampNeg)) dX10_isBad_5 (hk.2.2 4 (Nat.le_of_ble_eq_true rfl)) rfl hc1 rfl ?_
  refine z_aload_n (i := 0) dX10_isBad_6 rfl rfl ?_
  refine z_getR (r' := (19, k, 3)) dX10_isBad_7 fl_X10_19 hk.1 rfl rfl ?_
  refine z_iload_n (i := 1) dX10_isBad_10 rfl rfl ?_
  obtain ⟨hc2, h⟩ := chk h
  refine z_iald (x := (M.1 (19, k, 3) x1.toNatClampNeg)) dX10_isBad_11 (hk.2.2 3 (Nat.le_of_ble_eq_true rfl)) rfl hc2 rfl ?_
  refine z_icmp_lt (tgt := 19) dX10_isBad_12 rfl (fun hc3 => ?_) (fun hc3 => ?_)
  · have h := it_t h hc3
    refine z_iconst (v := (0 : Int32)) dX10_isBad_19 kc_0 ?_
    cases h
    exact z_iret dX10_isBad_20 rfl rfl (Nat.le_refl _) (Nat.le_refl _) ⟨rfl, rfl⟩
  · have h := it_f h hc3
    refine z_iconst (v := (1 : Int32)) dX10_isBad_15 kc_1 ?_
    refine z_goto (tgt := 20) dX10_isBad_16 rfl ?_
    cases h
    exact z_iret dX10_isBad_20 rfl rfl (Nat.le_refl _) (Nat.le_refl _) ⟨rfl, rfl⟩
theorem dX10_pinsOf_0 : decode cX10_pinsOf 0 = .ok (.iconst 0, 1) := by decide +kernel
theorem dX10_pinsOf_1 : decode cX10_pinsOf 1 = .ok (.istore_n 2, 1) := by decide +kernel
theorem dX10_pinsOf_2 : decode cX10_pinsOf 2 = .ok (.sipush 768, 3) := by decide +kernel
theorem dX10_pinsOf_5 : decode cX10_pinsOf 5 = .ok (.iload_n 1, 1) := by decide +kernel
theorem dX10_pinsOf_6 : decode cX10_pinsOf 6 = .ok (.imul, 1) := by decide +kernel
theorem dX10_pinsOf_7 : decode cX10_pinsOf 7 = .ok (.istore_n 3, 1) := by decide +kernel
theorem dX10_pinsOf_8 : decode cX10_pinsOf 8 = .ok (.iload_n 3, 1) := by decide +kernel
theorem dX10_pinsOf_9 : decode cX10_pinsOf 9 = .ok (.sipush 768, 3) := by decide +kernel
theorem dX10_pinsOf_12 : decode cX10_pinsOf 12 = .ok (.iload_n 1, 1) := by decide +kernel
theorem dX10_pinsOf_13 : decode cX10_pinsOf 13 = .ok (.imul, 1) := by decide +kernel
theorem dX10_pinsOf_14 : decode cX10_pinsOf 14 = .ok (.sipush 768, 3) := by decide +kernel
theorem dX10_pinsOf_17 : decode cX10_pinsOf 17 = .ok (.iadd, 1) := by decide +kernel
theorem dX10_pinsOf_18 : decode cX10_pinsOf 18 = .ok (.if_icmp .ge 26, 3) := by decide +kernel
theorem dX10_pinsOf_21 : decode cX10_pinsOf 21 = .ok (.iload_n 2, 1) := by decide +kernel
theorem dX10_pinsOf_22 : decode cX10_pinsOf 22 = .ok (.aload_n 0, 1) := by decide +kernel
theorem dX10_pinsOf_23 : decode cX10_pinsOf 23 = .ok (.getfield 28, 3) := by decide +kernel
theorem dX10_pinsOf_26 : decode cX10_pinsOf 26 = .ok (.iload_n 3, 1) := by decide +kernel
theorem dX10_pinsOf_27 : decode cX10_pinsOf 27 = .ok (.baload, 1) := by decide +kernel
theorem dX10_pinsOf_28 : decode cX10_pinsOf 28 = .ok (.ifCond .eq 7, 3) := by decide +kernel
theorem dX10_pinsOf_31 : decode cX10_pinsOf 31 = .ok (.iconst 1, 1) := by decide +kernel
theorem dX10_pinsOf_32 : decode cX10_pinsOf 32 = .ok (.goto 4, 3) := by decide +kernel
theorem dX10_pinsOf_35 : decode cX10_pinsOf 35 = .ok (.iconst 0, 1) := by decide +kernel
theorem dX10_pinsOf_36 : decode cX10_pinsOf 36 = .ok (.iadd, 1) := by decide +kernel
theorem dX10_pinsOf_37 : decode cX10_pinsOf 37 = .ok (.istore_n 2, 1) := by decide +kernel
theorem dX10_pinsOf_38 : decode cX10_pinsOf 38 = .ok (.iinc 3 1, 3) := by decide +kernel
theorem dX10_pinsOf_41 : decode cX10_pinsOf 41 = .ok (.goto (-33), 3) := by decide +kernel
theorem dX10_pinsOf_44 : decode cX10_pinsOf 44 = .ok (.iload_n 2, 1) := by decide +kernel
theorem dX10_pinsOf_45 : decode cX10_pinsOf 45 = .ok (.ireturn, 1) := by decide +kernel
def fX10_pinsOf_L8 (M : Mm) (k : Nat) (c1 : Int32) (K : Int32 → Int32 → Option Int32) : Nat → Int32 → Int32 → Option Int32
  | 0, _, _ => none
  | n + 1, v2, v3 => if (((768 : Int32) * c1) + (768 : Int32)) ≤ v3 then K v2 v3 else if v3 < 0 ∨ 2304 ≤ v3.toNatClampNeg then none else if (M.1 (20, k, 0) v3.toNatClampNeg) = 0 then fX10_pinsOf_L8 M k c1 K n (v2 + (0 : Int32)) (v3 + (1 : Int32)) else fX10_pinsOf_L8 M k c1 K n (v2 + (1 : Int32)) (v3 + (1 : Int32))
def fX10_pinsOf (M : Mm) (k : Nat) (x1 : Int32) : Option Int32 := fX10_pinsOf_L8 M k x1 (fun w4 w5 => some w4) NF (0 : Int32) ((768 : Int32) * x1)
set_option maxRecDepth 20000 in
set_option maxHeartbeats 2000000 in
theorem sX10_pinsOf_L8 {wv : Wv} (M : Mm) (k : Nat) (c1 : Int32) (hk : OwI wv k) {res : Int32} {K : Int32 → Int32 → Option Int32} : ∀ (n : Nat) (v2 : Int32) (v3 : Int32), fX10_pinsOf_L8 M k c1 K n v2 v3 = some res →
    (∀ (v2 : Int32) (v3 : Int32), K v2 v3 = some res → Z RX10 cX10_pinsOf 4 (some .int) [] "pinsOf" (rmD 0 0 0) (QM SH (allR wv) 0 0 (fun v M9 => v = some (.int res) ∧ M9 = M) (fun _ _ => False)) (allR wv) SH 0 0 44 [some (.inr (18, k, 0)), some (.inl (.int c1)), some (.inl (.int v2)), some (.inl (.int v3))] [] M) → Z RX10 cX10_pinsOf 4 (some .int) [] "pinsOf" (rmD 0 0 0) (QM SH (allR wv) 0 0 (fun v M9 => v = some (.int res) ∧ M9 = M) (fun _ _ => False)) (allR wv) SH 0 0 8 [some (.inr (18, k, 0)), some (.inl (.int c1)), some (.inl (.int v2)), some (.inl (.int v3))] [] M := by
  intro n
  induction n with
  | zero => intro v2 v3 h; cases h
  | succ n ih =>
    intro v2 v3 h hK
    rw [fX10_pinsOf_L8] at h
    refine z_iload_n (i := 3) dX10_pinsOf_8 rfl rfl ?_
    refine z_sipush (v := (768 : Int32)) dX10_pinsOf_9 ks_768 ?_
    refine z_iload_n (i := 1) dX10_pinsOf_12 rfl rfl ?_
    refine z_imul dX10_pinsOf_13 ?_
    refine z_sipush (v := (768 : Int32)) dX10_pinsOf_14 ks_768 ?_
    refine z_iadd dX10_pinsOf_17 ?_
    refine z_icmp_ge (tgt := 44) dX10_pinsOf_18 rfl (fun hc1 => ?_) (fun hc1 => ?_)
    · have h := it_t h hc1
      exact hK _ _ h
    · have h := it_f h hc1
      refine z_iload_n (i := 2) dX10_pinsOf_21 rfl rfl ?_
      refine z_aload_n (i := 0) dX10_pinsOf_22 rfl rfl ?_
      refine z_getR (r' := (20, k, 0)) dX10_pinsOf_23 fl_X10_28 hk.1 rfl rfl ?_
      refine z_iload_n (i := 3) dX10_pinsOf_26 rfl rfl ?_
      obtain ⟨hc2, h⟩ := chk h
      refine z_zald (x := (M.1 (20, k, 0) v3.toNatClampNeg)) dX10_pinsOf_27 hk.2.1 rfl hc2 rfl ?_
      refine z_if_eq (tgt := 35) dX10_pinsOf_28 rfl (fun hc3 => ?_) (fun hc3 => ?_)
      · have h := it_t h hc3
        refine z_iconst (v := (0 : Int32)) dX10_pinsOf_35 kc_0 ?_
        refine z_iadd dX10_pinsOf_36 ?_
        refine z_istore_n (i := 2) dX10_pinsOf_37 rfl (Nat.le_of_ble_eq_true rfl) rfl ?_
        refine z_iinc (i := 3) (v := (v3 + (1 : Int32))) dX10_pinsOf_38 rfl (iinc_k kc_1) (Nat.le_of_ble_eq_true rfl) rfl ?_
        refine z_goto (tgt := 8) dX10_pinsOf_41 rfl ?_
        exact ih _ _ h hK
      · have h := it_f h hc3
        refine z_iconst (v := (1 : Int32)) dX10_pinsOf_31 kc_1 ?_
        refine z_goto (tgt := 36) dX10_pinsOf_32 rfl ?_
        refine z_iadd dX10_pinsOf_36 ?_
        refine z_istore_n (i := 2) dX10_pinsOf_37 rfl (Nat.le_of_ble_eq_true rfl) rfl ?_
        refine z_iinc (i := 3) (v := (v3 + (1 : Int32))) dX10_pinsOf_38 rfl (iinc_k kc_1) (Nat.le_of_ble_eq_true rfl) rfl ?_
        refine z_goto (tgt := 8) dX10_pinsOf_41 rfl ?_
        exact ih _ _ h hK
set_option maxRecDepth 20000 in
set_option maxHeartbeats 2000000 in
theorem sX10_pinsOf {wv : Wv} (M : Mm) (k : Nat) (x1 : Int32) (hk : OwI wv k) {res : Int32} (h : fX10_pinsOf M k x1 = some res) : TF wv yX10_pinsOf cX10_pinsOf 4 (some .int) 0 [.inr (18, k, 0), .inl (.int x1)] M (some (.int res)) M := by
  rw [fX10_pinsOf] at h
  refine TF.go (n := 2) (ls := [some (.inr (18, k, 0)), some (.inl (.int x1)), none, none]) rfl rfl rfl rfl rfl ?_
  refine z_iconst (v := (0 : Int32)) dX10_pinsOf_0 kc_0 ?_
  refine z_istore_n (i := 2) dX10_pinsOf_1 rfl (Nat.le_of_ble_eq_true rfl) rfl ?_
  refine z_sipush (v := (768 : Int32)) dX10_pinsOf_2 ks_768 ?_
  refine z_iload_n (i := 1) dX10_pinsOf_5 rfl rfl ?_
  refine z_imul dX10_pinsOf_6 ?_
  refine z_istore_n (i := 3) dX10_pinsOf_7 rfl (Nat.le_of_ble_eq_true rfl) rfl ?_
  refine sX10_pinsOf_L8 M k x1 hk NF _ _ h (fun w4 w5 h => ?_)
  refine z_iload_n (i := 2) dX10_pinsOf_44 rfl rfl ?_
  cases h
  exact z_iret dX10_pinsOf_45 rfl rfl (Nat.le_refl _) (Nat.le_refl _) ⟨rfl, rfl⟩
theorem dX10_distance_0 : decode cX10_distance 0 = .ok (.iload_n 3, 1) := by decide +kernel
theorem dX10_distance_1 : decode cX10_distance 1 = .ok (.iconst 1, 1) := by decide +kernel
theorem dX10_distance_2 : decode cX10_distance 2 = .ok (.isub, 1) := by decide +kernel
theorem dX10_distance_3 : decode cX10_distance 3 = .ok (.istore 4, 2) := by decide +kernel
theorem dX10_distance_5 : decode cX10_distance 5 = .ok (.iload 4, 2) := by decide +kernel
theorem dX10_distance_7 : decode cX10_distance 7 = .ok (.ifCond .lt 25, 3) := by decide +kernel
theorem dX10_distance_10 : decode cX10_distance 10 = .ok (.aload_n 0, 1) := by decide +kernel
theorem dX10_distance_11 : decode cX10_distance 11 = .ok (.iload_n 1, 1) := by decide +kernel
theorem dX10_distance_12 : decode cX10_distance 12 = .ok (.iload_n 2, 1) := by decide +kernel
theorem dX10_distance_13 : decode cX10_distance 13 = .ok (.iload 4, 2) := by decide +kernel
theorem dX10_distance_15 : decode cX10_distance 15 = .ok (.invokevirtual 77, 3) := by decide +kernel
theorem dX10_distance_18 : decode cX10_distance 18 = .ok (.ifCond .eq 8, 3) := by decide +kernel
theorem dX10_distance_21 : decode cX10_distance 21 = .ok (.iload_n 3, 1) := by decide +kernel
theorem dX10_distance_22 : decode cX10_distance 22 = .ok (.iload 4, 2) := by decide +kernel
theorem dX10_distance_24 : decode cX10_distance 24 = .ok (.isub, 1) := by decide +kernel
theorem dX10_distance_25 : decode cX10_distance 25 = .ok (.ireturn, 1) := by decide +kernel
theorem dX10_distance_26 : decode cX10_distance 26 = .ok (.iinc 4 (-1), 3) := by decide +kernel
theorem dX10_distance_29 : decode cX10_distance 29 = .ok (.goto (-24), 3) := by decide +kernel
theorem dX10_distance_32 : decode cX10_distance 32 = .ok (.aload_n 0, 1) := by decide +kernel
theorem dX10_distance_33 : decode cX10_distance 33 = .ok (.getfield 33, 3) := by decide +kernel
theorem dX10_distance_36 : decode cX10_distance 36 = .ok (.iconst 1, 1) := by decide +kernel
theorem dX10_distance_37 : decode cX10_distance 37 = .ok (.isub, 1) := by decide +kernel
theorem dX10_distance_38 : decode cX10_distance 38 = .ok (.istore 4, 2) := by decide +kernel
theorem dX10_distance_40 : decode cX10_distance 40 = .ok (.iload 4, 2) := by decide +kernel
theorem dX10_distance_42 : decode cX10_distance 42 = .ok (.iload_n 3, 1) := by decide +kernel
theorem dX10_distance_43 : decode cX10_distance 43 = .ok (.if_icmp .le 30, 3) := by decide +kernel
theorem dX10_distance_46 : decode cX10_distance 46 = .ok (.aload_n 0, 1) := by decide +kernel
theorem dX10_distance_47 : decode cX10_distance 47 = .ok (.iload_n 1, 1) := by decide +kernel
theorem dX10_distance_48 : decode cX10_distance 48 = .ok (.iload_n 2, 1) := by decide +kernel
theorem dX10_distance_49 : decode cX10_distance 49 = .ok (.iload 4, 2) := by decide +kernel
theorem dX10_distance_51 : decode cX10_distance 51 = .ok (.invokevirtual 77, 3) := by decide +kernel
theorem dX10_distance_54 : decode cX10_distance 54 = .ok (.ifCond .eq 13, 3) := by decide +kernel
theorem dX10_distance_57 : decode cX10_distance 57 = .ok (.iload_n 3, 1) := by decide +kernel
theorem dX10_distance_58 : decode cX10_distance 58 = .ok (.aload_n 0, 1) := by decide +kernel
theorem dX10_distance_59 : decode cX10_distance 59 = .ok (.getfield 33, 3) := by decide +kernel
theorem dX10_distance_62 : decode cX10_distance 62 = .ok (.iadd, 1) := by decide +kernel
theorem dX10_distance_63 : decode cX10_distance 63 = .ok (.iload 4, 2) := by decide +kernel
theorem dX10_distance_65 : decode cX10_distance 65 = .ok (.isub, 1) := by decide +kernel
theorem dX10_distance_66 : decode cX10_distance 66 = .ok (.ireturn, 1) := by decide +kernel
theorem dX10_distance_67 : decode cX10_distance 67 = .ok (.iinc 4 (-1), 3) := by decide +kernel
theorem dX10_distance_70 : decode cX10_distance 70 = .ok (.goto (-30), 3) := by decide +kernel
theorem dX10_distance_73 : decode cX10_distance 73 = .ok (.aload_n 0, 1) := by decide +kernel
theorem dX10_distance_74 : decode cX10_distance 74 = .ok (.getfield 33, 3) := by decide +kernel
theorem dX10_distance_77 : decode cX10_distance 77 = .ok (.ireturn, 1) := by decide +kernel
def fX10_distance_L5 (M : Mm) (k : Nat) (c1 : Int32) (c2 : Int32) (c3 : Int32) (K : Int32 → Option Int32) : Nat → Int32 → Option Int32
  | 0, _ => none
  | n + 1, v4 => if v4 < 0 then K v4 else (fX10_has M k c1 c2 v4).bind fun q2 => if q2 = 0 then fX10_distance_L5 M k c1 c2 c3 K n (v4 + (-1 : Int32)) else some (c3 - v4)
def fX10_distance_L40 (M : Mm) (k : Nat) (c1 : Int32) (c2 : Int32) (c3 : Int32) (K : Int32 → Option Int32) : Nat → Int32 → Option Int32
  | 0, _ => none
  | n + 1, v4 => if v4 ≤ c3 then K v4 else (fX10_has M k c1 c2 v4).bind fun q7 => if q7 = 0 then fX10_distance_L40 M k c1 c2 c3 K n (v4 + (-1 : Int32)) else some ((c3 + (M.1 (18, k, 0) 0)) - v4)
def fX10_distance (M : Mm) (k : Nat) (x1 : Int32) (x2 : Int32) (x3 : Int32) : Option Int32 := fX10_distance_L5 M k x1 x2 x3 (fun w5 => fX10_distance_L40 M k x1 x2 x3 (fun w10 => some (M.1 (18, k, 0) 0)) NF ((M.1 (18, k, 0) 0) - (1 : Int32))) NF (x3 - (1 : Int32))
set_option maxRecDepth 20000 in
set_option maxHeartbeats 2000000 in
theorem sX10_distance_L5 {wv : Wv} (M : Mm) (k : Nat) (c1 : Int32) (c2 : Int32) (c3 : Int32) (hk : OwI wv k) {res : Int32} {K : Int32 → Option Int32} : ∀ (n : Nat) (v4 : Int32), fX10_distance_L5 M k c1 c2 c3 K n v4 = some res →
    (∀ (v4 : Int32), K v4 = some res → Z RX10 cX10_distance 5 (some .int) [] "distance" (rmD 2 0 0) (QM SH (allR wv) 0 0 (fun v M9 => v = some (.int res) ∧ M9 = M) (fun _ _ => False)) (allR wv) SH 0 0 32 [some (.inr (18, k, 0)), some (.inl (.int c1)), some (.inl (.int c2)), some (.inl (.int c3)), some (.inl (.int v4))] [] M) → Z RX10 cX10_distance 5 (some .int) [] "distance" (rmD 2 0 0) (QM SH (allR wv) 0 0 (fun v M9 => v = some (.int res) ∧ M9 = M) (fun _ _ => False)) (allR wv) SH 0 0 5 [some (.inr (18, k, 0)), some (.inl (.int c1)), some (.inl (.int c2)), some (.inl (.int c3)), some (.inl (.int v4))] [] M := by
  intro n
  induction n with
  | zero => intro v4 h; cases h
  | succ n ih =>
    intro v4 h hK
    rw [fX10_distance_L5] at h
    refine z_iload (i := 4) dX10_distance_5 rfl ?_
    refine z_if_lt (tgt := 32) dX10_distance_7 rfl (fun hc1 => ?_) (fun hc1 => ?_)
    · have h := it_t h hc1
      exact hK _ h
    · have h := it_f h hc1
      refine z_aload_n (i := 0) dX10_distance_10 rfl rfl ?_
      refine z_iload_n (i := 1) dX10_distance_11 rfl rfl ?_
      refine z_iload_n (i := 2) dX10_distance_12 rfl rfl ?_
      refine z_iload (i := 4) dX10_distance_13 rfl ?_
      obtain ⟨q2, hq3, h⟩ := bnd h
      refine z_fVi (sX10_has M k c1 c2 v4 hk hq3) dX10_distance_15 ml_X10_77 cd_X10_has hk.1 rfl rfl rfl rfl rfl rfl ?_
      refine z_if_eq (tgt := 26) dX10_distance_18 rfl (fun hc4 => ?_) (fun hc4 => ?_)
      · have h := it_t h hc4
        refine z_iinc (i := 4) (v := (v4 + (-1 : Int32))) dX10_distance_26 rfl (iinc_k kc_m1) (Nat.le_of_ble_eq_true rfl) rfl ?_
        refine z_goto (tgt := 5) dX10_distance_29 rfl ?_
        exact ih _ h hK
      · have h := it_f h hc4
        refine z_iload_n (i := 3) dX10_distance_21 rfl rfl ?_
        refine z_iload (i := 4) dX10_distance_22 rfl ?_
        refine z_isub dX10_distance_24 ?_
        cases h
        exact z_iret dX10_distance_25 rfl rfl (Nat.le_refl _) (Nat.le_refl _) ⟨rfl, rfl⟩
set_option maxRecDepth 20000 in
set_option maxHeartbeats 2000000 in
theorem sX10_distance_L40 {wv : Wv} (M : Mm) (k : Nat) (c1 : Int32) (c2 : Int32) (c3 : Int32) (hk : OwI wv k) {res : Int32} {K : Int32 → Option Int32} : ∀ (n : Nat) (v4 : Int32), fX10_distance_L40 M k c1 c2 c3 K n v4 = some res →
    (∀ (v4 : Int32), K v4 = some res → Z RX10 cX10_distance 5 (some .int) [] "distance" (rmD 2 0 0) (QM SH (allR wv) 0 0 (fun v M9 => v = some (.int res) ∧ M9 = M) (fun _ _ => False)) (allR wv) SH 0 0 73 [some (.inr (18, k, 0)), some (.inl (.int c1)), some (.inl (.int c2)), some (.inl (.int c3)), some (.inl (.int v4))] [] M) → Z RX10 cX10_distance 5 (some .int) [] "distance" (rmD 2 0 0) (QM SH (allR wv) 0 0 (fun v M9 => v = some (.int res) ∧ M9 = M) (fun _ _ => False)) (allR wv) SH 0 0 40 [some (.inr (18, k, 0)), some (.inl (.int c1)), some (.inl (.int c2)), some (.inl (.int c3)), some (.inl (.int v4))] [] M := by
  intro n
  induction n with
  | zero => intro v4 h; cases h
  | succ n ih =>
    intro v4 h hK
    rw [fX10_distance_L40] at h
    refine z_iload (i := 4) dX10_distance_40 rfl ?_
    refine z_iload_n (i := 3) dX10_distance_42 rfl rfl ?_
    refine z_icmp_le (tgt := 73) dX10_distance_43 rfl (fun hc6 => ?_) (fun hc6 => ?_)
    · have h := it_t h hc6
      exact hK _ h
    · have h := it_f h hc6
      refine z_aload_n (i := 0) dX10_distance_46 rfl rfl ?_
      refine z_iload_n (i := 1) dX10_distance_47 rfl rfl ?_
      refine z_iload_n (i := 2) dX10_distance_48 rfl rfl ?_
      refine z_iload (i := 4) dX10_distance_49 rfl ?_
      obtain ⟨q7, hq8, h⟩ := bnd h
      refine z_fVi (sX10_has M k c1 c2 v4 hk hq8) dX10_distance_51 ml_X10_77 cd_X10_has hk.1 rfl rfl rfl rfl rfl rfl ?_
      refine z_if_eq (tgt := 67) dX10_distance_54 rfl (fun hc9 => ?_) (fun hc9 => ?_)
      · have h := it_t h hc9
        refine z_iinc (i := 4) (v := (v4 + (-1 : Int32))) dX10_distance_67 rfl (iinc_k kc_m1) (Nat.le_of_ble_eq_true rfl) rfl ?_
        refine z_goto (tgt := 40) dX10_distance_70 rfl ?_
        exact ih _ h hK
      · have h := it_f h hc9
        refine z_iload_n (i := 3) dX10_distance_57 rfl rfl ?_
        refine z_aload_n (i := 0) dX10_distance_58 rfl rfl ?_
        refine z_getI (x := (M.1 (18, k, 0) 0)) dX10_distance_59 fl_X10_33 hk.1 rfl rfl ?_
        refine z_iadd dX10_distance_62 ?_
        refine z_iload (i := 4) dX10_distance_63 rfl ?_
        refine z_isub dX10_distance_65 ?_
        cases h
        exact z_iret dX10_distance_66 rfl rfl (Nat.le_refl _) (Nat.le_refl _) ⟨rfl, rfl⟩
set_option maxRecDepth 20000 in
set_option maxHeartbeats 2000000 in
theorem sX10_distance {wv : Wv} (M : Mm) (k : Nat) (x1 : Int32) (x2 : Int32) (x3 : Int32) (hk : OwI wv k) {res : Int32} (h : fX10_distance M k x1 x2 x3 = some res) : TF wv yX10_distance cX10_distance 5 (some .int) 2 [.inr (18, k, 0), .inl (.int x1), .inl (.int x2), .inl (.int x3)] M (some (.int res)) M := by
  rw [fX10_distance] at h
  refine TF.go (n := 1) (ls := [some (.inr (18, k, 0)), some (.inl (.int x1)), some (.inl (.int x2)), some (.inl (.int x3)), none]) rfl rfl rfl rfl rfl ?_
  refine z_iload_n (i := 3) dX10_distance_0 rfl rfl ?_
  refine z_iconst (v := (1 : Int32)) dX10_distance_1 kc_1 ?_
  refine z_isub dX10_distance_2 ?_
  refine z_istore (i := 4) dX10_distance_3 (Nat.le_of_ble_eq_true rfl) rfl ?_
  refine sX10_distance_L5 M k x1 x2 x3 hk NF _ h (fun w5 h => ?_)
  refine z_aload_n (i := 0) dX10_distance_32 rfl rfl ?_
  refine z_getI (x := (M.1 (18, k, 0) 0)) dX10_distance_33 fl_X10_33 hk.1 rfl rfl ?_
  refine z_iconst (v := (1 : Int32)) dX10_distance_36 kc_1 ?_
  refine z_isub dX10_distance_37 ?_
  refine z_istore (i := 4) dX10_distance_38 (Nat.le_of_ble_eq_true rfl) rfl ?_
  refine sX10_distance_L40 M k x1 x2 x3 hk NF _ h (fun w10 h => ?_)
  refine z_aload_n (i := 0) dX10_distance_73 rfl rfl ?_
  refine z_getI (x := (M.1 (18, k, 0) 0)) dX10_distance_74 fl_X10_33 hk.1 rfl rfl ?_
  cases h
  exact z_iret dX10_distance_77 rfl rfl (Nat.le_refl _) (Nat.le_refl _) ⟨rfl, rfl⟩
theorem dX10_isClose_0 : decode cX10_isClose 0 = .ok (.aload_n 0, 1) := by decide +kernel
theorem dX10_isClose_1 : decode cX10_isClose 1 = .ok (.iload_n 1, 1) := by decide +kernel
theorem dX10_isClose_2 : decode cX10_isClose 2 = .ok (.iload_n 2, 1) := by decide +kernel
theorem dX10_isClose_3 : decode cX10_isClose 3 = .ok (.iload_n 3, 1) := by decide +kernel
theorem dX10_isClose_4 : decode cX10_isClose 4 = .ok (.invokevirtual 77, 3) := by decide +kernel
theorem dX10_isClose_7 : decode cX10_isClose 7 = .ok (.ifCond .eq 23, 3) := by decide +kernel
theorem dX10_isClose_10 : decode cX10_isClose 10 = .ok (.aload_n 0, 1) := by decide +kernel
theorem dX10_isClose_11 : decode cX10_isClose 11 = .ok (.iload_n 1, 1) := by decide +kernel
theorem dX10_isClose_12 : decode cX10_isClose 12 = .ok (.iload_n 2, 1) := by decide +kernel
theorem dX10_isClose_13 : decode cX10_isClose 13 = .ok (.iload_n 3, 1) := by decide +kernel
theorem dX10_isClose_14 : decode cX10_isClose 14 = .ok (.invokevirtual 81, 3) := by decide +kernel
theorem dX10_isClose_17 : decode cX10_isClose 17 = .ok (.aload_n 0, 1) := by decide +kernel
theorem dX10_isClose_18 : decode cX10_isClose 18 = .ok (.getfield 16, 3) := by decide +kernel
theorem dX10_isClose_21 : decode cX10_isClose 21 = .ok (.iload_n 2, 1) := by decide +kernel
theorem dX10_isClose_22 : decode cX10_isClose 22 = .ok (.iaload, 1) := by decide +kernel
theorem dX10_isClose_23 : decode cX10_isClose 23 = .ok (.if_icmp .ge 7, 3) := by decide +kernel
theorem dX10_isClose_26 : decode cX10_isClose 26 = .ok (.iconst 1, 1) := by decide +kernel
theorem dX10_isClose_27 : decode cX10_isClose 27 = .ok (.goto 4, 3) := by decide +kernel
theorem dX10_isClose_30 : decode cX10_isClose 30 = .ok (.iconst 0, 1) := by decide +kernel
theorem dX10_isClose_31 : decode cX10_isClose 31 = .ok (.ireturn, 1) := by decide +kernel
def fX10_isClose (M : Mm) (k : Nat) (x1 : Int32) (x2 : Int32) (x3 : Int32) : Option Int32 := (fX10_has M k x1 x2 x3).bind fun q1 => if q1 = 0 then some (0 : Int32) else (fX10_distance M k x1 x2 x3).bind fun q4 => if x2 < 0 ∨ 12 ≤ x2.toNatClampNeg then none else if (M.1 (19, k, 2) x2.toNatClampNeg) ≤ q4 then some (0 : Int32) else some (1 : Int32)
set_option maxRecDepth 20000 in
set_option maxHeartbeats 2000000 in
theorem sX10_isClose {wv : Wv} (M : Mm) (k : Nat) (x1 : Int32) (x2 : Int32) (x3 : Int32) (hk : OwI wv k) {res : Int32} (h : fX10_isClose M k x1 x2 x3 = some res) : TF wv yX10_isClose cX10_isClose 4 (some .boolean) 3 [.inr (18, k, 0), .inl (.int x1), .inl (.int x2), .inl (.int x3)] M (some (.int res)) M := by
  rw [fX10_isClose] at h
  refine TF.go (n := 0) (ls := [some (.inr (18, k, 0)), some (.inl (.int x1)), some (.inl (.int x2)), some (.inl (.int x3))]) rfl rfl rfl rfl rfl ?_
  refine z_aload_n (i := 0) dX10_isClose_0 rfl rfl ?_
  refine z_iload_n (i := 1) dX10_isClose_1 rfl rfl ?_
  refine z_iload_n (i := 2) dX10_isClose_2 rfl rfl ?_
  refine z_iload_n (i := 3) dX10_isClose_3 rfl rfl ?_
  obtain ⟨q1, hq2, h⟩ := bnd h
  refine z_fVi (sX10_has M k x1 x2 x3 hk hq2) dX10_isClose_4 ml_X10_77 cd_X10_has hk.1 rfl rfl rfl rfl rfl rfl ?_
  refine z_if_eq (tgt := 30) dX10_isClose_7 rfl (fun hc3 => ?_) (fun hc3 => ?_)
  · have h := it_t h hc3
    refine z_iconst (v := (0 : Int32)) dX10_isClose_30 kc_0 ?_
    cases h
    exact z_iret dX10_isClose_31 rfl rfl (Nat.le_refl _) (Nat.le_refl _) ⟨rfl, rfl⟩
  · have h := it_f h hc3
    refine z_aload_n (i := 0) dX10_isClose_10 rfl rfl ?_
    refine z_iload_n (i := 1) dX10_isClose_11 rfl rfl ?_
    refine z_iload_n (i := 2) dX10_isClose_12 rfl rfl ?_
    refine z_iload_n (i := 3) dX10_isClose_13 rfl rfl ?_
    obtain ⟨q4, hq5, h⟩ := bnd h
    refine z_fVi (sX10_distance M k x1 x2 x3 hk hq5) dX10_isClose_14 ml_X10_81 cd_X10_distance hk.1 rfl rfl rfl rfl rfl rfl ?_
    refine z_aload_n (i := 0) dX10_isClose_17 rfl rfl ?_
    refine z_getR (r' := (19, k, 2)) dX10_isClose_18 fl_X10_16 hk.1 rfl rfl ?_
    refine z_iload_n (i := 2) dX10_isClose_21 rfl rfl ?_
    obtain ⟨hc6, h⟩ := chk h
    refine z_iald (x := (M.1 (19, k, 2) x2.toNatClampNeg)) dX10_isClose_22 (hk.2.2 2 (Nat.le_of_ble_eq_true rfl)) rfl hc6 rfl ?_
    refine z_icmp_ge (tgt := 30) dX10_isClose_23 rfl (fun hc7 => ?_) (fun hc7 => ?_)
    · have h := it_t h hc7
      refine z_iconst (v := (0 : Int32)) dX10_isClose_30 kc_0 ?_
      cases h
      exact z_iret dX10_isClose_31 rfl rfl (Nat.le_refl _) (Nat.le_refl _) ⟨rfl, rfl⟩
    · have h := it_f h hc7
      refine z_iconst (v := (1 : Int32)) dX10_isClose_26 kc_1 ?_
      refine z_goto (tgt := 31) dX10_isClose_27 rfl ?_
      cases h
      exact z_iret dX10_isClose_31 rfl rfl (Nat.le_refl _) (Nat.le_refl _) ⟨rfl, rfl⟩
