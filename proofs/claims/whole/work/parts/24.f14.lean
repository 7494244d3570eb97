theorem dX10_readsSetup_0 : decode cX10_readsSetup 0 = .ok (.aload_n 0, 1) := by decide +kernel
theorem dX10_readsSetup_1 : decode cX10_readsSetup 1 = .ok (.aload_n 0, 1) := by decide +kernel
theorem dX10_readsSetup_2 : decode cX10_readsSetup 2 = .ok (.ldc 188, 2) := by decide +kernel
theorem dX10_readsSetup_4 : decode cX10_readsSetup 4 = .ok (.invokevirtual 173, 3) := by decide +kernel
theorem dX10_readsSetup_7 : decode cX10_readsSetup 7 = .ok (.iconst 1, 1) := by decide +kernel
theorem dX10_readsSetup_8 : decode cX10_readsSetup 8 = .ok (.invokevirtual 161, 3) := by decide +kernel
theorem dX10_readsSetup_11 : decode cX10_readsSetup 11 = .ok (.pop, 1) := by decide +kernel
theorem dX10_readsSetup_12 : decode cX10_readsSetup 12 = .ok (.aload_n 0, 1) := by decide +kernel
theorem dX10_readsSetup_13 : decode cX10_readsSetup 13 = .ok (.invokevirtual 164, 3) := by decide +kernel
theorem dX10_readsSetup_16 : decode cX10_readsSetup 16 = .ok (.aload_n 0, 1) := by decide +kernel
theorem dX10_readsSetup_17 : decode cX10_readsSetup 17 = .ok (.getfield 7, 3) := by decide +kernel
theorem dX10_readsSetup_20 : decode cX10_readsSetup 20 = .ok (.iconst 0, 1) := by decide +kernel
theorem dX10_readsSetup_21 : decode cX10_readsSetup 21 = .ok (.aload_n 0, 1) := by decide +kernel
theorem dX10_readsSetup_22 : decode cX10_readsSetup 22 = .ok (.iconst 4, 1) := by decide +kernel
theorem dX10_readsSetup_23 : decode cX10_readsSetup 23 = .ok (.bipush 64, 2) := by decide +kernel
theorem dX10_readsSetup_25 : decode cX10_readsSetup 25 = .ok (.invokevirtual 177, 3) := by decide +kernel
theorem dX10_readsSetup_28 : decode cX10_readsSetup 28 = .ok (.iastore, 1) := by decide +kernel
theorem dX10_readsSetup_29 : decode cX10_readsSetup 29 = .ok (.aload_n 0, 1) := by decide +kernel
theorem dX10_readsSetup_30 : decode cX10_readsSetup 30 = .ok (.getfield 7, 3) := by decide +kernel
theorem dX10_readsSetup_33 : decode cX10_readsSetup 33 = .ok (.iconst 1, 1) := by decide +kernel
theorem dX10_readsSetup_34 : decode cX10_readsSetup 34 = .ok (.aload_n 0, 1) := by decide +kernel
theorem dX10_readsSetup_35 : decode cX10_readsSetup 35 = .ok (.iconst 0, 1) := by decide +kernel
theorem dX10_readsSetup_36 : decode cX10_readsSetup 36 = .ok (.bipush 20, 2) := by decide +kernel
theorem dX10_readsSetup_38 : decode cX10_readsSetup 38 = .ok (.invokevirtual 177, 3) := by decide +kernel
theorem dX10_readsSetup_41 : decode cX10_readsSetup 41 = .ok (.iastore, 1) := by decide +kernel
theorem dX10_readsSetup_42 : decode cX10_readsSetup 42 = .ok (.aload_n 0, 1) := by decide +kernel
theorem dX10_readsSetup_43 : decode cX10_readsSetup 43 = .ok (.getfield 7, 3) := by decide +kernel
theorem dX10_readsSetup_46 : decode cX10_readsSetup 46 = .ok (.iconst 2, 1) := by decide +kernel
theorem dX10_readsSetup_47 : decode cX10_readsSetup 47 = .ok (.aload_n 0, 1) := by decide +kernel
theorem dX10_readsSetup_48 : decode cX10_readsSetup 48 = .ok (.iconst 0, 1) := by decide +kernel
theorem dX10_readsSetup_49 : decode cX10_readsSetup 49 = .ok (.bipush 90, 2) := by decide +kernel
theorem dX10_readsSetup_51 : decode cX10_readsSetup 51 = .ok (.invokevirtual 177, 3) := by decide +kernel
theorem dX10_readsSetup_54 : decode cX10_readsSetup 54 = .ok (.iastore, 1) := by decide +kernel
theorem dX10_readsSetup_55 : decode cX10_readsSetup 55 = .ok (.aload_n 0, 1) := by decide +kernel
theorem dX10_readsSetup_56 : decode cX10_readsSetup 56 = .ok (.bipush 59, 2) := by decide +kernel
theorem dX10_readsSetup_58 : decode cX10_readsSetup 58 = .ok (.invokevirtual 180, 3) := by decide +kernel
theorem dX10_readsSetup_61 : decode cX10_readsSetup 61 = .ok (.aload_n 0, 1) := by decide +kernel
theorem dX10_readsSetup_62 : decode cX10_readsSetup 62 = .ok (.invokevirtual 190, 3) := by decide +kernel
theorem dX10_readsSetup_65 : decode cX10_readsSetup 65 = .ok (.aload_n 0, 1) := by decide +kernel
theorem dX10_readsSetup_66 : decode cX10_readsSetup 66 = .ok (.ldc 171, 2) := by decide +kernel
theorem dX10_readsSetup_68 : decode cX10_readsSetup 68 = .ok (.invokevirtual 173, 3) := by decide +kernel
theorem dX10_readsSetup_71 : decode cX10_readsSetup 71 = .ok (.ifCond .eq 10, 3) := by decide +kernel
theorem dX10_readsSetup_74 : decode cX10_readsSetup 74 = .ok (.aload_n 0, 1) := by decide +kernel
theorem dX10_readsSetup_75 : decode cX10_readsSetup 75 = .ok (.invokevirtual 190, 3) := by decide +kernel
theorem dX10_readsSetup_78 : decode cX10_readsSetup 78 = .ok (.goto (-13), 3) := by decide +kernel
theorem dX10_readsSetup_81 : decode cX10_readsSetup 81 = .ok (.aload_n 0, 1) := by decide +kernel
theorem dX10_readsSetup_82 : decode cX10_readsSetup 82 = .ok (.getfield 149, 3) := by decide +kernel
theorem dX10_readsSetup_85 : decode cX10_readsSetup 85 = .ok (.ifCond .ne 17, 3) := by decide +kernel
theorem dX10_readsSetup_88 : decode cX10_readsSetup 88 = .ok (.aload_n 0, 1) := by decide +kernel
theorem dX10_readsSetup_89 : decode cX10_readsSetup 89 = .ok (.getfield 143, 3) := by decide +kernel
theorem dX10_readsSetup_92 : decode cX10_readsSetup 92 = .ok (.ifCond .eq 10, 3) := by decide +kernel
theorem dX10_readsSetup_95 : decode cX10_readsSetup 95 = .ok (.aload_n 0, 1) := by decide +kernel
theorem dX10_readsSetup_96 : decode cX10_readsSetup 96 = .ok (.invokevirtual 193, 3) := by decide +kernel
theorem dX10_readsSetup_99 : decode cX10_readsSetup 99 = .ok (.goto (-18), 3) := by decide +kernel
theorem dX10_readsSetup_102 : decode cX10_readsSetup 102 = .ok (.return_, 1) := by decide +kernel
def fX10_readsSetup_L65 (K : Mm → Option Mm) : Nat → Mm → Option Mm
  | 0, _ => none
  | n + 1, M => (fX10_isWord M 2).bind fun q17 => if q17 = 0 then K M else (fX10_readsTooth M).bind fun q20 => fX10_readsSetup_L65 K n q20
def fX10_readsSetup_L81 (K : Mm → Option Mm) : Nat → Mm → Option Mm
  | 0, _ => none
  | n + 1, M => if (M.1 (18, 0, 0) 17) = 0 then (if (M.1 (18, 0, 0) 15) = 0 then K M else (fX10_readsPin M).bind fun q25 => fX10_readsSetup_L81 K n q25) else K M
def fX10_readsSetup (M : Mm) : Option Mm := (fX10_isWord M 1).bind fun q1 => (fX10_must M q1 (1 : Int32)).bind fun q3 => (fX10_goesOn q3.2).bind fun q5 => (fX10_number q5 (4 : Int32) (64 : Int32)).bind fun q7 => (fX10_number (putI q7.2 (19, 0, 0) 0 q7.1) (0 : Int32) (20 : Int32)).bind fun q9 => (fX10_number (putI q9.2 (19, 0, 0) 1 q9.1) (0 : Int32) (90 : Int32)).bind fun q11 => (fX10_takesSign (putI q11.2 (19, 0, 0) 2 q11.1) (59 : Int32)).bind fun q13 => (fX10_readsTooth q13).bind fun q15 => fX10_readsSetup_L65 (fun M22 => fX10_readsSetup_L81 (fun M27 => some M27) NF M22) NF q15
set_option maxRecDepth 20000 in
set_option maxHeartbeats 2000000 in
theorem sX10_readsSetup_L65 {wv : Nat} {res : Mm} {K : Mm → Option Mm} : ∀ (n : Nat) (M : Mm), fX10_readsSetup_L65 K n M = some res →
    (∀ (M : Mm), K M = some res → Z RX10 cX10_readsSetup 1 none [] "readsSetup" (rmD 9 0 0) (QM SH (allR (wv + 1)) 0 0 (fun v M9 => v = none ∧ M9 = res) (fun _ _ => False)) (allR (wv + 1)) SH 0 0 81 [some (.inr (18, 0, 0))] [] M) → Z RX10 cX10_readsSetup 1 none [] "readsSetup" (rmD 9 0 0) (QM SH (allR (wv + 1)) 0 0 (fun v M9 => v = none ∧ M9 = res) (fun _ _ => False)) (allR (wv + 1)) SH 0 0 65 [some (.inr (18, 0, 0))] [] M := by
  intro n
  induction n with
  | zero => intro M h; cases h
  | succ n ih =>
    intro M h hK
    rw [fX10_readsSetup_L65] at h
    refine z_aload_n (i := 0) dX10_readsSetup_65 rfl rfl ?_
    refine z_ldcS (j := 2) dX10_readsSetup_66 sw_RX10_171 ?_
    obtain ⟨q17, hq18, h⟩ := bnd h
    refine z_fVi (sX10_isWord M 2 (Nat.le_of_ble_eq_true rfl) hq18) dX10_readsSetup_68 ml_X10_173 cd_X10_isWord mk18 rfl rfl rfl rfl rfl rfl ?_
    refine z_if_eq (tgt := 81) dX10_readsSetup_71 rfl (fun hc19 => ?_) (fun hc19 => ?_)
    · have h := it_t h hc19
      exact hK _ h
    · have h := it_f h hc19
      refine z_aload_n (i := 0) dX10_readsSetup_74 rfl rfl ?_
      obtain ⟨q20, hq21, h⟩ := bnd h
      refine z_fVv (sX10_readsTooth M hq21) dX10_readsSetup_75 ml_X10_190 cd_X10_readsTooth mk18 rfl rfl rfl rfl rfl rfl ?_
      refine z_goto (tgt := 65) dX10_readsSetup_78 rfl ?_
      exact ih _ h hK
set_option maxRecDepth 20000 in
set_option maxHeartbeats 2000000 in
theorem sX10_readsSetup_L81 {wv : Nat} {res : Mm} {K : Mm → Option Mm} : ∀ (n : Nat) (M : Mm), fX10_readsSetup_L81 K n M = some res →
    (∀ (M : Mm), K M = some res → Z RX10 cX10_readsSetup 1 none [] "readsSetup" (rmD 9 0 0) (QM SH (allR (wv + 1)) 0 0 (fun v M9 => v = none ∧ M9 = res) (fun _ _ => False)) (allR (wv + 1)) SH 0 0 102 [some (.inr (18, 0, 0))] [] M) → Z RX10 cX10_readsSetup 1 none [] "readsSetup" (rmD 9 0 0) (QM SH (allR (wv + 1)) 0 0 (fun v M9 => v = none ∧ M9 = res) (fun _ _ => False)) (allR (wv + 1)) SH 0 0 81 [some (.inr (18, 0, 0))] [] M := by
  intro n
  induction n with
  | zero => intro M h; cases h
  | succ n ih =>
    intro M h hK
    rw [fX10_readsSetup_L81] at h
    refine z_aload_n (i := 0) dX10_readsSetup_81 rfl rfl ?_
    refine z_getI (x := (M.1 (18, 0, 0) 17)) dX10_readsSetup_82 fl_X10_149 mk18 rfl rfl ?_
    refine z_if_ne (tgt := 102) dX10_readsSetup_85 rfl (fun hc23 => ?_) (fun hc23 => ?_)
    · have h := it_f h hc23
      exact hK _ h
    · have h := it_t h hc23
      refine z_aload_n (i := 0) dX10_readsSetup_88 rfl rfl ?_
      refine z_getI (x := (M.1 (18, 0, 0) 15)) dX10_readsSetup_89 fl_X10_143 mk18 rfl rfl ?_
      refine z_if_eq (tgt := 102) dX10_readsSetup_92 rfl (fun hc24 => ?_) (fun hc24 => ?_)
      · have h := it_t h hc24
        exact hK _ h
      · have h := it_f h hc24
        refine z_aload_n (i := 0) dX10_readsSetup_95 rfl rfl ?_
        obtain ⟨q25, hq26, h⟩ := bnd h
        refine z_fVv (sX10_readsPin M hq26) dX10_readsSetup_96 ml_X10_193 cd_X10_readsPin mk18 rfl rfl rfl rfl rfl rfl ?_
        refine z_goto (tgt := 81) dX10_readsSetup_99 rfl ?_
        exact ih _ h hK
set_option maxRecDepth 20000 in
set_option maxHeartbeats 2000000 in
theorem sX10_readsSetup {wv : Nat} (M : Mm) {res : Mm} (h : fX10_readsSetup M  = some res) : TF (wv + 1) yX10_readsSetup cX10_readsSetup 1 none 9 [.inr (18, 0, 0)] M (none) res := by
  rw [fX10_readsSetup] at h
  refine TF.go (n := 0) (ls := [some (.inr (18, 0, 0))]) rfl rfl rfl rfl rfl ?_
  refine z_aload_n (i := 0) dX10_readsSetup_0 rfl rfl ?_
  refine z_aload_n (i := 0) dX10_readsSetup_1 rfl rfl ?_
  refine z_ldcS (j := 1) dX10_readsSetup_2 sw_RX10_188 ?_
  obtain ⟨q1, hq2, h⟩ := bnd h
  refine z_fVi (sX10_isWord M 1 (Nat.le_of_ble_eq_true rfl) hq2) dX10_readsSetup_4 ml_X10_173 cd_X10_isWord mk18 rfl rfl rfl rfl rfl rfl ?_
  refine z_iconst (v := (1 : Int32)) dX10_readsSetup_7 kc_1 ?_
  obtain ⟨q3, hq4, h⟩ := bnd h
  refine z_fVi (sX10_must M q1 (1 : Int32) hq4) dX10_readsSetup_8 ml_X10_161 cd_X10_must mk18 rfl rfl rfl rfl rfl rfl ?_
  refine z_pop dX10_readsSetup_11 rfl ?_
  refine z_aload_n (i := 0) dX10_readsSetup_12 rfl rfl ?_
  obtain ⟨q5, hq6, h⟩ := bnd h
  refine z_fVv (sX10_goesOn q3.2 hq6) dX10_readsSetup_13 ml_X10_164 cd_X10_goesOn mk18 rfl rfl rfl rfl rfl rfl ?_
  refine z_aload_n (i := 0) dX10_readsSetup_16 rfl rfl ?_
  refine z_getR (r' := (19, 0, 0)) dX10_readsSetup_17 fl_X10_7 mk18 rfl rfl ?_
  refine z_iconst (v := (0 : Int32)) dX10_readsSetup_20 kc_0 ?_
  refine z_aload_n (i := 0) dX10_readsSetup_21 rfl rfl ?_
  refine z_iconst (v := (4 : Int32)) dX10_readsSetup_22 kc_4 ?_
  refine z_bipush (v := (64 : Int32)) dX10_readsSetup_23 kb_64 ?_
  obtain ⟨q7, hq8, h⟩ := bnd h
  refine z_fVi (sX10_number q5 (4 : Int32) (64 : Int32) hq8) dX10_readsSetup_25 ml_X10_177 cd_X10_number mk18 rfl rfl rfl rfl rfl rfl ?_
  refine z_iast (j := 0) allR_nd dX10_readsSetup_28 (m19 _ (Nat.le_of_ble_eq_true rfl)) rfl (by decide) rfl ?_
  refine z_aload_n (i := 0) dX10_readsSetup_29 rfl rfl ?_
  refine z_getR (r' := (19, 0, 0)) dX10_readsSetup_30 fl_X10_7 mk18 rfl rfl ?_
  refine z_iconst (v := (1 : Int32)) dX10_readsSetup_33 kc_1 ?_
  refine z_aload_n (i := 0) dX10_readsSetup_34 rfl rfl ?_
  refine z_iconst (v := (0 : Int32)) dX10_readsSetup_35 kc_0 ?_
  refine z_bipush (v := (20 : Int32)) dX10_readsSetup_36 kb_20 ?_
  obtain ⟨q9, hq10, h⟩ := bnd h
  refine z_fVi (sX10_number (putI q7.2 (19, 0, 0) 0 q7.1) (0 : Int32) (20 : Int32) hq10) dX10_readsSetup_38 ml_X10_177 cd_X10_number mk18 rfl rfl rfl rfl rfl rfl ?_
  refine z_iast (j := 1) allR_nd dX10_readsSetup_41 (m19 _ (Nat.le_of_ble_eq_true rfl)) rfl (by decide) rfl ?_
  refine z_aload_n (i := 0) dX10_readsSetup_42 rfl rfl ?_
  refine z_getR (r' := (19, 0, 0)) dX10_readsSetup_43 fl_X10_7 mk18 rfl rfl ?_
  refine z_iconst (v := (2 : Int32)) dX10_readsSetup_46 kc_2 ?_
  refine z_aload_n (i := 0) dX10_readsSetup_47 rfl rfl ?_
  refine z_iconst (v := (0 : Int32)) dX10_readsSetup_48 kc_0 ?_
  refine z_bipush (v := (90 : Int32)) dX10_readsSetup_49 kb_90 ?_
  obtain ⟨q11, hq12, h⟩ := bnd h
  refine z_fVi (sX10_number (putI q9.2 (19, 0, 0) 1 q9.1) (0 : Int32) (90 : Int32) hq12) dX10_readsSetup_51 ml_X10_177 cd_X10_number mk18 rfl rfl rfl rfl rfl rfl ?_
  refine z_iast (j := 2) allR_nd dX10_readsSetup_54 (m19 _ (Nat.le_of_ble_eq_true rfl)) rfl (by decide) rfl ?_
  refine z_aload_n (i := 0) dX10_readsSetup_55 rfl rfl ?_
  refine z_bipush (v := (59 : Int32)) dX10_readsSetup_56 kb_59 ?_
  obtain ⟨q13, hq14, h⟩ := bnd h
  refine z_fVv (sX10_takesSign (putI q11.2 (19, 0, 0) 2 q11.1) (59 : Int32) hq14) dX10_readsSetup_58 ml_X10_180 cd_X10_takesSign mk18 rfl rfl rfl rfl rfl rfl ?_
  refine z_aload_n (i := 0) dX10_readsSetup_61 rfl rfl ?_
  obtain ⟨q15, hq16, h⟩ := bnd h
  refine z_fVv (sX10_readsTooth q13 hq16) dX10_readsSetup_62 ml_X10_190 cd_X10_readsTooth mk18 rfl rfl rfl rfl rfl rfl ?_
  refine sX10_readsSetup_L65  NF _ h (fun M22 h => ?_)
  refine sX10_readsSetup_L81  NF _ h (fun M27 h => ?_)
  cases h
  exact z_vret dX10_readsSetup_102 rfl (Nat.le_refl _) (Nat.le_refl _) ⟨rfl, rfl⟩
theorem dX10_takesText_0 : decode cX10_takesText 0 = .ok (.iconst 0, 1) := by decide +kernel
theorem dX10_takesText_1 : decode cX10_takesText 1 = .ok (.istore_n 2, 1) := by decide +kernel
theorem dX10_takesText_2 : decode cX10_takesText 2 = .ok (.iload_n 2, 1) := by decide +kernel
theorem dX10_takesText_3 : decode cX10_takesText 3 = .ok (.aload_n 1, 1) := by decide +kernel
theorem dX10_takesText_4 : decode cX10_takesText 4 = .ok (.invokevirtual 60, 3) := by decide +kernel
theorem dX10_takesText_7 : decode cX10_takesText 7 = .ok (.if_icmp .ge 20, 3) := by decide +kernel
theorem dX10_takesText_10 : decode cX10_takesText 10 = .ok (.aload_n 0, 1) := by decide +kernel
theorem dX10_takesText_11 : decode cX10_takesText 11 = .ok (.getfield 32, 3) := by decide +kernel
theorem dX10_takesText_14 : decode cX10_takesText 14 = .ok (.iload_n 2, 1) := by decide +kernel
theorem dX10_takesText_15 : decode cX10_takesText 15 = .ok (.aload_n 1, 1) := by decide +kernel
theorem dX10_takesText_16 : decode cX10_takesText 16 = .ok (.iload_n 2, 1) := by decide +kernel
theorem dX10_takesText_17 : decode cX10_takesText 17 = .ok (.invokevirtual 66, 3) := by decide +kernel
theorem dX10_takesText_20 : decode cX10_takesText 20 = .ok (.iastore, 1) := by decide +kernel
theorem dX10_takesText_21 : decode cX10_takesText 21 = .ok (.iinc 2 1, 3) := by decide +kernel
theorem dX10_takesText_24 : decode cX10_takesText 24 = .ok (.goto (-22), 3) := by decide +kernel
theorem dX10_takesText_27 : decode cX10_takesText 27 = .ok (.aload_n 0, 1) := by decide +kernel
theorem dX10_takesText_28 : decode cX10_takesText 28 = .ok (.aload_n 1, 1) := by decide +kernel
theorem dX10_takesText_29 : decode cX10_takesText 29 = .ok (.invokevirtual 60, 3) := by decide +kernel
theorem dX10_takesText_32 : decode cX10_takesText 32 = .ok (.putfield 70, 3) := by decide +kernel
theorem dX10_takesText_35 : decode cX10_takesText 35 = .ok (.aload_n 0, 1) := by decide +kernel
theorem dX10_takesText_36 : decode cX10_takesText 36 = .ok (.invokevirtual 73, 3) := by decide +kernel
theorem dX10_takesText_39 : decode cX10_takesText 39 = .ok (.aload_n 0, 1) := by decide +kernel
theorem dX10_takesText_40 : decode cX10_takesText 40 = .ok (.invokevirtual 76, 3) := by decide +kernel
theorem dX10_takesText_43 : decode cX10_takesText 43 = .ok (.aload_n 0, 1) := by decide +kernel
theorem dX10_takesText_44 : decode cX10_takesText 44 = .ok (.iconst 0, 1) := by decide +kernel
theorem dX10_takesText_45 : decode cX10_takesText 45 = .ok (.putfield 70, 3) := by decide +kernel
theorem dX10_takesText_48 : decode cX10_takesText 48 = .ok (.return_, 1) := by decide +kernel
def fX10_takesText_L2 (j1 : Nat) (K : Int32 → Mm → Option Mm) : Nat → Int32 → Mm → Option Mm
  | 0, _, _ => none
  | n + 1, v2, M => if (slen j1) ≤ v2 then K v2 M else (sch j1 v2).bind fun q2 => if v2 < 0 ∨ 800 ≤ v2.toNatClampNeg then none else fX10_takesText_L2 j1 K n (v2 + (1 : Int32)) (putI M (19, 6, 0) v2.toNatClampNeg q2)
def fX10_takesText (M : Mm) (j1 : Nat) : Option Mm := fX10_takesText_L2 j1 (fun w5 M6 => (fX10_starts (putI M6 (18, 0, 0) 10 (slen j1))).bind fun q7 => (fX10_readsSetup q7).bind fun q9 => some (putI q9 (18, 0, 0) 10 (0 : Int32))) NF (0 : Int32) M
set_option maxRecDepth 20000 in
set_option maxHeartbeats 2000000 in
theorem sX10_takesText_L2 {wv : Nat} (j1 : Nat) (hj1 : j1 < 22) {res : Mm} {K : Int32 → Mm → Option Mm} : ∀ (n : Nat) (v2 : Int32) (M : Mm), fX10_takesText_L2 j1 K n v2 M = some res →
    (∀ (v2 : Int32) (M : Mm), K v2 M = some res → Z RX10 cX10_takesText 3 none [] "takesText" (rmD 10 0 0) (QM SH (allR (wv + 1)) 0 0 (fun v M9 => v = none ∧ M9 = res) (fun _ _ => False)) (allR (wv + 1)) SH 0 0 27 [some (.inr (18, 0, 0)), some (.inr (30, j1, 0)), some (.inl (.int v2))] [] M) → Z RX10 cX10_takesText 3 none [] "takesText" (rmD 10 0 0) (QM SH (allR (wv + 1)) 0 0 (fun v M9 => v = none ∧ M9 = res) (fun _ _ => False)) (allR (wv + 1)) SH 0 0 2 [some (.inr (18, 0, 0)), some (.inr (30, j1, 0)), some (.inl (.int v2))] [] M := by
  intro n
  induction n with
  | zero => intro v2 M h; cases h
  | succ n ih =>
    intro v2 M h hK
    rw [fX10_takesText_L2] at h
    refine z_iload_n (i := 2) dX10_takesText_2 rfl rfl ?_
    refine z_aload_n (i := 1) dX10_takesText_3 rfl rfl ?_
    refine z_fTi (S_length M j1 hj1) dX10_takesText_4 ml_X10_60 cd_J0_length_8abf5 hj1 rfl rfl rfl rfl rfl ?_
    refine z_icmp_ge (tgt := 27) dX10_takesText_7 rfl (fun hc1 => ?_) (fun hc1 => ?_)
    · have h := it_t h hc1
      exact hK _ _ h
    · have h := it_f h hc1
      refine z_aload_n (i := 0) dX10_takesText_10 rfl rfl ?_
      refine z_getR (r' := (19, 6, 0)) dX10_takesText_11 fl_X10_32 mk18 rfl rfl ?_
      refine z_iload_n (i := 2) dX10_takesText_14 rfl rfl ?_
      refine z_aload_n (i := 1) dX10_takesText_15 rfl rfl ?_
      refine z_iload_n (i := 2) dX10_takesText_16 rfl rfl ?_
      obtain ⟨q2, hq3, h⟩ := bnd h
      refine z_fTi (S_charAt M j1 v2 hj1 hq3) dX10_takesText_17 ml_X10_66 cd_J0_charAt_5068e hj1 rfl rfl rfl rfl rfl ?_
      obtain ⟨hc4, h⟩ := chk h
      refine z_iast (j := v2.toNatClampNeg) allR_nd dX10_takesText_20 (m19 _ (Nat.le_of_ble_eq_true rfl)) rfl hc4 rfl ?_
      refine z_iinc (i := 2) (v := (v2 + (1 : Int32))) dX10_takesText_21 rfl (iinc_k kc_1) (Nat.le_of_ble_eq_true rfl) rfl ?_
      refine z_goto (tgt := 2) dX10_takesText_24 rfl ?_
      exact ih _ _ h hK
set_option maxRecDepth 20000 in
set_option maxHeartbeats 2000000 in
theorem sX10_takesText {wv : Nat} (M : Mm) (j1 : Nat) (hj1 : j1 < 22) {res : Mm} (h : fX10_takesText M j1 = some res) : TF (wv + 1) yX10_takesText cX10_takesText 3 none 10 [.inr (18, 0, 0), .inr (30, j1, 0)] M (none) res := by
  rw [fX10_takesText] at h
  refine TF.go (n := 1) (ls := [some (.inr (18, 0, 0)), some (.inr (30, j1, 0)), none]) rfl rfl rfl rfl rfl ?_
  refine z_iconst (v := (0 : Int32)) dX10_takesText_0 kc_0 ?_
  refine z_istore_n (i := 2) dX10_takesText_1 rfl (Nat.le_of_ble_eq_true rfl) rfl ?_
  refine sX10_takesText_L2 j1 hj1 NF _ _ h (fun w5 M6 h => ?_)
  refine z_aload_n (i := 0) dX10_takesText_27 rfl rfl ?_
  refine z_aload_n (i := 1) dX10_takesText_28 rfl rfl ?_
  refine z_fTi (S_length M6 j1 hj1) dX10_takesText_29 ml_X10_60 cd_J0_length_8abf5 hj1 rfl rfl rfl rfl rfl ?_
  refine z_putI allR_nd dX10_takesText_32 fl_X10_70 mk18 rfl rfl ?_
  refine z_aload_n (i := 0) dX10_takesText_35 rfl rfl ?_
  obtain ⟨q7, hq8, h⟩ := bnd h
  refine z_fVv (sX10_starts (putI M6 (18, 0, 0) 10 (slen j1)) hq8) dX10_takesText_36 ml_X10_73 cd_X10_starts mk18 rfl rfl rfl rfl rfl rfl ?_
  refine z_aload_n (i := 0) dX10_takesText_39 rfl rfl ?_
  obtain ⟨q9, hq10, h⟩ := bnd h
  refine z_fVv (sX10_readsSetup q7 hq10) dX10_takesText_40 ml_X10_76 cd_X10_readsSetup mk18 rfl rfl rfl rfl rfl rfl ?_
  refine z_aload_n (i := 0) dX10_takesText_43 rfl rfl ?_
  refine z_iconst (v := (0 : Int32)) dX10_takesText_44 kc_0 ?_
  refine z_putI allR_nd dX10_takesText_45 fl_X10_70 mk18 rfl rfl ?_
  cases h
  exact z_vret dX10_takesText_48 rfl (Nat.le_refl _) (Nat.le_refl _) ⟨rfl, rfl⟩
theorem dX10_thrown_0 : decode cX10_thrown 0 = .ok (.aload_n 0, 1) := by decide +kernel
theorem dX10_thrown_1 : decode cX10_thrown 1 = .ok (.getfield 79, 3) := by decide +kernel
theorem dX10_thrown_4 : decode cX10_thrown 4 = .ok (.ireturn, 1) := by decide +kernel
def fX10_thrown (M : Mm) : Int32 := (M.1 (18, 0, 0) 8)
set_option maxRecDepth 20000 in
set_option maxHeartbeats 2000000 in
theorem tX10_thrown {wv : Nat} (M : Mm) {res : Int32} (h : fX10_thrown M  = res) : TF (wv + 1) yX10_thrown cX10_thrown 1 (some .int) 0 [.inr (18, 0, 0)] M (some (.int res)) M := by
  rw [fX10_thrown] at h
  refine TF.go (n := 0) (ls := [some (.inr (18, 0, 0))]) rfl rfl rfl rfl rfl ?_
  refine z_aload_n (i := 0) dX10_thrown_0 rfl rfl ?_
  refine z_getI (x := (M.1 (18, 0, 0) 8)) dX10_thrown_1 fl_X10_79 mk18 rfl rfl ?_
  subst h
  exact z_iret dX10_thrown_4 rfl rfl (Nat.le_refl _) (Nat.le_refl _) ⟨rfl, rfl⟩
theorem sX10_thrown {wv : Nat} (M : Mm) : TF (wv + 1) yX10_thrown cX10_thrown 1 (some .int) 0 [.inr (18, 0, 0)] M (some (.int (fX10_thrown M ))) M := tX10_thrown M   rfl
theorem dX10_right_0 : decode cX10_right 0 = .ok (.aload_n 0, 1) := by decide +kernel
theorem dX10_right_1 : decode cX10_right 1 = .ok (.getfield 79, 3) := by decide +kernel
theorem dX10_right_4 : decode cX10_right 4 = .ok (.ifCond .ne 12, 3) := by decide +kernel
theorem dX10_right_7 : decode cX10_right 7 = .ok (.iload_n 1, 1) := by decide +kernel
theorem dX10_right_8 : decode cX10_right 8 = .ok (.ifCond .ne 8, 3) := by decide +kernel
theorem dX10_right_11 : decode cX10_right 11 = .ok (.aload_n 0, 1) := by decide +kernel
theorem dX10_right_12 : decode cX10_right 12 = .ok (.iload_n 2, 1) := by decide +kernel
theorem dX10_right_13 : decode cX10_right 13 = .ok (.putfield 79, 3) := by decide +kernel
theorem dX10_right_16 : decode cX10_right 16 = .ok (.aload_n 0, 1) := by decide +kernel
theorem dX10_right_17 : decode cX10_right 17 = .ok (.getfield 79, 3) := by decide +kernel
theorem dX10_right_20 : decode cX10_right 20 = .ok (.ifCond .ne 7, 3) := by decide +kernel
theorem dX10_right_23 : decode cX10_right 23 = .ok (.iconst 1, 1) := by decide +kernel
theorem dX10_right_24 : decode cX10_right 24 = .ok (.goto 4, 3) := by decide +kernel
theorem dX10_right_27 : decode cX10_right 27 = .ok (.iconst 0, 1) := by decide +kernel
theorem dX10_right_28 : decode cX10_right 28 = .ok (.ireturn, 1) := by decide +kernel
def fX10_right (M : Mm) (x1 : Int32) (x2 : Int32) : Option (Int32 × Mm) := if (M.1 (18, 0, 0) 8) = 0 then (if x1 = 0 then (if x2 = 0 then some ((1 : Int32), (putI M (18, 0, 0) 8 x2)) else some ((0 : Int32), (putI M (18, 0, 0) 8 x2))) else if (M.1 (18, 0, 0) 8) = 0 then some ((1 : Int32), M) else some ((0 : Int32), M)) else if (M.1 (18, 0, 0) 8) = 0 then some ((1 : Int32), M) else some ((0 : Int32), M)
set_option maxRecDepth 20000 in
set_option maxHeartbeats 2000000 in
theorem sX10_right {wv : Nat} (M : Mm) (x1 : Int32) (x2 : Int32) {res : (Int32 × Mm)} (h : fX10_right M x1 x2 = some res) : TF (wv + 1) yX10_right cX10_right 3 (some .boolean) 0 [.inr (18, 0, 0), .inl (.int x1), .inl (.int x2)] M (some (.int res.1)) res.2 := by
  rw [fX10_right] at h
  refine TF.go (n := 0) (ls := [some (.inr (18, 0, 0)), some (.inl (.int x1)), some (.inl (.int x2))]) rfl rfl rfl rfl rfl ?_
  refine z_aload_n (i := 0) dX10_right_0 rfl rfl ?_
  refine z_getI (x := (M.1 (18, 0, 0) 8)) dX10_right_1 fl_X10_79 mk18 rfl rfl ?_
  refine z_if_ne (tgt := 16) dX10_right_4 rfl (fun hc1 => ?_) (fun hc1 => ?_)
  · have h := it_f h hc1
    refine z_aload_n (i := 0) dX10_right_16 rfl rfl ?_
    refine z_getI (x := (M.1 (18, 0, 0) 8)) dX10_right_17 fl_X10_79 mk18 rfl rfl ?_
    refine z_if_ne (tgt := 27) dX10_right_20 rfl (fun hc2 => ?_) (fun hc2 => ?_)
    · have h := it_f h hc2
      refine z_iconst (v := (0 : Int32)) dX10_right_27 kc_0 ?_
      cases h
      exact z_iret dX10_right_28 rfl rfl (Nat.le_refl _) (Nat.le_refl _) ⟨rfl, rfl⟩
    · have h := it_t h hc2
      refine z_iconst (v := (1 : Int32)) dX10_right_23 kc_1 ?_
      refine z_goto (tgt := 28) dX10_right_24 rfl ?_
      cases h
      exact z_iret dX10_right_28 rfl rfl (Nat.le_refl _) (Nat.le_refl _) ⟨rfl, rfl⟩
  · have h := it_t h hc1
    refine z_iload_n (i := 1) dX10_right_7 rfl rfl ?_
    refine z_if_ne (tgt := 16) dX10_right_8 rfl (fun hc3 => ?_) (fun hc3 => ?_)
    · have h := it_f h hc3
      refine z_aload_n (i := 0) dX10_right_16 rfl rfl ?_
      refine z_getI (x := (M.1 (18, 0, 0) 8)) dX10_right_17 fl_X10_79 mk18 rfl rfl ?_
      refine z_if_ne (tgt := 27) dX10_right_20 rfl (fun hc4 => ?_) (fun hc4 => ?_)
      · have h := it_f h hc4
        refine z_iconst (v := (0 : Int32)) dX10_right_27 kc_0 ?_
        cases h
        exact z_iret dX10_right_28 rfl rfl (Nat.le_refl _) (Nat.le_refl _) ⟨rfl, rfl⟩
      · have h := it_t h hc4
        refine z_iconst (v := (1 : Int32)) dX10_right_23 kc_1 ?_
        refine z_goto (tgt := 28) dX10_right_24 rfl ?_
        cases h
        exact z_iret dX10_right_28 rfl rfl (Nat.le_refl _) (Nat.le_refl _) ⟨rfl, rfl⟩
    · have h := it_t h hc3
      refine z_aload_n (i := 0) dX10_right_11 rfl rfl ?_
      refine z_iload_n (i := 2) dX10_right_12 rfl rfl ?_
      refine z_putI allR_nd dX10_right_13 fl_X10_79 mk18 rfl rfl ?_
      refine z_aload_n (i := 0) dX10_right_16 rfl rfl ?_
      refine z_getI (x := x2) dX10_right_17 fl_X10_79 mk18 rfl (gp1 (M := M) (r := (18, 0, 0)) (j := 8) (v := x2)) ?_
      refine z_if_ne (tgt := 27) dX10_right_20 rfl (fun hc5 => ?_) (fun hc5 => ?_)
      · have h := it_f h hc5
        refine z_iconst (v := (0 : Int32)) dX10_right_27 kc_0 ?_
        cases h
        exact z_iret dX10_right_28 rfl rfl (Nat.le_refl _) (Nat.le_refl _) ⟨rfl, rfl⟩
      · have h := it_t h hc5
        refine z_iconst (v := (1 : Int32)) dX10_right_23 kc_1 ?_
        refine z_goto (tgt := 28) dX10_right_24 rfl ?_
        cases h
        exact z_iret dX10_right_28 rfl rfl (Nat.le_refl _) (Nat.le_refl _) ⟨rfl, rfl⟩
theorem dX10_of_0 : decode cX10_of 0 = .ok (.aload_n 0, 1) := by decide +kernel
theorem dX10_of_1 : decode cX10_of 1 = .ok (.getfield 7, 3) := by decide +kernel
theorem dX10_of_4 : decode cX10_of 4 = .ok (.bipush 16, 2) := by decide +kernel
theorem dX10_of_6 : decode cX10_of 6 = .ok (.bipush 6, 2) := by decide +kernel
theorem dX10_of_8 : decode cX10_of 8 = .ok (.iload_n 1, 1) := by decide +kernel
theorem dX10_of_9 : decode cX10_of 9 = .ok (.imul, 1) := by decide +kernel
theorem dX10_of_10 : decode cX10_of 10 = .ok (.iadd, 1) := by decide +kernel
theorem dX10_of_11 : decode cX10_of 11 = .ok (.iload_n 2, 1) := by decide +kernel
theorem dX10_of_12 : decode cX10_of 12 = .ok (.iadd, 1) := by decide +kernel
theorem dX10_of_13 : decode cX10_of 13 = .ok (.iaload, 1) := by decide +kernel
theorem dX10_of_14 : decode cX10_of 14 = .ok (.ireturn, 1) := by decide +kernel
def fX10_of (M : Mm) (x1 : Int32) (x2 : Int32) : Option Int32 := if (((16 : Int32) + ((6 : Int32) * x1)) + x2) < 0 ∨ 280 ≤ (((16 : Int32) + ((6 : Int32) * x1)) + x2).toNatClampNeg then none else some (M.1 (19, 0, 0) (((16 : Int32) + ((6 : Int32) * x1)) + x2).toNatClampNeg)
set_option maxRecDepth 20000 in
set_option maxHeartbeats 2000000 in
theorem sX10_of {wv : Nat} (M : Mm) (x1 : Int32) (x2 : Int32) {res : Int32} (h : fX10_of M x1 x2 = some res) : TF (wv + 1) yX10_of cX10_of 3 (some .int) 0 [.inr (18, 0, 0), .inl (.int x1), .inl (.int x2)] M (some (.int res)) M := by
  rw [fX10_of] at h
  refine TF.go (n := 0) (ls := [some (.inr (18, 0, 0)), some (.inl (.int x1)), some (.inl (.int x2))]) rfl rfl rfl rfl rfl ?_
  refine z_aload_n (i := 0) dX10_of_0 rfl rfl ?_
  refine z_getR (r' := (19, 0, 0)) dX10_of_1 fl_X10_7 mk18 rfl rfl ?_
  refine z_bipush (v := (16 : Int32)) dX10_of_4 kb_16 ?_
  refine z_bipush (v := (6 : Int32)) dX10_of_6 kb_6 ?_
  refine z_iload_n (i := 1) dX10_of_8 rfl rfl ?_
  refine z_imul dX10_of_9 ?_
  refine z_iadd dX10_of_10 ?_
  refine z_iload_n (i := 2) dX10_of_11 rfl rfl ?_
  refine z_iadd dX10_of_12 ?_
  obtain ⟨hc1, h⟩ := chk h
  refine z_iald (x := (M.1 (19, 0, 0) (((16 : Int32) + ((6 : Int32) * x1)) + x2).toNatClampNeg)) dX10_of_13 (m19 _ (Nat.le_of_ble_eq_true rfl)) rfl hc1 rfl ?_
  cases h
  exact z_iret dX10_of_14 rfl rfl (Nat.le_refl _) (Nat.le_refl _) ⟨rfl, rfl⟩
theorem dX10_isTune_0 : decode cX10_isTune 0 = .ok (.iload_n 1, 1) := by decide +kernel
theorem dX10_isTune_1 : decode cX10_isTune 1 = .ok (.iconst 0, 1) := by decide +kernel
theorem dX10_isTune_2 : decode cX10_isTune 2 = .ok (.iconst 2, 1) := by decide +kernel
theorem dX10_isTune_3 : decode cX10_isTune 3 = .ok (.invokestatic 82, 3) := by decide +kernel
theorem dX10_isTune_6 : decode cX10_isTune 6 = .ok (.ireturn, 1) := by decide +kernel
def fX10_isTune (M : Mm) (x1 : Int32) : Int32 := (bz (fX10_in M x1 (0 : Int32) (2 : Int32)))
set_option maxRecDepth 20000 in
set_option maxHeartbeats 2000000 in
theorem tX10_isTune {wv : Nat} (M : Mm) (x1 : Int32) {res : Int32} (h : fX10_isTune M x1 = res) : TF (wv + 1) yX10_isTune cX10_isTune 2 (some .boolean) 1 [.inr (18, 0, 0), .inl (.int x1)] M (some (.int res)) M := by
  rw [fX10_isTune] at h
  refine TF.go (n := 0) (ls := [some (.inr (18, 0, 0)), some (.inl (.int x1))]) rfl rfl rfl rfl rfl ?_
  refine z_iload_n (i := 1) dX10_isTune_0 rfl rfl ?_
  refine z_iconst (v := (0 : Int32)) dX10_isTune_1 kc_0 ?_
  refine z_iconst (v := (2 : Int32)) dX10_isTune_2 kc_2 ?_
  refine z_fSi (sX10_in M x1 (0 : Int32) (2 : Int32)) dX10_isTune_3 ml_X10_82 cd_X10_in rfl rfl rfl rfl rfl ?_
  subst h
  exact z_iret dX10_isTune_6 rfl (bz_ok _) (Nat.le_refl _) (Nat.le_refl _) ⟨rfl, rfl⟩
theorem sX10_isTune {wv : Nat} (M : Mm) (x1 : Int32) : TF (wv + 1) yX10_isTune cX10_isTune 2 (some .boolean) 1 [.inr (18, 0, 0), .inl (.int x1)] M (some (.int (fX10_isTune M x1))) M := tX10_isTune M x1  rfl
theorem dX10_isTooth_0 : decode cX10_isTooth 0 = .ok (.iload_n 1, 1) := by decide +kernel
theorem dX10_isTooth_1 : decode cX10_isTooth 1 = .ok (.iconst 0, 1) := by decide +kernel
theorem dX10_isTooth_2 : decode cX10_isTooth 2 = .ok (.aload_n 0, 1) := by decide +kernel
theorem dX10_isTooth_3 : decode cX10_isTooth 3 = .ok (.getfield 7, 3) := by decide +kernel
theorem dX10_isTooth_6 : decode cX10_isTooth 6 = .ok (.iconst 3, 1) := by decide +kernel
theorem dX10_isTooth_7 : decode cX10_isTooth 7 = .ok (.iaload, 1) := by decide +kernel
theorem dX10_isTooth_8 : decode cX10_isTooth 8 = .ok (.iconst 1, 1) := by decide +kernel
theorem dX10_isTooth_9 : decode cX10_isTooth 9 = .ok (.isub, 1) := by decide +kernel
theorem dX10_isTooth_10 : decode cX10_isTooth 10 = .ok (.invokestatic 82, 3) := by decide +kernel
theorem dX10_isTooth_13 : decode cX10_isTooth 13 = .ok (.ireturn, 1) := by decide +kernel
def fX10_isTooth (M : Mm) (x1 : Int32) : Int32 := (bz (fX10_in M x1 (0 : Int32) ((M.1 (19, 0, 0) 3) - (1 : Int32))))
set_option maxRecDepth 20000 in
set_option maxHeartbeats 2000000 in
theorem tX10_isTooth {wv : Nat} (M : Mm) (x1 : Int32) {res : Int32} (h : fX10_isTooth M x1 = res) : TF (wv + 1) yX10_isTooth cX10_isTooth 2 (some .boolean) 1 [.inr (18, 0, 0), .inl (.int x1)] M (some (.int res)) M := by
  rw [fX10_isTooth] at h
  refine TF.go (n := 0) (ls := [some (.inr (18, 0, 0)), some (.inl (.int x1))]) rfl rfl rfl rfl rfl ?_
  refine z_iload_n (i := 1) dX10_isTooth_0 rfl rfl ?_
  refine z_iconst (v := (0 : Int32)) dX10_isTooth_1 kc_0 ?_
  refine z_aload_n (i := 0) dX10_isTooth_2 rfl rfl ?_
  refine z_getR (r' := (19, 0, 0)) dX10_isTooth_3 fl_X10_7 mk18 rfl rfl ?_
  refine z_iconst (v := (3 : Int32)) dX10_isTooth_6 kc_3 ?_
  refine z_iald (x := (M.1 (19, 0, 0) 3)) dX10_isTooth_7 (m19 _ (Nat.le_of_ble_eq_true rfl)) rfl (by decide) rfl ?_
  refine z_iconst (v := (1 : Int32)) dX10_isTooth_8 kc_1 ?_
  refine z_isub dX10_isTooth_9 ?_
  refine z_fSi (sX10_in M x1 (0 : Int32) ((M.1 (19, 0, 0) 3) - (1 : Int32))) dX10_isTooth_10 ml_X10_82 cd_X10_in rfl rfl rfl rfl rfl ?_
  subst h
  exact z_iret dX10_isTooth_13 rfl (bz_ok _) (Nat.le_refl _) (Nat.le_refl _) ⟨rfl, rfl⟩
theorem sX10_isTooth {wv : Nat} (M : Mm) (x1 : Int32) : TF (wv + 1) yX10_isTooth cX10_isTooth 2 (some .boolean) 1 [.inr (18, 0, 0), .inl (.int x1)] M (some (.int (fX10_isTooth M x1))) M := tX10_isTooth M x1  rfl
theorem dX10_isStep_0 : decode cX10_isStep 0 = .ok (.iload_n 1, 1) := by decide +kernel
theorem dX10_isStep_1 : decode cX10_isStep 1 = .ok (.iconst 0, 1) := by decide +kernel
theorem dX10_isStep_2 : decode cX10_isStep 2 = .ok (.aload_n 0, 1) := by decide +kernel
theorem dX10_isStep_3 : decode cX10_isStep 3 = .ok (.getfield 7, 3) := by decide +kernel
theorem dX10_isStep_6 : decode cX10_isStep 6 = .ok (.iconst 0, 1) := by decide +kernel
theorem dX10_isStep_7 : decode cX10_isStep 7 = .ok (.iaload, 1) := by decide +kernel
theorem dX10_isStep_8 : decode cX10_isStep 8 = .ok (.iconst 1, 1) := by decide +kernel
theorem dX10_isStep_9 : decode cX10_isStep 9 = .ok (.isub, 1) := by decide +kernel
theorem dX10_isStep_10 : decode cX10_isStep 10 = .ok (.invokestatic 82, 3) := by decide +kernel
theorem dX10_isStep_13 : decode cX10_isStep 13 = .ok (.ireturn, 1) := by decide +kernel
def fX10_isStep (M : Mm) (x1 : Int32) : Int32 := (bz (fX10_in M x1 (0 : Int32) ((M.1 (19, 0, 0) 0) - (1 : Int32))))
set_option maxRecDepth 20000 in
set_option maxHeartbeats 2000000 in
theorem tX10_isStep {wv : Nat} (M : Mm) (x1 : Int32) {res : Int32} (h : fX10_isStep M x1 = res) : TF (wv + 1) yX10_isStep cX10_isStep 2 (some .boolean) 1 [.inr (18, 0, 0), .inl (.int x1)] M (some (.int res)) M := by
  rw [fX10_isStep] at h
  refine TF.go (n := 0) (ls := [some (.inr (18, 0, 0)), some (.inl (.int x1))]) rfl rfl rfl rfl rfl ?_
  refine z_iload_n (i := 1) dX10_isStep_0 rfl rfl ?_
  refine z_iconst (v := (0 : Int32)) dX10_isStep_1 kc_0 ?_
  refine z_aload_n (i := 0) dX10_isStep_2 rfl rfl ?_
  refine z_getR (r' := (19, 0, 0)) dX10_isStep_3 fl_X10_7 mk18 rfl rfl ?_
  refine z_iconst (v := (0 : Int32)) dX10_isStep_6 kc_0 ?_
  refine z_iald (x := (M.1 (19, 0, 0) 0)) dX10_isStep_7 (m19 _ (Nat.le_of_ble_eq_true rfl)) rfl (by decide) rfl ?_
  refine z_iconst (v := (1 : Int32)) dX10_isStep_8 kc_1 ?_
  refine z_isub dX10_isStep_9 ?_
  refine z_fSi (sX10_in M x1 (0 : Int32) ((M.1 (19, 0, 0) 0) - (1 : Int32))) dX10_isStep_10 ml_X10_82 cd_X10_in rfl rfl rfl rfl rfl ?_
  subst h
  exact z_iret dX10_isStep_13 rfl (bz_ok _) (Nat.le_refl _) (Nat.le_refl _) ⟨rfl, rfl⟩
theorem sX10_isStep {wv : Nat} (M : Mm) (x1 : Int32) : TF (wv + 1) yX10_isStep cX10_isStep 2 (some .boolean) 1 [.inr (18, 0, 0), .inl (.int x1)] M (some (.int (fX10_isStep M x1))) M := tX10_isStep M x1  rfl
theorem dX10_isBad_0 : decode cX10_isBad 0 = .ok (.aload_n 0, 1) := by decide +kernel
theorem dX10_isBad_1 : decode cX10_isBad 1 = .ok (.iload_n 1, 1) := by decide +kernel
theorem dX10_isBad_2 : decode cX10_isBad 2 = .ok (.iconst 4, 1) := by decide +kernel
theorem dX10_isBad_3 : decode cX10_isBad 3 = .ok (.invokevirtual 90, 3) := by decide +kernel
theorem dX10_isBad_6 : decode cX10_isBad 6 = .ok (.aload_n 0, 1) := by decide +kernel
theorem dX10_isBad_7 : decode cX10_isBad 7 = .ok (.iload_n 1, 1) := by decide +kernel
theorem dX10_isBad_8 : decode cX10_isBad 8 = .ok (.iconst 3, 1) := by decide +kernel
theorem dX10_isBad_9 : decode cX10_isBad 9 = .ok (.invokevirtual 90, 3) := by decide +kernel
theorem dX10_isBad_12 : decode cX10_isBad 12 = .ok (.if_icmp .lt 7, 3) := by decide +kernel
theorem dX10_isBad_15 : decode cX10_isBad 15 = .ok (.iconst 1, 1) := by decide +kernel
theorem dX10_isBad_16 : decode cX10_isBad 16 = .ok (.goto 4, 3) := by decide +kernel
theorem dX10_isBad_19 : decode cX10_isBad 19 = .ok (.iconst 0, 1) := by decide +kernel
theorem dX10_isBad_20 : decode cX10_isBad 20 = .ok (.ireturn, 1) := by decide +kernel
def fX10_isBad (M : Mm) (x1 : Int32) : Option Int32 := (fX10_of M x1 (4 : Int32)).bind fun q1 => (fX10_of M x1 (3 : Int32)).bind fun q3 => if q1 < q3 then some (0 : Int32) else some (1 : Int32)
set_option maxRecDepth 20000 in
set_option maxHeartbeats 2000000 in
theorem sX10_isBad {wv : Nat} (M : Mm) (x1 : Int32) {res : Int32} (h : fX10_isBad M x1 = some res) : TF (wv + 1) yX10_isBad cX10_isBad 2 (some .boolean) 1 [.inr (18, 0, 0), .inl (.int x1)] M (some (.int res)) M := by
  rw [fX10_isBad] at h
  refine TF.go (n := 0) (ls := [some (.inr (18, 0, 0)), some (.inl (.int x1))]) rfl rfl rfl rfl rfl ?_
  refine z_aload_n (i := 0) dX10_isBad_0 rfl rfl ?_
  refine z_iload_n (i := 1) dX10_isBad_1 rfl rfl ?_
  refine z_iconst (v := (4 : Int32)) dX10_isBad_2 kc_4 ?_
  obtain ⟨q1, hq2, h⟩ := bnd h
  refine z_fVi (sX10_of M x1 (4 : Int32) hq2) dX10_isBad_3 ml_X10_90 cd_X10_of mk18 rfl rfl rfl rfl rfl rfl ?_
  refine z_aload_n (i := 0) dX10_isBad_6 rfl rfl ?_
  refine z_iload_n (i := 1) dX10_isBad_7 rfl rfl ?_
  refine z_iconst (v := (3 : Int32)) dX10_isBad_8 kc_3 ?_
  obtain ⟨q3, hq4, h⟩ := bnd h
  refine z_fVi (sX10_of M x1 (3 : Int32) hq4) dX10_isBad_9 ml_X10_90 cd_X10_of mk18 rfl rfl rfl rfl rfl rfl ?_
  refine z_icmp_lt (tgt := 19) dX10_isBad_12 rfl (fun hc5 => ?_) (fun hc5 => ?_)
  · have h := it_t h hc5
    refine z_iconst (v := (0 : Int32)) dX10_isBad_19 kc_0 ?_
    cases h
    exact z_iret dX10_isBad_20 rfl rfl (Nat.le_refl _) (Nat.le_refl _) ⟨rfl, rfl⟩
  · have h := it_f h hc5
    refine z_iconst (v := (1 : Int32)) dX10_isBad_15 kc_1 ?_
    refine z_goto (tgt := 20) dX10_isBad_16 rfl ?_
    cases h
    exact z_iret dX10_isBad_20 rfl rfl (Nat.le_refl _) (Nat.le_refl _) ⟨rfl, rfl⟩
theorem dX10_pins_0 : decode cX10_pins 0 = .ok (.iconst 0, 1) := by decide +kernel
theorem dX10_pins_1 : decode cX10_pins 1 = .ok (.istore_n 2, 1) := by decide +kernel
theorem dX10_pins_2 : decode cX10_pins 2 = .ok (.iconst 0, 1) := by decide +kernel
theorem dX10_pins_3 : decode cX10_pins 3 = .ok (.istore_n 3, 1) := by decide +kernel
theorem dX10_pins_4 : decode cX10_pins 4 = .ok (.iload_n 3, 1) := by decide +kernel
theorem dX10_pins_5 : decode cX10_pins 5 = .ok (.aload_n 0, 1) := by decide +kernel
theorem dX10_pins_6 : decode cX10_pins 6 = .ok (.getfield 7, 3) := by decide +kernel
theorem dX10_pins_9 : decode cX10_pins 9 = .ok (.iconst 0, 1) := by decide +kernel
theorem dX10_pins_10 : decode cX10_pins 10 = .ok (.iaload, 1) := by decide +kernel
theorem dX10_pins_11 : decode cX10_pins 11 = .ok (.if_icmp .ge 43, 3) := by decide +kernel
theorem dX10_pins_14 : decode cX10_pins 14 = .ok (.iconst 0, 1) := by decide +kernel
theorem dX10_pins_15 : decode cX10_pins 15 = .ok (.istore 4, 2) := by decide +kernel
theorem dX10_pins_17 : decode cX10_pins 17 = .ok (.iload 4, 2) := by decide +kernel
theorem dX10_pins_19 : decode cX10_pins 19 = .ok (.aload_n 0, 1) := by decide +kernel
theorem dX10_pins_20 : decode cX10_pins 20 = .ok (.getfield 7, 3) := by decide +kernel
theorem dX10_pins_23 : decode cX10_pins 23 = .ok (.iconst 3, 1) := by decide +kernel
theorem dX10_pins_24 : decode cX10_pins 24 = .ok (.iaload, 1) := by decide +kernel
theorem dX10_pins_25 : decode cX10_pins 25 = .ok (.if_icmp .ge 23, 3) := by decide +kernel
theorem dX10_pins_28 : decode cX10_pins 28 = .ok (.aload_n 0, 1) := by decide +kernel
theorem dX10_pins_29 : decode cX10_pins 29 = .ok (.iload_n 1, 1) := by decide +kernel
theorem dX10_pins_30 : decode cX10_pins 30 = .ok (.iload 4, 2) := by decide +kernel
theorem dX10_pins_32 : decode cX10_pins 32 = .ok (.iload_n 3, 1) := by decide +kernel
theorem dX10_pins_33 : decode cX10_pins 33 = .ok (.invokevirtual 93, 3) := by decide +kernel
theorem dX10_pins_36 : decode cX10_pins 36 = .ok (.ifCond .eq 6, 3) := by decide +kernel
theorem dX10_pins_39 : decode cX10_pins 39 = .ok (.iinc 2 1, 3) := by decide +kernel
theorem dX10_pins_42 : decode cX10_pins 42 = .ok (.iinc 4 1, 3) := by decide +kernel
theorem dX10_pins_45 : decode cX10_pins 45 = .ok (.goto (-28), 3) := by decide +kernel
theorem dX10_pins_48 : decode cX10_pins 48 = .ok (.iinc 3 1, 3) := by decide +kernel
theorem dX10_pins_51 : decode cX10_pins 51 = .ok (.goto (-47), 3) := by decide +kernel
theorem dX10_pins_54 : decode cX10_pins 54 = .ok (.iload_n 2, 1) := by decide +kernel
theorem dX10_pins_55 : decode cX10_pins 55 = .ok (.ireturn, 1) := by decide +kernel
def fX10_pins_L17 (M : Mm) (c1 : Int32) (c3 : Int32) (K : Int32 → Int32 → Option Int32) : Nat → Int32 → Int32 → Option Int32
  | 0, _, _ => none
  | n + 1, v2, v4 => if (M.1 (19, 0, 0) 3) ≤ v4 then K v2 v4 else (fX10_has M c1 v4 c3).bind fun q3 => if q3 = 0 then fX10_pins_L17 M c1 c3 K n v2 (v4 + (1 : Int32)) else fX10_pins_L17 M c1 c3 K n (v2 + (1 : Int32)) (v4 + (1 : Int32))
def fX10_pins_L4 (M : Mm) (c1 : Int32) (K : Int32 → Int32 → Option Int32) : Nat → Int32 → Int32 → Option Int32
  | 0, _, _ => none
  | n + 1, v2, v3 => if (M.1 (19, 0, 0) 0) ≤ v3 then K v2 v3 else fX10_pins_L17 M c1 v3 (fun w6 w7 => fX10_pins_L4 M c1 K n w6 (v3 + (1 : Int32))) NF v2 (0 : Int32)
def fX10_pins (M : Mm) (x1 : Int32) : Option Int32 := fX10_pins_L4 M x1 (fun w8 w9 => some w8) NF (0 : Int32) (0 : Int32)
set_option maxRecDepth 20000 in
set_option maxHeartbeats 2000000 in
theorem sX10_pins_L17 {wv : Nat} (M : Mm) (c1 : Int32) (c3 : Int32) {res : Int32} {K : Int32 → Int32 → Option Int32} : ∀ (n : Nat) (v2 : Int32) (v4 : Int32), fX10_pins_L17 M c1 c3 K n v2 v4 = some res →
    (∀ (v2 : Int32) (v4 : Int32), K v2 v4 = some res → Z RX10 cX10_pins 5 (some .int) [] "pins" (rmD 2 0 0) (QM SH (allR (wv + 1)) 0 0 (fun v M9 => v = some (.int res) ∧ M9 = M) (fun _ _ => False)) (allR (wv + 1)) SH 0 0 48 [some (.inr (18, 0, 0)), some (.inl (.int c1)), some (.inl (.int v2)), some (.inl (.int c3)), some (.inl (.int v4))] [] M) → Z RX10 cX10_pins 5 (some .int) [] "pins" (rmD 2 0 0) (QM SH (allR (wv + 1)) 0 0 (fun v M9 => v = some (.int res) ∧ M9 = M) (fun _ _ => False)) (allR (wv + 1)) SH 0 0 17 [some (.inr (18, 0, 0)), some (.inl (.int c1)), some (.inl (.int v2)), some (.inl (.int c3)), some (.inl (.int v4))] [] M := by
  intro n
  induction n with
  | zero => intro v2 v4 h; cases h
  | succ n ih =>
    intro v2 v4 h hK
    rw [fX10_pins_L17] at h
    refine z_iload (i := 4) dX10_pins_17 rfl ?_
    refine z_aload_n (i := 0) dX10_pins_19 rfl rfl ?_
    refine z_getR (r' := (19, 0, 0)) dX10_pins_20 fl_X10_7 mk18 rfl rfl ?_
    refine z_iconst (v := (3 : Int32)) dX10_pins_23 kc_3 ?_
    refine z_iald (x := (M.1 (19, 0, 0) 3)) dX10_pins_24 (m19 _ (Nat.le_of_ble_eq_true rfl)) rfl (by decide) rfl ?_
    refine z_icmp_ge (tgt := 48) dX10_pins_25 rfl (fun hc2 => ?_) (fun hc2 => ?_)
    · have h := it_t h hc2
      exact hK _ _ h
    · have h := it_f h hc2
      refine z_aload_n (i := 0) dX10_pins_28 rfl rfl ?_
      refine z_iload_n (i := 1) dX10_pins_29 rfl rfl ?_
      refine z_iload (i := 4) dX10_pins_30 rfl ?_
      refine z_iload_n (i := 3) dX10_pins_32 rfl rfl ?_
      obtain ⟨q3, hq4, h⟩ := bnd h
      refine z_fVi (sX10_has M c1 v4 c3 hq4) dX10_pins_33 ml_X10_93 cd_X10_has mk18 rfl rfl rfl rfl rfl rfl ?_
      refine z_if_eq (tgt := 42) dX10_pins_36 rfl (fun hc5 => ?_) (fun hc5 => ?_)
      · have h := it_t h hc5
        refine z_iinc (i := 4) (v := (v4 + (1 : Int32))) dX10_pins_42 rfl (iinc_k kc_1) (Nat.le_of_ble_eq_true rfl) rfl ?_
        refine z_goto (tgt := 17) dX10_pins_45 rfl ?_
        exact ih _ _ h hK
      · have h := it_f h hc5
        refine z_iinc (i := 2) (v := (v2 + (1 : Int32))) dX10_pins_39 rfl (iinc_k kc_1) (Nat.le_of_ble_eq_true rfl) rfl ?_
        refine z_iinc (i := 4) (v := (v4 + (1 : Int32))) dX10_pins_42 rfl (iinc_k kc_1) (Nat.le_of_ble_eq_true rfl) rfl ?_
        refine z_goto (tgt := 17) dX10_pins_45 rfl ?_
        exact ih _ _ h hK
set_option maxRecDepth 20000 in
set_option maxHeartbeats 2000000 in
theorem sX10_pins_L4 {wv : Nat} (M : Mm) (c1 : Int32) {res : Int32} {K : Int32 → Int32 → Option Int32} : ∀ (n : Nat) (v2 : Int32) (v3 : Int32), fX10_pins_L4 M c1 K n v2 v3 = some res →
    (∀ (v2 : Int32) (v3 : Int32), K v2 v3 = some res → Z RX10 cX10_pins 5 (some .int) [] "pins" (rmD 2 0 0) (QM SH (allR (wv + 1)) 0 0 (fun v M9 => v = some (.int res) ∧ M9 = M) (fun _ _ => False)) (allR (wv + 1)) SH 0 0 54 [some (.inr (18, 0, 0)), some (.inl (.int c1)), some (.inl (.int v2)), some (.inl (.int v3)), none] [] M) → Z RX10 cX10_pins 5 (some .int) [] "pins" (rmD 2 0 0) (QM SH (allR (wv + 1)) 0 0 (fun v M9 => v = some (.int res) ∧ M9 = M) (fun _ _ => False)) (allR (wv + 1)) SH 0 0 4 [some (.inr (18, 0, 0)), some (.inl (.int c1)), some (.inl (.int v2)), some (.inl (.int v3)), none] [] M := by
  intro n
  induction n with
  | zero => intro v2 v3 h; cases h
  | succ n ih =>
    intro v2 v3 h hK
    rw [fX10_pins_L4] at h
    refine z_iload_n (i := 3) dX10_pins_4 rfl rfl ?_
    refine z_aload_n (i := 0) dX10_pins_5 rfl rfl ?_
    refine z_getR (r' := (19, 0, 0)) dX10_pins_6 fl_X10_7 mk18 rfl rfl ?_
    refine z_iconst (v := (0 : Int32)) dX10_pins_9 kc_0 ?_
    refine z_iald (x := (M.1 (19, 0, 0) 0)) dX10_pins_10 (m19 _ (Nat.le_of_ble_eq_true rfl)) rfl (by decide) rfl ?_
    refine z_icmp_ge (tgt := 54) dX10_pins_11 rfl (fun hc1 => ?_) (fun hc1 => ?_)
    · have h := it_t h hc1
      exact hK _ _ h
    · have h := it_f h hc1
      refine z_iconst (v := (0 : Int32)) dX10_pins_14 kc_0 ?_
      refine z_istore (i := 4) dX10_pins_15 (Nat.le_of_ble_eq_true rfl) rfl ?_
      refine sX10_pins_L17 M c1 v3 NF _ _ h (fun w6 w7 h => ?_)
      refine z_iinc (i := 3) (v := (v3 + (1 : Int32))) dX10_pins_48 rfl (iinc_k kc_1) (Nat.le_of_ble_eq_true rfl) rfl ?_
      refine z_goto (tgt := 4) dX10_pins_51 rfl ?_
      refine z_fgt (i := 4) ?_
      exact ih _ _ h hK
set_option maxRecDepth 20000 in
set_option maxHeartbeats 2000000 in
theorem sX10_pins {wv : Nat} (M : Mm) (x1 : Int32) {res : Int32} (h : fX10_pins M x1 = some res) : TF (wv + 1) yX10_pins cX10_pins 5 (some .int) 2 [.inr (18, 0, 0), .inl (.int x1)] M (some (.int res)) M := by
  rw [fX10_pins] at h
  refine TF.go (n := 3) (ls := [some (.inr (18, 0, 0)), some (.inl (.int x1)), none, none, none]) rfl rfl rfl rfl rfl ?_
  refine z_iconst (v := (0 : Int32)) dX10_pins_0 kc_0 ?_
  refine z_istore_n (i := 2) dX10_pins_1 rfl (Nat.le_of_ble_eq_true rfl) rfl ?_
  refine z_iconst (v := (0 : Int32)) dX10_pins_2 kc_0 ?_
  refine z_istore_n (i := 3) dX10_pins_3 rfl (Nat.le_of_ble_eq_true rfl) rfl ?_
  refine sX10_pins_L4 M x1 NF _ _ h (fun w8 w9 h => ?_)
  refine z_iload_n (i := 2) dX10_pins_54 rfl rfl ?_
  cases h
  exact z_iret dX10_pins_55 rfl rfl (Nat.le_refl _) (Nat.le_refl _) ⟨rfl, rfl⟩
theorem dX10_far_0 : decode cX10_far 0 = .ok (.iconst 1, 1) := by decide +kernel
theorem dX10_far_1 : decode cX10_far 1 = .ok (.istore 4, 2) := by decide +kernel
theorem dX10_far_3 : decode cX10_far 3 = .ok (.iload 4, 2) := by decide +kernel
theorem dX10_far_5 : decode cX10_far 5 = .ok (.aload_n 0, 1) := by decide +kernel
theorem dX10_far_6 : decode cX10_far 6 = .ok (.getfield 7, 3) := by decide +kernel
theorem dX10_far_9 : decode cX10_far 9 = .ok (.iconst 0, 1) := by decide +kernel
theorem dX10_far_10 : decode cX10_far 10 = .ok (.iaload, 1) := by decide +kernel
theorem dX10_far_11 : decode cX10_far 11 = .ok (.if_icmp .ge 36, 3) := by decide +kernel
theorem dX10_far_14 : decode cX10_far 14 = .ok (.aload_n 0, 1) := by decide +kernel
theorem dX10_far_15 : decode cX10_far 15 = .ok (.iload_n 1, 1) := by decide +kernel
theorem dX10_far_16 : decode cX10_far 16 = .ok (.iload_n 2, 1) := by decide +kernel
theorem dX10_far_17 : decode cX10_far 17 = .ok (.iload_n 3, 1) := by decide +kernel
theorem dX10_far_18 : decode cX10_far 18 = .ok (.aload_n 0, 1) := by decide +kernel
theorem dX10_far_19 : decode cX10_far 19 = .ok (.getfield 7, 3) := by decide +kernel
theorem dX10_far_22 : decode cX10_far 22 = .ok (.iconst 0, 1) := by decide +kernel
theorem dX10_far_23 : decode cX10_far 23 = .ok (.iaload, 1) := by decide +kernel
theorem dX10_far_24 : decode cX10_far 24 = .ok (.iadd, 1) := by decide +kernel
theorem dX10_far_25 : decode cX10_far 25 = .ok (.iload 4, 2) := by decide +kernel
theorem dX10_far_27 : decode cX10_far 27 = .ok (.isub, 1) := by decide +kernel
theorem dX10_far_28 : decode cX10_far 28 = .ok (.aload_n 0, 1) := by decide +kernel
theorem dX10_far_29 : decode cX10_far 29 = .ok (.getfield 7, 3) := by decide +kernel
theorem dX10_far_32 : decode cX10_far 32 = .ok (.iconst 0, 1) := by decide +kernel
theorem dX10_far_33 : decode cX10_far 33 = .ok (.iaload, 1) := by decide +kernel
theorem dX10_far_34 : decode cX10_far 34 = .ok (.irem, 1) := by decide +kernel
theorem dX10_far_35 : decode cX10_far 35 = .ok (.invokevirtual 93, 3) := by decide +kernel
theorem dX10_far_38 : decode cX10_far 38 = .ok (.ifCond .ne 9, 3) := by decide +kernel
theorem dX10_far_41 : decode cX10_far 41 = .ok (.iinc 4 1, 3) := by decide +kernel
theorem dX10_far_44 : decode cX10_far 44 = .ok (.goto (-41), 3) := by decide +kernel
theorem dX10_far_47 : decode cX10_far 47 = .ok (.iload 4, 2) := by decide +kernel
theorem dX10_far_49 : decode cX10_far 49 = .ok (.ireturn, 1) := by decide +kernel
def fX10_far_L3 (M : Mm) (c1 : Int32) (c2 : Int32) (c3 : Int32) (K : Int32 → Option Int32) : Nat → Int32 → Option Int32
  | 0, _ => none
  | n + 1, v4 => if (M.1 (19, 0, 0) 0) ≤ v4 then K v4 else if (M.1 (19, 0, 0) 0) = 0 then none else (fX10_has M c1 c2 (((c3 + (M.1 (19, 0, 0) 0)) - v4) - ((c3 + (M.1 (19, 0, 0) 0)) - v4) / (M.1 (19, 0, 0) 0) * (M.1 (19, 0, 0) 0))).bind fun q3 => if q3 = 0 then fX10_far_L3 M c1 c2 c3 K n (v4 + (1 : Int32)) else K v4
def fX10_far (M : Mm) (x1 : Int32) (x2 : Int32) (x3 : Int32) : Option Int32 := fX10_far_L3 M x1 x2 x3 (fun w6 => some w6) NF (1 : Int32)
set_option maxRecDepth 20000 in
set_option maxHeartbeats 2000000 in
theorem sX10_far_L3 {wv : Nat} (M : Mm) (c1 : Int32) (c2 : Int32) (c3 : Int32) {res : Int32} {K : Int32 → Option Int32} : ∀ (n : Nat) (v4 : Int32), fX10_far_L3 M c1 c2 c3 K n v4 = some res →
    (∀ (v4 : Int32), K v4 = some res → Z RX10 cX10_far 5 (some .int) [] "far" (rmD 2 0 0) (QM SH (allR (wv + 1)) 0 0 (fun v M9 => v = some (.int res) ∧ M9 = M) (fun _ _ => False)) (allR (wv + 1)) SH 0 0 47 [some (.inr (18, 0, 0)), some (.inl (.int c1)), some (.inl (.int c2)), some (.inl (.int c3)), some (.inl (.int v4))] [] M) → Z RX10 cX10_far 5 (some .int) [] "far" (rmD 2 0 0) (QM SH (allR (wv + 1)) 0 0 (fun v M9 => v = some (.int res) ∧ M9 = M) (fun _ _ => False)) (allR (wv + 1)) SH 0 0 3 [some (.inr (18, 0, 0)), some (.inl (.int c1)), some (.inl (.int c2)), some (.inl (.int c3)), some (.inl (.int v4))] [] M := by
  intro n
  induction n with
  | zero => intro v4 h; cases h
  | succ n ih =>
    intro v4 h hK
    rw [fX10_far_L3] at h
    refine z_iload (i := 4) dX10_far_3 rfl ?_
    refine z_aload_n (i := 0) dX10_far_5 rfl rfl ?_
    refine z_getR (r' := (19, 0, 0)) dX10_far_6 fl_X10_7 mk18 rfl rfl ?_
    refine z_iconst (v := (0 : Int32)) dX10_far_9 kc_0 ?_
    refine z_iald (x := (M.1 (19, 0, 0) 0)) dX10_far_10 (m19 _ (Nat.le_of_ble_eq_true rfl)) rfl (by decide) rfl ?_
    refine z_icmp_ge (tgt := 47) dX10_far_11 rfl (fun hc1 => ?_) (fun hc1 => ?_)
    · have h := it_t h hc1
      exact hK _ h
    · have h := it_f h hc1
      refine z_aload_n (i := 0) dX10_far_14 rfl rfl ?_
      refine z_iload_n (i := 1) dX10_far_15 rfl rfl ?_
      refine z_iload_n (i := 2) dX10_far_16 rfl rfl ?_
      refine z_iload_n (i := 3) dX10_far_17 rfl rfl ?_
      refine z_aload_n (i := 0) dX10_far_18 rfl rfl ?_
      refine z_getR (r' := (19, 0, 0)) dX10_far_19 fl_X10_7 mk18 rfl rfl ?_
      refine z_iconst (v := (0 : Int32)) dX10_far_22 kc_0 ?_
      refine z_iald (x := (M.1 (19, 0, 0) 0)) dX10_far_23 (m19 _ (Nat.le_of_ble_eq_true rfl)) rfl (by decide) rfl ?_
      refine z_iadd dX10_far_24 ?_
      refine z_iload (i := 4) dX10_far_25 rfl ?_
      refine z_isub dX10_far_27 ?_
      refine z_aload_n (i := 0) dX10_far_28 rfl rfl ?_
      refine z_getR (r' := (19, 0, 0)) dX10_far_29 fl_X10_7 mk18 rfl rfl ?_
      refine z_iconst (v := (0 : Int32)) dX10_far_32 kc_0 ?_
      refine z_iald (x := (M.1 (19, 0, 0) 0)) dX10_far_33 (m19 _ (Nat.le_of_ble_eq_true rfl)) rfl (by decide) rfl ?_
      obtain ⟨hc2, h⟩ := chk h
      refine z_irem dX10_far_34 hc2 ?_
      obtain ⟨q3, hq4, h⟩ := bnd h
      refine z_fVi (sX10_has M c1 c2 (((c3 + (M.1 (19, 0, 0) 0)) - v4) - ((c3 + (M.1 (19, 0, 0) 0)) - v4) / (M.1 (19, 0, 0) 0) * (M.1 (19, 0, 0) 0)) hq4) dX10_far_35 ml_X10_93 cd_X10_has mk18 rfl rfl rfl rfl rfl rfl ?_
      refine z_if_ne (tgt := 47) dX10_far_38 rfl (fun hc5 => ?_) (fun hc5 => ?_)
      · have h := it_f h hc5
        exact hK _ h
      · have h := it_t h hc5
        refine z_iinc (i := 4) (v := (v4 + (1 : Int32))) dX10_far_41 rfl (iinc_k kc_1) (Nat.le_of_ble_eq_true rfl) rfl ?_
        refine z_goto (tgt := 3) dX10_far_44 rfl ?_
        exact ih _ h hK
set_option maxRecDepth 20000 in
set_option maxHeartbeats 2000000 in
theorem sX10_far {wv : Nat} (M : Mm) (x1 : Int32) (x2 : Int32) (x3 : Int32) {res : Int32} (h : fX10_far M x1 x2 x3 = some res) : TF (wv + 1) yX10_far cX10_far 5 (some .int) 2 [.inr (18, 0, 0), .inl (.int x1), .inl (.int x2), .inl (.int x3)] M (some (.int res)) M := by
  rw [fX10_far] at h
  refine TF.go (n := 1) (ls := [some (.inr (18, 0, 0)), some (.inl (.int x1)), some (.inl (.int x2)), some (.inl (.int x3)), none]) rfl rfl rfl rfl rfl ?_
  refine z_iconst (v := (1 : Int32)) dX10_far_0 kc_1 ?_
  refine z_istore (i := 4) dX10_far_1 (Nat.le_of_ble_eq_true rfl) rfl ?_
  refine sX10_far_L3 M x1 x2 x3 NF _ h (fun w6 h => ?_)
  refine z_iload (i := 4) dX10_far_47 rfl ?_
  cases h
  exact z_iret dX10_far_49 rfl rfl (Nat.le_refl _) (Nat.le_refl _) ⟨rfl, rfl⟩
theorem dX10_isClose_0 : decode cX10_isClose 0 = .ok (.aload_n 0, 1) := by decide +kernel
theorem dX10_isClose_1 : decode cX10_isClose 1 = .ok (.iload_n 1, 1) := by decide +kernel
theorem dX10_isClose_2 : decode cX10_isClose 2 = .ok (.iload_n 2, 1) := by decide +kernel
theorem dX10_isClose_3 : decode cX10_isClose 3 = .ok (.iload_n 3, 1) := by decide +kernel
theorem dX10_isClose_4 : decode cX10_isClose 4 = .ok (.invokevirtual 93, 3) := by decide +kernel
theorem dX10_isClose_7 : decode cX10_isClose 7 = .ok (.ifCond .eq 23, 3) := by decide +kernel
theorem dX10_isClose_10 : decode cX10_isClose 10 = .ok (.aload_n 0, 1) := by decide +kernel
theorem dX10_isClose_11 : decode cX10_isClose 11 = .ok (.iload_n 1, 1) := by decide +kernel
theorem dX10_isClose_12 : decode cX10_isClose 12 = .ok (.iload_n 2, 1) := by decide +kernel
theorem dX10_isClose_13 : decode cX10_isClose 13 = .ok (.iload_n 3, 1) := by decide +kernel
theorem dX10_isClose_14 : decode cX10_isClose 14 = .ok (.invokevirtual 96, 3) := by decide +kernel
theorem dX10_isClose_17 : decode cX10_isClose 17 = .ok (.aload_n 0, 1) := by decide +kernel
theorem dX10_isClose_18 : decode cX10_isClose 18 = .ok (.iload_n 2, 1) := by decide +kernel
theorem dX10_isClose_19 : decode cX10_isClose 19 = .ok (.iconst 2, 1) := by decide +kernel
theorem dX10_isClose_20 : decode cX10_isClose 20 = .ok (.invokevirtual 90, 3) := by decide +kernel
theorem dX10_isClose_23 : decode cX10_isClose 23 = .ok (.if_icmp .ge 7, 3) := by decide +kernel
theorem dX10_isClose_26 : decode cX10_isClose 26 = .ok (.iconst 1, 1) := by decide +kernel
theorem dX10_isClose_27 : decode cX10_isClose 27 = .ok (.goto 4, 3) := by decide +kernel
theorem dX10_isClose_30 : decode cX10_isClose 30 = .ok (.iconst 0, 1) := by decide +kernel
theorem dX10_isClose_31 : decode cX10_isClose 31 = .ok (.ireturn, 1) := by decide +kernel
def fX10_isClose (M : Mm) (x1 : Int32) (x2 : Int32) (x3 : Int32) : Option Int32 := (fX10_has M x1 x2 x3).bind fun q1 => if q1 = 0 then some (0 : Int32) else (fX10_far M x1 x2 x3).bind fun q4 => (fX10_of M x2 (2 : Int32)).bind fun q6 => if q6 ≤ q4 then some (0 : Int32) else some (1 : Int32)
set_option maxRecDepth 20000 in
set_option maxHeartbeats 2000000 in
theorem sX10_isClose {wv : Nat} (M : Mm) (x1 : Int32) (x2 : Int32) (x3 : Int32) {res : Int32} (h : fX10_isClose M x1 x2 x3 = some res) : TF (wv + 1) yX10_isClose cX10_isClose 4 (some .boolean) 3 [.inr (18, 0, 0), .inl (.int x1), .inl (.int x2), .inl (.int x3)] M (some (.int res)) M := by
  rw [fX10_isClose] at h
  refine TF.go (n := 0) (ls := [some (.inr (18, 0, 0)), some (.inl (.int x1)), some (.inl (.int x2)), some (.inl (.int x3))]) rfl rfl rfl rfl rfl ?_
  refine z_aload_n (i := 0) dX10_isClose_0 rfl rfl ?_
  refine z_iload_n (i := 1) dX10_isClose_1 rfl rfl ?_
  refine z_iload_n (i := 2) dX10_isClose_2 rfl rfl ?_
  refine z_iload_n (i := 3) dX10_isClose_3 rfl rfl ?_
  obtain ⟨q1, hq2, h⟩ := bnd h
  refine z_fVi (sX10_has M x1 x2 x3 hq2) dX10_isClose_4 ml_X10_93 cd_X10_has mk18 rfl rfl rfl rfl rfl rfl ?_
  refine z_if_eq (tgt := 30) dX10_isClose_7 rfl (fun hc3 => ?_) (fun hc3 => ?_)
  · have h := it_t h hc3
    refine z_iconst (v := (0 : Int32)) dX10_isClose_30 kc_0 ?_
    cases h
    exact z_iret dX10_isClose_31 rfl rfl (Nat.le_refl _) (Nat.le_refl _) ⟨rfl, rfl⟩
  · have h := it_f h hc3
    refine z_aload_n (i := 0) dX10_isClose_10 rfl rfl ?_
    refine z_iload_n (i := 1) dX10_isClose_11 rfl rfl ?_
    refine z_iload_n (i := 2) dX10_isClose_12 rfl rfl ?_
    refine z_iload_n (i := 3) dX10_isClose_13 rfl rfl ?_
    obtain ⟨q4, hq5, h⟩ := bnd h
    refine z_fVi (sX10_far M x1 x2 x3 hq5) dX10_isClose_14 ml_X10_96 cd_X10_far mk18 rfl rfl rfl rfl rfl rfl ?_
    refine z_aload_n (i := 0) dX10_isClose_17 rfl rfl ?_
    refine z_iload_n (i := 2) dX10_isClose_18 rfl rfl ?_
    refine z_iconst (v := (2 : Int32)) dX10_isClose_19 kc_2 ?_
    obtain ⟨q6, hq7, h⟩ := bnd h
    refine z_fVi (sX10_of M x2 (2 : Int32) hq7) dX10_isClose_20 ml_X10_90 cd_X10_of mk18 rfl rfl rfl rfl rfl rfl ?_
    refine z_icmp_ge (tgt := 30) dX10_isClose_23 rfl (fun hc8 => ?_) (fun hc8 => ?_)
    · have h := it_t h hc8
      refine z_iconst (v := (0 : Int32)) dX10_isClose_30 kc_0 ?_
      cases h
      exact z_iret dX10_isClose_31 rfl rfl (Nat.le_refl _) (Nat.le_refl _) ⟨rfl, rfl⟩
    · have h := it_f h hc8
      refine z_iconst (v := (1 : Int32)) dX10_isClose_26 kc_1 ?_
      refine z_goto (tgt := 31) dX10_isClose_27 rfl ?_
      cases h
      exact z_iret dX10_isClose_31 rfl rfl (Nat.le_refl _) (Nat.le_refl _) ⟨rfl, rfl⟩
theorem dX10_sound_0 : decode cX10_sound 0 = .ok (.aload_n 0, 1) := by decide +kernel
theorem dX10_sound_1 : decode cX10_sound 1 = .ok (.aload_n 0, 1) := by decide +kernel
theorem dX10_sound_2 : decode cX10_sound 2 = .ok (.getfield 7, 3) := by decide +kernel
theorem dX10_sound_5 : decode cX10_sound 5 = .ok (.iconst 4, 1) := by decide +kernel
theorem dX10_sound_6 : decode cX10_sound 6 = .ok (.iaload, 1) := by decide +kernel
theorem dX10_sound_7 : decode cX10_sound 7 = .ok (.iload_n 1, 1) := by decide +kernel
theorem dX10_sound_8 : decode cX10_sound 8 = .ok (.aload_n 0, 1) := by decide +kernel
theorem dX10_sound_9 : decode cX10_sound 9 = .ok (.getfield 7, 3) := by decide +kernel
theorem dX10_sound_12 : decode cX10_sound 12 = .ok (.iconst 5, 1) := by decide +kernel
theorem dX10_sound_13 : decode cX10_sound 13 = .ok (.iaload, 1) := by decide +kernel
theorem dX10_sound_14 : decode cX10_sound 14 = .ok (.invokevirtual 93, 3) := by decide +kernel
theorem dX10_sound_17 : decode cX10_sound 17 = .ok (.ifCond .ne 5, 3) := by decide +kernel
theorem dX10_sound_20 : decode cX10_sound 20 = .ok (.iconst 0, 1) := by decide +kernel
theorem dX10_sound_21 : decode cX10_sound 21 = .ok (.ireturn, 1) := by decide +kernel
theorem dX10_sound_22 : decode cX10_sound 22 = .ok (.aload_n 0, 1) := by decide +kernel
theorem dX10_sound_23 : decode cX10_sound 23 = .ok (.iload_n 1, 1) := by decide +kernel
theorem dX10_sound_24 : decode cX10_sound 24 = .ok (.invokevirtual 100, 3) := by decide +kernel
theorem dX10_sound_27 : decode cX10_sound 27 = .ok (.ifCond .eq 5, 3) := by decide +kernel
theorem dX10_sound_30 : decode cX10_sound 30 = .ok (.iconst 1, 1) := by decide +kernel
theorem dX10_sound_31 : decode cX10_sound 31 = .ok (.ireturn, 1) := by decide +kernel
theorem dX10_sound_32 : decode cX10_sound 32 = .ok (.aload_n 0, 1) := by decide +kernel
theorem dX10_sound_33 : decode cX10_sound 33 = .ok (.iload_n 1, 1) := by decide +kernel
theorem dX10_sound_34 : decode cX10_sound 34 = .ok (.iconst 5, 1) := by decide +kernel
theorem dX10_sound_35 : decode cX10_sound 35 = .ok (.invokevirtual 90, 3) := by decide +kernel
theorem dX10_sound_38 : decode cX10_sound 38 = .ok (.aload_n 0, 1) := by decide +kernel
theorem dX10_sound_39 : decode cX10_sound 39 = .ok (.iload_n 1, 1) := by decide +kernel
theorem dX10_sound_40 : decode cX10_sound 40 = .ok (.iconst 2, 1) := by decide +kernel
theorem dX10_sound_41 : decode cX10_sound 41 = .ok (.invokevirtual 90, 3) := by decide +kernel
theorem dX10_sound_44 : decode cX10_sound 44 = .ok (.if_icmp .lt 7, 3) := by decide +kernel
theorem dX10_sound_47 : decode cX10_sound 47 = .ok (.iconst 2, 1) := by decide +kernel
theorem dX10_sound_48 : decode cX10_sound 48 = .ok (.goto 4, 3) := by decide +kernel
theorem dX10_sound_51 : decode cX10_sound 51 = .ok (.iconst 3, 1) := by decide +kernel
theorem dX10_sound_52 : decode cX10_sound 52 = .ok (.ireturn, 1) := by decide +kernel
def fX10_sound (M : Mm) (x1 : Int32) : Option Int32 := (fX10_has M (M.1 (19, 0, 0) 4) x1 (M.1 (19, 0, 0) 5)).bind fun q1 => if q1 = 0 then some (0 : Int32) else (fX10_isBad M x1).bind fun q4 => if q4 = 0 then ((fX10_of M x1 (5 : Int32)).bind fun q7 => (fX10_of M x1 (2 : Int32)).bind fun q9 => if q7 < q9 then some (3 : Int32) else some (2 : Int32)) else some (1 : Int32)
set_option maxRecDepth 20000 in
set_option maxHeartbeats 2000000 in
theorem sX10_sound {wv : Nat} (M : Mm) (x1 : Int32) {res : Int32} (h : fX10_sound M x1 = some res) : TF (wv + 1) yX10_sound cX10_sound 2 (some .int) 2 [.inr (18, 0, 0), .inl (.int x1)] M (some (.int res)) M := by
  rw [fX10_sound] at h
  refine TF.go (n := 0) (ls := [some (.inr (18, 0, 0)), some (.inl (.int x1))]) rfl rfl rfl rfl rfl ?_
  refine z_aload_n (i := 0) dX10_sound_0 rfl rfl ?_
  refine z_aload_n (i := 0) dX10_sound_1 rfl rfl ?_
  refine z_getR (r' := (19, 0, 0)) dX10_sound_2 fl_X10_7 mk18 rfl rfl ?_
  refine z_iconst (v := (4 : Int32)) dX10_sound_5 kc_4 ?_
  refine z_iald (x := (M.1 (19, 0, 0) 4)) dX10_sound_6 (m19 _ (Nat.le_of_ble_eq_true rfl)) rfl (by decide) rfl ?_
  refine z_iload_n (i := 1) dX10_sound_7 rfl rfl ?_
  refine z_aload_n (i := 0) dX10_sound_8 rfl rfl ?_
  refine z_getR (r' := (19, 0, 0)) dX10_sound_9 fl_X10_7 mk18 rfl rfl ?_
  refine z_iconst (v := (5 : Int32)) dX10_sound_12 kc_5 ?_
  refine z_iald (x := (M.1 (19, 0, 0) 5)) dX10_sound_13 (m19 _ (Nat.le_of_ble_eq_true rfl)) rfl (by decide) rfl ?_
  obtain ⟨q1, hq2, h⟩ := bnd h
  refine z_fVi (sX10_has M (M.1 (19, 0, 0) 4) x1 (M.1 (19, 0, 0) 5) hq2) dX10_sound_14 ml_X10_93 cd_X10_has mk18 rfl rfl rfl rfl rfl rfl ?_
  refine z_if_ne (tgt := 22) dX10_sound_17 rfl (fun hc3 => ?_) (fun hc3 => ?_)
  · have h := it_f h hc3
    refine z_aload_n (i := 0) dX10_sound_22 rfl rfl ?_
    refine z_iload_n (i := 1) dX10_sound_23 rfl rfl ?_
    obtain ⟨q4, hq5, h⟩ := bnd h
    refine z_fVi (sX10_isBad M x1 hq5) dX10_sound_24 ml_X10_100 cd_X10_isBad mk18 rfl rfl rfl rfl rfl rfl ?_
    refine z_if_eq (tgt := 32) dX10_sound_27 rfl (fun hc6 => ?_) (fun hc6 => ?_)
    · have h := it_t h hc6
      refine z_aload_n (i := 0) dX10_sound_32 rfl rfl ?_
      refine z_iload_n (i := 1) dX10_sound_33 rfl rfl ?_
      refine z_iconst (v := (5 : Int32)) dX10_sound_34 kc_5 ?_
      obtain ⟨q7, hq8, h⟩ := bnd h
      refine z_fVi (sX10_of M x1 (5 : Int32) hq8) dX10_sound_35 ml_X10_90 cd_X10_of mk18 rfl rfl rfl rfl rfl rfl ?_
      refine z_aload_n (i := 0) dX10_sound_38 rfl rfl ?_
      refine z_iload_n (i := 1) dX10_sound_39 rfl rfl ?_
      refine z_iconst (v := (2 : Int32)) dX10_sound_40 kc_2 ?_
      obtain ⟨q9, hq10, h⟩ := bnd h
      refine z_fVi (sX10_of M x1 (2 : Int32) hq10) dX10_sound_41 ml_X10_90 cd_X10_of mk18 rfl rfl rfl rfl rfl rfl ?_
      refine z_icmp_lt (tgt := 51) dX10_sound_44 rfl (fun hc11 => ?_) (fun hc11 => ?_)
      · have h := it_t h hc11
        refine z_iconst (v := (3 : Int32)) dX10_sound_51 kc_3 ?_
        cases h
        exact z_iret dX10_sound_52 rfl rfl (Nat.le_refl _) (Nat.le_refl _) ⟨rfl, rfl⟩
      · have h := it_f h hc11
        refine z_iconst (v := (2 : Int32)) dX10_sound_47 kc_2 ?_
        refine z_goto (tgt := 52) dX10_sound_48 rfl ?_
        cases h
        exact z_iret dX10_sound_52 rfl rfl (Nat.le_refl _) (Nat.le_refl _) ⟨rfl, rfl⟩
    · have h := it_f h hc6
      refine z_iconst (v := (1 : Int32)) dX10_sound_30 kc_1 ?_
      cases h
      exact z_iret dX10_sound_31 rfl rfl (Nat.le_refl _) (Nat.le_refl _) ⟨rfl, rfl⟩
  · have h := it_t h hc3
    refine z_iconst (v := (0 : Int32)) dX10_sound_20 kc_0 ?_
    cases h
    exact z_iret dX10_sound_21 rfl rfl (Nat.le_refl _) (Nat.le_refl _) ⟨rfl, rfl⟩
