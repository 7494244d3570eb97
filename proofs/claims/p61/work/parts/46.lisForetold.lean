theorem dL_isForetold_0 : decode cL_isForetold 0 = .ok (.aload_n 1, 1) := by decide +kernel
theorem dL_isForetold_1 : decode cL_isForetold 1 = .ok (.invokevirtual 250, 3) := by decide +kernel
theorem dL_isForetold_4 : decode cL_isForetold 4 = .ok (.astore 4, 2) := by decide +kernel
theorem dL_isForetold_6 : decode cL_isForetold 6 = .ok (.iconst (-1), 1) := by decide +kernel
theorem dL_isForetold_7 : decode cL_isForetold 7 = .ok (.istore 5, 2) := by decide +kernel
theorem dL_isForetold_9 : decode cL_isForetold 9 = .ok (.iconst 0, 1) := by decide +kernel
theorem dL_isForetold_10 : decode cL_isForetold 10 = .ok (.istore 6, 2) := by decide +kernel
theorem dL_isForetold_12 : decode cL_isForetold 12 = .ok (.iconst 1, 1) := by decide +kernel
theorem dL_isForetold_13 : decode cL_isForetold 13 = .ok (.istore 7, 2) := by decide +kernel
theorem dL_isForetold_15 : decode cL_isForetold 15 = .ok (.iload 7, 2) := by decide +kernel
theorem dL_isForetold_17 : decode cL_isForetold 17 = .ok (.ifCond .eq 38, 3) := by decide +kernel
theorem dL_isForetold_20 : decode cL_isForetold 20 = .ok (.iload 5, 2) := by decide +kernel
theorem dL_isForetold_22 : decode cL_isForetold 22 = .ok (.ifCond .ge 33, 3) := by decide +kernel
theorem dL_isForetold_25 : decode cL_isForetold 25 = .ok (.aload 4, 2) := by decide +kernel
theorem dL_isForetold_27 : decode cL_isForetold 27 = .ok (.iload_n 2, 1) := by decide +kernel
theorem dL_isForetold_28 : decode cL_isForetold 28 = .ok (.invokevirtual 128, 3) := by decide +kernel
theorem dL_isForetold_31 : decode cL_isForetold 31 = .ok (.ifCond .eq 8, 3) := by decide +kernel
theorem dL_isForetold_34 : decode cL_isForetold 34 = .ok (.iload 6, 2) := by decide +kernel
theorem dL_isForetold_36 : decode cL_isForetold 36 = .ok (.goto 4, 3) := by decide +kernel
theorem dL_isForetold_39 : decode cL_isForetold 39 = .ok (.iconst (-1), 1) := by decide +kernel
theorem dL_isForetold_40 : decode cL_isForetold 40 = .ok (.istore 5, 2) := by decide +kernel
theorem dL_isForetold_42 : decode cL_isForetold 42 = .ok (.aload 4, 2) := by decide +kernel
theorem dL_isForetold_44 : decode cL_isForetold 44 = .ok (.invokevirtual 254, 3) := by decide +kernel
theorem dL_isForetold_47 : decode cL_isForetold 47 = .ok (.istore 7, 2) := by decide +kernel
theorem dL_isForetold_49 : decode cL_isForetold 49 = .ok (.iinc 6 1, 3) := by decide +kernel
theorem dL_isForetold_52 : decode cL_isForetold 52 = .ok (.goto (-37), 3) := by decide +kernel
theorem dL_isForetold_55 : decode cL_isForetold 55 = .ok (.aload_n 1, 1) := by decide +kernel
theorem dL_isForetold_56 : decode cL_isForetold 56 = .ok (.invokevirtual 250, 3) := by decide +kernel
theorem dL_isForetold_59 : decode cL_isForetold 59 = .ok (.astore 8, 2) := by decide +kernel
theorem dL_isForetold_61 : decode cL_isForetold 61 = .ok (.aload 8, 2) := by decide +kernel
theorem dL_isForetold_63 : decode cL_isForetold 63 = .ok (.iload_n 3, 1) := by decide +kernel
theorem dL_isForetold_64 : decode cL_isForetold 64 = .ok (.invokevirtual 258, 3) := by decide +kernel
theorem dL_isForetold_67 : decode cL_isForetold 67 = .ok (.istore 9, 2) := by decide +kernel
theorem dL_isForetold_69 : decode cL_isForetold 69 = .ok (.aload_n 0, 1) := by decide +kernel
theorem dL_isForetold_70 : decode cL_isForetold 70 = .ok (.iload_n 2, 1) := by decide +kernel
theorem dL_isForetold_71 : decode cL_isForetold 71 = .ok (.invokevirtual 261, 3) := by decide +kernel
theorem dL_isForetold_74 : decode cL_isForetold 74 = .ok (.iload 5, 2) := by decide +kernel
theorem dL_isForetold_76 : decode cL_isForetold 76 = .ok (.if_icmp .ne 43, 3) := by decide +kernel
theorem dL_isForetold_79 : decode cL_isForetold 79 = .ok (.aload_n 0, 1) := by decide +kernel
theorem dL_isForetold_80 : decode cL_isForetold 80 = .ok (.iload_n 3, 1) := by decide +kernel
theorem dL_isForetold_81 : decode cL_isForetold 81 = .ok (.invokevirtual 264, 3) := by decide +kernel
theorem dL_isForetold_84 : decode cL_isForetold 84 = .ok (.aload 8, 2) := by decide +kernel
theorem dL_isForetold_86 : decode cL_isForetold 86 = .ok (.getfield 219, 3) := by decide +kernel
theorem dL_isForetold_89 : decode cL_isForetold 89 = .ok (.aload_n 1, 1) := by decide +kernel
theorem dL_isForetold_90 : decode cL_isForetold 90 = .ok (.getfield 219, 3) := by decide +kernel
theorem dL_isForetold_93 : decode cL_isForetold 93 = .ok (.isub, 1) := by decide +kernel
theorem dL_isForetold_94 : decode cL_isForetold 94 = .ok (.if_icmp .ne 25, 3) := by decide +kernel
theorem dL_isForetold_97 : decode cL_isForetold 97 = .ok (.aload_n 0, 1) := by decide +kernel
theorem dL_isForetold_98 : decode cL_isForetold 98 = .ok (.iload_n 3, 1) := by decide +kernel
theorem dL_isForetold_99 : decode cL_isForetold 99 = .ok (.invokevirtual 267, 3) := by decide +kernel
theorem dL_isForetold_102 : decode cL_isForetold 102 = .ok (.aload 8, 2) := by decide +kernel
theorem dL_isForetold_104 : decode cL_isForetold 104 = .ok (.getfield 225, 3) := by decide +kernel
theorem dL_isForetold_107 : decode cL_isForetold 107 = .ok (.aload_n 1, 1) := by decide +kernel
theorem dL_isForetold_108 : decode cL_isForetold 108 = .ok (.getfield 225, 3) := by decide +kernel
theorem dL_isForetold_111 : decode cL_isForetold 111 = .ok (.isub, 1) := by decide +kernel
theorem dL_isForetold_112 : decode cL_isForetold 112 = .ok (.if_icmp .ne 7, 3) := by decide +kernel
theorem dL_isForetold_115 : decode cL_isForetold 115 = .ok (.iconst 1, 1) := by decide +kernel
theorem dL_isForetold_116 : decode cL_isForetold 116 = .ok (.goto 4, 3) := by decide +kernel
theorem dL_isForetold_119 : decode cL_isForetold 119 = .ok (.iconst 0, 1) := by decide +kernel
theorem dL_isForetold_120 : decode cL_isForetold 120 = .ok (.ireturn, 1) := by decide +kernel
def fL_isForetold_L15 (k : Nat) (c2 : Int32) (c3 : Int32) (K : Int32 → Int32 → Int32 → Mm → Option (Int32 × Mm)) : Nat → Int32 → Int32 → Int32 → Mm → Option (Int32 × Mm)
  | 0, _, _, _, _ => none
  | n + 1, v5, v6, v7, M => if v7 = 0 then K v5 v6 v7 M else if 0 ≤ v5 then K v5 v6 v7 M else (fX10_isBad M 51 c2).bind fun q5 => if q5 = 0 then ((fX10_step M 51).bind fun q8 => fL_isForetold_L15 k c2 c3 K n (-1 : Int32) (v6 + (1 : Int32)) q8.1 q8.2) else (fX10_step M 51).bind fun q10 => fL_isForetold_L15 k c2 c3 K n v6 (v6 + (1 : Int32)) q10.1 q10.2
def fL_isForetold (M : Mm) (k : Nat) (x3 : Int32) (x4 : Int32) : Option (Int32 × Mm) := (fX10_copy (ow0M (mN M (18, 51, 0)) 51) k 51).bind fun q1 => fL_isForetold_L15 k x3 x4 (fun w12 w13 w14 M15 => (fX10_copy (ow0M (mN M15 (18, 52, 0)) 52) k 52).bind fun q16 => (fX10_plays q16 52 x4).bind fun q18 => (fX9_stepsUntilBroken q18.2 x3).bind fun q20 => if q20.1 = w12 then ((fX9_notesIn q20.2 x4).bind fun q23 => if q23.1 = ((q23.2.1 (18, 52, 0) 6) - (q23.2.1 (18, k, 0) 6)) then ((fX9_squeaksIn q23.2 x4).bind fun q26 => if q26.1 = ((q26.2.1 (18, 52, 0) 7) - (q26.2.1 (18, k, 0) 7)) then some ((1 : Int32), q26.2) else some ((0 : Int32), q26.2)) else some ((0 : Int32), q23.2)) else some ((0 : Int32), q20.2)) NF (-1 : Int32) (0 : Int32) (1 : Int32) q1
set_option maxRecDepth 20000 in
set_option maxHeartbeats 4000000 in
theorem sL_isForetold_L15 {w0 wv : Wv} (k : Nat) (c2 : Int32) (c3 : Int32) (hw : SubW w0 wv) (owk : OwI wv k) (ow51 : OwI wv 51) (hV : NoV w0 0) {res : (Int32 × Mm)} {K : Int32 → Int32 → Int32 → Mm → Option (Int32 × Mm)} {CB SB : Nat} (hcb : CB ≤ 16) (hsb : SB ≤ 4788) : ∀ (n : Nat) (v5 : Int32) (v6 : Int32) (v7 : Int32) (M : Mm) (c s : Nat), c + n * 0 ≤ CB → s + n * 0 ≤ SB → fL_isForetold_L15 k c2 c3 K n v5 v6 v7 M = some res →
    (∀ (v5 : Int32) (v6 : Int32) (v7 : Int32) (M : Mm) (c s : Nat), c ≤ CB → s ≤ SB → K v5 v6 v7 M = some res → Z RL cL_isForetold 10 (some .boolean) [] "isForetold" (rmD 5 16 4788) (QM SH (allR w0) 16 4788 (fun v M9 => v = some (.int res.1) ∧ M9 = res.2) (fun _ _ => False)) (allR wv) SH c s 55 [some (.inr (0, 0, 0)), some (.inr (18, k, 0)), some (.inl (.int c2)), some (.inl (.int c3)), some (.inr (18, 51, 0)), some (.inl (.int v5)), some (.inl (.int v6)), some (.inl (.int v7)), none, none] [] M) → Z RL cL_isForetold 10 (some .boolean) [] "isForetold" (rmD 5 16 4788) (QM SH (allR w0) 16 4788 (fun v M9 => v = some (.int res.1) ∧ M9 = res.2) (fun _ _ => False)) (allR wv) SH c s 15 [some (.inr (0, 0, 0)), some (.inr (18, k, 0)), some (.inl (.int c2)), some (.inl (.int c3)), some (.inr (18, 51, 0)), some (.inl (.int v5)), some (.inl (.int v6)), some (.inl (.int v7)), none, none] [] M := by
  intro n
  induction n with
  | zero => intro v5 v6 v7 M c s _ _ h; cases h
  | succ n ih =>
    intro v5 v6 v7 M c s hc hs h hK
    have qv := qm_N (mc := 16) (ms := 4788) (sh := SH) (PR := fun v M9 => v = some (.int res.1) ∧ M9 = res.2) (PX := fun _ _ => False) hV
    rw [fL_isForetold_L15] at h
    refine z_iload (i := 7) dL_isForetold_15 rfl ?_
    refine z_if_eq (tgt := 55) dL_isForetold_17 rfl (fun hc3 => ?_) (fun hc3 => ?_)
    · have h := it_t h hc3
      exact hK _ _ _ _ _ _ (by omega) (by omega) h
    · have h := it_f h hc3
      refine z_iload (i := 5) dL_isForetold_20 rfl ?_
      refine z_if_ge (tgt := 55) dL_isForetold_22 rfl (fun hc4 => ?_) (fun hc4 => ?_)
      · have h := it_t h hc4
        exact hK _ _ _ _ _ _ (by omega) (by omega) h
      · have h := it_f h hc4
        refine z_aload (i := 4) dL_isForetold_25 rfl ?_
        refine z_iload_n (i := 2) dL_isForetold_27 rfl rfl ?_
        obtain ⟨q5, hq6, h⟩ := bnd h
        refine z_fVi (sX10_isBad M 51 c2 ow51 hq6) dL_isForetold_28 ml_L_128 cd_X10_isBad ow51.1 rfl rfl rfl (rmk_r (by decide) (by decide) (by omega) (by omega)) rfl rfl ?_
        refine z_if_eq (tgt := 39) dL_isForetold_31 rfl (fun hc7 => ?_) (fun hc7 => ?_)
        · have h := it_t h hc7
          refine z_iconst (v := (-1 : Int32)) dL_isForetold_39 kc_m1 ?_
          refine z_istore (i := 5) dL_isForetold_40 (Nat.le_of_ble_eq_true rfl) rfl ?_
          refine z_aload (i := 4) dL_isForetold_42 rfl ?_
          obtain ⟨q8, hq9, h⟩ := bnd h
          refine z_fVi (sX10_step M 51 ow51 hq9) dL_isForetold_44 ml_L_254 cd_X10_step ow51.1 rfl rfl rfl (rmk_r (by decide) (by decide) (by omega) (by omega)) rfl rfl ?_
          refine z_istore (i := 7) dL_isForetold_47 (Nat.le_of_ble_eq_true rfl) rfl ?_
          refine z_iinc (i := 6) (v := (v6 + (1 : Int32))) dL_isForetold_49 rfl (iinc_k kc_1) (Nat.le_of_ble_eq_true rfl) rfl ?_
          refine z_goto (tgt := 15) dL_isForetold_52 rfl ?_
          exact ih _ _ _ _ _ _ (by omega) (by omega) h hK
        · have h := it_f h hc7
          refine z_iload (i := 6) dL_isForetold_34 rfl ?_
          refine z_goto (tgt := 40) dL_isForetold_36 rfl ?_
          refine z_istore (i := 5) dL_isForetold_40 (Nat.le_of_ble_eq_true rfl) rfl ?_
          refine z_aload (i := 4) dL_isForetold_42 rfl ?_
          obtain ⟨q10, hq11, h⟩ := bnd h
          refine z_fVi (sX10_step M 51 ow51 hq11) dL_isForetold_44 ml_L_254 cd_X10_step ow51.1 rfl rfl rfl (rmk_r (by decide) (by decide) (by omega) (by omega)) rfl rfl ?_
          refine z_istore (i := 7) dL_isForetold_47 (Nat.le_of_ble_eq_true rfl) rfl ?_
          refine z_iinc (i := 6) (v := (v6 + (1 : Int32))) dL_isForetold_49 rfl (iinc_k kc_1) (Nat.le_of_ble_eq_true rfl) rfl ?_
          refine z_goto (tgt := 15) dL_isForetold_52 rfl ?_
          exact ih _ _ _ _ _ _ (by omega) (by omega) h hK
set_option maxRecDepth 20000 in
set_option maxHeartbeats 4000000 in
theorem sL_isForetold {wv : Wv} (M : Mm) (k : Nat) (x3 : Int32) (x4 : Int32) (hk : OwI wv k) (hV : NoV wv 0) {res : (Int32 × Mm)} (h : fL_isForetold M k x3 x4 = some res) : TC wv yL_isForetold cL_isForetold 10 (some .boolean) 5 16 4788 [.inr (0, 0, 0), .inr (18, k, 0), .inl (.int x3), .inl (.int x4)] M (some (.int res.1)) res.2 := by
  have qv := qm_N (mc := 16) (ms := 4788) (sh := SH) (PR := fun v M9 => v = some (.int res.1) ∧ M9 = res.2) (PX := fun _ _ => False) hV
  have hkl := ow_lt hV hk
  rw [fL_isForetold] at h
  refine TC.go (n := 6) (ls := [some (.inr (0, 0, 0)), some (.inr (18, k, 0)), some (.inl (.int x3)), some (.inl (.int x4)), none, none, none, none, none, none]) (by decide +kernel) rfl rfl rfl rfl ?_
  refine z_aload_n (i := 1) dL_isForetold_0 rfl rfl ?_
  obtain ⟨q1, hq2, h⟩ := bnd h
  refine z_cGV (sX10_copy M k 51 hk (fr_of hV rfl) (nd_ow (fr_of hV rfl)) hq2) dL_isForetold_1 ml_L_250 cd_X10_copy hk.1 rfl rfl rfl (rq_o (by decide) (by decide) (by omega) (by omega)) rfl rfl (qi_N qv rfl) rfl (by simp [noC, owR] <;> omega) rfl ?_
  refine z_astore (i := 4) dL_isForetold_4 (Nat.le_of_ble_eq_true rfl) rfl ?_
  refine z_iconst (v := (-1 : Int32)) dL_isForetold_6 kc_m1 ?_
  refine z_istore (i := 5) dL_isForetold_7 (Nat.le_of_ble_eq_true rfl) rfl ?_
  refine z_iconst (v := (0 : Int32)) dL_isForetold_9 kc_0 ?_
  refine z_istore (i := 6) dL_isForetold_10 (Nat.le_of_ble_eq_true rfl) rfl ?_
  refine z_iconst (v := (1 : Int32)) dL_isForetold_12 kc_1 ?_
  refine z_istore (i := 7) dL_isForetold_13 (Nat.le_of_ble_eq_true rfl) rfl ?_
  refine sL_isForetold_L15 k x3 x4 (swA) (owU hk) ow0 hV (CB := 0 + 8) (SB := 0 + 2394) (by omega) (by omega) NF _ _ _ _ _ _ (by simp only [Nat.mul_zero]; omega) (by simp only [Nat.mul_zero]; omega) h (fun w12 w13 w14 M15 c8 s8 hc8 hs8 h => z_wid hc8 hs8 ?_)
  refine z_aload_n (i := 1) dL_isForetold_55 rfl rfl ?_
  obtain ⟨q16, hq17, h⟩ := bnd h
  refine z_cGV (sX10_copy M15 k 52 (owU hk) (frU (fr_of hV rfl) rfl) (nd_ow (frU (fr_of hV rfl) rfl)) hq17) dL_isForetold_56 ml_L_250 cd_X10_copy (owU hk).1 rfl rfl rfl (rq_o (by decide) (by decide) (by omega) (by omega)) rfl rfl (qi_N qv rfl) rfl (by simp [noC, owR] <;> omega) rfl ?_
  refine z_astore (i := 8) dL_isForetold_59 (Nat.le_of_ble_eq_true rfl) rfl ?_
  refine z_aload (i := 8) dL_isForetold_61 rfl ?_
  refine z_iload_n (i := 3) dL_isForetold_63 rfl rfl ?_
  obtain ⟨q18, hq19, h⟩ := bnd h
  refine z_fVi (sX10_plays q16 52 x4 ow0 hq19) dL_isForetold_64 ml_L_258 cd_X10_plays ow0.1 rfl rfl rfl (rmk_r (by decide) (by decide) (by omega) (by omega)) rfl rfl ?_
  refine z_istore (i := 9) dL_isForetold_67 (Nat.le_of_ble_eq_true rfl) rfl ?_
  refine z_aload_n (i := 0) dL_isForetold_69 rfl rfl ?_
  refine z_iload_n (i := 2) dL_isForetold_70 rfl rfl ?_
  obtain ⟨q20, hq21, h⟩ := bnd h
  refine z_fVi (sX9_stepsUntilBroken q18.2 x3 hq21) dL_isForetold_71 ml_L_261 cd_X9_stepsUntilBroken mk0 rfl rfl rfl (rmk_r (by decide) (by decide) (by omega) (by omega)) rfl rfl ?_
  refine z_iload (i := 5) dL_isForetold_74 rfl ?_
  refine z_icmp_ne (tgt := 119) dL_isForetold_76 rfl (fun hc22 => ?_) (fun hc22 => ?_)
  · have h := it_f h hc22
    refine z_iconst (v := (0 : Int32)) dL_isForetold_119 kc_0 ?_
    cases h
    refine z_sub (swU swA) ?_
    exact z_iret dL_isForetold_120 rfl rfl (by omega) (by omega) ⟨rfl, rfl⟩
  · have h := it_t h hc22
    refine z_aload_n (i := 0) dL_isForetold_79 rfl rfl ?_
    refine z_iload_n (i := 3) dL_isForetold_80 rfl rfl ?_
    obtain ⟨q23, hq24, h⟩ := bnd h
    refine z_fVi (sX9_notesIn q20.2 x4 hq24) dL_isForetold_81 ml_L_264 cd_X9_notesIn mk0 rfl rfl rfl (rmk_r (by decide) (by decide) (by omega) (by omega)) rfl rfl ?_
    refine z_aload (i := 8) dL_isForetold_84 rfl ?_
    refine z_getIG (x := (q23.2.1 (18, 52, 0) 6)) dL_isForetold_86 fg_L_219 ow0.1 rfl rfl ?_
    refine z_aload_n (i := 1) dL_isForetold_89 rfl rfl ?_
    refine z_getIG (x := (q23.2.1 (18, k, 0) 6)) dL_isForetold_90 fg_L_219 (owU (owU hk)).1 rfl rfl ?_
    refine z_isub dL_isForetold_93 ?_
    refine z_icmp_ne (tgt := 119) dL_isForetold_94 rfl (fun hc25 => ?_) (fun hc25 => ?_)
    · have h := it_f h hc25
      refine z_iconst (v := (0 : Int32)) dL_isForetold_119 kc_0 ?_
      cases h
      refine z_sub (swU swA) ?_
      exact z_iret dL_isForetold_120 rfl rfl (by omega) (by omega) ⟨rfl, rfl⟩
    · have h := it_t h hc25
      refine z_aload_n (i := 0) dL_isForetold_97 rfl rfl ?_
      refine z_iload_n (i := 3) dL_isForetold_98 rfl rfl ?_
      obtain ⟨q26, hq27, h⟩ := bnd h
      refine z_fVi (sX9_squeaksIn q23.2 x4 hq27) dL_isForetold_99 ml_L_267 cd_X9_squeaksIn mk0 rfl rfl rfl (rmk_r (by decide) (by decide) (by omega) (by omega)) rfl rfl ?_
      refine z_aload (i := 8) dL_isForetold_102 rfl ?_
      refine z_getIG (x := (q26.2.1 (18, 52, 0) 7)) dL_isForetold_104 fg_L_225 ow0.1 rfl rfl ?_
      refine z_aload_n (i := 1) dL_isForetold_107 rfl rfl ?_
      refine z_getIG (x := (q26.2.1 (18, k, 0) 7)) dL_isForetold_108 fg_L_225 (owU (owU hk)).1 rfl rfl ?_
      refine z_isub dL_isForetold_111 ?_
      refine z_icmp_ne (tgt := 119) dL_isForetold_112 rfl (fun hc28 => ?_) (fun hc28 => ?_)
      · have h := it_f h hc28
        refine z_iconst (v := (0 : Int32)) dL_isForetold_119 kc_0 ?_
        cases h
        refine z_sub (swU swA) ?_
        exact z_iret dL_isForetold_120 rfl rfl (by omega) (by omega) ⟨rfl, rfl⟩
      · have h := it_t h hc28
        refine z_iconst (v := (1 : Int32)) dL_isForetold_115 kc_1 ?_
        refine z_goto (tgt := 120) dL_isForetold_116 rfl ?_
        cases h
        refine z_sub (swU swA) ?_
        exact z_iret dL_isForetold_120 rfl rfl (by omega) (by omega) ⟨rfl, rfl⟩
