theorem dX9_stepsUntilBroken_0 : decode cX9_stepsUntilBroken 0 = .ok (.aload_n 0, 1) := by decide +kernel
theorem dX9_stepsUntilBroken_1 : decode cX9_stepsUntilBroken 1 = .ok (.getfield 40, 3) := by decide +kernel
theorem dX9_stepsUntilBroken_4 : decode cX9_stepsUntilBroken 4 = .ok (.iload_n 1, 1) := by decide +kernel
theorem dX9_stepsUntilBroken_5 : decode cX9_stepsUntilBroken 5 = .ok (.invokevirtual 214, 3) := by decide +kernel
theorem dX9_stepsUntilBroken_8 : decode cX9_stepsUntilBroken 8 = .ok (.invokestatic 172, 3) := by decide +kernel
theorem dX9_stepsUntilBroken_11 : decode cX9_stepsUntilBroken 11 = .ok (.aload_n 0, 1) := by decide +kernel
theorem dX9_stepsUntilBroken_12 : decode cX9_stepsUntilBroken 12 = .ok (.getfield 44, 3) := by decide +kernel
theorem dX9_stepsUntilBroken_15 : decode cX9_stepsUntilBroken 15 = .ok (.aload_n 0, 1) := by decide +kernel
theorem dX9_stepsUntilBroken_16 : decode cX9_stepsUntilBroken 16 = .ok (.getfield 40, 3) := by decide +kernel
theorem dX9_stepsUntilBroken_19 : decode cX9_stepsUntilBroken 19 = .ok (.invokevirtual 127, 3) := by decide +kernel
theorem dX9_stepsUntilBroken_22 : decode cX9_stepsUntilBroken 22 = .ok (.aload_n 0, 1) := by decide +kernel
theorem dX9_stepsUntilBroken_23 : decode cX9_stepsUntilBroken 23 = .ok (.getfield 44, 3) := by decide +kernel
theorem dX9_stepsUntilBroken_26 : decode cX9_stepsUntilBroken 26 = .ok (.invokevirtual 290, 3) := by decide +kernel
theorem dX9_stepsUntilBroken_29 : decode cX9_stepsUntilBroken 29 = .ok (.istore_n 2, 1) := by decide +kernel
theorem dX9_stepsUntilBroken_30 : decode cX9_stepsUntilBroken 30 = .ok (.iconst 0, 1) := by decide +kernel
theorem dX9_stepsUntilBroken_31 : decode cX9_stepsUntilBroken 31 = .ok (.istore_n 3, 1) := by decide +kernel
theorem dX9_stepsUntilBroken_32 : decode cX9_stepsUntilBroken 32 = .ok (.iload_n 3, 1) := by decide +kernel
theorem dX9_stepsUntilBroken_33 : decode cX9_stepsUntilBroken 33 = .ok (.iload_n 2, 1) := by decide +kernel
theorem dX9_stepsUntilBroken_34 : decode cX9_stepsUntilBroken 34 = .ok (.if_icmp .gt 35, 3) := by decide +kernel
theorem dX9_stepsUntilBroken_37 : decode cX9_stepsUntilBroken 37 = .ok (.aload_n 0, 1) := by decide +kernel
theorem dX9_stepsUntilBroken_38 : decode cX9_stepsUntilBroken 38 = .ok (.getfield 44, 3) := by decide +kernel
theorem dX9_stepsUntilBroken_41 : decode cX9_stepsUntilBroken 41 = .ok (.getfield 217, 3) := by decide +kernel
theorem dX9_stepsUntilBroken_44 : decode cX9_stepsUntilBroken 44 = .ok (.iload_n 1, 1) := by decide +kernel
theorem dX9_stepsUntilBroken_45 : decode cX9_stepsUntilBroken 45 = .ok (.aaload, 1) := by decide +kernel
theorem dX9_stepsUntilBroken_46 : decode cX9_stepsUntilBroken 46 = .ok (.invokevirtual 238, 3) := by decide +kernel
theorem dX9_stepsUntilBroken_49 : decode cX9_stepsUntilBroken 49 = .ok (.ifCond .eq 5, 3) := by decide +kernel
theorem dX9_stepsUntilBroken_52 : decode cX9_stepsUntilBroken 52 = .ok (.iload_n 3, 1) := by decide +kernel
theorem dX9_stepsUntilBroken_53 : decode cX9_stepsUntilBroken 53 = .ok (.ireturn, 1) := by decide +kernel
theorem dX9_stepsUntilBroken_54 : decode cX9_stepsUntilBroken 54 = .ok (.aload_n 0, 1) := by decide +kernel
theorem dX9_stepsUntilBroken_55 : decode cX9_stepsUntilBroken 55 = .ok (.getfield 44, 3) := by decide +kernel
theorem dX9_stepsUntilBroken_58 : decode cX9_stepsUntilBroken 58 = .ok (.iconst 1, 1) := by decide +kernel
theorem dX9_stepsUntilBroken_59 : decode cX9_stepsUntilBroken 59 = .ok (.invokevirtual 293, 3) := by decide +kernel
theorem dX9_stepsUntilBroken_62 : decode cX9_stepsUntilBroken 62 = .ok (.pop, 1) := by decide +kernel
theorem dX9_stepsUntilBroken_63 : decode cX9_stepsUntilBroken 63 = .ok (.iinc 3 1, 3) := by decide +kernel
theorem dX9_stepsUntilBroken_66 : decode cX9_stepsUntilBroken 66 = .ok (.goto (-34), 3) := by decide +kernel
theorem dX9_stepsUntilBroken_69 : decode cX9_stepsUntilBroken 69 = .ok (.iconst (-1), 1) := by decide +kernel
theorem dX9_stepsUntilBroken_70 : decode cX9_stepsUntilBroken 70 = .ok (.ireturn, 1) := by decide +kernel
def fX9_stepsUntilBroken_L32 (c1 : Int32) (c2 : Int32) (K : Int32 → Mm → Option ((Int32 ⊕ Nat) × Mm)) : Nat → Int32 → Mm → Option ((Int32 ⊕ Nat) × Mm)
  | 0, _, _ => none
  | n + 1, v3, M => if c2 < v3 then K v3 M else if c1 < 0 ∨ 12 ≤ c1.toNatClampNeg then none else if (fX8_brokenNow M 1 c1.toNatClampNeg) = 0 then ((fX0_playSteps M 1 (1 : Int32)).bind fun q7 => fX9_stepsUntilBroken_L32 c1 c2 K n (v3 + (1 : Int32)) q7.2) else some (.inl v3, M)
def fX9_stepsUntilBroken (M : Mm) (x1 : Int32) : Option ((Int32 ⊕ Nat) × Mm) := thr (rfz (fX0_toothFault M 0 x1)) M ((fX0_copyFrom M 1 0).bind fun q2 => fX9_stepsUntilBroken_L32 x1 (fX0_playableSteps q2 1) (fun w9 M10 => some (.inl (-1 : Int32), M10)) NF (0 : Int32) q2)
set_option maxRecDepth 20000 in
set_option maxHeartbeats 2000000 in
theorem sX9_stepsUntilBroken_L32 {wv : Nat} (c1 : Int32) (c2 : Int32) {res : ((Int32 ⊕ Nat) × Mm)} {K : Int32 → Mm → Option ((Int32 ⊕ Nat) × Mm)} : ∀ (n : Nat) (v3 : Int32) (M : Mm), fX9_stepsUntilBroken_L32 c1 c2 K n v3 M = some res →
    (∀ (v3 : Int32) (M : Mm), K v3 M = some res → Z RX9 cX9_stepsUntilBroken 4 (some .int) [] "stepsUntilBroken" (rmD 7 4 24) (QM SH (allR wv) 4 24 (fun v M9 => ∃ x, res.1 = .inl x ∧ v = some (.int x) ∧ M9 = res.2) (fun E M9 => ∃ e, res.1 = .inr e ∧ exs[e]? = some E ∧ M9 = res.2)) (allR wv) SH (0 + 1) (0 + 6) 69 [some (.inr (0, 0, 0)), some (.inl (.int c1)), some (.inl (.int c2)), some (.inl (.int v3))] [] M) → Z RX9 cX9_stepsUntilBroken 4 (some .int) [] "stepsUntilBroken" (rmD 7 4 24) (QM SH (allR wv) 4 24 (fun v M9 => ∃ x, res.1 = .inl x ∧ v = some (.int x) ∧ M9 = res.2) (fun E M9 => ∃ e, res.1 = .inr e ∧ exs[e]? = some E ∧ M9 = res.2)) (allR wv) SH (0 + 1) (0 + 6) 32 [some (.inr (0, 0, 0)), some (.inl (.int c1)), some (.inl (.int c2)), some (.inl (.int v3))] [] M := by
  intro n
  induction n with
  | zero => intro v3 M h; cases h
  | succ n ih =>
    intro v3 M h hK
    rw [fX9_stepsUntilBroken_L32] at h
    refine z_iload_n (i := 3) dX9_stepsUntilBroken_32 rfl rfl ?_
    refine z_iload_n (i := 2) dX9_stepsUntilBroken_33 rfl rfl ?_
    refine z_icmp_gt (tgt := 69) dX9_stepsUntilBroken_34 rfl (fun hc4 => ?_) (fun hc4 => ?_)
    · have h := it_t h hc4
      exact hK _ _ h
    · have h := it_f h hc4
      refine z_aload_n (i := 0) dX9_stepsUntilBroken_37 rfl rfl ?_
      refine z_getR (r' := (9, 1, 0)) dX9_stepsUntilBroken_38 fl_X9_44 mk0 rfl rfl ?_
      refine z_getR (r' := (12, 1, 0)) dX9_stepsUntilBroken_41 fl_X9_217 (m9 _ (Nat.le_of_ble_eq_true rfl)) rfl rfl ?_
      refine z_iload_n (i := 1) dX9_stepsUntilBroken_44 rfl rfl ?_
      obtain ⟨hc5, h⟩ := chk h
      refine z_aald (t := 0) (r' := (13, 1, c1.toNatClampNeg)) dX9_stepsUntilBroken_45 (m12 _ (Nat.le_of_ble_eq_true rfl)) rfl (Nat.le_of_ble_eq_true rfl) hc5 rfl ?_
      refine z_fVi (sX8_brokenNow M 1 c1.toNatClampNeg (Nat.le_of_ble_eq_true rfl) (ltN hc5)) dX9_stepsUntilBroken_46 ml_X9_238 cd_X8_brokenNow (m13 _ (Nat.le_of_ble_eq_true rfl) _ (ltN hc5)) rfl rfl rfl rfl rfl rfl ?_
      refine z_if_eq (tgt := 54) dX9_stepsUntilBroken_49 rfl (fun hc6 => ?_) (fun hc6 => ?_)
      · have h := it_t h hc6
        refine z_aload_n (i := 0) dX9_stepsUntilBroken_54 rfl rfl ?_
        refine z_getR (r' := (9, 1, 0)) dX9_stepsUntilBroken_55 fl_X9_44 mk0 rfl rfl ?_
        refine z_iconst (v := (1 : Int32)) dX9_stepsUntilBroken_58 kc_1 ?_
        obtain ⟨q7, hq8, h⟩ := bnd h
        refine z_fVi (sX0_playSteps M 1 (1 : Int32) (Nat.le_of_ble_eq_true rfl) hq8) dX9_stepsUntilBroken_59 ml_X9_293 cd_X0_playSteps (m9 _ (Nat.le_of_ble_eq_true rfl)) rfl rfl rfl rfl rfl rfl ?_
        refine z_pop dX9_stepsUntilBroken_62 rfl ?_
        refine z_iinc (i := 3) (v := (v3 + (1 : Int32))) dX9_stepsUntilBroken_63 rfl (iinc_k kc_1) (Nat.le_of_ble_eq_true rfl) rfl ?_
        refine z_goto (tgt := 32) dX9_stepsUntilBroken_66 rfl ?_
        exact ih _ _ h hK
      · have h := it_f h hc6
        refine z_iload_n (i := 3) dX9_stepsUntilBroken_52 rfl rfl ?_
        cases h
        exact z_iret dX9_stepsUntilBroken_53 rfl rfl (Nat.le_of_ble_eq_true rfl) (Nat.le_of_ble_eq_true rfl) ⟨_, rfl, rfl, rfl⟩
set_option maxRecDepth 20000 in
set_option maxHeartbeats 2000000 in
theorem sX9_stepsUntilBroken {wv : Nat} (M : Mm) (x1 : Int32) {res : ((Int32 ⊕ Nat) × Mm)} (h : fX9_stepsUntilBroken M x1 = some res) : Tri yX9_stepsUntilBroken (.code yX9_stepsUntilBroken cX9_stepsUntilBroken 4 (some .int)) 7 4 24 SH (allR wv) [.inr (0, 0, 0), .inl (.int x1)] M (fun v M9 => ∃ x, res.1 = .inl x ∧ v = some (.int x) ∧ M9 = res.2) (fun E M9 => ∃ e, res.1 = .inr e ∧ exs[e]? = some E ∧ M9 = res.2) := by
  rw [fX9_stepsUntilBroken] at h
  refine Tri.go (n := 2) (ls := [some (.inr (0, 0, 0)), some (.inl (.int x1)), none, none]) rfl rfl rfl rfl rfl ?_
  refine z_aload_n (i := 0) dX9_stepsUntilBroken_0 rfl rfl ?_
  refine z_getR (r' := (9, 0, 0)) dX9_stepsUntilBroken_1 fl_X9_40 mk0 rfl rfl ?_
  refine z_iload_n (i := 1) dX9_stepsUntilBroken_4 rfl rfl ?_
  refine z_fVi (sX0_toothFault M 0 x1 (Nat.le_of_ble_eq_true rfl)) dX9_stepsUntilBroken_5 ml_X9_214 cd_X0_toothFault (m9 _ (Nat.le_of_ble_eq_true rfl)) rfl rfl rfl rfl rfl rfl ?_
  refine z_refuse dX9_stepsUntilBroken_8 ml_X9_172 rfl rfl rfl (fun hr1 => ?_) (fun e E hr1 h3 => by have h4 := thr_s h hr1; cases h4; exact ⟨e, rfl, h3, rfl⟩)
  have h := thr_n h hr1
  refine z_aload_n (i := 0) dX9_stepsUntilBroken_11 rfl rfl ?_
  refine z_getR (r' := (9, 1, 0)) dX9_stepsUntilBroken_12 fl_X9_44 mk0 rfl rfl ?_
  refine z_aload_n (i := 0) dX9_stepsUntilBroken_15 rfl rfl ?_
  refine z_getR (r' := (9, 0, 0)) dX9_stepsUntilBroken_16 fl_X9_40 mk0 rfl rfl ?_
  obtain ⟨q2, hq3, h⟩ := bnd h
  refine z_fVv (sX0_copyFrom M 1 0 (Nat.le_of_ble_eq_true rfl) (Nat.le_of_ble_eq_true rfl) hq3) dX9_stepsUntilBroken_19 ml_X9_127 cd_X0_copyFrom (m9 _ (Nat.le_of_ble_eq_true rfl)) rfl rfl rfl rfl rfl rfl ?_
  refine z_aload_n (i := 0) dX9_stepsUntilBroken_22 rfl rfl ?_
  refine z_getR (r' := (9, 1, 0)) dX9_stepsUntilBroken_23 fl_X9_44 mk0 rfl rfl ?_
  refine z_fVi (sX0_playableSteps q2 1 (Nat.le_of_ble_eq_true rfl)) dX9_stepsUntilBroken_26 ml_X9_290 cd_X0_playableSteps (m9 _ (Nat.le_of_ble_eq_true rfl)) rfl rfl rfl rfl rfl rfl ?_
  refine z_istore_n (i := 2) dX9_stepsUntilBroken_29 rfl (Nat.le_of_ble_eq_true rfl) rfl ?_
  refine z_iconst (v := (0 : Int32)) dX9_stepsUntilBroken_30 kc_0 ?_
  refine z_istore_n (i := 3) dX9_stepsUntilBroken_31 rfl (Nat.le_of_ble_eq_true rfl) rfl ?_
  refine sX9_stepsUntilBroken_L32 x1 (fX0_playableSteps q2 1) NF _ _ h (fun w9 M10 h => ?_)
  refine z_iconst (v := (-1 : Int32)) dX9_stepsUntilBroken_69 kc_m1 ?_
  cases h
  exact z_iret dX9_stepsUntilBroken_70 rfl rfl (Nat.le_of_ble_eq_true rfl) (Nat.le_of_ble_eq_true rfl) ⟨_, rfl, rfl, rfl⟩
theorem dX9_notesIn_0 : decode cX9_notesIn 0 = .ok (.iload_n 1, 1) := by decide +kernel
theorem dX9_notesIn_1 : decode cX9_notesIn 1 = .ok (.iconst 0, 1) := by decide +kernel
theorem dX9_notesIn_2 : decode cX9_notesIn 2 = .ok (.sipush 300, 3) := by decide +kernel
theorem dX9_notesIn_5 : decode cX9_notesIn 5 = .ok (.invokestatic 296, 3) := by decide +kernel
theorem dX9_notesIn_8 : decode cX9_notesIn 8 = .ok (.invokestatic 172, 3) := by decide +kernel
theorem dX9_notesIn_11 : decode cX9_notesIn 11 = .ok (.aload_n 0, 1) := by decide +kernel
theorem dX9_notesIn_12 : decode cX9_notesIn 12 = .ok (.getfield 44, 3) := by decide +kernel
theorem dX9_notesIn_15 : decode cX9_notesIn 15 = .ok (.aload_n 0, 1) := by decide +kernel
theorem dX9_notesIn_16 : decode cX9_notesIn 16 = .ok (.getfield 40, 3) := by decide +kernel
theorem dX9_notesIn_19 : decode cX9_notesIn 19 = .ok (.invokevirtual 127, 3) := by decide +kernel
theorem dX9_notesIn_22 : decode cX9_notesIn 22 = .ok (.aload_n 0, 1) := by decide +kernel
theorem dX9_notesIn_23 : decode cX9_notesIn 23 = .ok (.getfield 44, 3) := by decide +kernel
theorem dX9_notesIn_26 : decode cX9_notesIn 26 = .ok (.iload_n 1, 1) := by decide +kernel
theorem dX9_notesIn_27 : decode cX9_notesIn 27 = .ok (.invokevirtual 293, 3) := by decide +kernel
theorem dX9_notesIn_30 : decode cX9_notesIn 30 = .ok (.pop, 1) := by decide +kernel
theorem dX9_notesIn_31 : decode cX9_notesIn 31 = .ok (.aload_n 0, 1) := by decide +kernel
theorem dX9_notesIn_32 : decode cX9_notesIn 32 = .ok (.getfield 44, 3) := by decide +kernel
theorem dX9_notesIn_35 : decode cX9_notesIn 35 = .ok (.getfield 269, 3) := by decide +kernel
theorem dX9_notesIn_38 : decode cX9_notesIn 38 = .ok (.aload_n 0, 1) := by decide +kernel
theorem dX9_notesIn_39 : decode cX9_notesIn 39 = .ok (.getfield 40, 3) := by decide +kernel
theorem dX9_notesIn_42 : decode cX9_notesIn 42 = .ok (.getfield 269, 3) := by decide +kernel
theorem dX9_notesIn_45 : decode cX9_notesIn 45 = .ok (.isub, 1) := by decide +kernel
theorem dX9_notesIn_46 : decode cX9_notesIn 46 = .ok (.ireturn, 1) := by decide +kernel
def fX9_notesIn (M : Mm) (x1 : Int32) : Option ((Int32 ⊕ Nat) × Mm) := thr (rfz (fX9_rangeFault M x1 (0 : Int32) (300 : Int32))) M ((fX0_copyFrom M 1 0).bind fun q2 => (fX0_playSteps q2 1 x1).bind fun q4 => some (.inl ((q4.2.1 (9, 1, 0) 5) - (q4.2.1 (9, 0, 0) 5)), q4.2))
set_option maxRecDepth 20000 in
set_option maxHeartbeats 2000000 in
theorem sX9_notesIn {wv : Nat} (M : Mm) (x1 : Int32) {res : ((Int32 ⊕ Nat) × Mm)} (h : fX9_notesIn M x1 = some res) : Tri yX9_notesIn (.code yX9_notesIn cX9_notesIn 2 (some .int)) 7 4 24 SH (allR wv) [.inr (0, 0, 0), .inl (.int x1)] M (fun v M9 => ∃ x, res.1 = .inl x ∧ v = some (.int x) ∧ M9 = res.2) (fun E M9 => ∃ e, res.1 = .inr e ∧ exs[e]? = some E ∧ M9 = res.2) := by
  rw [fX9_notesIn] at h
  refine Tri.go (n := 0) (ls := [some (.inr (0, 0, 0)), some (.inl (.int x1))]) rfl rfl rfl rfl rfl ?_
  refine z_iload_n (i := 1) dX9_notesIn_0 rfl rfl ?_
  refine z_iconst (v := (0 : Int32)) dX9_notesIn_1 kc_0 ?_
  refine z_sipush (v := (300 : Int32)) dX9_notesIn_2 ks_300 ?_
  refine z_fSi (sX9_rangeFault M x1 (0 : Int32) (300 : Int32)) dX9_notesIn_5 ml_X9_296 cd_X9_rangeFault rfl rfl rfl rfl rfl ?_
  refine z_refuse dX9_notesIn_8 ml_X9_172 rfl rfl rfl (fun hr1 => ?_) (fun e E hr1 h3 => by have h4 := thr_s h hr1; cases h4; exact ⟨e, rfl, h3, rfl⟩)
  have h := thr_n h hr1
  refine z_aload_n (i := 0) dX9_notesIn_11 rfl rfl ?_
  refine z_getR (r' := (9, 1, 0)) dX9_notesIn_12 fl_X9_44 mk0 rfl rfl ?_
  refine z_aload_n (i := 0) dX9_notesIn_15 rfl rfl ?_
  refine z_getR (r' := (9, 0, 0)) dX9_notesIn_16 fl_X9_40 mk0 rfl rfl ?_
  obtain ⟨q2, hq3, h⟩ := bnd h
  refine z_fVv (sX0_copyFrom M 1 0 (Nat.le_of_ble_eq_true rfl) (Nat.le_of_ble_eq_true rfl) hq3) dX9_notesIn_19 ml_X9_127 cd_X0_copyFrom (m9 _ (Nat.le_of_ble_eq_true rfl)) rfl rfl rfl rfl rfl rfl ?_
  refine z_aload_n (i := 0) dX9_notesIn_22 rfl rfl ?_
  refine z_getR (r' := (9, 1, 0)) dX9_notesIn_23 fl_X9_44 mk0 rfl rfl ?_
  refine z_iload_n (i := 1) dX9_notesIn_26 rfl rfl ?_
  obtain ⟨q4, hq5, h⟩ := bnd h
  refine z_fVi (sX0_playSteps q2 1 x1 (Nat.le_of_ble_eq_true rfl) hq5) dX9_notesIn_27 ml_X9_293 cd_X0_playSteps (m9 _ (Nat.le_of_ble_eq_true rfl)) rfl rfl rfl rfl rfl rfl ?_
  refine z_pop dX9_notesIn_30 rfl ?_
  refine z_aload_n (i := 0) dX9_notesIn_31 rfl rfl ?_
  refine z_getR (r' := (9, 1, 0)) dX9_notesIn_32 fl_X9_44 mk0 rfl rfl ?_
  refine z_getI (x := (q4.2.1 (9, 1, 0) 5)) dX9_notesIn_35 fl_X9_269 (m9 _ (Nat.le_of_ble_eq_true rfl)) rfl rfl ?_
  refine z_aload_n (i := 0) dX9_notesIn_38 rfl rfl ?_
  refine z_getR (r' := (9, 0, 0)) dX9_notesIn_39 fl_X9_40 mk0 rfl rfl ?_
  refine z_getI (x := (q4.2.1 (9, 0, 0) 5)) dX9_notesIn_42 fl_X9_269 (m9 _ (Nat.le_of_ble_eq_true rfl)) rfl rfl ?_
  refine z_isub dX9_notesIn_45 ?_
  cases h
  exact z_iret dX9_notesIn_46 rfl rfl (Nat.le_of_ble_eq_true rfl) (Nat.le_of_ble_eq_true rfl) ⟨_, rfl, rfl, rfl⟩
theorem dX9_squeaksIn_0 : decode cX9_squeaksIn 0 = .ok (.iload_n 1, 1) := by decide +kernel
theorem dX9_squeaksIn_1 : decode cX9_squeaksIn 1 = .ok (.iconst 0, 1) := by decide +kernel
theorem dX9_squeaksIn_2 : decode cX9_squeaksIn 2 = .ok (.sipush 300, 3) := by decide +kernel
theorem dX9_squeaksIn_5 : decode cX9_squeaksIn 5 = .ok (.invokestatic 296, 3) := by decide +kernel
theorem dX9_squeaksIn_8 : decode cX9_squeaksIn 8 = .ok (.invokestatic 172, 3) := by decide +kernel
theorem dX9_squeaksIn_11 : decode cX9_squeaksIn 11 = .ok (.aload_n 0, 1) := by decide +kernel
theorem dX9_squeaksIn_12 : decode cX9_squeaksIn 12 = .ok (.getfield 44, 3) := by decide +kernel
theorem dX9_squeaksIn_15 : decode cX9_squeaksIn 15 = .ok (.aload_n 0, 1) := by decide +kernel
theorem dX9_squeaksIn_16 : decode cX9_squeaksIn 16 = .ok (.getfield 40, 3) := by decide +kernel
theorem dX9_squeaksIn_19 : decode cX9_squeaksIn 19 = .ok (.invokevirtual 127, 3) := by decide +kernel
theorem dX9_squeaksIn_22 : decode cX9_squeaksIn 22 = .ok (.aload_n 0, 1) := by decide +kernel
theorem dX9_squeaksIn_23 : decode cX9_squeaksIn 23 = .ok (.getfield 44, 3) := by decide +kernel
theorem dX9_squeaksIn_26 : decode cX9_squeaksIn 26 = .ok (.iload_n 1, 1) := by decide +kernel
theorem dX9_squeaksIn_27 : decode cX9_squeaksIn 27 = .ok (.invokevirtual 293, 3) := by decide +kernel
theorem dX9_squeaksIn_30 : decode cX9_squeaksIn 30 = .ok (.pop, 1) := by decide +kernel
theorem dX9_squeaksIn_31 : decode cX9_squeaksIn 31 = .ok (.aload_n 0, 1) := by decide +kernel
theorem dX9_squeaksIn_32 : decode cX9_squeaksIn 32 = .ok (.getfield 44, 3) := by decide +kernel
theorem dX9_squeaksIn_35 : decode cX9_squeaksIn 35 = .ok (.getfield 272, 3) := by decide +kernel
theorem dX9_squeaksIn_38 : decode cX9_squeaksIn 38 = .ok (.aload_n 0, 1) := by decide +kernel
theorem dX9_squeaksIn_39 : decode cX9_squeaksIn 39 = .ok (.getfield 40, 3) := by decide +kernel
theorem dX9_squeaksIn_42 : decode cX9_squeaksIn 42 = .ok (.getfield 272, 3) := by decide +kernel
theorem dX9_squeaksIn_45 : decode cX9_squeaksIn 45 = .ok (.isub, 1) := by decide +kernel
theorem dX9_squeaksIn_46 : decode cX9_squeaksIn 46 = .ok (.ireturn, 1) := by decide +kernel
def fX9_squeaksIn (M : Mm) (x1 : Int32) : Option ((Int32 ⊕ Nat) × Mm) := thr (rfz (fX9_rangeFault M x1 (0 : Int32) (300 : Int32))) M ((fX0_copyFrom M 1 0).bind fun q2 => (fX0_playSteps q2 1 x1).bind fun q4 => some (.inl ((q4.2.1 (9, 1, 0) 6) - (q4.2.1 (9, 0, 0) 6)), q4.2))
set_option maxRecDepth 20000 in
set_option maxHeartbeats 2000000 in
theorem sX9_squeaksIn {wv : Nat} (M : Mm) (x1 : Int32) {res : ((Int32 ⊕ Nat) × Mm)} (h : fX9_squeaksIn M x1 = some res) : Tri yX9_squeaksIn (.code yX9_squeaksIn cX9_squeaksIn 2 (some .int)) 7 4 24 SH (allR wv) [.inr (0, 0, 0), .inl (.int x1)] M (fun v M9 => ∃ x, res.1 = .inl x ∧ v = some (.int x) ∧ M9 = res.2) (fun E M9 => ∃ e, res.1 = .inr e ∧ exs[e]? = some E ∧ M9 = res.2) := by
  rw [fX9_squeaksIn] at h
  refine Tri.go (n := 0) (ls := [some (.inr (0, 0, 0)), some (.inl (.int x1))]) rfl rfl rfl rfl rfl ?_
  refine z_iload_n (i := 1) dX9_squeaksIn_0 rfl rfl ?_
  refine z_iconst (v := (0 : Int32)) dX9_squeaksIn_1 kc_0 ?_
  refine z_sipush (v := (300 : Int32)) dX9_squeaksIn_2 ks_300 ?_
  refine z_fSi (sX9_rangeFault M x1 (0 : Int32) (300 : Int32)) dX9_squeaksIn_5 ml_X9_296 cd_X9_rangeFault rfl rfl rfl rfl rfl ?_
  refine z_refuse dX9_squeaksIn_8 ml_X9_172 rfl rfl rfl (fun hr1 => ?_) (fun e E hr1 h3 => by have h4 := thr_s h hr1; cases h4; exact ⟨e, rfl, h3, rfl⟩)
  have h := thr_n h hr1
  refine z_aload_n (i := 0) dX9_squeaksIn_11 rfl rfl ?_
  refine z_getR (r' := (9, 1, 0)) dX9_squeaksIn_12 fl_X9_44 mk0 rfl rfl ?_
  refine z_aload_n (i := 0) dX9_squeaksIn_15 rfl rfl ?_
  refine z_getR (r' := (9, 0, 0)) dX9_squeaksIn_16 fl_X9_40 mk0 rfl rfl ?_
  obtain ⟨q2, hq3, h⟩ := bnd h
  refine z_fVv (sX0_copyFrom M 1 0 (Nat.le_of_ble_eq_true rfl) (Nat.le_of_ble_eq_true rfl) hq3) dX9_squeaksIn_19 ml_X9_127 cd_X0_copyFrom (m9 _ (Nat.le_of_ble_eq_true rfl)) rfl rfl rfl rfl rfl rfl ?_
  refine z_aload_n (i := 0) dX9_squeaksIn_22 rfl rfl ?_
  refine z_getR (r' := (9, 1, 0)) dX9_squeaksIn_23 fl_X9_44 mk0 rfl rfl ?_
  refine z_iload_n (i := 1) dX9_squeaksIn_26 rfl rfl ?_
  obtain ⟨q4, hq5, h⟩ := bnd h
  refine z_fVi (sX0_playSteps q2 1 x1 (Nat.le_of_ble_eq_true rfl) hq5) dX9_squeaksIn_27 ml_X9_293 cd_X0_playSteps (m9 _ (Nat.le_of_ble_eq_true rfl)) rfl rfl rfl rfl rfl rfl ?_
  refine z_pop dX9_squeaksIn_30 rfl ?_
  refine z_aload_n (i := 0) dX9_squeaksIn_31 rfl rfl ?_
  refine z_getR (r' := (9, 1, 0)) dX9_squeaksIn_32 fl_X9_44 mk0 rfl rfl ?_
  refine z_getI (x := (q4.2.1 (9, 1, 0) 6)) dX9_squeaksIn_35 fl_X9_272 (m9 _ (Nat.le_of_ble_eq_true rfl)) rfl rfl ?_
  refine z_aload_n (i := 0) dX9_squeaksIn_38 rfl rfl ?_
  refine z_getR (r' := (9, 0, 0)) dX9_squeaksIn_39 fl_X9_40 mk0 rfl rfl ?_
  refine z_getI (x := (q4.2.1 (9, 0, 0) 6)) dX9_squeaksIn_42 fl_X9_272 (m9 _ (Nat.le_of_ble_eq_true rfl)) rfl rfl ?_
  refine z_isub dX9_squeaksIn_45 ?_
  cases h
  exact z_iret dX9_squeaksIn_46 rfl rfl (Nat.le_of_ble_eq_true rfl) (Nat.le_of_ble_eq_true rfl) ⟨_, rfl, rfl, rfl⟩
theorem dX9_addPin_0 : decode cX9_addPin 0 = .ok (.aload_n 0, 1) := by decide +kernel
theorem dX9_addPin_1 : decode cX9_addPin 1 = .ok (.getfield 40, 3) := by decide +kernel
theorem dX9_addPin_4 : decode cX9_addPin 4 = .ok (.iload_n 1, 1) := by decide +kernel
theorem dX9_addPin_5 : decode cX9_addPin 5 = .ok (.iload_n 2, 1) := by decide +kernel
theorem dX9_addPin_6 : decode cX9_addPin 6 = .ok (.iload_n 3, 1) := by decide +kernel
theorem dX9_addPin_7 : decode cX9_addPin 7 = .ok (.invokevirtual 299, 3) := by decide +kernel
theorem dX9_addPin_10 : decode cX9_addPin 10 = .ok (.invokestatic 172, 3) := by decide +kernel
theorem dX9_addPin_13 : decode cX9_addPin 13 = .ok (.aload_n 0, 1) := by decide +kernel
theorem dX9_addPin_14 : decode cX9_addPin 14 = .ok (.getfield 68, 3) := by decide +kernel
theorem dX9_addPin_17 : decode cX9_addPin 17 = .ok (.aload_n 0, 1) := by decide +kernel
theorem dX9_addPin_18 : decode cX9_addPin 18 = .ok (.getfield 40, 3) := by decide +kernel
theorem dX9_addPin_21 : decode cX9_addPin 21 = .ok (.invokevirtual 137, 3) := by decide +kernel
theorem dX9_addPin_24 : decode cX9_addPin 24 = .ok (.aload_n 0, 1) := by decide +kernel
theorem dX9_addPin_25 : decode cX9_addPin 25 = .ok (.getfield 40, 3) := by decide +kernel
theorem dX9_addPin_28 : decode cX9_addPin 28 = .ok (.getfield 153, 3) := by decide +kernel
theorem dX9_addPin_31 : decode cX9_addPin 31 = .ok (.iload_n 1, 1) := by decide +kernel
theorem dX9_addPin_32 : decode cX9_addPin 32 = .ok (.iload_n 2, 1) := by decide +kernel
theorem dX9_addPin_33 : decode cX9_addPin 33 = .ok (.iload_n 3, 1) := by decide +kernel
theorem dX9_addPin_34 : decode cX9_addPin 34 = .ok (.invokevirtual 302, 3) := by decide +kernel
theorem dX9_addPin_37 : decode cX9_addPin 37 = .ok (.aload_n 0, 1) := by decide +kernel
theorem dX9_addPin_38 : decode cX9_addPin 38 = .ok (.getfield 40, 3) := by decide +kernel
theorem dX9_addPin_41 : decode cX9_addPin 41 = .ok (.getfield 153, 3) := by decide +kernel
theorem dX9_addPin_44 : decode cX9_addPin 44 = .ok (.iload_n 1, 1) := by decide +kernel
theorem dX9_addPin_45 : decode cX9_addPin 45 = .ok (.invokevirtual 182, 3) := by decide +kernel
theorem dX9_addPin_48 : decode cX9_addPin 48 = .ok (.ireturn, 1) := by decide +kernel
def fX9_addPin (M : Mm) (x1 : Int32) (x2 : Int32) (x3 : Int32) : Option ((Int32 ⊕ Nat) × Mm) := (fX0_putPinFault M 0 x1 x2 x3).bind fun q1 => thr (rfz q1) M ((fX2_remember M 0).bind fun q4 => (fX3_putPin q4 0 x1 x2 x3).bind fun q6 => (fX3_pinsOf q6 0 x1).bind fun q8 => some (.inl q8, q6))
set_option maxRecDepth 20000 in
set_option maxHeartbeats 2000000 in
theorem sX9_addPin {wv : Nat} (M : Mm) (x1 : Int32) (x2 : Int32) (x3 : Int32) {res : ((Int32 ⊕ Nat) × Mm)} (h : fX9_addPin M x1 x2 x3 = some res) : Tri yX9_addPin (.code yX9_addPin cX9_addPin 4 (some .int)) 7 4 24 SH (allR wv) [.inr (0, 0, 0), .inl (.int x1), .inl (.int x2), .inl (.int x3)] M (fun v M9 => ∃ x, res.1 = .inl x ∧ v = some (.int x) ∧ M9 = res.2) (fun E M9 => ∃ e, res.1 = .inr e ∧ exs[e]? = some E ∧ M9 = res.2) := by
  rw [fX9_addPin] at h
  refine Tri.go (n := 0) (ls := [some (.inr (0, 0, 0)), some (.inl (.int x1)), some (.inl (.int x2)), some (.inl (.int x3))]) rfl rfl rfl rfl rfl ?_
  refine z_aload_n (i := 0) dX9_addPin_0 rfl rfl ?_
  refine z_getR (r' := (9, 0, 0)) dX9_addPin_1 fl_X9_40 mk0 rfl rfl ?_
  refine z_iload_n (i := 1) dX9_addPin_4 rfl rfl ?_
  refine z_iload_n (i := 2) dX9_addPin_5 rfl rfl ?_
  refine z_iload_n (i := 3) dX9_addPin_6 rfl rfl ?_
  obtain ⟨q1, hq2, h⟩ := bnd h
  refine z_fVi (sX0_putPinFault M 0 x1 x2 x3 (Nat.le_of_ble_eq_true rfl) hq2) dX9_addPin_7 ml_X9_299 cd_X0_putPinFault (m9 _ (Nat.le_of_ble_eq_true rfl)) rfl rfl rfl rfl rfl rfl ?_
  refine z_refuse dX9_addPin_10 ml_X9_172 rfl rfl rfl (fun hr3 => ?_) (fun e E hr3 h3 => by have h4 := thr_s h hr3; cases h4; exact ⟨e, rfl, h3, rfl⟩)
  have h := thr_n h hr3
  refine z_aload_n (i := 0) dX9_addPin_13 rfl rfl ?_
  refine z_getR (r' := (14, 0, 0)) dX9_addPin_14 fl_X9_68 mk0 rfl rfl ?_
  refine z_aload_n (i := 0) dX9_addPin_17 rfl rfl ?_
  refine z_getR (r' := (9, 0, 0)) dX9_addPin_18 fl_X9_40 mk0 rfl rfl ?_
  obtain ⟨q4, hq5, h⟩ := bnd h
  refine z_fVv (sX2_remember M 0 (Nat.le_of_ble_eq_true rfl) hq5) dX9_addPin_21 ml_X9_137 cd_X2_remember mk14 rfl rfl rfl rfl rfl rfl ?_
  refine z_aload_n (i := 0) dX9_addPin_24 rfl rfl ?_
  refine z_getR (r' := (9, 0, 0)) dX9_addPin_25 fl_X9_40 mk0 rfl rfl ?_
  refine z_getR (r' := (10, 0, 0)) dX9_addPin_28 fl_X9_153 (m9 _ (Nat.le_of_ble_eq_true rfl)) rfl rfl ?_
  refine z_iload_n (i := 1) dX9_addPin_31 rfl rfl ?_
  refine z_iload_n (i := 2) dX9_addPin_32 rfl rfl ?_
  refine z_iload_n (i := 3) dX9_addPin_33 rfl rfl ?_
  obtain ⟨q6, hq7, h⟩ := bnd h
  refine z_fVv (sX3_putPin q4 0 x1 x2 x3 (Nat.le_of_ble_eq_true rfl) hq7) dX9_addPin_34 ml_X9_302 cd_X3_putPin (m10 _ (Nat.le_of_ble_eq_true rfl)) rfl rfl rfl rfl rfl rfl ?_
  refine z_aload_n (i := 0) dX9_addPin_37 rfl rfl ?_
  refine z_getR (r' := (9, 0, 0)) dX9_addPin_38 fl_X9_40 mk0 rfl rfl ?_
  refine z_getR (r' := (10, 0, 0)) dX9_addPin_41 fl_X9_153 (m9 _ (Nat.le_of_ble_eq_true rfl)) rfl rfl ?_
  refine z_iload_n (i := 1) dX9_addPin_44 rfl rfl ?_
  obtain ⟨q8, hq9, h⟩ := bnd h
  refine z_fVi (sX3_pinsOf q6 0 x1 (Nat.le_of_ble_eq_true rfl) hq9) dX9_addPin_45 ml_X9_182 cd_X3_pinsOf (m10 _ (Nat.le_of_ble_eq_true rfl)) rfl rfl rfl rfl rfl rfl ?_
  cases h
  exact z_iret dX9_addPin_48 rfl rfl (Nat.le_of_ble_eq_true rfl) (Nat.le_of_ble_eq_true rfl) ⟨_, rfl, rfl, rfl⟩
theorem dX9_removePin_0 : decode cX9_removePin 0 = .ok (.aload_n 0, 1) := by decide +kernel
theorem dX9_removePin_1 : decode cX9_removePin 1 = .ok (.getfield 40, 3) := by decide +kernel
theorem dX9_removePin_4 : decode cX9_removePin 4 = .ok (.iload_n 1, 1) := by decide +kernel
theorem dX9_removePin_5 : decode cX9_removePin 5 = .ok (.iload_n 2, 1) := by decide +kernel
theorem dX9_removePin_6 : decode cX9_removePin 6 = .ok (.iload_n 3, 1) := by decide +kernel
theorem dX9_removePin_7 : decode cX9_removePin 7 = .ok (.invokevirtual 306, 3) := by decide +kernel
theorem dX9_removePin_10 : decode cX9_removePin 10 = .ok (.invokestatic 172, 3) := by decide +kernel
theorem dX9_removePin_13 : decode cX9_removePin 13 = .ok (.aload_n 0, 1) := by decide +kernel
theorem dX9_removePin_14 : decode cX9_removePin 14 = .ok (.getfield 68, 3) := by decide +kernel
theorem dX9_removePin_17 : decode cX9_removePin 17 = .ok (.aload_n 0, 1) := by decide +kernel
theorem dX9_removePin_18 : decode cX9_removePin 18 = .ok (.getfield 40, 3) := by decide +kernel
theorem dX9_removePin_21 : decode cX9_removePin 21 = .ok (.invokevirtual 137, 3) := by decide +kernel
theorem dX9_removePin_24 : decode cX9_removePin 24 = .ok (.aload_n 0, 1) := by decide +kernel
theorem dX9_removePin_25 : decode cX9_removePin 25 = .ok (.getfield 40, 3) := by decide +kernel
theorem dX9_removePin_28 : decode cX9_removePin 28 = .ok (.getfield 153, 3) := by decide +kernel
theorem dX9_removePin_31 : decode cX9_removePin 31 = .ok (.iload_n 1, 1) := by decide +kernel
theorem dX9_removePin_32 : decode cX9_removePin 32 = .ok (.iload_n 2, 1) := by decide +kernel
theorem dX9_removePin_33 : decode cX9_removePin 33 = .ok (.iload_n 3, 1) := by decide +kernel
theorem dX9_removePin_34 : decode cX9_removePin 34 = .ok (.invokevirtual 309, 3) := by decide +kernel
theorem dX9_removePin_37 : decode cX9_removePin 37 = .ok (.aload_n 0, 1) := by decide +kernel
theorem dX9_removePin_38 : decode cX9_removePin 38 = .ok (.getfield 40, 3) := by decide +kernel
theorem dX9_removePin_41 : decode cX9_removePin 41 = .ok (.getfield 153, 3) := by decide +kernel
theorem dX9_removePin_44 : decode cX9_removePin 44 = .ok (.iload_n 1, 1) := by decide +kernel
theorem dX9_removePin_45 : decode cX9_removePin 45 = .ok (.invokevirtual 182, 3) := by decide +kernel
theorem dX9_removePin_48 : decode cX9_removePin 48 = .ok (.ireturn, 1) := by decide +kernel
def fX9_removePin (M : Mm) (x1 : Int32) (x2 : Int32) (x3 : Int32) : Option ((Int32 ⊕ Nat) × Mm) := (fX0_takePinFault M 0 x1 x2 x3).bind fun q1 => thr (rfz q1) M ((fX2_remember M 0).bind fun q4 => (fX3_takePin q4 0 x1 x2 x3).bind fun q6 => (fX3_pinsOf q6 0 x1).bind fun q8 => some (.inl q8, q6))
set_option maxRecDepth 20000 in
set_option maxHeartbeats 2000000 in
theorem sX9_removePin {wv : Nat} (M : Mm) (x1 : Int32) (x2 : Int32) (x3 : Int32) {res : ((Int32 ⊕ Nat) × Mm)} (h : fX9_removePin M x1 x2 x3 = some res) : Tri yX9_removePin (.code yX9_removePin cX9_removePin 4 (some .int)) 7 4 24 SH (allR wv) [.inr (0, 0, 0), .inl (.int x1), .inl (.int x2), .inl (.int x3)] M (fun v M9 => ∃ x, res.1 = .inl x ∧ v = some (.int x) ∧ M9 = res.2) (fun E M9 => ∃ e, res.1 = .inr e ∧ exs[e]? = some E ∧ M9 = res.2) := by
  rw [fX9_removePin] at h
  refine Tri.go (n := 0) (ls := [some (.inr (0, 0, 0)), some (.inl (.int x1)), some (.inl (.int x2)), some (.inl (.int x3))]) rfl rfl rfl rfl rfl ?_
  refine z_aload_n (i := 0) dX9_removePin_0 rfl rfl ?_
  refine z_getR (r' := (9, 0, 0)) dX9_removePin_1 fl_X9_40 mk0 rfl rfl ?_
  refine z_iload_n (i := 1) dX9_removePin_4 rfl rfl ?_
  refine z_iload_n (i := 2) dX9_removePin_5 rfl rfl ?_
  refine z_iload_n (i := 3) dX9_removePin_6 rfl rfl ?_
  obtain ⟨q1, hq2, h⟩ := bnd h
  refine z_fVi (sX0_takePinFault M 0 x1 x2 x3 (Nat.le_of_ble_eq_true rfl) hq2) dX9_removePin_7 ml_X9_306 cd_X0_takePinFault (m9 _ (Nat.le_of_ble_eq_true rfl)) rfl rfl rfl rfl rfl rfl ?_
  refine z_refuse dX9_removePin_10 ml_X9_172 rfl rfl rfl (fun hr3 => ?_) (fun e E hr3 h3 => by have h4 := thr_s h hr3; cases h4; exact ⟨e, rfl, h3, rfl⟩)
  have h := thr_n h hr3
  refine z_aload_n (i := 0) dX9_removePin_13 rfl rfl ?_
  refine z_getR (r' := (14, 0, 0)) dX9_removePin_14 fl_X9_68 mk0 rfl rfl ?_
  refine z_aload_n (i := 0) dX9_removePin_17 rfl rfl ?_
  refine z_getR (r' := (9, 0, 0)) dX9_removePin_18 fl_X9_40 mk0 rfl rfl ?_
  obtain ⟨q4, hq5, h⟩ := bnd h
  refine z_fVv (sX2_remember M 0 (Nat.le_of_ble_eq_true rfl) hq5) dX9_removePin_21 ml_X9_137 cd_X2_remember mk14 rfl rfl rfl rfl rfl rfl ?_
  refine z_aload_n (i := 0) dX9_removePin_24 rfl rfl ?_
  refine z_getR (r' := (9, 0, 0)) dX9_removePin_25 fl_X9_40 mk0 rfl rfl ?_
  refine z_getR (r' := (10, 0, 0)) dX9_removePin_28 fl_X9_153 (m9 _ (Nat.le_of_ble_eq_true rfl)) rfl rfl ?_
  refine z_iload_n (i := 1) dX9_removePin_31 rfl rfl ?_
  refine z_iload_n (i := 2) dX9_removePin_32 rfl rfl ?_
  refine z_iload_n (i := 3) dX9_removePin_33 rfl rfl ?_
  obtain ⟨q6, hq7, h⟩ := bnd h
  refine z_fVv (sX3_takePin q4 0 x1 x2 x3 (Nat.le_of_ble_eq_true rfl) hq7) dX9_removePin_34 ml_X9_309 cd_X3_takePin (m10 _ (Nat.le_of_ble_eq_true rfl)) rfl rfl rfl rfl rfl rfl ?_
  refine z_aload_n (i := 0) dX9_removePin_37 rfl rfl ?_
  refine z_getR (r' := (9, 0, 0)) dX9_removePin_38 fl_X9_40 mk0 rfl rfl ?_
  refine z_getR (r' := (10, 0, 0)) dX9_removePin_41 fl_X9_153 (m9 _ (Nat.le_of_ble_eq_true rfl)) rfl rfl ?_
  refine z_iload_n (i := 1) dX9_removePin_44 rfl rfl ?_
  obtain ⟨q8, hq9, h⟩ := bnd h
  refine z_fVi (sX3_pinsOf q6 0 x1 (Nat.le_of_ble_eq_true rfl) hq9) dX9_removePin_45 ml_X9_182 cd_X3_pinsOf (m10 _ (Nat.le_of_ble_eq_true rfl)) rfl rfl rfl rfl rfl rfl ?_
  cases h
  exact z_iret dX9_removePin_48 rfl rfl (Nat.le_of_ble_eq_true rfl) (Nat.le_of_ble_eq_true rfl) ⟨_, rfl, rfl, rfl⟩
theorem dX9_shift_0 : decode cX9_shift 0 = .ok (.aload_n 0, 1) := by decide +kernel
theorem dX9_shift_1 : decode cX9_shift 1 = .ok (.getfield 40, 3) := by decide +kernel
theorem dX9_shift_4 : decode cX9_shift 4 = .ok (.iload_n 1, 1) := by decide +kernel
theorem dX9_shift_5 : decode cX9_shift 5 = .ok (.invokevirtual 179, 3) := by decide +kernel
theorem dX9_shift_8 : decode cX9_shift 8 = .ok (.invokestatic 172, 3) := by decide +kernel
theorem dX9_shift_11 : decode cX9_shift 11 = .ok (.iload_n 2, 1) := by decide +kernel
theorem dX9_shift_12 : decode cX9_shift 12 = .ok (.iconst 0, 1) := by decide +kernel
theorem dX9_shift_13 : decode cX9_shift 13 = .ok (.bipush 63, 2) := by decide +kernel
theorem dX9_shift_15 : decode cX9_shift 15 = .ok (.invokestatic 296, 3) := by decide +kernel
theorem dX9_shift_18 : decode cX9_shift 18 = .ok (.invokestatic 172, 3) := by decide +kernel
theorem dX9_shift_21 : decode cX9_shift 21 = .ok (.aload_n 0, 1) := by decide +kernel
theorem dX9_shift_22 : decode cX9_shift 22 = .ok (.getfield 68, 3) := by decide +kernel
theorem dX9_shift_25 : decode cX9_shift 25 = .ok (.aload_n 0, 1) := by decide +kernel
theorem dX9_shift_26 : decode cX9_shift 26 = .ok (.getfield 40, 3) := by decide +kernel
theorem dX9_shift_29 : decode cX9_shift 29 = .ok (.invokevirtual 137, 3) := by decide +kernel
theorem dX9_shift_32 : decode cX9_shift 32 = .ok (.aload_n 0, 1) := by decide +kernel
theorem dX9_shift_33 : decode cX9_shift 33 = .ok (.getfield 40, 3) := by decide +kernel
theorem dX9_shift_36 : decode cX9_shift 36 = .ok (.getfield 153, 3) := by decide +kernel
theorem dX9_shift_39 : decode cX9_shift 39 = .ok (.iload_n 1, 1) := by decide +kernel
theorem dX9_shift_40 : decode cX9_shift 40 = .ok (.iload_n 2, 1) := by decide +kernel
theorem dX9_shift_41 : decode cX9_shift 41 = .ok (.invokevirtual 312, 3) := by decide +kernel
theorem dX9_shift_44 : decode cX9_shift 44 = .ok (.aload_n 0, 1) := by decide +kernel
theorem dX9_shift_45 : decode cX9_shift 45 = .ok (.getfield 40, 3) := by decide +kernel
theorem dX9_shift_48 : decode cX9_shift 48 = .ok (.getfield 153, 3) := by decide +kernel
theorem dX9_shift_51 : decode cX9_shift 51 = .ok (.iload_n 1, 1) := by decide +kernel
theorem dX9_shift_52 : decode cX9_shift 52 = .ok (.invokevirtual 182, 3) := by decide +kernel
theorem dX9_shift_55 : decode cX9_shift 55 = .ok (.ireturn, 1) := by decide +kernel
def fX9_shift (M : Mm) (x1 : Int32) (x2 : Int32) : Option ((Int32 ⊕ Nat) × Mm) := thr (rfz (fX0_tuneFault M 0 x1)) M (thr (rfz (fX9_rangeFault M x2 (0 : Int32) (63 : Int32))) M ((fX2_remember M 0).bind fun q3 => (fX3_turnPins q3 0 x1 x2).bind fun q5 => (fX3_pinsOf q5 0 x1).bind fun q7 => some (.inl q7, q5)))
set_option maxRecDepth 20000 in
set_option maxHeartbeats 2000000 in
theorem sX9_shift {wv : Nat} (M : Mm) (x1 : Int32) (x2 : Int32) {res : ((Int32 ⊕ Nat) × Mm)} (h : fX9_shift M x1 x2 = some res) : Tri yX9_shift (.code yX9_shift cX9_shift 3 (some .int)) 7 4 24 SH (allR wv) [.inr (0, 0, 0), .inl (.int x1), .inl (.int x2)] M (fun v M9 => ∃ x, res.1 = .inl x ∧ v = some (.int x) ∧ M9 = res.2) (fun E M9 => ∃ e, res.1 = .inr e ∧ exs[e]? = some E ∧ M9 = res.2) := by
  rw [fX9_shift] at h
  refine Tri.go (n := 0) (ls := [some (.inr (0, 0, 0)), some (.inl (.int x1)), some (.inl (.int x2))]) rfl rfl rfl rfl rfl ?_
  refine z_aload_n (i := 0) dX9_shift_0 rfl rfl ?_
  refine z_getR (r' := (9, 0, 0)) dX9_shift_1 fl_X9_40 mk0 rfl rfl ?_
  refine z_iload_n (i := 1) dX9_shift_4 rfl rfl ?_
  refine z_fVi (sX0_tuneFault M 0 x1 (Nat.le_of_ble_eq_true rfl)) dX9_shift_5 ml_X9_179 cd_X0_tuneFault (m9 _ (Nat.le_of_ble_eq_true rfl)) rfl rfl rfl rfl rfl rfl ?_
  refine z_refuse dX9_shift_8 ml_X9_172 rfl rfl rfl (fun hr1 => ?_) (fun e E hr1 h3 => by have h4 := thr_s h hr1; cases h4; exact ⟨e, rfl, h3, rfl⟩)
  have h := thr_n h hr1
  refine z_iload_n (i := 2) dX9_shift_11 rfl rfl ?_
  refine z_iconst (v := (0 : Int32)) dX9_shift_12 kc_0 ?_
  refine z_bipush (v := (63 : Int32)) dX9_shift_13 kb_63 ?_
  refine z_fSi (sX9_rangeFault M x2 (0 : Int32) (63 : Int32)) dX9_shift_15 ml_X9_296 cd_X9_rangeFault rfl rfl rfl rfl rfl ?_
  refine z_refuse dX9_shift_18 ml_X9_172 rfl rfl rfl (fun hr2 => ?_) (fun e E hr2 h3 => by have h4 := thr_s h hr2; cases h4; exact ⟨e, rfl, h3, rfl⟩)
  have h := thr_n h hr2
  refine z_aload_n (i := 0) dX9_shift_21 rfl rfl ?_
  refine z_getR (r' := (14, 0, 0)) dX9_shift_22 fl_X9_68 mk0 rfl rfl ?_
  refine z_aload_n (i := 0) dX9_shift_25 rfl rfl ?_
  refine z_getR (r' := (9, 0, 0)) dX9_shift_26 fl_X9_40 mk0 rfl rfl ?_
  obtain ⟨q3, hq4, h⟩ := bnd h
  refine z_fVv (sX2_remember M 0 (Nat.le_of_ble_eq_true rfl) hq4) dX9_shift_29 ml_X9_137 cd_X2_remember mk14 rfl rfl rfl rfl rfl rfl ?_
  refine z_aload_n (i := 0) dX9_shift_32 rfl rfl ?_
  refine z_getR (r' := (9, 0, 0)) dX9_shift_33 fl_X9_40 mk0 rfl rfl ?_
  refine z_getR (r' := (10, 0, 0)) dX9_shift_36 fl_X9_153 (m9 _ (Nat.le_of_ble_eq_true rfl)) rfl rfl ?_
  refine z_iload_n (i := 1) dX9_shift_39 rfl rfl ?_
  refine z_iload_n (i := 2) dX9_shift_40 rfl rfl ?_
  obtain ⟨q5, hq6, h⟩ := bnd h
  refine z_fVv (sX3_turnPins q3 0 x1 x2 (Nat.le_of_ble_eq_true rfl) hq6) dX9_shift_41 ml_X9_312 cd_X3_turnPins (m10 _ (Nat.le_of_ble_eq_true rfl)) rfl rfl rfl rfl rfl rfl ?_
  refine z_aload_n (i := 0) dX9_shift_44 rfl rfl ?_
  refine z_getR (r' := (9, 0, 0)) dX9_shift_45 fl_X9_40 mk0 rfl rfl ?_
  refine z_getR (r' := (10, 0, 0)) dX9_shift_48 fl_X9_153 (m9 _ (Nat.le_of_ble_eq_true rfl)) rfl rfl ?_
  refine z_iload_n (i := 1) dX9_shift_51 rfl rfl ?_
  obtain ⟨q7, hq8, h⟩ := bnd h
  refine z_fVi (sX3_pinsOf q5 0 x1 (Nat.le_of_ble_eq_true rfl) hq8) dX9_shift_52 ml_X9_182 cd_X3_pinsOf (m10 _ (Nat.le_of_ble_eq_true rfl)) rfl rfl rfl rfl rfl rfl ?_
  cases h
  exact z_iret dX9_shift_55 rfl rfl (Nat.le_of_ble_eq_true rfl) (Nat.le_of_ble_eq_true rfl) ⟨_, rfl, rfl, rfl⟩
theorem dX9_transpose_0 : decode cX9_transpose 0 = .ok (.aload_n 0, 1) := by decide +kernel
theorem dX9_transpose_1 : decode cX9_transpose 1 = .ok (.getfield 40, 3) := by decide +kernel
theorem dX9_transpose_4 : decode cX9_transpose 4 = .ok (.iload_n 1, 1) := by decide +kernel
theorem dX9_transpose_5 : decode cX9_transpose 5 = .ok (.invokevirtual 179, 3) := by decide +kernel
theorem dX9_transpose_8 : decode cX9_transpose 8 = .ok (.invokestatic 172, 3) := by decide +kernel
theorem dX9_transpose_11 : decode cX9_transpose 11 = .ok (.iload_n 2, 1) := by decide +kernel
theorem dX9_transpose_12 : decode cX9_transpose 12 = .ok (.bipush (-11), 2) := by decide +kernel
theorem dX9_transpose_14 : decode cX9_transpose 14 = .ok (.bipush 11, 2) := by decide +kernel
theorem dX9_transpose_16 : decode cX9_transpose 16 = .ok (.invokestatic 296, 3) := by decide +kernel
theorem dX9_transpose_19 : decode cX9_transpose 19 = .ok (.invokestatic 172, 3) := by decide +kernel
theorem dX9_transpose_22 : decode cX9_transpose 22 = .ok (.aload_n 0, 1) := by decide +kernel
theorem dX9_transpose_23 : decode cX9_transpose 23 = .ok (.getfield 40, 3) := by decide +kernel
theorem dX9_transpose_26 : decode cX9_transpose 26 = .ok (.iload_n 1, 1) := by decide +kernel
theorem dX9_transpose_27 : decode cX9_transpose 27 = .ok (.iload_n 2, 1) := by decide +kernel
theorem dX9_transpose_28 : decode cX9_transpose 28 = .ok (.invokevirtual 316, 3) := by decide +kernel
theorem dX9_transpose_31 : decode cX9_transpose 31 = .ok (.invokestatic 172, 3) := by decide +kernel
theorem dX9_transpose_34 : decode cX9_transpose 34 = .ok (.aload_n 0, 1) := by decide +kernel
theorem dX9_transpose_35 : decode cX9_transpose 35 = .ok (.getfield 68, 3) := by decide +kernel
theorem dX9_transpose_38 : decode cX9_transpose 38 = .ok (.aload_n 0, 1) := by decide +kernel
theorem dX9_transpose_39 : decode cX9_transpose 39 = .ok (.getfield 40, 3) := by decide +kernel
theorem dX9_transpose_42 : decode cX9_transpose 42 = .ok (.invokevirtual 137, 3) := by decide +kernel
theorem dX9_transpose_45 : decode cX9_transpose 45 = .ok (.aload_n 0, 1) := by decide +kernel
theorem dX9_transpose_46 : decode cX9_transpose 46 = .ok (.getfield 40, 3) := by decide +kernel
theorem dX9_transpose_49 : decode cX9_transpose 49 = .ok (.getfield 153, 3) := by decide +kernel
theorem dX9_transpose_52 : decode cX9_transpose 52 = .ok (.iload_n 1, 1) := by decide +kernel
theorem dX9_transpose_53 : decode cX9_transpose 53 = .ok (.iload_n 2, 1) := by decide +kernel
theorem dX9_transpose_54 : decode cX9_transpose 54 = .ok (.invokevirtual 319, 3) := by decide +kernel
theorem dX9_transpose_57 : decode cX9_transpose 57 = .ok (.aload_n 0, 1) := by decide +kernel
theorem dX9_transpose_58 : decode cX9_transpose 58 = .ok (.getfield 40, 3) := by decide +kernel
theorem dX9_transpose_61 : decode cX9_transpose 61 = .ok (.getfield 153, 3) := by decide +kernel
theorem dX9_transpose_64 : decode cX9_transpose 64 = .ok (.iload_n 1, 1) := by decide +kernel
theorem dX9_transpose_65 : decode cX9_transpose 65 = .ok (.invokevirtual 182, 3) := by decide +kernel
theorem dX9_transpose_68 : decode cX9_transpose 68 = .ok (.ireturn, 1) := by decide +kernel
def fX9_transpose (M : Mm) (x1 : Int32) (x2 : Int32) : Option ((Int32 ⊕ Nat) × Mm) := thr (rfz (fX0_tuneFault M 0 x1)) M (thr (rfz (fX9_rangeFault M x2 (-11 : Int32) (11 : Int32))) M ((fX0_movePinsFault M 0 x1 x2).bind fun q3 => thr (rfz q3) M ((fX2_remember M 0).bind fun q6 => (fX3_movePins q6 0 x1 x2).bind fun q8 => (fX3_pinsOf q8 0 x1).bind fun q10 => some (.inl q10, q8))))
set_option maxRecDepth 20000 in
set_option maxHeartbeats 2000000 in
theorem sX9_transpose {wv : Nat} (M : Mm) (x1 : Int32) (x2 : Int32) {res : ((Int32 ⊕ Nat) × Mm)} (h : fX9_transpose M x1 x2 = some res) : Tri yX9_transpose (.code yX9_transpose cX9_transpose 3 (some .int)) 7 4 24 SH (allR wv) [.inr (0, 0, 0), .inl (.int x1), .inl (.int x2)] M (fun v M9 => ∃ x, res.1 = .inl x ∧ v = some (.int x) ∧ M9 = res.2) (fun E M9 => ∃ e, res.1 = .inr e ∧ exs[e]? = some E ∧ M9 = res.2) := by
  rw [fX9_transpose] at h
  refine Tri.go (n := 0) (ls := [some (.inr (0, 0, 0)), some (.inl (.int x1)), some (.inl (.int x2))]) rfl rfl rfl rfl rfl ?_
  refine z_aload_n (i := 0) dX9_transpose_0 rfl rfl ?_
  refine z_getR (r' := (9, 0, 0)) dX9_transpose_1 fl_X9_40 mk0 rfl rfl ?_
  refine z_iload_n (i := 1) dX9_transpose_4 rfl rfl ?_
  refine z_fVi (sX0_tuneFault M 0 x1 (Nat.le_of_ble_eq_true rfl)) dX9_transpose_5 ml_X9_179 cd_X0_tuneFault (m9 _ (Nat.le_of_ble_eq_true rfl)) rfl rfl rfl rfl rfl rfl ?_
  refine z_refuse dX9_transpose_8 ml_X9_172 rfl rfl rfl (fun hr1 => ?_) (fun e E hr1 h3 => by have h4 := thr_s h hr1; cases h4; exact ⟨e, rfl, h3, rfl⟩)
  have h := thr_n h hr1
  refine z_iload_n (i := 2) dX9_transpose_11 rfl rfl ?_
  refine z_bipush (v := (-11 : Int32)) dX9_transpose_12 kb_m11 ?_
  refine z_bipush (v := (11 : Int32)) dX9_transpose_14 kb_11 ?_
  refine z_fSi (sX9_rangeFault M x2 (-11 : Int32) (11 : Int32)) dX9_transpose_16 ml_X9_296 cd_X9_rangeFault rfl rfl rfl rfl rfl ?_
  refine z_refuse dX9_transpose_19 ml_X9_172 rfl rfl rfl (fun hr2 => ?_) (fun e E hr2 h3 => by have h4 := thr_s h hr2; cases h4; exact ⟨e, rfl, h3, rfl⟩)
  have h := thr_n h hr2
  refine z_aload_n (i := 0) dX9_transpose_22 rfl rfl ?_
  refine z_getR (r' := (9, 0, 0)) dX9_transpose_23 fl_X9_40 mk0 rfl rfl ?_
  refine z_iload_n (i := 1) dX9_transpose_26 rfl rfl ?_
  refine z_iload_n (i := 2) dX9_transpose_27 rfl rfl ?_
  obtain ⟨q3, hq4, h⟩ := bnd h
  refine z_fVi (sX0_movePinsFault M 0 x1 x2 (Nat.le_of_ble_eq_true rfl) hq4) dX9_transpose_28 ml_X9_316 cd_X0_movePinsFault (m9 _ (Nat.le_of_ble_eq_true rfl)) rfl rfl rfl rfl rfl rfl ?_
  refine z_refuse dX9_transpose_31 ml_X9_172 rfl rfl rfl (fun hr5 => ?_) (fun e E hr5 h3 => by have h4 := thr_s h hr5; cases h4; exact ⟨e, rfl, h3, rfl⟩)
  have h := thr_n h hr5
  refine z_aload_n (i := 0) dX9_transpose_34 rfl rfl ?_
  refine z_getR (r' := (14, 0, 0)) dX9_transpose_35 fl_X9_68 mk0 rfl rfl ?_
  refine z_aload_n (i := 0) dX9_transpose_38 rfl rfl ?_
  refine z_getR (r' := (9, 0, 0)) dX9_transpose_39 fl_X9_40 mk0 rfl rfl ?_
  obtain ⟨q6, hq7, h⟩ := bnd h
  refine z_fVv (sX2_remember M 0 (Nat.le_of_ble_eq_true rfl) hq7) dX9_transpose_42 ml_X9_137 cd_X2_remember mk14 rfl rfl rfl rfl rfl rfl ?_
  refine z_aload_n (i := 0) dX9_transpose_45 rfl rfl ?_
  refine z_getR (r' := (9, 0, 0)) dX9_transpose_46 fl_X9_40 mk0 rfl rfl ?_
  refine z_getR (r' := (10, 0, 0)) dX9_transpose_49 fl_X9_153 (m9 _ (Nat.le_of_ble_eq_true rfl)) rfl rfl ?_
  refine z_iload_n (i := 1) dX9_transpose_52 rfl rfl ?_
  refine z_iload_n (i := 2) dX9_transpose_53 rfl rfl ?_
  obtain ⟨q8, hq9, h⟩ := bnd h
  refine z_fVv (sX3_movePins q6 0 x1 x2 (Nat.le_of_ble_eq_true rfl) hq9) dX9_transpose_54 ml_X9_319 cd_X3_movePins (m10 _ (Nat.le_of_ble_eq_true rfl)) rfl rfl rfl rfl rfl rfl ?_
  refine z_aload_n (i := 0) dX9_transpose_57 rfl rfl ?_
  refine z_getR (r' := (9, 0, 0)) dX9_transpose_58 fl_X9_40 mk0 rfl rfl ?_
  refine z_getR (r' := (10, 0, 0)) dX9_transpose_61 fl_X9_153 (m9 _ (Nat.le_of_ble_eq_true rfl)) rfl rfl ?_
  refine z_iload_n (i := 1) dX9_transpose_64 rfl rfl ?_
  obtain ⟨q10, hq11, h⟩ := bnd h
  refine z_fVi (sX3_pinsOf q8 0 x1 (Nat.le_of_ble_eq_true rfl) hq11) dX9_transpose_65 ml_X9_182 cd_X3_pinsOf (m10 _ (Nat.le_of_ble_eq_true rfl)) rfl rfl rfl rfl rfl rfl ?_
  cases h
  exact z_iret dX9_transpose_68 rfl rfl (Nat.le_of_ble_eq_true rfl) (Nat.le_of_ble_eq_true rfl) ⟨_, rfl, rfl, rfl⟩
theorem dX9_copyTune_0 : decode cX9_copyTune 0 = .ok (.aload_n 0, 1) := by decide +kernel
theorem dX9_copyTune_1 : decode cX9_copyTune 1 = .ok (.getfield 40, 3) := by decide +kernel
theorem dX9_copyTune_4 : decode cX9_copyTune 4 = .ok (.iload_n 1, 1) := by decide +kernel
theorem dX9_copyTune_5 : decode cX9_copyTune 5 = .ok (.invokevirtual 179, 3) := by decide +kernel
theorem dX9_copyTune_8 : decode cX9_copyTune 8 = .ok (.aload_n 0, 1) := by decide +kernel
theorem dX9_copyTune_9 : decode cX9_copyTune 9 = .ok (.getfield 40, 3) := by decide +kernel
theorem dX9_copyTune_12 : decode cX9_copyTune 12 = .ok (.iload_n 2, 1) := by decide +kernel
theorem dX9_copyTune_13 : decode cX9_copyTune 13 = .ok (.invokevirtual 179, 3) := by decide +kernel
theorem dX9_copyTune_16 : decode cX9_copyTune 16 = .ok (.invokestatic 188, 3) := by decide +kernel
theorem dX9_copyTune_19 : decode cX9_copyTune 19 = .ok (.invokestatic 172, 3) := by decide +kernel
theorem dX9_copyTune_22 : decode cX9_copyTune 22 = .ok (.iload_n 1, 1) := by decide +kernel
theorem dX9_copyTune_23 : decode cX9_copyTune 23 = .ok (.iload_n 2, 1) := by decide +kernel
theorem dX9_copyTune_24 : decode cX9_copyTune 24 = .ok (.if_icmp .ne 7, 3) := by decide +kernel
theorem dX9_copyTune_27 : decode cX9_copyTune 27 = .ok (.iconst 2, 1) := by decide +kernel
theorem dX9_copyTune_28 : decode cX9_copyTune 28 = .ok (.goto 4, 3) := by decide +kernel
theorem dX9_copyTune_31 : decode cX9_copyTune 31 = .ok (.iconst 0, 1) := by decide +kernel
theorem dX9_copyTune_32 : decode cX9_copyTune 32 = .ok (.invokestatic 172, 3) := by decide +kernel
theorem dX9_copyTune_35 : decode cX9_copyTune 35 = .ok (.aload_n 0, 1) := by decide +kernel
theorem dX9_copyTune_36 : decode cX9_copyTune 36 = .ok (.getfield 68, 3) := by decide +kernel
theorem dX9_copyTune_39 : decode cX9_copyTune 39 = .ok (.aload_n 0, 1) := by decide +kernel
theorem dX9_copyTune_40 : decode cX9_copyTune 40 = .ok (.getfield 40, 3) := by decide +kernel
theorem dX9_copyTune_43 : decode cX9_copyTune 43 = .ok (.invokevirtual 137, 3) := by decide +kernel
theorem dX9_copyTune_46 : decode cX9_copyTune 46 = .ok (.aload_n 0, 1) := by decide +kernel
theorem dX9_copyTune_47 : decode cX9_copyTune 47 = .ok (.getfield 40, 3) := by decide +kernel
theorem dX9_copyTune_50 : decode cX9_copyTune 50 = .ok (.getfield 153, 3) := by decide +kernel
theorem dX9_copyTune_53 : decode cX9_copyTune 53 = .ok (.iload_n 1, 1) := by decide +kernel
theorem dX9_copyTune_54 : decode cX9_copyTune 54 = .ok (.iload_n 2, 1) := by decide +kernel
theorem dX9_copyTune_55 : decode cX9_copyTune 55 = .ok (.invokevirtual 322, 3) := by decide +kernel
theorem dX9_copyTune_58 : decode cX9_copyTune 58 = .ok (.aload_n 0, 1) := by decide +kernel
theorem dX9_copyTune_59 : decode cX9_copyTune 59 = .ok (.getfield 40, 3) := by decide +kernel
theorem dX9_copyTune_62 : decode cX9_copyTune 62 = .ok (.getfield 153, 3) := by decide +kernel
theorem dX9_copyTune_65 : decode cX9_copyTune 65 = .ok (.iload_n 2, 1) := by decide +kernel
theorem dX9_copyTune_66 : decode cX9_copyTune 66 = .ok (.invokevirtual 182, 3) := by decide +kernel
theorem dX9_copyTune_69 : decode cX9_copyTune 69 = .ok (.ireturn, 1) := by decide +kernel
def fX9_copyTune (M : Mm) (x1 : Int32) (x2 : Int32) : Option ((Int32 ⊕ Nat) × Mm) := thr (rfz (fJ9_max_7cf53 M (fX0_tuneFault M 0 x1) (fX0_tuneFault M 0 x2))) M (if x1 = x2 then (thr (rfz (2 : Int32)) M ((fX2_remember M 0).bind fun q11 => (fX3_copyPins q11 0 x1 x2).bind fun q13 => (fX3_pinsOf q13 0 x2).bind fun q15 => some (.inl q15, q13))) else thr (rfz (0 : Int32)) M ((fX2_remember M 0).bind fun q4 => (fX3_copyPins q4 0 x1 x2).bind fun q6 => (fX3_pinsOf q6 0 x2).bind fun q8 => some (.inl q8, q6)))
set_option maxRecDepth 20000 in
set_option maxHeartbeats 2000000 in
theorem sX9_copyTune {wv : Nat} (M : Mm) (x1 : Int32) (x2 : Int32) {res : ((Int32 ⊕ Nat) × Mm)} (h : fX9_copyTune M x1 x2 = some res) : Tri yX9_copyTune (.code yX9_copyTune cX9_copyTune 3 (some .int)) 7 4 24 SH (allR wv) [.inr (0, 0, 0), .inl (.int x1), .inl (.int x2)] M (fun v M9 => ∃ x, res.1 = .inl x ∧ v = some (.int x) ∧ M9 = res.2) (fun E M9 => ∃ e, res.1 = .inr e ∧ exs[e]? = some E ∧ M9 = res.2) := by
  rw [fX9_copyTune] at h
  refine Tri.go (n := 0) (ls := [some (.inr (0, 0, 0)), some (.inl (.int x1)), some (.inl (.int x2))]) rfl rfl rfl rfl rfl ?_
  refine z_aload_n (i := 0) dX9_copyTune_0 rfl rfl ?_
  refine z_getR (r' := (9, 0, 0)) dX9_copyTune_1 fl_X9_40 mk0 rfl rfl ?_
  refine z_iload_n (i := 1) dX9_copyTune_4 rfl rfl ?_
  refine z_fVi (sX0_tuneFault M 0 x1 (Nat.le_of_ble_eq_true rfl)) dX9_copyTune_5 ml_X9_179 cd_X0_tuneFault (m9 _ (Nat.le_of_ble_eq_true rfl)) rfl rfl rfl rfl rfl rfl ?_
  refine z_aload_n (i := 0) dX9_copyTune_8 rfl rfl ?_
  refine z_getR (r' := (9, 0, 0)) dX9_copyTune_9 fl_X9_40 mk0 rfl rfl ?_
  refine z_iload_n (i := 2) dX9_copyTune_12 rfl rfl ?_
  refine z_fVi (sX0_tuneFault M 0 x2 (Nat.le_of_ble_eq_true rfl)) dX9_copyTune_13 ml_X9_179 cd_X0_tuneFault (m9 _ (Nat.le_of_ble_eq_true rfl)) rfl rfl rfl rfl rfl rfl ?_
  refine z_fSi (sJ9_max_7cf53 M (fX0_tuneFault M 0 x1) (fX0_tuneFault M 0 x2)) dX9_copyTune_16 ml_X9_188 cd_J9_max_7cf53 rfl rfl rfl rfl rfl ?_
  refine z_refuse dX9_copyTune_19 ml_X9_172 rfl rfl rfl (fun hr1 => ?_) (fun e E hr1 h3 => by have h4 := thr_s h hr1; cases h4; exact ⟨e, rfl, h3, rfl⟩)
  have h := thr_n h hr1
  refine z_iload_n (i := 1) dX9_copyTune_22 rfl rfl ?_
  refine z_iload_n (i := 2) dX9_copyTune_23 rfl rfl ?_
  refine z_icmp_ne (tgt := 31) dX9_copyTune_24 rfl (fun hc2 => ?_) (fun hc2 => ?_)
  · have h := it_f h hc2
    refine z_iconst (v := (0 : Int32)) dX9_copyTune_31 kc_0 ?_
    refine z_refuse dX9_copyTune_32 ml_X9_172 rfl rfl rfl (fun hr3 => ?_) (fun e E hr3 h3 => by have h4 := thr_s h hr3; cases h4; exact ⟨e, rfl, h3, rfl⟩)
    have h := thr_n h hr3
    refine z_aload_n (i := 0) dX9_copyTune_35 rfl rfl ?_
    refine z_getR (r' := (14, 0, 0)) dX9_copyTune_36 fl_X9_68 mk0 rfl rfl ?_
    refine z_aload_n (i := 0) dX9_copyTune_39 rfl rfl ?_
    refine z_getR (r' := (9, 0, 0)) dX9_copyTune_40 fl_X9_40 mk0 rfl rfl ?_
    obtain ⟨q4, hq5, h⟩ := bnd h
    refine z_fVv (sX2_remember M 0 (Nat.le_of_ble_eq_true rfl) hq5) dX9_copyTune_43 ml_X9_137 cd_X2_remember mk14 rfl rfl rfl rfl rfl rfl ?_
    refine z_aload_n (i := 0) dX9_copyTune_46 rfl rfl ?_
    refine z_getR (r' := (9, 0, 0)) dX9_copyTune_47 fl_X9_40 mk0 rfl rfl ?_
    refine z_getR (r' := (10, 0, 0)) dX9_copyTune_50 fl_X9_153 (m9 _ (Nat.le_of_ble_eq_true rfl)) rfl rfl ?_
    refine z_iload_n (i := 1) dX9_copyTune_53 rfl rfl ?_
    refine z_iload_n (i := 2) dX9_copyTune_54 rfl rfl ?_
    obtain ⟨q6, hq7, h⟩ := bnd h
    refine z_fVv (sX3_copyPins q4 0 x1 x2 (Nat.le_of_ble_eq_true rfl) hq7) dX9_copyTune_55 ml_X9_322 cd_X3_copyPins (m10 _ (Nat.le_of_ble_eq_true rfl)) rfl rfl rfl rfl rfl rfl ?_
    refine z_aload_n (i := 0) dX9_copyTune_58 rfl rfl ?_
    refine z_getR (r' := (9, 0, 0)) dX9_copyTune_59 fl_X9_40 mk0 rfl rfl ?_
    refine z_getR (r' := (10, 0, 0)) dX9_copyTune_62 fl_X9_153 (m9 _ (Nat.le_of_ble_eq_true rfl)) rfl rfl ?_
    refine z_iload_n (i := 2) dX9_copyTune_65 rfl rfl ?_
    obtain ⟨q8, hq9, h⟩ := bnd h
    refine z_fVi (sX3_pinsOf q6 0 x2 (Nat.le_of_ble_eq_true rfl) hq9) dX9_copyTune_66 ml_X9_182 cd_X3_pinsOf (m10 _ (Nat.le_of_ble_eq_true rfl)) rfl rfl rfl rfl rfl rfl ?_
    cases h
    exact z_iret dX9_copyTune_69 rfl rfl (Nat.le_of_ble_eq_true rfl) (Nat.le_of_ble_eq_true rfl) ⟨_, rfl, rfl, rfl⟩
  · have h := it_t h hc2
    refine z_iconst (v := (2 : Int32)) dX9_copyTune_27 kc_2 ?_
    refine z_goto (tgt := 32) dX9_copyTune_28 rfl ?_
    refine z_refuse dX9_copyTune_32 ml_X9_172 rfl rfl rfl (fun hr10 => ?_) (fun e E hr10 h3 => by have h4 := thr_s h hr10; cases h4; exact ⟨e, rfl, h3, rfl⟩)
    have h := thr_n h hr10
    refine z_aload_n (i := 0) dX9_copyTune_35 rfl rfl ?_
    refine z_getR (r' := (14, 0, 0)) dX9_copyTune_36 fl_X9_68 mk0 rfl rfl ?_
    refine z_aload_n (i := 0) dX9_copyTune_39 rfl rfl ?_
    refine z_getR (r' := (9, 0, 0)) dX9_copyTune_40 fl_X9_40 mk0 rfl rfl ?_
    obtain ⟨q11, hq12, h⟩ := bnd h
    refine z_fVv (sX2_remember M 0 (Nat.le_of_ble_eq_true rfl) hq12) dX9_copyTune_43 ml_X9_137 cd_X2_remember mk14 rfl rfl rfl rfl rfl rfl ?_
    refine z_aload_n (i := 0) dX9_copyTune_46 rfl rfl ?_
    refine z_getR (r' := (9, 0, 0)) dX9_copyTune_47 fl_X9_40 mk0 rfl rfl ?_
    refine z_getR (r' := (10, 0, 0)) dX9_copyTune_50 fl_X9_153 (m9 _ (Nat.le_of_ble_eq_true rfl)) rfl rfl ?_
    refine z_iload_n (i := 1) dX9_copyTune_53 rfl rfl ?_
    refine z_iload_n (i := 2) dX9_copyTune_54 rfl rfl ?_
    obtain ⟨q13, hq14, h⟩ := bnd h
    refine z_fVv (sX3_copyPins q11 0 x1 x2 (Nat.le_of_ble_eq_true rfl) hq14) dX9_copyTune_55 ml_X9_322 cd_X3_copyPins (m10 _ (Nat.le_of_ble_eq_true rfl)) rfl rfl rfl rfl rfl rfl ?_
    refine z_aload_n (i := 0) dX9_copyTune_58 rfl rfl ?_
    refine z_getR (r' := (9, 0, 0)) dX9_copyTune_59 fl_X9_40 mk0 rfl rfl ?_
    refine z_getR (r' := (10, 0, 0)) dX9_copyTune_62 fl_X9_153 (m9 _ (Nat.le_of_ble_eq_true rfl)) rfl rfl ?_
    refine z_iload_n (i := 2) dX9_copyTune_65 rfl rfl ?_
    obtain ⟨q15, hq16, h⟩ := bnd h
    refine z_fVi (sX3_pinsOf q13 0 x2 (Nat.le_of_ble_eq_true rfl) hq16) dX9_copyTune_66 ml_X9_182 cd_X3_pinsOf (m10 _ (Nat.le_of_ble_eq_true rfl)) rfl rfl rfl rfl rfl rfl ?_
    cases h
    exact z_iret dX9_copyTune_69 rfl rfl (Nat.le_of_ble_eq_true rfl) (Nat.le_of_ble_eq_true rfl) ⟨_, rfl, rfl, rfl⟩
theorem dX9_selectTune_0 : decode cX9_selectTune 0 = .ok (.aload_n 0, 1) := by decide +kernel
theorem dX9_selectTune_1 : decode cX9_selectTune 1 = .ok (.getfield 40, 3) := by decide +kernel
theorem dX9_selectTune_4 : decode cX9_selectTune 4 = .ok (.iload_n 1, 1) := by decide +kernel
theorem dX9_selectTune_5 : decode cX9_selectTune 5 = .ok (.invokevirtual 179, 3) := by decide +kernel
theorem dX9_selectTune_8 : decode cX9_selectTune 8 = .ok (.invokestatic 172, 3) := by decide +kernel
theorem dX9_selectTune_11 : decode cX9_selectTune 11 = .ok (.aload_n 0, 1) := by decide +kernel
theorem dX9_selectTune_12 : decode cX9_selectTune 12 = .ok (.getfield 68, 3) := by decide +kernel
theorem dX9_selectTune_15 : decode cX9_selectTune 15 = .ok (.aload_n 0, 1) := by decide +kernel
theorem dX9_selectTune_16 : decode cX9_selectTune 16 = .ok (.getfield 40, 3) := by decide +kernel
theorem dX9_selectTune_19 : decode cX9_selectTune 19 = .ok (.invokevirtual 137, 3) := by decide +kernel
theorem dX9_selectTune_22 : decode cX9_selectTune 22 = .ok (.aload_n 0, 1) := by decide +kernel
theorem dX9_selectTune_23 : decode cX9_selectTune 23 = .ok (.getfield 40, 3) := by decide +kernel
theorem dX9_selectTune_26 : decode cX9_selectTune 26 = .ok (.getfield 153, 3) := by decide +kernel
theorem dX9_selectTune_29 : decode cX9_selectTune 29 = .ok (.getfield 162, 3) := by decide +kernel
theorem dX9_selectTune_32 : decode cX9_selectTune 32 = .ok (.istore_n 2, 1) := by decide +kernel
theorem dX9_selectTune_33 : decode cX9_selectTune 33 = .ok (.aload_n 0, 1) := by decide +kernel
theorem dX9_selectTune_34 : decode cX9_selectTune 34 = .ok (.getfield 40, 3) := by decide +kernel
theorem dX9_selectTune_37 : decode cX9_selectTune 37 = .ok (.getfield 153, 3) := by decide +kernel
theorem dX9_selectTune_40 : decode cX9_selectTune 40 = .ok (.iload_n 1, 1) := by decide +kernel
theorem dX9_selectTune_41 : decode cX9_selectTune 41 = .ok (.putfield 162, 3) := by decide +kernel
theorem dX9_selectTune_44 : decode cX9_selectTune 44 = .ok (.iload_n 2, 1) := by decide +kernel
theorem dX9_selectTune_45 : decode cX9_selectTune 45 = .ok (.ireturn, 1) := by decide +kernel
def fX9_selectTune (M : Mm) (x1 : Int32) : Option ((Int32 ⊕ Nat) × Mm) := thr (rfz (fX0_tuneFault M 0 x1)) M ((fX2_remember M 0).bind fun q2 => some (.inl (q2.1 (10, 0, 0) 3), (putI q2 (10, 0, 0) 3 x1)))
set_option maxRecDepth 20000 in
set_option maxHeartbeats 2000000 in
theorem sX9_selectTune {wv : Nat} (M : Mm) (x1 : Int32) {res : ((Int32 ⊕ Nat) × Mm)} (h : fX9_selectTune M x1 = some res) : Tri yX9_selectTune (.code yX9_selectTune cX9_selectTune 3 (some .int)) 7 4 24 SH (allR wv) [.inr (0, 0, 0), .inl (.int x1)] M (fun v M9 => ∃ x, res.1 = .inl x ∧ v = some (.int x) ∧ M9 = res.2) (fun E M9 => ∃ e, res.1 = .inr e ∧ exs[e]? = some E ∧ M9 = res.2) := by
  rw [fX9_selectTune] at h
  refine Tri.go (n := 1) (ls := [some (.inr (0, 0, 0)), some (.inl (.int x1)), none]) rfl rfl rfl rfl rfl ?_
  refine z_aload_n (i := 0) dX9_selectTune_0 rfl rfl ?_
  refine z_getR (r' := (9, 0, 0)) dX9_selectTune_1 fl_X9_40 mk0 rfl rfl ?_
  refine z_iload_n (i := 1) dX9_selectTune_4 rfl rfl ?_
  refine z_fVi (sX0_tuneFault M 0 x1 (Nat.le_of_ble_eq_true rfl)) dX9_selectTune_5 ml_X9_179 cd_X0_tuneFault (m9 _ (Nat.le_of_ble_eq_true rfl)) rfl rfl rfl rfl rfl rfl ?_
  refine z_refuse dX9_selectTune_8 ml_X9_172 rfl rfl rfl (fun hr1 => ?_) (fun e E hr1 h3 => by have h4 := thr_s h hr1; cases h4; exact ⟨e, rfl, h3, rfl⟩)
  have h := thr_n h hr1
  refine z_aload_n (i := 0) dX9_selectTune_11 rfl rfl ?_
  refine z_getR (r' := (14, 0, 0)) dX9_selectTune_12 fl_X9_68 mk0 rfl rfl ?_
  refine z_aload_n (i := 0) dX9_selectTune_15 rfl rfl ?_
  refine z_getR (r' := (9, 0, 0)) dX9_selectTune_16 fl_X9_40 mk0 rfl rfl ?_
  obtain ⟨q2, hq3, h⟩ := bnd h
  refine z_fVv (sX2_remember M 0 (Nat.le_of_ble_eq_true rfl) hq3) dX9_selectTune_19 ml_X9_137 cd_X2_remember mk14 rfl rfl rfl rfl rfl rfl ?_
  refine z_aload_n (i := 0) dX9_selectTune_22 rfl rfl ?_
  refine z_getR (r' := (9, 0, 0)) dX9_selectTune_23 fl_X9_40 mk0 rfl rfl ?_
  refine z_getR (r' := (10, 0, 0)) dX9_selectTune_26 fl_X9_153 (m9 _ (Nat.le_of_ble_eq_true rfl)) rfl rfl ?_
  refine z_getI (x := (q2.1 (10, 0, 0) 3)) dX9_selectTune_29 fl_X9_162 (m10 _ (Nat.le_of_ble_eq_true rfl)) rfl rfl ?_
  refine z_istore_n (i := 2) dX9_selectTune_32 rfl (Nat.le_of_ble_eq_true rfl) rfl ?_
  refine z_aload_n (i := 0) dX9_selectTune_33 rfl rfl ?_
  refine z_getR (r' := (9, 0, 0)) dX9_selectTune_34 fl_X9_40 mk0 rfl rfl ?_
  refine z_getR (r' := (10, 0, 0)) dX9_selectTune_37 fl_X9_153 (m9 _ (Nat.le_of_ble_eq_true rfl)) rfl rfl ?_
  refine z_iload_n (i := 1) dX9_selectTune_40 rfl rfl ?_
  refine z_putI allR_nd dX9_selectTune_41 fl_X9_162 (m10 _ (Nat.le_of_ble_eq_true rfl)) rfl rfl ?_
  refine z_iload_n (i := 2) dX9_selectTune_44 rfl rfl ?_
  cases h
  exact z_iret dX9_selectTune_45 rfl rfl (Nat.le_of_ble_eq_true rfl) (Nat.le_of_ble_eq_true rfl) ⟨_, rfl, rfl, rfl⟩
theorem dX9_setGap_0 : decode cX9_setGap 0 = .ok (.aload_n 0, 1) := by decide +kernel
theorem dX9_setGap_1 : decode cX9_setGap 1 = .ok (.getfield 40, 3) := by decide +kernel
theorem dX9_setGap_4 : decode cX9_setGap 4 = .ok (.iload_n 1, 1) := by decide +kernel
theorem dX9_setGap_5 : decode cX9_setGap 5 = .ok (.iload_n 2, 1) := by decide +kernel
theorem dX9_setGap_6 : decode cX9_setGap 6 = .ok (.invokevirtual 325, 3) := by decide +kernel
theorem dX9_setGap_9 : decode cX9_setGap 9 = .ok (.invokestatic 172, 3) := by decide +kernel
theorem dX9_setGap_12 : decode cX9_setGap 12 = .ok (.aload_n 0, 1) := by decide +kernel
theorem dX9_setGap_13 : decode cX9_setGap 13 = .ok (.getfield 68, 3) := by decide +kernel
theorem dX9_setGap_16 : decode cX9_setGap 16 = .ok (.aload_n 0, 1) := by decide +kernel
theorem dX9_setGap_17 : decode cX9_setGap 17 = .ok (.getfield 40, 3) := by decide +kernel
theorem dX9_setGap_20 : decode cX9_setGap 20 = .ok (.invokevirtual 137, 3) := by decide +kernel
theorem dX9_setGap_23 : decode cX9_setGap 23 = .ok (.aload_n 0, 1) := by decide +kernel
theorem dX9_setGap_24 : decode cX9_setGap 24 = .ok (.getfield 40, 3) := by decide +kernel
theorem dX9_setGap_27 : decode cX9_setGap 27 = .ok (.getfield 217, 3) := by decide +kernel
theorem dX9_setGap_30 : decode cX9_setGap 30 = .ok (.iload_n 1, 1) := by decide +kernel
theorem dX9_setGap_31 : decode cX9_setGap 31 = .ok (.aaload, 1) := by decide +kernel
theorem dX9_setGap_32 : decode cX9_setGap 32 = .ok (.getfield 229, 3) := by decide +kernel
theorem dX9_setGap_35 : decode cX9_setGap 35 = .ok (.istore_n 3, 1) := by decide +kernel
theorem dX9_setGap_36 : decode cX9_setGap 36 = .ok (.aload_n 0, 1) := by decide +kernel
theorem dX9_setGap_37 : decode cX9_setGap 37 = .ok (.getfield 40, 3) := by decide +kernel
theorem dX9_setGap_40 : decode cX9_setGap 40 = .ok (.getfield 217, 3) := by decide +kernel
theorem dX9_setGap_43 : decode cX9_setGap 43 = .ok (.iload_n 1, 1) := by decide +kernel
theorem dX9_setGap_44 : decode cX9_setGap 44 = .ok (.aaload, 1) := by decide +kernel
theorem dX9_setGap_45 : decode cX9_setGap 45 = .ok (.iload_n 2, 1) := by decide +kernel
theorem dX9_setGap_46 : decode cX9_setGap 46 = .ok (.putfield 229, 3) := by decide +kernel
theorem dX9_setGap_49 : decode cX9_setGap 49 = .ok (.iload_n 3, 1) := by decide +kernel
theorem dX9_setGap_50 : decode cX9_setGap 50 = .ok (.ireturn, 1) := by decide +kernel
def fX9_setGap (M : Mm) (x1 : Int32) (x2 : Int32) : Option ((Int32 ⊕ Nat) × Mm) := thr (rfz (fX0_gapFault M 0 x1 x2)) M ((fX2_remember M 0).bind fun q2 => if x1 < 0 ∨ 12 ≤ x1.toNatClampNeg then none else if x1 < 0 ∨ 12 ≤ x1.toNatClampNeg then none else some (.inl (q2.1 (13, 0, x1.toNatClampNeg) 2), (putI q2 (13, 0, x1.toNatClampNeg) 2 x2)))
set_option maxRecDepth 20000 in
set_option maxHeartbeats 2000000 in
theorem sX9_setGap {wv : Nat} (M : Mm) (x1 : Int32) (x2 : Int32) {res : ((Int32 ⊕ Nat) × Mm)} (h : fX9_setGap M x1 x2 = some res) : Tri yX9_setGap (.code yX9_setGap cX9_setGap 4 (some .int)) 7 4 24 SH (allR wv) [.inr (0, 0, 0), .inl (.int x1), .inl (.int x2)] M (fun v M9 => ∃ x, res.1 = .inl x ∧ v = some (.int x) ∧ M9 = res.2) (fun E M9 => ∃ e, res.1 = .inr e ∧ exs[e]? = some E ∧ M9 = res.2) := by
  rw [fX9_setGap] at h
  refine Tri.go (n := 1) (ls := [some (.inr (0, 0, 0)), some (.inl (.int x1)), some (.inl (.int x2)), none]) rfl rfl rfl rfl rfl ?_
  refine z_aload_n (i := 0) dX9_setGap_0 rfl rfl ?_
  refine z_getR (r' := (9, 0, 0)) dX9_setGap_1 fl_X9_40 mk0 rfl rfl ?_
  refine z_iload_n (i := 1) dX9_setGap_4 rfl rfl ?_
  refine z_iload_n (i := 2) dX9_setGap_5 rfl rfl ?_
  refine z_fVi (sX0_gapFault M 0 x1 x2 (Nat.le_of_ble_eq_true rfl)) dX9_setGap_6 ml_X9_325 cd_X0_gapFault (m9 _ (Nat.le_of_ble_eq_true rfl)) rfl rfl rfl rfl rfl rfl ?_
  refine z_refuse dX9_setGap_9 ml_X9_172 rfl rfl rfl (fun hr1 => ?_) (fun e E hr1 h3 => by have h4 := thr_s h hr1; cases h4; exact ⟨e, rfl, h3, rfl⟩)
  have h := thr_n h hr1
  refine z_aload_n (i := 0) dX9_setGap_12 rfl rfl ?_
  refine z_getR (r' := (14, 0, 0)) dX9_setGap_13 fl_X9_68 mk0 rfl rfl ?_
  refine z_aload_n (i := 0) dX9_setGap_16 rfl rfl ?_
  refine z_getR (r' := (9, 0, 0)) dX9_setGap_17 fl_X9_40 mk0 rfl rfl ?_
  obtain ⟨q2, hq3, h⟩ := bnd h
  refine z_fVv (sX2_remember M 0 (Nat.le_of_ble_eq_true rfl) hq3) dX9_setGap_20 ml_X9_137 cd_X2_remember mk14 rfl rfl rfl rfl rfl rfl ?_
  refine z_aload_n (i := 0) dX9_setGap_23 rfl rfl ?_
  refine z_getR (r' := (9, 0, 0)) dX9_setGap_24 fl_X9_40 mk0 rfl rfl ?_
  refine z_getR (r' := (12, 0, 0)) dX9_setGap_27 fl_X9_217 (m9 _ (Nat.le_of_ble_eq_true rfl)) rfl rfl ?_
  refine z_iload_n (i := 1) dX9_setGap_30 rfl rfl ?_
  obtain ⟨hc4, h⟩ := chk h
  refine z_aald (t := 0) (r' := (13, 0, x1.toNatClampNeg)) dX9_setGap_31 (m12 _ (Nat.le_of_ble_eq_true rfl)) rfl (Nat.le_of_ble_eq_true rfl) hc4 rfl ?_
  refine z_getI (x := (q2.1 (13, 0, x1.toNatClampNeg) 2)) dX9_setGap_32 fl_X9_229 (m13 _ (Nat.le_of_ble_eq_true rfl) _ (ltN hc4)) rfl rfl ?_
  refine z_istore_n (i := 3) dX9_setGap_35 rfl (Nat.le_of_ble_eq_true rfl) rfl ?_
  refine z_aload_n (i := 0) dX9_setGap_36 rfl rfl ?_
  refine z_getR (r' := (9, 0, 0)) dX9_setGap_37 fl_X9_40 mk0 rfl rfl ?_
  refine z_getR (r' := (12, 0, 0)) dX9_setGap_40 fl_X9_217 (m9 _ (Nat.le_of_ble_eq_true rfl)) rfl rfl ?_
  refine z_iload_n (i := 1) dX9_setGap_43 rfl rfl ?_
  obtain ⟨hc5, h⟩ := chk h
  refine z_aald (t := 0) (r' := (13, 0, x1.toNatClampNeg)) dX9_setGap_44 (m12 _ (Nat.le_of_ble_eq_true rfl)) rfl (Nat.le_of_ble_eq_true rfl) hc5 rfl ?_
  refine z_iload_n (i := 2) dX9_setGap_45 rfl rfl ?_
  refine z_putI allR_nd dX9_setGap_46 fl_X9_229 (m13 _ (Nat.le_of_ble_eq_true rfl) _ (ltN hc5)) rfl rfl ?_
  refine z_iload_n (i := 3) dX9_setGap_49 rfl rfl ?_
  cases h
  exact z_iret dX9_setGap_50 rfl rfl (Nat.le_of_ble_eq_true rfl) (Nat.le_of_ble_eq_true rfl) ⟨_, rfl, rfl, rfl⟩
