theorem dX9_bend_0 : decode cX9_bend 0 = .ok (.aload_n 0, 1) := by decide +kernel
theorem dX9_bend_1 : decode cX9_bend 1 = .ok (.getfield 40, 3) := by decide +kernel
theorem dX9_bend_4 : decode cX9_bend 4 = .ok (.iload_n 1, 1) := by decide +kernel
theorem dX9_bend_5 : decode cX9_bend 5 = .ok (.iload_n 2, 1) := by decide +kernel
theorem dX9_bend_6 : decode cX9_bend 6 = .ok (.invokevirtual 328, 3) := by decide +kernel
theorem dX9_bend_9 : decode cX9_bend 9 = .ok (.invokestatic 172, 3) := by decide +kernel
theorem dX9_bend_12 : decode cX9_bend 12 = .ok (.aload_n 0, 1) := by decide +kernel
theorem dX9_bend_13 : decode cX9_bend 13 = .ok (.getfield 68, 3) := by decide +kernel
theorem dX9_bend_16 : decode cX9_bend 16 = .ok (.aload_n 0, 1) := by decide +kernel
theorem dX9_bend_17 : decode cX9_bend 17 = .ok (.getfield 40, 3) := by decide +kernel
theorem dX9_bend_20 : decode cX9_bend 20 = .ok (.invokevirtual 137, 3) := by decide +kernel
theorem dX9_bend_23 : decode cX9_bend 23 = .ok (.aload_n 0, 1) := by decide +kernel
theorem dX9_bend_24 : decode cX9_bend 24 = .ok (.getfield 40, 3) := by decide +kernel
theorem dX9_bend_27 : decode cX9_bend 27 = .ok (.iload_n 1, 1) := by decide +kernel
theorem dX9_bend_28 : decode cX9_bend 28 = .ok (.iload_n 2, 1) := by decide +kernel
theorem dX9_bend_29 : decode cX9_bend 29 = .ok (.invokevirtual 331, 3) := by decide +kernel
theorem dX9_bend_32 : decode cX9_bend 32 = .ok (.aload_n 0, 1) := by decide +kernel
theorem dX9_bend_33 : decode cX9_bend 33 = .ok (.getfield 40, 3) := by decide +kernel
theorem dX9_bend_36 : decode cX9_bend 36 = .ok (.getfield 217, 3) := by decide +kernel
theorem dX9_bend_39 : decode cX9_bend 39 = .ok (.iload_n 1, 1) := by decide +kernel
theorem dX9_bend_40 : decode cX9_bend 40 = .ok (.aaload, 1) := by decide +kernel
theorem dX9_bend_41 : decode cX9_bend 41 = .ok (.getfield 226, 3) := by decide +kernel
theorem dX9_bend_44 : decode cX9_bend 44 = .ok (.ireturn, 1) := by decide +kernel
def fX9_bend (M : Mm) (x1 : Int32) (x2 : Int32) : Option ((Int32 ⊕ Nat) × Mm) := (fX0_bendFault M 0 x1 x2).bind fun q1 => thr (rfz q1) M ((fX2_remember M 0).bind fun q4 => (fX0_bendTooth q4 0 x1 x2).bind fun q6 => if x1 < 0 ∨ 12 ≤ x1.toNatClampNeg then none else some (.inl (q6.1 (13, 0, x1.toNatClampNeg) 1), q6))
set_option maxRecDepth 20000 in
set_option maxHeartbeats 2000000 in
theorem sX9_bend {wv : Nat} (M : Mm) (x1 : Int32) (x2 : Int32) {res : ((Int32 ⊕ Nat) × Mm)} (h : fX9_bend M x1 x2 = some res) : Tri yX9_bend (.code yX9_bend cX9_bend 3 (some .int)) 7 4 24 SH (allR wv) [.inr (0, 0, 0), .inl (.int x1), .inl (.int x2)] M (fun v M9 => ∃ x, res.1 = .inl x ∧ v = some (.int x) ∧ M9 = res.2) (fun E M9 => ∃ e, res.1 = .inr e ∧ exs[e]? = some E ∧ M9 = res.2) := by
  rw [fX9_bend] at h
  refine Tri.go (n := 0) (ls := [some (.inr (0, 0, 0)), some (.inl (.int x1)), some (.inl (.int x2))]) rfl rfl rfl rfl rfl ?_
  refine z_aload_n (i := 0) dX9_bend_0 rfl rfl ?_
  refine z_getR (r' := (9, 0, 0)) dX9_bend_1 fl_X9_40 mk0 rfl rfl ?_
  refine z_iload_n (i := 1) dX9_bend_4 rfl rfl ?_
  refine z_iload_n (i := 2) dX9_bend_5 rfl rfl ?_
  obtain ⟨q1, hq2, h⟩ := bnd h
  refine z_fVi (sX0_bendFault M 0 x1 x2 (Nat.le_of_ble_eq_true rfl) hq2) dX9_bend_6 ml_X9_328 cd_X0_bendFault (m9 _ (Nat.le_of_ble_eq_true rfl)) rfl rfl rfl rfl rfl rfl ?_
  refine z_refuse dX9_bend_9 ml_X9_172 rfl rfl rfl (fun hr3 => ?_) (fun e E hr3 h3 => by have h4 := thr_s h hr3; cases h4; exact ⟨e, rfl, h3, rfl⟩)
  have h := thr_n h hr3
  refine z_aload_n (i := 0) dX9_bend_12 rfl rfl ?_
  refine z_getR (r' := (14, 0, 0)) dX9_bend_13 fl_X9_68 mk0 rfl rfl ?_
  refine z_aload_n (i := 0) dX9_bend_16 rfl rfl ?_
  refine z_getR (r' := (9, 0, 0)) dX9_bend_17 fl_X9_40 mk0 rfl rfl ?_
  obtain ⟨q4, hq5, h⟩ := bnd h
  refine z_fVv (sX2_remember M 0 (Nat.le_of_ble_eq_true rfl) hq5) dX9_bend_20 ml_X9_137 cd_X2_remember mk14 rfl rfl rfl rfl rfl rfl ?_
  refine z_aload_n (i := 0) dX9_bend_23 rfl rfl ?_
  refine z_getR (r' := (9, 0, 0)) dX9_bend_24 fl_X9_40 mk0 rfl rfl ?_
  refine z_iload_n (i := 1) dX9_bend_27 rfl rfl ?_
  refine z_iload_n (i := 2) dX9_bend_28 rfl rfl ?_
  obtain ⟨q6, hq7, h⟩ := bnd h
  refine z_fVv (sX0_bendTooth q4 0 x1 x2 (Nat.le_of_ble_eq_true rfl) hq7) dX9_bend_29 ml_X9_331 cd_X0_bendTooth (m9 _ (Nat.le_of_ble_eq_true rfl)) rfl rfl rfl rfl rfl rfl ?_
  refine z_aload_n (i := 0) dX9_bend_32 rfl rfl ?_
  refine z_getR (r' := (9, 0, 0)) dX9_bend_33 fl_X9_40 mk0 rfl rfl ?_
  refine z_getR (r' := (12, 0, 0)) dX9_bend_36 fl_X9_217 (m9 _ (Nat.le_of_ble_eq_true rfl)) rfl rfl ?_
  refine z_iload_n (i := 1) dX9_bend_39 rfl rfl ?_
  obtain ⟨hc8, h⟩ := chk h
  refine z_aald (t := 0) (r' := (13, 0, x1.toNatClampNeg)) dX9_bend_40 (m12 _ (Nat.le_of_ble_eq_true rfl)) rfl (Nat.le_of_ble_eq_true rfl) hc8 rfl ?_
  refine z_getI (x := (q6.1 (13, 0, x1.toNatClampNeg) 1)) dX9_bend_41 fl_X9_226 (m13 _ (Nat.le_of_ble_eq_true rfl) _ (ltN hc8)) rfl rfl ?_
  cases h
  exact z_iret dX9_bend_44 rfl rfl (Nat.le_of_ble_eq_true rfl) (Nat.le_of_ble_eq_true rfl) ⟨_, rfl, rfl, rfl⟩
theorem dX9_replaceTooth_0 : decode cX9_replaceTooth 0 = .ok (.aload_n 0, 1) := by decide +kernel
theorem dX9_replaceTooth_1 : decode cX9_replaceTooth 1 = .ok (.getfield 40, 3) := by decide +kernel
theorem dX9_replaceTooth_4 : decode cX9_replaceTooth 4 = .ok (.iload_n 1, 1) := by decide +kernel
theorem dX9_replaceTooth_5 : decode cX9_replaceTooth 5 = .ok (.invokevirtual 214, 3) := by decide +kernel
theorem dX9_replaceTooth_8 : decode cX9_replaceTooth 8 = .ok (.invokestatic 172, 3) := by decide +kernel
theorem dX9_replaceTooth_11 : decode cX9_replaceTooth 11 = .ok (.aload_n 0, 1) := by decide +kernel
theorem dX9_replaceTooth_12 : decode cX9_replaceTooth 12 = .ok (.getfield 68, 3) := by decide +kernel
theorem dX9_replaceTooth_15 : decode cX9_replaceTooth 15 = .ok (.aload_n 0, 1) := by decide +kernel
theorem dX9_replaceTooth_16 : decode cX9_replaceTooth 16 = .ok (.getfield 40, 3) := by decide +kernel
theorem dX9_replaceTooth_19 : decode cX9_replaceTooth 19 = .ok (.invokevirtual 137, 3) := by decide +kernel
theorem dX9_replaceTooth_22 : decode cX9_replaceTooth 22 = .ok (.aload_n 0, 1) := by decide +kernel
theorem dX9_replaceTooth_23 : decode cX9_replaceTooth 23 = .ok (.getfield 40, 3) := by decide +kernel
theorem dX9_replaceTooth_26 : decode cX9_replaceTooth 26 = .ok (.getfield 217, 3) := by decide +kernel
theorem dX9_replaceTooth_29 : decode cX9_replaceTooth 29 = .ok (.iload_n 1, 1) := by decide +kernel
theorem dX9_replaceTooth_30 : decode cX9_replaceTooth 30 = .ok (.aaload, 1) := by decide +kernel
theorem dX9_replaceTooth_31 : decode cX9_replaceTooth 31 = .ok (.getfield 232, 3) := by decide +kernel
theorem dX9_replaceTooth_34 : decode cX9_replaceTooth 34 = .ok (.istore_n 2, 1) := by decide +kernel
theorem dX9_replaceTooth_35 : decode cX9_replaceTooth 35 = .ok (.aload_n 0, 1) := by decide +kernel
theorem dX9_replaceTooth_36 : decode cX9_replaceTooth 36 = .ok (.getfield 40, 3) := by decide +kernel
theorem dX9_replaceTooth_39 : decode cX9_replaceTooth 39 = .ok (.iload_n 1, 1) := by decide +kernel
theorem dX9_replaceTooth_40 : decode cX9_replaceTooth 40 = .ok (.invokevirtual 334, 3) := by decide +kernel
theorem dX9_replaceTooth_43 : decode cX9_replaceTooth 43 = .ok (.iload_n 2, 1) := by decide +kernel
theorem dX9_replaceTooth_44 : decode cX9_replaceTooth 44 = .ok (.ireturn, 1) := by decide +kernel
def fX9_replaceTooth (M : Mm) (x1 : Int32) : Option ((Int32 ⊕ Nat) × Mm) := thr (rfz (fX0_toothFault M 0 x1)) M ((fX2_remember M 0).bind fun q2 => if x1 < 0 ∨ 12 ≤ x1.toNatClampNeg then none else (fX0_mendTooth q2 0 x1).bind fun q5 => some (.inl (q2.1 (13, 0, x1.toNatClampNeg) 4), q5))
set_option maxRecDepth 20000 in
set_option maxHeartbeats 2000000 in
theorem sX9_replaceTooth {wv : Nat} (M : Mm) (x1 : Int32) {res : ((Int32 ⊕ Nat) × Mm)} (h : fX9_replaceTooth M x1 = some res) : Tri yX9_replaceTooth (.code yX9_replaceTooth cX9_replaceTooth 3 (some .int)) 7 4 24 SH (allR wv) [.inr (0, 0, 0), .inl (.int x1)] M (fun v M9 => ∃ x, res.1 = .inl x ∧ v = some (.int x) ∧ M9 = res.2) (fun E M9 => ∃ e, res.1 = .inr e ∧ exs[e]? = some E ∧ M9 = res.2) := by
  rw [fX9_replaceTooth] at h
  refine Tri.go (n := 1) (ls := [some (.inr (0, 0, 0)), some (.inl (.int x1)), none]) rfl rfl rfl rfl rfl ?_
  refine z_aload_n (i := 0) dX9_replaceTooth_0 rfl rfl ?_
  refine z_getR (r' := (9, 0, 0)) dX9_replaceTooth_1 fl_X9_40 mk0 rfl rfl ?_
  refine z_iload_n (i := 1) dX9_replaceTooth_4 rfl rfl ?_
  refine z_fVi (sX0_toothFault M 0 x1 (Nat.le_of_ble_eq_true rfl)) dX9_replaceTooth_5 ml_X9_214 cd_X0_toothFault (m9 _ (Nat.le_of_ble_eq_true rfl)) rfl rfl rfl rfl rfl rfl ?_
  refine z_refuse dX9_replaceTooth_8 ml_X9_172 rfl rfl rfl (fun hr1 => ?_) (fun e E hr1 h3 => by have h4 := thr_s h hr1; cases h4; exact ⟨e, rfl, h3, rfl⟩)
  have h := thr_n h hr1
  refine z_aload_n (i := 0) dX9_replaceTooth_11 rfl rfl ?_
  refine z_getR (r' := (14, 0, 0)) dX9_replaceTooth_12 fl_X9_68 mk0 rfl rfl ?_
  refine z_aload_n (i := 0) dX9_replaceTooth_15 rfl rfl ?_
  refine z_getR (r' := (9, 0, 0)) dX9_replaceTooth_16 fl_X9_40 mk0 rfl rfl ?_
  obtain ⟨q2, hq3, h⟩ := bnd h
  refine z_fVv (sX2_remember M 0 (Nat.le_of_ble_eq_true rfl) hq3) dX9_replaceTooth_19 ml_X9_137 cd_X2_remember mk14 rfl rfl rfl rfl rfl rfl ?_
  refine z_aload_n (i := 0) dX9_replaceTooth_22 rfl rfl ?_
  refine z_getR (r' := (9, 0, 0)) dX9_replaceTooth_23 fl_X9_40 mk0 rfl rfl ?_
  refine z_getR (r' := (12, 0, 0)) dX9_replaceTooth_26 fl_X9_217 (m9 _ (Nat.le_of_ble_eq_true rfl)) rfl rfl ?_
  refine z_iload_n (i := 1) dX9_replaceTooth_29 rfl rfl ?_
  obtain ⟨hc4, h⟩ := chk h
  refine z_aald (t := 0) (r' := (13, 0, x1.toNatClampNeg)) dX9_replaceTooth_30 (m12 _ (Nat.le_of_ble_eq_true rfl)) rfl (Nat.le_of_ble_eq_true rfl) hc4 rfl ?_
  refine z_getI (x := (q2.1 (13, 0, x1.toNatClampNeg) 4)) dX9_replaceTooth_31 fl_X9_232 (m13 _ (Nat.le_of_ble_eq_true rfl) _ (ltN hc4)) rfl rfl ?_
  refine z_istore_n (i := 2) dX9_replaceTooth_34 rfl (Nat.le_of_ble_eq_true rfl) rfl ?_
  refine z_aload_n (i := 0) dX9_replaceTooth_35 rfl rfl ?_
  refine z_getR (r' := (9, 0, 0)) dX9_replaceTooth_36 fl_X9_40 mk0 rfl rfl ?_
  refine z_iload_n (i := 1) dX9_replaceTooth_39 rfl rfl ?_
  obtain ⟨q5, hq6, h⟩ := bnd h
  refine z_fVv (sX0_mendTooth q2 0 x1 (Nat.le_of_ble_eq_true rfl) hq6) dX9_replaceTooth_40 ml_X9_334 cd_X0_mendTooth (m9 _ (Nat.le_of_ble_eq_true rfl)) rfl rfl rfl rfl rfl rfl ?_
  refine z_iload_n (i := 2) dX9_replaceTooth_43 rfl rfl ?_
  cases h
  exact z_iret dX9_replaceTooth_44 rfl rfl (Nat.le_of_ble_eq_true rfl) (Nat.le_of_ble_eq_true rfl) ⟨_, rfl, rfl, rfl⟩
theorem dX9_setVane_0 : decode cX9_setVane 0 = .ok (.iload_n 1, 1) := by decide +kernel
theorem dX9_setVane_1 : decode cX9_setVane 1 = .ok (.iconst 0, 1) := by decide +kernel
theorem dX9_setVane_2 : decode cX9_setVane 2 = .ok (.bipush 90, 2) := by decide +kernel
theorem dX9_setVane_4 : decode cX9_setVane 4 = .ok (.invokestatic 296, 3) := by decide +kernel
theorem dX9_setVane_7 : decode cX9_setVane 7 = .ok (.invokestatic 172, 3) := by decide +kernel
theorem dX9_setVane_10 : decode cX9_setVane 10 = .ok (.aload_n 0, 1) := by decide +kernel
theorem dX9_setVane_11 : decode cX9_setVane 11 = .ok (.getfield 68, 3) := by decide +kernel
theorem dX9_setVane_14 : decode cX9_setVane 14 = .ok (.aload_n 0, 1) := by decide +kernel
theorem dX9_setVane_15 : decode cX9_setVane 15 = .ok (.getfield 40, 3) := by decide +kernel
theorem dX9_setVane_18 : decode cX9_setVane 18 = .ok (.invokevirtual 137, 3) := by decide +kernel
theorem dX9_setVane_21 : decode cX9_setVane 21 = .ok (.aload_n 0, 1) := by decide +kernel
theorem dX9_setVane_22 : decode cX9_setVane 22 = .ok (.getfield 40, 3) := by decide +kernel
theorem dX9_setVane_25 : decode cX9_setVane 25 = .ok (.getfield 247, 3) := by decide +kernel
theorem dX9_setVane_28 : decode cX9_setVane 28 = .ok (.istore_n 2, 1) := by decide +kernel
theorem dX9_setVane_29 : decode cX9_setVane 29 = .ok (.aload_n 0, 1) := by decide +kernel
theorem dX9_setVane_30 : decode cX9_setVane 30 = .ok (.getfield 40, 3) := by decide +kernel
theorem dX9_setVane_33 : decode cX9_setVane 33 = .ok (.iload_n 1, 1) := by decide +kernel
theorem dX9_setVane_34 : decode cX9_setVane 34 = .ok (.putfield 247, 3) := by decide +kernel
theorem dX9_setVane_37 : decode cX9_setVane 37 = .ok (.iload_n 2, 1) := by decide +kernel
theorem dX9_setVane_38 : decode cX9_setVane 38 = .ok (.ireturn, 1) := by decide +kernel
def fX9_setVane (M : Mm) (x1 : Int32) : Option ((Int32 ⊕ Nat) × Mm) := thr (rfz (fX9_rangeFault M x1 (0 : Int32) (90 : Int32))) M ((fX2_remember M 0).bind fun q2 => some (.inl (q2.1 (9, 0, 0) 4), (putI q2 (9, 0, 0) 4 x1)))
set_option maxRecDepth 20000 in
set_option maxHeartbeats 2000000 in
theorem sX9_setVane {wv : Nat} (M : Mm) (x1 : Int32) {res : ((Int32 ⊕ Nat) × Mm)} (h : fX9_setVane M x1 = some res) : Tri yX9_setVane (.code yX9_setVane cX9_setVane 3 (some .int)) 7 4 24 SH (allR wv) [.inr (0, 0, 0), .inl (.int x1)] M (fun v M9 => ∃ x, res.1 = .inl x ∧ v = some (.int x) ∧ M9 = res.2) (fun E M9 => ∃ e, res.1 = .inr e ∧ exs[e]? = some E ∧ M9 = res.2) := by
  rw [fX9_setVane] at h
  refine Tri.go (n := 1) (ls := [some (.inr (0, 0, 0)), some (.inl (.int x1)), none]) rfl rfl rfl rfl rfl ?_
  refine z_iload_n (i := 1) dX9_setVane_0 rfl rfl ?_
  refine z_iconst (v := (0 : Int32)) dX9_setVane_1 kc_0 ?_
  refine z_bipush (v := (90 : Int32)) dX9_setVane_2 kb_90 ?_
  refine z_fSi (sX9_rangeFault M x1 (0 : Int32) (90 : Int32)) dX9_setVane_4 ml_X9_296 cd_X9_rangeFault rfl rfl rfl rfl rfl ?_
  refine z_refuse dX9_setVane_7 ml_X9_172 rfl rfl rfl (fun hr1 => ?_) (fun e E hr1 h3 => by have h4 := thr_s h hr1; cases h4; exact ⟨e, rfl, h3, rfl⟩)
  have h := thr_n h hr1
  refine z_aload_n (i := 0) dX9_setVane_10 rfl rfl ?_
  refine z_getR (r' := (14, 0, 0)) dX9_setVane_11 fl_X9_68 mk0 rfl rfl ?_
  refine z_aload_n (i := 0) dX9_setVane_14 rfl rfl ?_
  refine z_getR (r' := (9, 0, 0)) dX9_setVane_15 fl_X9_40 mk0 rfl rfl ?_
  obtain ⟨q2, hq3, h⟩ := bnd h
  refine z_fVv (sX2_remember M 0 (Nat.le_of_ble_eq_true rfl) hq3) dX9_setVane_18 ml_X9_137 cd_X2_remember mk14 rfl rfl rfl rfl rfl rfl ?_
  refine z_aload_n (i := 0) dX9_setVane_21 rfl rfl ?_
  refine z_getR (r' := (9, 0, 0)) dX9_setVane_22 fl_X9_40 mk0 rfl rfl ?_
  refine z_getI (x := (q2.1 (9, 0, 0) 4)) dX9_setVane_25 fl_X9_247 (m9 _ (Nat.le_of_ble_eq_true rfl)) rfl rfl ?_
  refine z_istore_n (i := 2) dX9_setVane_28 rfl (Nat.le_of_ble_eq_true rfl) rfl ?_
  refine z_aload_n (i := 0) dX9_setVane_29 rfl rfl ?_
  refine z_getR (r' := (9, 0, 0)) dX9_setVane_30 fl_X9_40 mk0 rfl rfl ?_
  refine z_iload_n (i := 1) dX9_setVane_33 rfl rfl ?_
  refine z_putI allR_nd dX9_setVane_34 fl_X9_247 (m9 _ (Nat.le_of_ble_eq_true rfl)) rfl rfl ?_
  refine z_iload_n (i := 2) dX9_setVane_37 rfl rfl ?_
  cases h
  exact z_iret dX9_setVane_38 rfl rfl (Nat.le_of_ble_eq_true rfl) (Nat.le_of_ble_eq_true rfl) ⟨_, rfl, rfl, rfl⟩
theorem dX9_wind_0 : decode cX9_wind 0 = .ok (.aload_n 0, 1) := by decide +kernel
theorem dX9_wind_1 : decode cX9_wind 1 = .ok (.getfield 40, 3) := by decide +kernel
theorem dX9_wind_4 : decode cX9_wind 4 = .ok (.iload_n 1, 1) := by decide +kernel
theorem dX9_wind_5 : decode cX9_wind 5 = .ok (.invokevirtual 337, 3) := by decide +kernel
theorem dX9_wind_8 : decode cX9_wind 8 = .ok (.invokestatic 172, 3) := by decide +kernel
theorem dX9_wind_11 : decode cX9_wind 11 = .ok (.aload_n 0, 1) := by decide +kernel
theorem dX9_wind_12 : decode cX9_wind 12 = .ok (.getfield 68, 3) := by decide +kernel
theorem dX9_wind_15 : decode cX9_wind 15 = .ok (.aload_n 0, 1) := by decide +kernel
theorem dX9_wind_16 : decode cX9_wind 16 = .ok (.getfield 40, 3) := by decide +kernel
theorem dX9_wind_19 : decode cX9_wind 19 = .ok (.invokevirtual 137, 3) := by decide +kernel
theorem dX9_wind_22 : decode cX9_wind 22 = .ok (.aload_n 0, 1) := by decide +kernel
theorem dX9_wind_23 : decode cX9_wind 23 = .ok (.getfield 40, 3) := by decide +kernel
theorem dX9_wind_26 : decode cX9_wind 26 = .ok (.dup, 1) := by decide +kernel
theorem dX9_wind_27 : decode cX9_wind 27 = .ok (.getfield 244, 3) := by decide +kernel
theorem dX9_wind_30 : decode cX9_wind 30 = .ok (.iload_n 1, 1) := by decide +kernel
theorem dX9_wind_31 : decode cX9_wind 31 = .ok (.iadd, 1) := by decide +kernel
theorem dX9_wind_32 : decode cX9_wind 32 = .ok (.putfield 244, 3) := by decide +kernel
theorem dX9_wind_35 : decode cX9_wind 35 = .ok (.aload_n 0, 1) := by decide +kernel
theorem dX9_wind_36 : decode cX9_wind 36 = .ok (.getfield 40, 3) := by decide +kernel
theorem dX9_wind_39 : decode cX9_wind 39 = .ok (.getfield 244, 3) := by decide +kernel
theorem dX9_wind_42 : decode cX9_wind 42 = .ok (.ireturn, 1) := by decide +kernel
def fX9_wind (M : Mm) (x1 : Int32) : Option ((Int32 ⊕ Nat) × Mm) := thr (rfz (fX0_windFault M 0 x1)) M ((fX2_remember M 0).bind fun q2 => some (.inl ((q2.1 (9, 0, 0) 3) + x1), (putI q2 (9, 0, 0) 3 ((q2.1 (9, 0, 0) 3) + x1))))
set_option maxRecDepth 20000 in
set_option maxHeartbeats 2000000 in
theorem sX9_wind {wv : Nat} (M : Mm) (x1 : Int32) {res : ((Int32 ⊕ Nat) × Mm)} (h : fX9_wind M x1 = some res) : Tri yX9_wind (.code yX9_wind cX9_wind 2 (some .int)) 7 4 24 SH (allR wv) [.inr (0, 0, 0), .inl (.int x1)] M (fun v M9 => ∃ x, res.1 = .inl x ∧ v = some (.int x) ∧ M9 = res.2) (fun E M9 => ∃ e, res.1 = .inr e ∧ exs[e]? = some E ∧ M9 = res.2) := by
  rw [fX9_wind] at h
  refine Tri.go (n := 0) (ls := [some (.inr (0, 0, 0)), some (.inl (.int x1))]) rfl rfl rfl rfl rfl ?_
  refine z_aload_n (i := 0) dX9_wind_0 rfl rfl ?_
  refine z_getR (r' := (9, 0, 0)) dX9_wind_1 fl_X9_40 mk0 rfl rfl ?_
  refine z_iload_n (i := 1) dX9_wind_4 rfl rfl ?_
  refine z_fVi (sX0_windFault M 0 x1 (Nat.le_of_ble_eq_true rfl)) dX9_wind_5 ml_X9_337 cd_X0_windFault (m9 _ (Nat.le_of_ble_eq_true rfl)) rfl rfl rfl rfl rfl rfl ?_
  refine z_refuse dX9_wind_8 ml_X9_172 rfl rfl rfl (fun hr1 => ?_) (fun e E hr1 h3 => by have h4 := thr_s h hr1; cases h4; exact ⟨e, rfl, h3, rfl⟩)
  have h := thr_n h hr1
  refine z_aload_n (i := 0) dX9_wind_11 rfl rfl ?_
  refine z_getR (r' := (14, 0, 0)) dX9_wind_12 fl_X9_68 mk0 rfl rfl ?_
  refine z_aload_n (i := 0) dX9_wind_15 rfl rfl ?_
  refine z_getR (r' := (9, 0, 0)) dX9_wind_16 fl_X9_40 mk0 rfl rfl ?_
  obtain ⟨q2, hq3, h⟩ := bnd h
  refine z_fVv (sX2_remember M 0 (Nat.le_of_ble_eq_true rfl) hq3) dX9_wind_19 ml_X9_137 cd_X2_remember mk14 rfl rfl rfl rfl rfl rfl ?_
  refine z_aload_n (i := 0) dX9_wind_22 rfl rfl ?_
  refine z_getR (r' := (9, 0, 0)) dX9_wind_23 fl_X9_40 mk0 rfl rfl ?_
  refine z_dup dX9_wind_26 rfl ?_
  refine z_getI (x := (q2.1 (9, 0, 0) 3)) dX9_wind_27 fl_X9_244 (m9 _ (Nat.le_of_ble_eq_true rfl)) rfl rfl ?_
  refine z_iload_n (i := 1) dX9_wind_30 rfl rfl ?_
  refine z_iadd dX9_wind_31 ?_
  refine z_putI allR_nd dX9_wind_32 fl_X9_244 (m9 _ (Nat.le_of_ble_eq_true rfl)) rfl rfl ?_
  refine z_aload_n (i := 0) dX9_wind_35 rfl rfl ?_
  refine z_getR (r' := (9, 0, 0)) dX9_wind_36 fl_X9_40 mk0 rfl rfl ?_
  refine z_getI (x := ((q2.1 (9, 0, 0) 3) + x1)) dX9_wind_39 fl_X9_244 (m9 _ (Nat.le_of_ble_eq_true rfl)) rfl (gp1 (M := q2) (r := (9, 0, 0)) (j := 3) (v := ((q2.1 (9, 0, 0) 3) + x1))) ?_
  cases h
  exact z_iret dX9_wind_42 rfl rfl (Nat.le_of_ble_eq_true rfl) (Nat.le_of_ble_eq_true rfl) ⟨_, rfl, rfl, rfl⟩
theorem dX9_play_0 : decode cX9_play 0 = .ok (.aload_n 0, 1) := by decide +kernel
theorem dX9_play_1 : decode cX9_play 1 = .ok (.getfield 40, 3) := by decide +kernel
theorem dX9_play_4 : decode cX9_play 4 = .ok (.iload_n 1, 1) := by decide +kernel
theorem dX9_play_5 : decode cX9_play 5 = .ok (.invokevirtual 340, 3) := by decide +kernel
theorem dX9_play_8 : decode cX9_play 8 = .ok (.invokestatic 172, 3) := by decide +kernel
theorem dX9_play_11 : decode cX9_play 11 = .ok (.aload_n 0, 1) := by decide +kernel
theorem dX9_play_12 : decode cX9_play 12 = .ok (.getfield 68, 3) := by decide +kernel
theorem dX9_play_15 : decode cX9_play 15 = .ok (.aload_n 0, 1) := by decide +kernel
theorem dX9_play_16 : decode cX9_play 16 = .ok (.getfield 40, 3) := by decide +kernel
theorem dX9_play_19 : decode cX9_play 19 = .ok (.invokevirtual 137, 3) := by decide +kernel
theorem dX9_play_22 : decode cX9_play 22 = .ok (.aload_n 0, 1) := by decide +kernel
theorem dX9_play_23 : decode cX9_play 23 = .ok (.getfield 40, 3) := by decide +kernel
theorem dX9_play_26 : decode cX9_play 26 = .ok (.iload_n 1, 1) := by decide +kernel
theorem dX9_play_27 : decode cX9_play 27 = .ok (.invokevirtual 293, 3) := by decide +kernel
theorem dX9_play_30 : decode cX9_play 30 = .ok (.ireturn, 1) := by decide +kernel
def fX9_play (M : Mm) (x1 : Int32) : Option ((Int32 ⊕ Nat) × Mm) := thr (rfz (fX0_playFault M 0 x1)) M ((fX2_remember M 0).bind fun q2 => (fX0_playSteps q2 0 x1).bind fun q4 => some (.inl q4.1, q4.2))
set_option maxRecDepth 20000 in
set_option maxHeartbeats 2000000 in
theorem sX9_play {wv : Nat} (M : Mm) (x1 : Int32) {res : ((Int32 ⊕ Nat) × Mm)} (h : fX9_play M x1 = some res) : Tri yX9_play (.code yX9_play cX9_play 2 (some .int)) 7 4 24 SH (allR wv) [.inr (0, 0, 0), .inl (.int x1)] M (fun v M9 => ∃ x, res.1 = .inl x ∧ v = some (.int x) ∧ M9 = res.2) (fun E M9 => ∃ e, res.1 = .inr e ∧ exs[e]? = some E ∧ M9 = res.2) := by
  rw [fX9_play] at h
  refine Tri.go (n := 0) (ls := [some (.inr (0, 0, 0)), some (.inl (.int x1))]) rfl rfl rfl rfl rfl ?_
  refine z_aload_n (i := 0) dX9_play_0 rfl rfl ?_
  refine z_getR (r' := (9, 0, 0)) dX9_play_1 fl_X9_40 mk0 rfl rfl ?_
  refine z_iload_n (i := 1) dX9_play_4 rfl rfl ?_
  refine z_fVi (sX0_playFault M 0 x1 (Nat.le_of_ble_eq_true rfl)) dX9_play_5 ml_X9_340 cd_X0_playFault (m9 _ (Nat.le_of_ble_eq_true rfl)) rfl rfl rfl rfl rfl rfl ?_
  refine z_refuse dX9_play_8 ml_X9_172 rfl rfl rfl (fun hr1 => ?_) (fun e E hr1 h3 => by have h4 := thr_s h hr1; cases h4; exact ⟨e, rfl, h3, rfl⟩)
  have h := thr_n h hr1
  refine z_aload_n (i := 0) dX9_play_11 rfl rfl ?_
  refine z_getR (r' := (14, 0, 0)) dX9_play_12 fl_X9_68 mk0 rfl rfl ?_
  refine z_aload_n (i := 0) dX9_play_15 rfl rfl ?_
  refine z_getR (r' := (9, 0, 0)) dX9_play_16 fl_X9_40 mk0 rfl rfl ?_
  obtain ⟨q2, hq3, h⟩ := bnd h
  refine z_fVv (sX2_remember M 0 (Nat.le_of_ble_eq_true rfl) hq3) dX9_play_19 ml_X9_137 cd_X2_remember mk14 rfl rfl rfl rfl rfl rfl ?_
  refine z_aload_n (i := 0) dX9_play_22 rfl rfl ?_
  refine z_getR (r' := (9, 0, 0)) dX9_play_23 fl_X9_40 mk0 rfl rfl ?_
  refine z_iload_n (i := 1) dX9_play_26 rfl rfl ?_
  obtain ⟨q4, hq5, h⟩ := bnd h
  refine z_fVi (sX0_playSteps q2 0 x1 (Nat.le_of_ble_eq_true rfl) hq5) dX9_play_27 ml_X9_293 cd_X0_playSteps (m9 _ (Nat.le_of_ble_eq_true rfl)) rfl rfl rfl rfl rfl rfl ?_
  cases h
  exact z_iret dX9_play_30 rfl rfl (Nat.le_of_ble_eq_true rfl) (Nat.le_of_ble_eq_true rfl) ⟨_, rfl, rfl, rfl⟩
theorem dX9_writePins_0 : decode cX9_writePins 0 = .ok (.aload_n 0, 1) := by decide +kernel
theorem dX9_writePins_1 : decode cX9_writePins 1 = .ok (.getfield 40, 3) := by decide +kernel
theorem dX9_writePins_4 : decode cX9_writePins 4 = .ok (.iload_n 1, 1) := by decide +kernel
theorem dX9_writePins_5 : decode cX9_writePins 5 = .ok (.invokevirtual 179, 3) := by decide +kernel
theorem dX9_writePins_8 : decode cX9_writePins 8 = .ok (.aload_n 0, 1) := by decide +kernel
theorem dX9_writePins_9 : decode cX9_writePins 9 = .ok (.getfield 40, 3) := by decide +kernel
theorem dX9_writePins_12 : decode cX9_writePins 12 = .ok (.iload_n 2, 1) := by decide +kernel
theorem dX9_writePins_13 : decode cX9_writePins 13 = .ok (.invokevirtual 214, 3) := by decide +kernel
theorem dX9_writePins_16 : decode cX9_writePins 16 = .ok (.invokestatic 188, 3) := by decide +kernel
theorem dX9_writePins_19 : decode cX9_writePins 19 = .ok (.invokestatic 172, 3) := by decide +kernel
theorem dX9_writePins_22 : decode cX9_writePins 22 = .ok (.aload_n 0, 1) := by decide +kernel
theorem dX9_writePins_23 : decode cX9_writePins 23 = .ok (.getfield 18, 3) := by decide +kernel
theorem dX9_writePins_26 : decode cX9_writePins 26 = .ok (.iconst 0, 1) := by decide +kernel
theorem dX9_writePins_27 : decode cX9_writePins 27 = .ok (.putfield 102, 3) := by decide +kernel
theorem dX9_writePins_30 : decode cX9_writePins 30 = .ok (.iconst 0, 1) := by decide +kernel
theorem dX9_writePins_31 : decode cX9_writePins 31 = .ok (.istore_n 3, 1) := by decide +kernel
theorem dX9_writePins_32 : decode cX9_writePins 32 = .ok (.iload_n 3, 1) := by decide +kernel
theorem dX9_writePins_33 : decode cX9_writePins 33 = .ok (.aload_n 0, 1) := by decide +kernel
theorem dX9_writePins_34 : decode cX9_writePins 34 = .ok (.getfield 40, 3) := by decide +kernel
theorem dX9_writePins_37 : decode cX9_writePins 37 = .ok (.getfield 153, 3) := by decide +kernel
theorem dX9_writePins_40 : decode cX9_writePins 40 = .ok (.getfield 157, 3) := by decide +kernel
theorem dX9_writePins_43 : decode cX9_writePins 43 = .ok (.if_icmp .ge 64, 3) := by decide +kernel
theorem dX9_writePins_46 : decode cX9_writePins 46 = .ok (.aload_n 0, 1) := by decide +kernel
theorem dX9_writePins_47 : decode cX9_writePins 47 = .ok (.getfield 40, 3) := by decide +kernel
theorem dX9_writePins_50 : decode cX9_writePins 50 = .ok (.getfield 153, 3) := by decide +kernel
theorem dX9_writePins_53 : decode cX9_writePins 53 = .ok (.iload_n 1, 1) := by decide +kernel
theorem dX9_writePins_54 : decode cX9_writePins 54 = .ok (.iload_n 2, 1) := by decide +kernel
theorem dX9_writePins_55 : decode cX9_writePins 55 = .ok (.iload_n 3, 1) := by decide +kernel
theorem dX9_writePins_56 : decode cX9_writePins 56 = .ok (.invokevirtual 175, 3) := by decide +kernel
theorem dX9_writePins_59 : decode cX9_writePins 59 = .ok (.ifCond .ne 15, 3) := by decide +kernel
theorem dX9_writePins_62 : decode cX9_writePins 62 = .ok (.aload_n 0, 1) := by decide +kernel
theorem dX9_writePins_63 : decode cX9_writePins 63 = .ok (.getfield 18, 3) := by decide +kernel
theorem dX9_writePins_66 : decode cX9_writePins 66 = .ok (.bipush 45, 2) := by decide +kernel
theorem dX9_writePins_68 : decode cX9_writePins 68 = .ok (.invokevirtual 92, 3) := by decide +kernel
theorem dX9_writePins_71 : decode cX9_writePins 71 = .ok (.goto 30, 3) := by decide +kernel
theorem dX9_writePins_74 : decode cX9_writePins 74 = .ok (.aload_n 0, 1) := by decide +kernel
theorem dX9_writePins_75 : decode cX9_writePins 75 = .ok (.getfield 18, 3) := by decide +kernel
theorem dX9_writePins_78 : decode cX9_writePins 78 = .ok (.aload_n 0, 1) := by decide +kernel
theorem dX9_writePins_79 : decode cX9_writePins 79 = .ok (.getfield 40, 3) := by decide +kernel
theorem dX9_writePins_82 : decode cX9_writePins 82 = .ok (.iload_n 1, 1) := by decide +kernel
theorem dX9_writePins_83 : decode cX9_writePins 83 = .ok (.iload_n 2, 1) := by decide +kernel
theorem dX9_writePins_84 : decode cX9_writePins 84 = .ok (.iload_n 3, 1) := by decide +kernel
theorem dX9_writePins_85 : decode cX9_writePins 85 = .ok (.invokevirtual 343, 3) := by decide +kernel
theorem dX9_writePins_88 : decode cX9_writePins 88 = .ok (.ifCond .eq 8, 3) := by decide +kernel
theorem dX9_writePins_91 : decode cX9_writePins 91 = .ok (.bipush 33, 2) := by decide +kernel
theorem dX9_writePins_93 : decode cX9_writePins 93 = .ok (.goto 5, 3) := by decide +kernel
theorem dX9_writePins_96 : decode cX9_writePins 96 = .ok (.bipush 35, 2) := by decide +kernel
theorem dX9_writePins_98 : decode cX9_writePins 98 = .ok (.invokevirtual 92, 3) := by decide +kernel
theorem dX9_writePins_101 : decode cX9_writePins 101 = .ok (.iinc 3 1, 3) := by decide +kernel
theorem dX9_writePins_104 : decode cX9_writePins 104 = .ok (.goto (-72), 3) := by decide +kernel
theorem dX9_writePins_107 : decode cX9_writePins 107 = .ok (.aload_n 0, 1) := by decide +kernel
theorem dX9_writePins_108 : decode cX9_writePins 108 = .ok (.getfield 18, 3) := by decide +kernel
theorem dX9_writePins_111 : decode cX9_writePins 111 = .ok (.getfield 102, 3) := by decide +kernel
theorem dX9_writePins_114 : decode cX9_writePins 114 = .ok (.ireturn, 1) := by decide +kernel
def fX9_writePins_L32 (c1 : Int32) (c2 : Int32) (K : Int32 → Mm → Option ((Int32 ⊕ Nat) × Mm)) : Nat → Int32 → Mm → Option ((Int32 ⊕ Nat) × Mm)
  | 0, _, _ => none
  | n + 1, v3, M => if (M.1 (10, 0, 0) 1) ≤ v3 then K v3 M else (fX3_hasPin M 0 c1 c2 v3).bind fun q3 => if q3 = 0 then ((fX1_put M 1 (45 : Int32)).bind fun q13 => fX9_writePins_L32 c1 c2 K n (v3 + (1 : Int32)) q13) else (fX0_closePinAt M 0 c1 c2 v3).bind fun q6 => if q6 = 0 then ((fX1_put M 1 (35 : Int32)).bind fun q9 => fX9_writePins_L32 c1 c2 K n (v3 + (1 : Int32)) q9) else (fX1_put M 1 (33 : Int32)).bind fun q11 => fX9_writePins_L32 c1 c2 K n (v3 + (1 : Int32)) q11
def fX9_writePins (M : Mm) (x1 : Int32) (x2 : Int32) : Option ((Int32 ⊕ Nat) × Mm) := thr (rfz (fJ9_max_7cf53 M (fX0_tuneFault M 0 x1) (fX0_toothFault M 0 x2))) M (fX9_writePins_L32 x1 x2 (fun w15 M16 => some (.inl (M16.1 (1, 1, 0) 1), M16)) NF (0 : Int32) (putI M (1, 1, 0) 1 (0 : Int32)))
set_option maxRecDepth 20000 in
set_option maxHeartbeats 2000000 in
theorem sX9_writePins_L32 {wv : Nat} (c1 : Int32) (c2 : Int32) {res : ((Int32 ⊕ Nat) × Mm)} {K : Int32 → Mm → Option ((Int32 ⊕ Nat) × Mm)} : ∀ (n : Nat) (v3 : Int32) (M : Mm), fX9_writePins_L32 c1 c2 K n v3 M = some res →
    (∀ (v3 : Int32) (M : Mm), K v3 M = some res → Z RX9 cX9_writePins 4 (some .int) [] "writePins" (rmD 7 4 24) (QM SH (allR wv) 4 24 (fun v M9 => ∃ x, res.1 = .inl x ∧ v = some (.int x) ∧ M9 = res.2) (fun E M9 => ∃ e, res.1 = .inr e ∧ exs[e]? = some E ∧ M9 = res.2)) (allR wv) SH (0 + 1) (0 + 6) 107 [some (.inr (0, 0, 0)), some (.inl (.int c1)), some (.inl (.int c2)), some (.inl (.int v3))] [] M) → Z RX9 cX9_writePins 4 (some .int) [] "writePins" (rmD 7 4 24) (QM SH (allR wv) 4 24 (fun v M9 => ∃ x, res.1 = .inl x ∧ v = some (.int x) ∧ M9 = res.2) (fun E M9 => ∃ e, res.1 = .inr e ∧ exs[e]? = some E ∧ M9 = res.2)) (allR wv) SH (0 + 1) (0 + 6) 32 [some (.inr (0, 0, 0)), some (.inl (.int c1)), some (.inl (.int c2)), some (.inl (.int v3))] [] M := by
  intro n
  induction n with
  | zero => intro v3 M h; cases h
  | succ n ih =>
    intro v3 M h hK
    rw [fX9_writePins_L32] at h
    refine z_iload_n (i := 3) dX9_writePins_32 rfl rfl ?_
    refine z_aload_n (i := 0) dX9_writePins_33 rfl rfl ?_
    refine z_getR (r' := (9, 0, 0)) dX9_writePins_34 fl_X9_40 mk0 rfl rfl ?_
    refine z_getR (r' := (10, 0, 0)) dX9_writePins_37 fl_X9_153 (m9 _ (Nat.le_of_ble_eq_true rfl)) rfl rfl ?_
    refine z_getI (x := (M.1 (10, 0, 0) 1)) dX9_writePins_40 fl_X9_157 (m10 _ (Nat.le_of_ble_eq_true rfl)) rfl rfl ?_
    refine z_icmp_ge (tgt := 107) dX9_writePins_43 rfl (fun hc2 => ?_) (fun hc2 => ?_)
    · have h := it_t h hc2
      exact hK _ _ h
    · have h := it_f h hc2
      refine z_aload_n (i := 0) dX9_writePins_46 rfl rfl ?_
      refine z_getR (r' := (9, 0, 0)) dX9_writePins_47 fl_X9_40 mk0 rfl rfl ?_
      refine z_getR (r' := (10, 0, 0)) dX9_writePins_50 fl_X9_153 (m9 _ (Nat.le_of_ble_eq_true rfl)) rfl rfl ?_
      refine z_iload_n (i := 1) dX9_writePins_53 rfl rfl ?_
      refine z_iload_n (i := 2) dX9_writePins_54 rfl rfl ?_
      refine z_iload_n (i := 3) dX9_writePins_55 rfl rfl ?_
      obtain ⟨q3, hq4, h⟩ := bnd h
      refine z_fVi (sX3_hasPin M 0 c1 c2 v3 (Nat.le_of_ble_eq_true rfl) hq4) dX9_writePins_56 ml_X9_175 cd_X3_hasPin (m10 _ (Nat.le_of_ble_eq_true rfl)) rfl rfl rfl rfl rfl rfl ?_
      refine z_if_ne (tgt := 74) dX9_writePins_59 rfl (fun hc5 => ?_) (fun hc5 => ?_)
      · have h := it_f h hc5
        refine z_aload_n (i := 0) dX9_writePins_74 rfl rfl ?_
        refine z_getR (r' := (1, 1, 0)) dX9_writePins_75 fl_X9_18 mk0 rfl rfl ?_
        refine z_aload_n (i := 0) dX9_writePins_78 rfl rfl ?_
        refine z_getR (r' := (9, 0, 0)) dX9_writePins_79 fl_X9_40 mk0 rfl rfl ?_
        refine z_iload_n (i := 1) dX9_writePins_82 rfl rfl ?_
        refine z_iload_n (i := 2) dX9_writePins_83 rfl rfl ?_
        refine z_iload_n (i := 3) dX9_writePins_84 rfl rfl ?_
        obtain ⟨q6, hq7, h⟩ := bnd h
        refine z_fVi (sX0_closePinAt M 0 c1 c2 v3 (Nat.le_of_ble_eq_true rfl) hq7) dX9_writePins_85 ml_X9_343 cd_X0_closePinAt (m9 _ (Nat.le_of_ble_eq_true rfl)) rfl rfl rfl rfl rfl rfl ?_
        refine z_if_eq (tgt := 96) dX9_writePins_88 rfl (fun hc8 => ?_) (fun hc8 => ?_)
        · have h := it_t h hc8
          refine z_bipush (v := (35 : Int32)) dX9_writePins_96 kb_35 ?_
          obtain ⟨q9, hq10, h⟩ := bnd h
          refine z_fVv (sX1_put M 1 (35 : Int32) (Nat.le_of_ble_eq_true rfl) hq10) dX9_writePins_98 ml_X9_92 cd_X1_put (m1 _ (Nat.le_of_ble_eq_true rfl)) rfl rfl rfl rfl rfl rfl ?_
          refine z_iinc (i := 3) (v := (v3 + (1 : Int32))) dX9_writePins_101 rfl (iinc_k kc_1) (Nat.le_of_ble_eq_true rfl) rfl ?_
          refine z_goto (tgt := 32) dX9_writePins_104 rfl ?_
          exact ih _ _ h hK
        · have h := it_f h hc8
          refine z_bipush (v := (33 : Int32)) dX9_writePins_91 kb_33 ?_
          refine z_goto (tgt := 98) dX9_writePins_93 rfl ?_
          obtain ⟨q11, hq12, h⟩ := bnd h
          refine z_fVv (sX1_put M 1 (33 : Int32) (Nat.le_of_ble_eq_true rfl) hq12) dX9_writePins_98 ml_X9_92 cd_X1_put (m1 _ (Nat.le_of_ble_eq_true rfl)) rfl rfl rfl rfl rfl rfl ?_
          refine z_iinc (i := 3) (v := (v3 + (1 : Int32))) dX9_writePins_101 rfl (iinc_k kc_1) (Nat.le_of_ble_eq_true rfl) rfl ?_
          refine z_goto (tgt := 32) dX9_writePins_104 rfl ?_
          exact ih _ _ h hK
      · have h := it_t h hc5
        refine z_aload_n (i := 0) dX9_writePins_62 rfl rfl ?_
        refine z_getR (r' := (1, 1, 0)) dX9_writePins_63 fl_X9_18 mk0 rfl rfl ?_
        refine z_bipush (v := (45 : Int32)) dX9_writePins_66 kb_45 ?_
        obtain ⟨q13, hq14, h⟩ := bnd h
        refine z_fVv (sX1_put M 1 (45 : Int32) (Nat.le_of_ble_eq_true rfl) hq14) dX9_writePins_68 ml_X9_92 cd_X1_put (m1 _ (Nat.le_of_ble_eq_true rfl)) rfl rfl rfl rfl rfl rfl ?_
        refine z_goto (tgt := 101) dX9_writePins_71 rfl ?_
        refine z_iinc (i := 3) (v := (v3 + (1 : Int32))) dX9_writePins_101 rfl (iinc_k kc_1) (Nat.le_of_ble_eq_true rfl) rfl ?_
        refine z_goto (tgt := 32) dX9_writePins_104 rfl ?_
        exact ih _ _ h hK
set_option maxRecDepth 20000 in
set_option maxHeartbeats 2000000 in
theorem sX9_writePins {wv : Nat} (M : Mm) (x1 : Int32) (x2 : Int32) {res : ((Int32 ⊕ Nat) × Mm)} (h : fX9_writePins M x1 x2 = some res) : Tri yX9_writePins (.code yX9_writePins cX9_writePins 4 (some .int)) 7 4 24 SH (allR wv) [.inr (0, 0, 0), .inl (.int x1), .inl (.int x2)] M (fun v M9 => ∃ x, res.1 = .inl x ∧ v = some (.int x) ∧ M9 = res.2) (fun E M9 => ∃ e, res.1 = .inr e ∧ exs[e]? = some E ∧ M9 = res.2) := by
  rw [fX9_writePins] at h
  refine Tri.go (n := 1) (ls := [some (.inr (0, 0, 0)), some (.inl (.int x1)), some (.inl (.int x2)), none]) rfl rfl rfl rfl rfl ?_
  refine z_aload_n (i := 0) dX9_writePins_0 rfl rfl ?_
  refine z_getR (r' := (9, 0, 0)) dX9_writePins_1 fl_X9_40 mk0 rfl rfl ?_
  refine z_iload_n (i := 1) dX9_writePins_4 rfl rfl ?_
  refine z_fVi (sX0_tuneFault M 0 x1 (Nat.le_of_ble_eq_true rfl)) dX9_writePins_5 ml_X9_179 cd_X0_tuneFault (m9 _ (Nat.le_of_ble_eq_true rfl)) rfl rfl rfl rfl rfl rfl ?_
  refine z_aload_n (i := 0) dX9_writePins_8 rfl rfl ?_
  refine z_getR (r' := (9, 0, 0)) dX9_writePins_9 fl_X9_40 mk0 rfl rfl ?_
  refine z_iload_n (i := 2) dX9_writePins_12 rfl rfl ?_
  refine z_fVi (sX0_toothFault M 0 x2 (Nat.le_of_ble_eq_true rfl)) dX9_writePins_13 ml_X9_214 cd_X0_toothFault (m9 _ (Nat.le_of_ble_eq_true rfl)) rfl rfl rfl rfl rfl rfl ?_
  refine z_fSi (sJ9_max_7cf53 M (fX0_tuneFault M 0 x1) (fX0_toothFault M 0 x2)) dX9_writePins_16 ml_X9_188 cd_J9_max_7cf53 rfl rfl rfl rfl rfl ?_
  refine z_refuse dX9_writePins_19 ml_X9_172 rfl rfl rfl (fun hr1 => ?_) (fun e E hr1 h3 => by have h4 := thr_s h hr1; cases h4; exact ⟨e, rfl, h3, rfl⟩)
  have h := thr_n h hr1
  refine z_aload_n (i := 0) dX9_writePins_22 rfl rfl ?_
  refine z_getR (r' := (1, 1, 0)) dX9_writePins_23 fl_X9_18 mk0 rfl rfl ?_
  refine z_iconst (v := (0 : Int32)) dX9_writePins_26 kc_0 ?_
  refine z_putI allR_nd dX9_writePins_27 fl_X9_102 (m1 _ (Nat.le_of_ble_eq_true rfl)) rfl rfl ?_
  refine z_iconst (v := (0 : Int32)) dX9_writePins_30 kc_0 ?_
  refine z_istore_n (i := 3) dX9_writePins_31 rfl (Nat.le_of_ble_eq_true rfl) rfl ?_
  refine sX9_writePins_L32 x1 x2 NF _ _ h (fun w15 M16 h => ?_)
  refine z_aload_n (i := 0) dX9_writePins_107 rfl rfl ?_
  refine z_getR (r' := (1, 1, 0)) dX9_writePins_108 fl_X9_18 mk0 rfl rfl ?_
  refine z_getI (x := (M16.1 (1, 1, 0) 1)) dX9_writePins_111 fl_X9_102 (m1 _ (Nat.le_of_ble_eq_true rfl)) rfl rfl ?_
  cases h
  exact z_iret dX9_writePins_114 rfl rfl (Nat.le_of_ble_eq_true rfl) (Nat.le_of_ble_eq_true rfl) ⟨_, rfl, rfl, rfl⟩
theorem dX9_undo_0 : decode cX9_undo 0 = .ok (.aload_n 0, 1) := by decide +kernel
theorem dX9_undo_1 : decode cX9_undo 1 = .ok (.getfield 68, 3) := by decide +kernel
theorem dX9_undo_4 : decode cX9_undo 4 = .ok (.getfield 352, 3) := by decide +kernel
theorem dX9_undo_7 : decode cX9_undo 7 = .ok (.ifCond .ne 7, 3) := by decide +kernel
theorem dX9_undo_10 : decode cX9_undo 10 = .ok (.iconst 3, 1) := by decide +kernel
theorem dX9_undo_11 : decode cX9_undo 11 = .ok (.goto 4, 3) := by decide +kernel
theorem dX9_undo_14 : decode cX9_undo 14 = .ok (.iconst 0, 1) := by decide +kernel
theorem dX9_undo_15 : decode cX9_undo 15 = .ok (.invokestatic 172, 3) := by decide +kernel
theorem dX9_undo_18 : decode cX9_undo 18 = .ok (.aload_n 0, 1) := by decide +kernel
theorem dX9_undo_19 : decode cX9_undo 19 = .ok (.getfield 68, 3) := by decide +kernel
theorem dX9_undo_22 : decode cX9_undo 22 = .ok (.aload_n 0, 1) := by decide +kernel
theorem dX9_undo_23 : decode cX9_undo 23 = .ok (.getfield 40, 3) := by decide +kernel
theorem dX9_undo_26 : decode cX9_undo 26 = .ok (.invokevirtual 355, 3) := by decide +kernel
theorem dX9_undo_29 : decode cX9_undo 29 = .ok (.aload_n 0, 1) := by decide +kernel
theorem dX9_undo_30 : decode cX9_undo 30 = .ok (.getfield 68, 3) := by decide +kernel
theorem dX9_undo_33 : decode cX9_undo 33 = .ok (.getfield 352, 3) := by decide +kernel
theorem dX9_undo_36 : decode cX9_undo 36 = .ok (.ireturn, 1) := by decide +kernel
def fX9_undo (M : Mm) : Option ((Int32 ⊕ Nat) × Mm) := if (M.1 (14, 0, 0) 1) = 0 then (thr (rfz (3 : Int32)) M ((fX2_takeBack M 0).bind fun q6 => some (.inl (q6.1 (14, 0, 0) 1), q6))) else thr (rfz (0 : Int32)) M ((fX2_takeBack M 0).bind fun q3 => some (.inl (q3.1 (14, 0, 0) 1), q3))
set_option maxRecDepth 20000 in
set_option maxHeartbeats 2000000 in
theorem sX9_undo {wv : Nat} (M : Mm) {res : ((Int32 ⊕ Nat) × Mm)} (h : fX9_undo M  = some res) : Tri yX9_undo (.code yX9_undo cX9_undo 1 (some .int)) 7 4 24 SH (allR wv) [.inr (0, 0, 0)] M (fun v M9 => ∃ x, res.1 = .inl x ∧ v = some (.int x) ∧ M9 = res.2) (fun E M9 => ∃ e, res.1 = .inr e ∧ exs[e]? = some E ∧ M9 = res.2) := by
  rw [fX9_undo] at h
  refine Tri.go (n := 0) (ls := [some (.inr (0, 0, 0))]) rfl rfl rfl rfl rfl ?_
  refine z_aload_n (i := 0) dX9_undo_0 rfl rfl ?_
  refine z_getR (r' := (14, 0, 0)) dX9_undo_1 fl_X9_68 mk0 rfl rfl ?_
  refine z_getI (x := (M.1 (14, 0, 0) 1)) dX9_undo_4 fl_X9_352 mk14 rfl rfl ?_
  refine z_if_ne (tgt := 14) dX9_undo_7 rfl (fun hc1 => ?_) (fun hc1 => ?_)
  · have h := it_f h hc1
    refine z_iconst (v := (0 : Int32)) dX9_undo_14 kc_0 ?_
    refine z_refuse dX9_undo_15 ml_X9_172 rfl rfl rfl (fun hr2 => ?_) (fun e E hr2 h3 => by have h4 := thr_s h hr2; cases h4; exact ⟨e, rfl, h3, rfl⟩)
    have h := thr_n h hr2
    refine z_aload_n (i := 0) dX9_undo_18 rfl rfl ?_
    refine z_getR (r' := (14, 0, 0)) dX9_undo_19 fl_X9_68 mk0 rfl rfl ?_
    refine z_aload_n (i := 0) dX9_undo_22 rfl rfl ?_
    refine z_getR (r' := (9, 0, 0)) dX9_undo_23 fl_X9_40 mk0 rfl rfl ?_
    obtain ⟨q3, hq4, h⟩ := bnd h
    refine z_fVv (sX2_takeBack M 0 (Nat.le_of_ble_eq_true rfl) hq4) dX9_undo_26 ml_X9_355 cd_X2_takeBack mk14 rfl rfl rfl rfl rfl rfl ?_
    refine z_aload_n (i := 0) dX9_undo_29 rfl rfl ?_
    refine z_getR (r' := (14, 0, 0)) dX9_undo_30 fl_X9_68 mk0 rfl rfl ?_
    refine z_getI (x := (q3.1 (14, 0, 0) 1)) dX9_undo_33 fl_X9_352 mk14 rfl rfl ?_
    cases h
    exact z_iret dX9_undo_36 rfl rfl (Nat.le_of_ble_eq_true rfl) (Nat.le_of_ble_eq_true rfl) ⟨_, rfl, rfl, rfl⟩
  · have h := it_t h hc1
    refine z_iconst (v := (3 : Int32)) dX9_undo_10 kc_3 ?_
    refine z_goto (tgt := 15) dX9_undo_11 rfl ?_
    refine z_refuse dX9_undo_15 ml_X9_172 rfl rfl rfl (fun hr5 => ?_) (fun e E hr5 h3 => by have h4 := thr_s h hr5; cases h4; exact ⟨e, rfl, h3, rfl⟩)
    have h := thr_n h hr5
    refine z_aload_n (i := 0) dX9_undo_18 rfl rfl ?_
    refine z_getR (r' := (14, 0, 0)) dX9_undo_19 fl_X9_68 mk0 rfl rfl ?_
    refine z_aload_n (i := 0) dX9_undo_22 rfl rfl ?_
    refine z_getR (r' := (9, 0, 0)) dX9_undo_23 fl_X9_40 mk0 rfl rfl ?_
    obtain ⟨q6, hq7, h⟩ := bnd h
    refine z_fVv (sX2_takeBack M 0 (Nat.le_of_ble_eq_true rfl) hq7) dX9_undo_26 ml_X9_355 cd_X2_takeBack mk14 rfl rfl rfl rfl rfl rfl ?_
    refine z_aload_n (i := 0) dX9_undo_29 rfl rfl ?_
    refine z_getR (r' := (14, 0, 0)) dX9_undo_30 fl_X9_68 mk0 rfl rfl ?_
    refine z_getI (x := (q6.1 (14, 0, 0) 1)) dX9_undo_33 fl_X9_352 mk14 rfl rfl ?_
    cases h
    exact z_iret dX9_undo_36 rfl rfl (Nat.le_of_ble_eq_true rfl) (Nat.le_of_ble_eq_true rfl) ⟨_, rfl, rfl, rfl⟩
theorem dX9_save_0 : decode cX9_save 0 = .ok (.iload_n 1, 1) := by decide +kernel
theorem dX9_save_1 : decode cX9_save 1 = .ok (.invokestatic 358, 3) := by decide +kernel
theorem dX9_save_4 : decode cX9_save 4 = .ok (.invokestatic 172, 3) := by decide +kernel
theorem dX9_save_7 : decode cX9_save 7 = .ok (.aload_n 0, 1) := by decide +kernel
theorem dX9_save_8 : decode cX9_save 8 = .ok (.getfield 72, 3) := by decide +kernel
theorem dX9_save_11 : decode cX9_save 11 = .ok (.iload_n 1, 1) := by decide +kernel
theorem dX9_save_12 : decode cX9_save 12 = .ok (.aaload, 1) := by decide +kernel
theorem dX9_save_13 : decode cX9_save 13 = .ok (.aload_n 0, 1) := by decide +kernel
theorem dX9_save_14 : decode cX9_save 14 = .ok (.getfield 40, 3) := by decide +kernel
theorem dX9_save_17 : decode cX9_save 17 = .ok (.invokevirtual 127, 3) := by decide +kernel
theorem dX9_save_20 : decode cX9_save 20 = .ok (.aload_n 0, 1) := by decide +kernel
theorem dX9_save_21 : decode cX9_save 21 = .ok (.getfield 76, 3) := by decide +kernel
theorem dX9_save_24 : decode cX9_save 24 = .ok (.iload_n 1, 1) := by decide +kernel
theorem dX9_save_25 : decode cX9_save 25 = .ok (.iconst 1, 1) := by decide +kernel
theorem dX9_save_26 : decode cX9_save 26 = .ok (.bastore, 1) := by decide +kernel
theorem dX9_save_27 : decode cX9_save 27 = .ok (.aload_n 0, 1) := by decide +kernel
theorem dX9_save_28 : decode cX9_save 28 = .ok (.getfield 40, 3) := by decide +kernel
theorem dX9_save_31 : decode cX9_save 31 = .ok (.getfield 153, 3) := by decide +kernel
theorem dX9_save_34 : decode cX9_save 34 = .ok (.getfield 165, 3) := by decide +kernel
theorem dX9_save_37 : decode cX9_save 37 = .ok (.ireturn, 1) := by decide +kernel
def fX9_save (M : Mm) (x1 : Int32) : Option ((Int32 ⊕ Nat) × Mm) := thr (rfz (fX9_slotFault M x1)) M (if x1 < 0 ∨ 2 ≤ x1.toNatClampNeg then none else (fX0_copyFrom M (10 + x1.toNatClampNeg) 0).bind fun q3 => if x1 < 0 ∨ 2 ≤ x1.toNatClampNeg then none else some (.inl (q3.1 (10, 0, 0) 2), (putI q3 (17, 0, 0) x1.toNatClampNeg (1 : Int32))))
set_option maxRecDepth 20000 in
set_option maxHeartbeats 2000000 in
theorem sX9_save {wv : Nat} (M : Mm) (x1 : Int32) {res : ((Int32 ⊕ Nat) × Mm)} (h : fX9_save M x1 = some res) : Tri yX9_save (.code yX9_save cX9_save 2 (some .int)) 7 4 24 SH (allR wv) [.inr (0, 0, 0), .inl (.int x1)] M (fun v M9 => ∃ x, res.1 = .inl x ∧ v = some (.int x) ∧ M9 = res.2) (fun E M9 => ∃ e, res.1 = .inr e ∧ exs[e]? = some E ∧ M9 = res.2) := by
  rw [fX9_save] at h
  refine Tri.go (n := 0) (ls := [some (.inr (0, 0, 0)), some (.inl (.int x1))]) rfl rfl rfl rfl rfl ?_
  refine z_iload_n (i := 1) dX9_save_0 rfl rfl ?_
  refine z_fSi (sX9_slotFault M x1) dX9_save_1 ml_X9_358 cd_X9_slotFault rfl rfl rfl rfl rfl ?_
  refine z_refuse dX9_save_4 ml_X9_172 rfl rfl rfl (fun hr1 => ?_) (fun e E hr1 h3 => by have h4 := thr_s h hr1; cases h4; exact ⟨e, rfl, h3, rfl⟩)
  have h := thr_n h hr1
  refine z_aload_n (i := 0) dX9_save_7 rfl rfl ?_
  refine z_getR (r' := (16, 0, 0)) dX9_save_8 fl_X9_72 mk0 rfl rfl ?_
  refine z_iload_n (i := 1) dX9_save_11 rfl rfl ?_
  obtain ⟨hc2, h⟩ := chk h
  refine z_aald (t := 1) (r' := (9, (10 + x1.toNatClampNeg), 0)) dX9_save_12 mk16 rfl (Nat.le_of_ble_eq_true rfl) hc2 rfl ?_
  refine z_aload_n (i := 0) dX9_save_13 rfl rfl ?_
  refine z_getR (r' := (9, 0, 0)) dX9_save_14 fl_X9_40 mk0 rfl rfl ?_
  obtain ⟨q3, hq4, h⟩ := bnd h
  refine z_fVv (sX0_copyFrom M (10 + x1.toNatClampNeg) 0 (ltA hc2 rfl) (Nat.le_of_ble_eq_true rfl) hq4) dX9_save_17 ml_X9_127 cd_X0_copyFrom (m9 _ (ltA hc2 rfl)) rfl rfl rfl rfl rfl rfl ?_
  refine z_aload_n (i := 0) dX9_save_20 rfl rfl ?_
  refine z_getR (r' := (17, 0, 0)) dX9_save_21 fl_X9_76 mk0 rfl rfl ?_
  refine z_iload_n (i := 1) dX9_save_24 rfl rfl ?_
  refine z_iconst (v := (1 : Int32)) dX9_save_25 kc_1 ?_
  obtain ⟨hc5, h⟩ := chk h
  refine z_zast (j := x1.toNatClampNeg) allR_nd dX9_save_26 mk17 rfl hc5 rfl rfl ?_
  refine z_aload_n (i := 0) dX9_save_27 rfl rfl ?_
  refine z_getR (r' := (9, 0, 0)) dX9_save_28 fl_X9_40 mk0 rfl rfl ?_
  refine z_getR (r' := (10, 0, 0)) dX9_save_31 fl_X9_153 (m9 _ (Nat.le_of_ble_eq_true rfl)) rfl rfl ?_
  refine z_getI (x := (q3.1 (10, 0, 0) 2)) dX9_save_34 fl_X9_165 (m10 _ (Nat.le_of_ble_eq_true rfl)) rfl rfl ?_
  cases h
  exact z_iret dX9_save_37 rfl rfl (Nat.le_of_ble_eq_true rfl) (Nat.le_of_ble_eq_true rfl) ⟨_, rfl, rfl, rfl⟩
theorem dX9_restore_0 : decode cX9_restore 0 = .ok (.iload_n 1, 1) := by decide +kernel
theorem dX9_restore_1 : decode cX9_restore 1 = .ok (.invokestatic 358, 3) := by decide +kernel
theorem dX9_restore_4 : decode cX9_restore 4 = .ok (.invokestatic 172, 3) := by decide +kernel
theorem dX9_restore_7 : decode cX9_restore 7 = .ok (.aload_n 0, 1) := by decide +kernel
theorem dX9_restore_8 : decode cX9_restore 8 = .ok (.getfield 76, 3) := by decide +kernel
theorem dX9_restore_11 : decode cX9_restore 11 = .ok (.iload_n 1, 1) := by decide +kernel
theorem dX9_restore_12 : decode cX9_restore 12 = .ok (.baload, 1) := by decide +kernel
theorem dX9_restore_13 : decode cX9_restore 13 = .ok (.ifCond .ne 14, 3) := by decide +kernel
theorem dX9_restore_16 : decode cX9_restore 16 = .ok (.new 197, 3) := by decide +kernel
theorem dX9_restore_19 : decode cX9_restore 19 = .ok (.dup, 1) := by decide +kernel
theorem dX9_restore_20 : decode cX9_restore 20 = .ok (.ldc_w 361, 3) := by decide +kernel
theorem dX9_restore_23 : decode cX9_restore 23 = .ok (.invokespecial 201, 3) := by decide +kernel
theorem dX9_restore_26 : decode cX9_restore 26 = .ok (.athrow, 1) := by decide +kernel
theorem dX9_restore_27 : decode cX9_restore 27 = .ok (.aload_n 0, 1) := by decide +kernel
theorem dX9_restore_28 : decode cX9_restore 28 = .ok (.getfield 40, 3) := by decide +kernel
theorem dX9_restore_31 : decode cX9_restore 31 = .ok (.aload_n 0, 1) := by decide +kernel
theorem dX9_restore_32 : decode cX9_restore 32 = .ok (.getfield 72, 3) := by decide +kernel
theorem dX9_restore_35 : decode cX9_restore 35 = .ok (.iload_n 1, 1) := by decide +kernel
theorem dX9_restore_36 : decode cX9_restore 36 = .ok (.aaload, 1) := by decide +kernel
theorem dX9_restore_37 : decode cX9_restore 37 = .ok (.invokevirtual 127, 3) := by decide +kernel
theorem dX9_restore_40 : decode cX9_restore 40 = .ok (.aload_n 0, 1) := by decide +kernel
theorem dX9_restore_41 : decode cX9_restore 41 = .ok (.getfield 68, 3) := by decide +kernel
theorem dX9_restore_44 : decode cX9_restore 44 = .ok (.invokevirtual 131, 3) := by decide +kernel
theorem dX9_restore_47 : decode cX9_restore 47 = .ok (.aload_n 0, 1) := by decide +kernel
theorem dX9_restore_48 : decode cX9_restore 48 = .ok (.getfield 40, 3) := by decide +kernel
theorem dX9_restore_51 : decode cX9_restore 51 = .ok (.getfield 153, 3) := by decide +kernel
theorem dX9_restore_54 : decode cX9_restore 54 = .ok (.getfield 165, 3) := by decide +kernel
theorem dX9_restore_57 : decode cX9_restore 57 = .ok (.ireturn, 1) := by decide +kernel
def fX9_restore (M : Mm) (x1 : Int32) : Option ((Int32 ⊕ Nat) × Mm) := thr (rfz (fX9_slotFault M x1)) M (if x1 < 0 ∨ 2 ≤ x1.toNatClampNeg then none else if (M.1 (17, 0, 0) x1.toNatClampNeg) = 0 then some (.inr 3, M) else if x1 < 0 ∨ 2 ≤ x1.toNatClampNeg then none else (fX0_copyFrom M 0 (10 + x1.toNatClampNeg)).bind fun q5 => some (.inl ((fX2_forgetAll q5).1 (10, 0, 0) 2), (fX2_forgetAll q5)))
set_option maxRecDepth 20000 in
set_option maxHeartbeats 2000000 in
theorem sX9_restore {wv : Nat} (M : Mm) (x1 : Int32) {res : ((Int32 ⊕ Nat) × Mm)} (h : fX9_restore M x1 = some res) : Tri yX9_restore (.code yX9_restore cX9_restore 2 (some .int)) 7 4 24 SH (allR wv) [.inr (0, 0, 0), .inl (.int x1)] M (fun v M9 => ∃ x, res.1 = .inl x ∧ v = some (.int x) ∧ M9 = res.2) (fun E M9 => ∃ e, res.1 = .inr e ∧ exs[e]? = some E ∧ M9 = res.2) := by
  rw [fX9_restore] at h
  refine Tri.go (n := 0) (ls := [some (.inr (0, 0, 0)), some (.inl (.int x1))]) rfl rfl rfl rfl rfl ?_
  refine z_iload_n (i := 1) dX9_restore_0 rfl rfl ?_
  refine z_fSi (sX9_slotFault M x1) dX9_restore_1 ml_X9_358 cd_X9_slotFault rfl rfl rfl rfl rfl ?_
  refine z_refuse dX9_restore_4 ml_X9_172 rfl rfl rfl (fun hr1 => ?_) (fun e E hr1 h3 => by have h4 := thr_s h hr1; cases h4; exact ⟨e, rfl, h3, rfl⟩)
  have h := thr_n h hr1
  refine z_aload_n (i := 0) dX9_restore_7 rfl rfl ?_
  refine z_getR (r' := (17, 0, 0)) dX9_restore_8 fl_X9_76 mk0 rfl rfl ?_
  refine z_iload_n (i := 1) dX9_restore_11 rfl rfl ?_
  obtain ⟨hc2, h⟩ := chk h
  refine z_zald (x := (M.1 (17, 0, 0) x1.toNatClampNeg)) dX9_restore_12 mk17 rfl hc2 rfl ?_
  refine z_if_ne (tgt := 27) dX9_restore_13 rfl (fun hc3 => ?_) (fun hc3 => ?_)
  · have h := it_f h hc3
    refine z_aload_n (i := 0) dX9_restore_27 rfl rfl ?_
    refine z_getR (r' := (9, 0, 0)) dX9_restore_28 fl_X9_40 mk0 rfl rfl ?_
    refine z_aload_n (i := 0) dX9_restore_31 rfl rfl ?_
    refine z_getR (r' := (16, 0, 0)) dX9_restore_32 fl_X9_72 mk0 rfl rfl ?_
    refine z_iload_n (i := 1) dX9_restore_35 rfl rfl ?_
    obtain ⟨hc4, h⟩ := chk h
    refine z_aald (t := 1) (r' := (9, (10 + x1.toNatClampNeg), 0)) dX9_restore_36 mk16 rfl (Nat.le_of_ble_eq_true rfl) hc4 rfl ?_
    obtain ⟨q5, hq6, h⟩ := bnd h
    refine z_fVv (sX0_copyFrom M 0 (10 + x1.toNatClampNeg) (Nat.le_of_ble_eq_true rfl) (ltA hc4 rfl) hq6) dX9_restore_37 ml_X9_127 cd_X0_copyFrom (m9 _ (Nat.le_of_ble_eq_true rfl)) rfl rfl rfl rfl rfl rfl ?_
    refine z_aload_n (i := 0) dX9_restore_40 rfl rfl ?_
    refine z_getR (r' := (14, 0, 0)) dX9_restore_41 fl_X9_68 mk0 rfl rfl ?_
    refine z_fVv (sX2_forgetAll q5) dX9_restore_44 ml_X9_131 cd_X2_forgetAll mk14 rfl rfl rfl rfl rfl rfl ?_
    refine z_aload_n (i := 0) dX9_restore_47 rfl rfl ?_
    refine z_getR (r' := (9, 0, 0)) dX9_restore_48 fl_X9_40 mk0 rfl rfl ?_
    refine z_getR (r' := (10, 0, 0)) dX9_restore_51 fl_X9_153 (m9 _ (Nat.le_of_ble_eq_true rfl)) rfl rfl ?_
    refine z_getI (x := ((fX2_forgetAll q5).1 (10, 0, 0) 2)) dX9_restore_54 fl_X9_165 (m10 _ (Nat.le_of_ble_eq_true rfl)) rfl rfl ?_
    cases h
    exact z_iret dX9_restore_57 rfl rfl (Nat.le_of_ble_eq_true rfl) (Nat.le_of_ble_eq_true rfl) ⟨_, rfl, rfl, rfl⟩
  · have h := it_t h hc3
    cases h
    exact z_thrNW dX9_restore_16 dX9_restore_19 dX9_restore_20 dX9_restore_23 dX9_restore_26 sr_361 rfl rfl ⟨3, rfl, rfl, rfl⟩
