theorem dX9_takeSetup_0 : decode cX9_takeSetup 0 = .ok (.aload_n 0, 1) := by decide +kernel
theorem dX9_takeSetup_1 : decode cX9_takeSetup 1 = .ok (.getfield 52, 3) := by decide +kernel
theorem dX9_takeSetup_4 : decode cX9_takeSetup 4 = .ok (.invokevirtual 123, 3) := by decide +kernel
theorem dX9_takeSetup_7 : decode cX9_takeSetup 7 = .ok (.istore_n 1, 1) := by decide +kernel
theorem dX9_takeSetup_8 : decode cX9_takeSetup 8 = .ok (.aload_n 0, 1) := by decide +kernel
theorem dX9_takeSetup_9 : decode cX9_takeSetup 9 = .ok (.getfield 14, 3) := by decide +kernel
theorem dX9_takeSetup_12 : decode cX9_takeSetup 12 = .ok (.iconst 0, 1) := by decide +kernel
theorem dX9_takeSetup_13 : decode cX9_takeSetup 13 = .ok (.putfield 102, 3) := by decide +kernel
theorem dX9_takeSetup_16 : decode cX9_takeSetup 16 = .ok (.iload_n 1, 1) := by decide +kernel
theorem dX9_takeSetup_17 : decode cX9_takeSetup 17 = .ok (.ifCond .ne 4, 3) := by decide +kernel
theorem dX9_takeSetup_20 : decode cX9_takeSetup 20 = .ok (.return_, 1) := by decide +kernel
theorem dX9_takeSetup_21 : decode cX9_takeSetup 21 = .ok (.aload_n 0, 1) := by decide +kernel
theorem dX9_takeSetup_22 : decode cX9_takeSetup 22 = .ok (.getfield 40, 3) := by decide +kernel
theorem dX9_takeSetup_25 : decode cX9_takeSetup 25 = .ok (.aload_n 0, 1) := by decide +kernel
theorem dX9_takeSetup_26 : decode cX9_takeSetup 26 = .ok (.getfield 44, 3) := by decide +kernel
theorem dX9_takeSetup_29 : decode cX9_takeSetup 29 = .ok (.invokevirtual 127, 3) := by decide +kernel
theorem dX9_takeSetup_32 : decode cX9_takeSetup 32 = .ok (.aload_n 0, 1) := by decide +kernel
theorem dX9_takeSetup_33 : decode cX9_takeSetup 33 = .ok (.getfield 68, 3) := by decide +kernel
theorem dX9_takeSetup_36 : decode cX9_takeSetup 36 = .ok (.invokevirtual 131, 3) := by decide +kernel
theorem dX9_takeSetup_39 : decode cX9_takeSetup 39 = .ok (.iconst 0, 1) := by decide +kernel
theorem dX9_takeSetup_40 : decode cX9_takeSetup 40 = .ok (.istore_n 2, 1) := by decide +kernel
theorem dX9_takeSetup_41 : decode cX9_takeSetup 41 = .ok (.iload_n 2, 1) := by decide +kernel
theorem dX9_takeSetup_42 : decode cX9_takeSetup 42 = .ok (.iconst 2, 1) := by decide +kernel
theorem dX9_takeSetup_43 : decode cX9_takeSetup 43 = .ok (.if_icmp .ge 16, 3) := by decide +kernel
theorem dX9_takeSetup_46 : decode cX9_takeSetup 46 = .ok (.aload_n 0, 1) := by decide +kernel
theorem dX9_takeSetup_47 : decode cX9_takeSetup 47 = .ok (.getfield 76, 3) := by decide +kernel
theorem dX9_takeSetup_50 : decode cX9_takeSetup 50 = .ok (.iload_n 2, 1) := by decide +kernel
theorem dX9_takeSetup_51 : decode cX9_takeSetup 51 = .ok (.iconst 0, 1) := by decide +kernel
theorem dX9_takeSetup_52 : decode cX9_takeSetup 52 = .ok (.bastore, 1) := by decide +kernel
theorem dX9_takeSetup_53 : decode cX9_takeSetup 53 = .ok (.iinc 2 1, 3) := by decide +kernel
theorem dX9_takeSetup_56 : decode cX9_takeSetup 56 = .ok (.goto (-15), 3) := by decide +kernel
theorem dX9_takeSetup_59 : decode cX9_takeSetup 59 = .ok (.return_, 1) := by decide +kernel
def fX9_takeSetup_L41 (K : Int32 → Mm → Option Mm) : Nat → Int32 → Mm → Option Mm
  | 0, _, _ => none
  | n + 1, v2, M => if (2 : Int32) ≤ v2 then K v2 M else if v2 < 0 ∨ 2 ≤ v2.toNatClampNeg then none else fX9_takeSetup_L41 K n (v2 + (1 : Int32)) (putI M (17, 0, 0) v2.toNatClampNeg (0 : Int32))
def fX9_takeSetup (M : Mm) : Option Mm := (fX6_readSetup M).bind fun q1 => if q1.1 = 0 then some (putI q1.2 (1, 0, 0) 1 (0 : Int32)) else (fX0_copyFrom (putI q1.2 (1, 0, 0) 1 (0 : Int32)) 0 1).bind fun q4 => fX9_takeSetup_L41 (fun w8 M9 => some M9) NF (0 : Int32) (fX2_forgetAll q4)
set_option maxRecDepth 20000 in
set_option maxHeartbeats 2000000 in
theorem sX9_takeSetup_L41 {wv : Nat} {res : Mm} {K : Int32 → Mm → Option Mm} : ∀ (n : Nat) (v2 : Int32) (M : Mm), fX9_takeSetup_L41 K n v2 M = some res →
    (∀ (v2 : Int32) (M : Mm), K v2 M = some res → Z RX9 cX9_takeSetup 3 none [] "takeSetup" (rmD 11 0 0) (QM SH (allR wv) 0 0 (fun v M9 => v = none ∧ M9 = res) (fun _ _ => False)) (allR wv) SH 0 0 59 [some (.inr (0, 0, 0)), none, some (.inl (.int v2))] [] M) → Z RX9 cX9_takeSetup 3 none [] "takeSetup" (rmD 11 0 0) (QM SH (allR wv) 0 0 (fun v M9 => v = none ∧ M9 = res) (fun _ _ => False)) (allR wv) SH 0 0 41 [some (.inr (0, 0, 0)), none, some (.inl (.int v2))] [] M := by
  intro n
  induction n with
  | zero => intro v2 M h; cases h
  | succ n ih =>
    intro v2 M h hK
    rw [fX9_takeSetup_L41] at h
    refine z_iload_n (i := 2) dX9_takeSetup_41 rfl rfl ?_
    refine z_iconst (v := (2 : Int32)) dX9_takeSetup_42 kc_2 ?_
    refine z_icmp_ge (tgt := 59) dX9_takeSetup_43 rfl (fun hc6 => ?_) (fun hc6 => ?_)
    · have h := it_t h hc6
      exact hK _ _ h
    · have h := it_f h hc6
      refine z_aload_n (i := 0) dX9_takeSetup_46 rfl rfl ?_
      refine z_getR (r' := (17, 0, 0)) dX9_takeSetup_47 fl_X9_76 mk0 rfl rfl ?_
      refine z_iload_n (i := 2) dX9_takeSetup_50 rfl rfl ?_
      refine z_iconst (v := (0 : Int32)) dX9_takeSetup_51 kc_0 ?_
      obtain ⟨hc7, h⟩ := chk h
      refine z_zast (j := v2.toNatClampNeg) allR_nd dX9_takeSetup_52 mk17 rfl hc7 rfl rfl ?_
      refine z_iinc (i := 2) (v := (v2 + (1 : Int32))) dX9_takeSetup_53 rfl (iinc_k kc_1) (Nat.le_of_ble_eq_true rfl) rfl ?_
      refine z_goto (tgt := 41) dX9_takeSetup_56 rfl ?_
      exact ih _ _ h hK
set_option maxRecDepth 20000 in
set_option maxHeartbeats 2000000 in
theorem sX9_takeSetup {wv : Nat} (M : Mm) {res : Mm} (h : fX9_takeSetup M  = some res) : TF wv yX9_takeSetup cX9_takeSetup 3 none 11 [.inr (0, 0, 0)] M (none) res := by
  rw [fX9_takeSetup] at h
  refine TF.go (n := 2) (ls := [some (.inr (0, 0, 0)), none, none]) rfl rfl rfl rfl rfl ?_
  refine z_aload_n (i := 0) dX9_takeSetup_0 rfl rfl ?_
  refine z_getR (r' := (5, 0, 0)) dX9_takeSetup_1 fl_X9_52 mk0 rfl rfl ?_
  obtain ⟨q1, hq2, h⟩ := bnd h
  refine z_fVi (sX6_readSetup M hq2) dX9_takeSetup_4 ml_X9_123 cd_X6_readSetup mk5 rfl rfl rfl rfl rfl rfl ?_
  refine z_istore_n (i := 1) dX9_takeSetup_7 rfl (Nat.le_of_ble_eq_true rfl) rfl ?_
  refine z_aload_n (i := 0) dX9_takeSetup_8 rfl rfl ?_
  refine z_getR (r' := (1, 0, 0)) dX9_takeSetup_9 fl_X9_14 mk0 rfl rfl ?_
  refine z_iconst (v := (0 : Int32)) dX9_takeSetup_12 kc_0 ?_
  refine z_putI allR_nd dX9_takeSetup_13 fl_X9_102 (m1 _ (Nat.le_of_ble_eq_true rfl)) rfl rfl ?_
  refine z_iload_n (i := 1) dX9_takeSetup_16 rfl rfl ?_
  refine z_if_ne (tgt := 21) dX9_takeSetup_17 rfl (fun hc3 => ?_) (fun hc3 => ?_)
  · have h := it_f h hc3
    refine z_aload_n (i := 0) dX9_takeSetup_21 rfl rfl ?_
    refine z_getR (r' := (9, 0, 0)) dX9_takeSetup_22 fl_X9_40 mk0 rfl rfl ?_
    refine z_aload_n (i := 0) dX9_takeSetup_25 rfl rfl ?_
    refine z_getR (r' := (9, 1, 0)) dX9_takeSetup_26 fl_X9_44 mk0 rfl rfl ?_
    obtain ⟨q4, hq5, h⟩ := bnd h
    refine z_fVv (sX0_copyFrom (putI q1.2 (1, 0, 0) 1 (0 : Int32)) 0 1 (Nat.le_of_ble_eq_true rfl) (Nat.le_of_ble_eq_true rfl) hq5) dX9_takeSetup_29 ml_X9_127 cd_X0_copyFrom (m9 _ (Nat.le_of_ble_eq_true rfl)) rfl rfl rfl rfl rfl rfl ?_
    refine z_aload_n (i := 0) dX9_takeSetup_32 rfl rfl ?_
    refine z_getR (r' := (14, 0, 0)) dX9_takeSetup_33 fl_X9_68 mk0 rfl rfl ?_
    refine z_fVv (sX2_forgetAll q4) dX9_takeSetup_36 ml_X9_131 cd_X2_forgetAll mk14 rfl rfl rfl rfl rfl rfl ?_
    refine z_iconst (v := (0 : Int32)) dX9_takeSetup_39 kc_0 ?_
    refine z_istore_n (i := 2) dX9_takeSetup_40 rfl (Nat.le_of_ble_eq_true rfl) rfl ?_
    refine z_fgt (i := 1) ?_
    refine sX9_takeSetup_L41  NF _ _ h (fun w8 M9 h => ?_)
    cases h
    exact z_vret dX9_takeSetup_59 rfl (Nat.le_refl _) (Nat.le_refl _) ⟨rfl, rfl⟩
  · have h := it_t h hc3
    cases h
    exact z_vret dX9_takeSetup_20 rfl (Nat.le_refl _) (Nat.le_refl _) ⟨rfl, rfl⟩
theorem dX9_load_0 : decode cX9_load 0 = .ok (.aload_n 0, 1) := by decide +kernel
theorem dX9_load_1 : decode cX9_load 1 = .ok (.invokevirtual 95, 3) := by decide +kernel
theorem dX9_load_4 : decode cX9_load 4 = .ok (.aload_n 0, 1) := by decide +kernel
theorem dX9_load_5 : decode cX9_load 5 = .ok (.getfield 26, 3) := by decide +kernel
theorem dX9_load_8 : decode cX9_load 8 = .ok (.getfield 120, 3) := by decide +kernel
theorem dX9_load_11 : decode cX9_load 11 = .ok (.ireturn, 1) := by decide +kernel
def fX9_load (M : Mm) : Option (Int32 × Mm) := (fX9_takeSetup M).bind fun q1 => some ((q1.1 (3, 0, 0) 7), q1)
set_option maxRecDepth 20000 in
set_option maxHeartbeats 2000000 in
theorem sX9_load {wv : Nat} (M : Mm) {res : (Int32 × Mm)} (h : fX9_load M  = some res) : TF wv yX9_load cX9_load 1 (some .int) 12 [.inr (0, 0, 0)] M (some (.int res.1)) res.2 := by
  rw [fX9_load] at h
  refine TF.go (n := 0) (ls := [some (.inr (0, 0, 0))]) rfl rfl rfl rfl rfl ?_
  refine z_aload_n (i := 0) dX9_load_0 rfl rfl ?_
  obtain ⟨q1, hq2, h⟩ := bnd h
  refine z_fVv (sX9_takeSetup M hq2) dX9_load_1 ml_X9_95 cd_X9_takeSetup mk0 rfl rfl rfl rfl rfl rfl ?_
  refine z_aload_n (i := 0) dX9_load_4 rfl rfl ?_
  refine z_getR (r' := (3, 0, 0)) dX9_load_5 fl_X9_26 mk0 rfl rfl ?_
  refine z_getI (x := (q1.1 (3, 0, 0) 7)) dX9_load_8 fl_X9_120 mk3 rfl rfl ?_
  cases h
  exact z_iret dX9_load_11 rfl rfl (Nat.le_refl _) (Nat.le_refl _) ⟨rfl, rfl⟩
theorem dX9_runScript_0 : decode cX9_runScript 0 = .ok (.aload_n 0, 1) := by decide +kernel
theorem dX9_runScript_1 : decode cX9_runScript 1 = .ok (.getfield 61, 3) := by decide +kernel
theorem dX9_runScript_4 : decode cX9_runScript 4 = .ok (.invokevirtual 134, 3) := by decide +kernel
theorem dX9_runScript_7 : decode cX9_runScript 7 = .ok (.istore_n 1, 1) := by decide +kernel
theorem dX9_runScript_8 : decode cX9_runScript 8 = .ok (.aload_n 0, 1) := by decide +kernel
theorem dX9_runScript_9 : decode cX9_runScript 9 = .ok (.getfield 14, 3) := by decide +kernel
theorem dX9_runScript_12 : decode cX9_runScript 12 = .ok (.iconst 0, 1) := by decide +kernel
theorem dX9_runScript_13 : decode cX9_runScript 13 = .ok (.putfield 102, 3) := by decide +kernel
theorem dX9_runScript_16 : decode cX9_runScript 16 = .ok (.iload_n 1, 1) := by decide +kernel
theorem dX9_runScript_17 : decode cX9_runScript 17 = .ok (.ifCond .ne 5, 3) := by decide +kernel
theorem dX9_runScript_20 : decode cX9_runScript 20 = .ok (.iconst (-1), 1) := by decide +kernel
theorem dX9_runScript_21 : decode cX9_runScript 21 = .ok (.ireturn, 1) := by decide +kernel
theorem dX9_runScript_22 : decode cX9_runScript 22 = .ok (.aload_n 0, 1) := by decide +kernel
theorem dX9_runScript_23 : decode cX9_runScript 23 = .ok (.getfield 68, 3) := by decide +kernel
theorem dX9_runScript_26 : decode cX9_runScript 26 = .ok (.aload_n 0, 1) := by decide +kernel
theorem dX9_runScript_27 : decode cX9_runScript 27 = .ok (.getfield 40, 3) := by decide +kernel
theorem dX9_runScript_30 : decode cX9_runScript 30 = .ok (.invokevirtual 137, 3) := by decide +kernel
theorem dX9_runScript_33 : decode cX9_runScript 33 = .ok (.aload_n 0, 1) := by decide +kernel
theorem dX9_runScript_34 : decode cX9_runScript 34 = .ok (.getfield 33, 3) := by decide +kernel
theorem dX9_runScript_37 : decode cX9_runScript 37 = .ok (.aload_n 0, 1) := by decide +kernel
theorem dX9_runScript_38 : decode cX9_runScript 38 = .ok (.getfield 40, 3) := by decide +kernel
theorem dX9_runScript_41 : decode cX9_runScript 41 = .ok (.iconst 0, 1) := by decide +kernel
theorem dX9_runScript_42 : decode cX9_runScript 42 = .ok (.aload_n 0, 1) := by decide +kernel
theorem dX9_runScript_43 : decode cX9_runScript 43 = .ok (.getfield 33, 3) := by decide +kernel
theorem dX9_runScript_46 : decode cX9_runScript 46 = .ok (.getfield 140, 3) := by decide +kernel
theorem dX9_runScript_49 : decode cX9_runScript 49 = .ok (.iconst 0, 1) := by decide +kernel
theorem dX9_runScript_50 : decode cX9_runScript 50 = .ok (.invokevirtual 143, 3) := by decide +kernel
theorem dX9_runScript_53 : decode cX9_runScript 53 = .ok (.aload_n 0, 1) := by decide +kernel
theorem dX9_runScript_54 : decode cX9_runScript 54 = .ok (.getfield 33, 3) := by decide +kernel
theorem dX9_runScript_57 : decode cX9_runScript 57 = .ok (.getfield 147, 3) := by decide +kernel
theorem dX9_runScript_60 : decode cX9_runScript 60 = .ok (.ireturn, 1) := by decide +kernel
def fX9_runScript (M : Mm) : Option (Int32 × Mm) := (fX5_readScript M).bind fun q1 => if q1.1 = 0 then some ((-1 : Int32), (putI q1.2 (1, 0, 0) 1 (0 : Int32))) else (fX2_remember (putI q1.2 (1, 0, 0) 1 (0 : Int32)) 0).bind fun q4 => (gX4_runPart 6 q4 0 (0 : Int32) (q4.1 (7, 0, 0) 4) (0 : Int32)).bind fun q6 => some ((q6.1 (7, 0, 0) 5), q6)
set_option maxRecDepth 20000 in
set_option maxHeartbeats 2000000 in
theorem sX9_runScript {wv : Nat} (M : Mm) {res : (Int32 × Mm)} (h : fX9_runScript M  = some res) : TF wv yX9_runScript cX9_runScript 2 (some .int) 62 [.inr (0, 0, 0)] M (some (.int res.1)) res.2 := by
  rw [fX9_runScript] at h
  refine TF.go (n := 1) (ls := [some (.inr (0, 0, 0)), none]) rfl rfl rfl rfl rfl ?_
  refine z_aload_n (i := 0) dX9_runScript_0 rfl rfl ?_
  refine z_getR (r' := (6, 0, 0)) dX9_runScript_1 fl_X9_61 mk0 rfl rfl ?_
  obtain ⟨q1, hq2, h⟩ := bnd h
  refine z_fVi (sX5_readScript M hq2) dX9_runScript_4 ml_X9_134 cd_X5_readScript mk6 rfl rfl rfl rfl rfl rfl ?_
  refine z_istore_n (i := 1) dX9_runScript_7 rfl (Nat.le_of_ble_eq_true rfl) rfl ?_
  refine z_aload_n (i := 0) dX9_runScript_8 rfl rfl ?_
  refine z_getR (r' := (1, 0, 0)) dX9_runScript_9 fl_X9_14 mk0 rfl rfl ?_
  refine z_iconst (v := (0 : Int32)) dX9_runScript_12 kc_0 ?_
  refine z_putI allR_nd dX9_runScript_13 fl_X9_102 (m1 _ (Nat.le_of_ble_eq_true rfl)) rfl rfl ?_
  refine z_iload_n (i := 1) dX9_runScript_16 rfl rfl ?_
  refine z_if_ne (tgt := 22) dX9_runScript_17 rfl (fun hc3 => ?_) (fun hc3 => ?_)
  · have h := it_f h hc3
    refine z_aload_n (i := 0) dX9_runScript_22 rfl rfl ?_
    refine z_getR (r' := (14, 0, 0)) dX9_runScript_23 fl_X9_68 mk0 rfl rfl ?_
    refine z_aload_n (i := 0) dX9_runScript_26 rfl rfl ?_
    refine z_getR (r' := (9, 0, 0)) dX9_runScript_27 fl_X9_40 mk0 rfl rfl ?_
    obtain ⟨q4, hq5, h⟩ := bnd h
    refine z_fVv (sX2_remember (putI q1.2 (1, 0, 0) 1 (0 : Int32)) 0 (Nat.le_of_ble_eq_true rfl) hq5) dX9_runScript_30 ml_X9_137 cd_X2_remember mk14 rfl rfl rfl rfl rfl rfl ?_
    refine z_aload_n (i := 0) dX9_runScript_33 rfl rfl ?_
    refine z_getR (r' := (7, 0, 0)) dX9_runScript_34 fl_X9_33 mk0 rfl rfl ?_
    refine z_aload_n (i := 0) dX9_runScript_37 rfl rfl ?_
    refine z_getR (r' := (9, 0, 0)) dX9_runScript_38 fl_X9_40 mk0 rfl rfl ?_
    refine z_iconst (v := (0 : Int32)) dX9_runScript_41 kc_0 ?_
    refine z_aload_n (i := 0) dX9_runScript_42 rfl rfl ?_
    refine z_getR (r' := (7, 0, 0)) dX9_runScript_43 fl_X9_33 mk0 rfl rfl ?_
    refine z_getI (x := (q4.1 (7, 0, 0) 4)) dX9_runScript_46 fl_X9_140 mk7 rfl rfl ?_
    refine z_iconst (v := (0 : Int32)) dX9_runScript_49 kc_0 ?_
    obtain ⟨q6, hq7, h⟩ := bnd h
    refine z_fVNv (uX4_runPart 6 q4 0 (0 : Int32) (q4.1 (7, 0, 0) 4) (0 : Int32) (Nat.le_of_ble_eq_true rfl) _ hq7) dX9_runScript_50 ml_X9_143 sel_X4_runPart cd_X4_runPart mk7 rfl rfl rfl rfl rfl rfl ?_
    refine z_aload_n (i := 0) dX9_runScript_53 rfl rfl ?_
    refine z_getR (r' := (7, 0, 0)) dX9_runScript_54 fl_X9_33 mk0 rfl rfl ?_
    refine z_getI (x := (q6.1 (7, 0, 0) 5)) dX9_runScript_57 fl_X9_147 mk7 rfl rfl ?_
    cases h
    exact z_iret dX9_runScript_60 rfl rfl (Nat.le_refl _) (Nat.le_refl _) ⟨rfl, rfl⟩
  · have h := it_t h hc3
    refine z_iconst (v := (-1 : Int32)) dX9_runScript_20 kc_m1 ?_
    cases h
    exact z_iret dX9_runScript_21 rfl rfl (Nat.le_refl _) (Nat.le_refl _) ⟨rfl, rfl⟩
theorem dX9_errorCode_0 : decode cX9_errorCode 0 = .ok (.aload_n 0, 1) := by decide +kernel
theorem dX9_errorCode_1 : decode cX9_errorCode 1 = .ok (.getfield 26, 3) := by decide +kernel
theorem dX9_errorCode_4 : decode cX9_errorCode 4 = .ok (.getfield 120, 3) := by decide +kernel
theorem dX9_errorCode_7 : decode cX9_errorCode 7 = .ok (.ireturn, 1) := by decide +kernel
def fX9_errorCode (M : Mm) : Int32 := (M.1 (3, 0, 0) 7)
set_option maxRecDepth 20000 in
set_option maxHeartbeats 2000000 in
theorem tX9_errorCode {wv : Nat} (M : Mm) {res : Int32} (h : fX9_errorCode M  = res) : TF wv yX9_errorCode cX9_errorCode 1 (some .int) 0 [.inr (0, 0, 0)] M (some (.int res)) M := by
  rw [fX9_errorCode] at h
  refine TF.go (n := 0) (ls := [some (.inr (0, 0, 0))]) rfl rfl rfl rfl rfl ?_
  refine z_aload_n (i := 0) dX9_errorCode_0 rfl rfl ?_
  refine z_getR (r' := (3, 0, 0)) dX9_errorCode_1 fl_X9_26 mk0 rfl rfl ?_
  refine z_getI (x := (M.1 (3, 0, 0) 7)) dX9_errorCode_4 fl_X9_120 mk3 rfl rfl ?_
  subst h
  exact z_iret dX9_errorCode_7 rfl rfl (Nat.le_refl _) (Nat.le_refl _) ⟨rfl, rfl⟩
theorem sX9_errorCode {wv : Nat} (M : Mm) : TF wv yX9_errorCode cX9_errorCode 1 (some .int) 0 [.inr (0, 0, 0)] M (some (.int (fX9_errorCode M ))) M := tX9_errorCode M   rfl
theorem dX9_errorPosition_0 : decode cX9_errorPosition 0 = .ok (.aload_n 0, 1) := by decide +kernel
theorem dX9_errorPosition_1 : decode cX9_errorPosition 1 = .ok (.getfield 26, 3) := by decide +kernel
theorem dX9_errorPosition_4 : decode cX9_errorPosition 4 = .ok (.getfield 150, 3) := by decide +kernel
theorem dX9_errorPosition_7 : decode cX9_errorPosition 7 = .ok (.ireturn, 1) := by decide +kernel
def fX9_errorPosition (M : Mm) : Int32 := (M.1 (3, 0, 0) 8)
set_option maxRecDepth 20000 in
set_option maxHeartbeats 2000000 in
theorem tX9_errorPosition {wv : Nat} (M : Mm) {res : Int32} (h : fX9_errorPosition M  = res) : TF wv yX9_errorPosition cX9_errorPosition 1 (some .int) 0 [.inr (0, 0, 0)] M (some (.int res)) M := by
  rw [fX9_errorPosition] at h
  refine TF.go (n := 0) (ls := [some (.inr (0, 0, 0))]) rfl rfl rfl rfl rfl ?_
  refine z_aload_n (i := 0) dX9_errorPosition_0 rfl rfl ?_
  refine z_getR (r' := (3, 0, 0)) dX9_errorPosition_1 fl_X9_26 mk0 rfl rfl ?_
  refine z_getI (x := (M.1 (3, 0, 0) 8)) dX9_errorPosition_4 fl_X9_150 mk3 rfl rfl ?_
  subst h
  exact z_iret dX9_errorPosition_7 rfl rfl (Nat.le_refl _) (Nat.le_refl _) ⟨rfl, rfl⟩
theorem sX9_errorPosition {wv : Nat} (M : Mm) : TF wv yX9_errorPosition cX9_errorPosition 1 (some .int) 0 [.inr (0, 0, 0)] M (some (.int (fX9_errorPosition M ))) M := tX9_errorPosition M   rfl
theorem dX9_stepCount_0 : decode cX9_stepCount 0 = .ok (.aload_n 0, 1) := by decide +kernel
theorem dX9_stepCount_1 : decode cX9_stepCount 1 = .ok (.getfield 40, 3) := by decide +kernel
theorem dX9_stepCount_4 : decode cX9_stepCount 4 = .ok (.getfield 153, 3) := by decide +kernel
theorem dX9_stepCount_7 : decode cX9_stepCount 7 = .ok (.getfield 157, 3) := by decide +kernel
theorem dX9_stepCount_10 : decode cX9_stepCount 10 = .ok (.ireturn, 1) := by decide +kernel
def fX9_stepCount (M : Mm) : Int32 := (M.1 (10, 0, 0) 1)
set_option maxRecDepth 20000 in
set_option maxHeartbeats 2000000 in
theorem tX9_stepCount {wv : Nat} (M : Mm) {res : Int32} (h : fX9_stepCount M  = res) : TF wv yX9_stepCount cX9_stepCount 1 (some .int) 0 [.inr (0, 0, 0)] M (some (.int res)) M := by
  rw [fX9_stepCount] at h
  refine TF.go (n := 0) (ls := [some (.inr (0, 0, 0))]) rfl rfl rfl rfl rfl ?_
  refine z_aload_n (i := 0) dX9_stepCount_0 rfl rfl ?_
  refine z_getR (r' := (9, 0, 0)) dX9_stepCount_1 fl_X9_40 mk0 rfl rfl ?_
  refine z_getR (r' := (10, 0, 0)) dX9_stepCount_4 fl_X9_153 (m9 _ (Nat.le_of_ble_eq_true rfl)) rfl rfl ?_
  refine z_getI (x := (M.1 (10, 0, 0) 1)) dX9_stepCount_7 fl_X9_157 (m10 _ (Nat.le_of_ble_eq_true rfl)) rfl rfl ?_
  subst h
  exact z_iret dX9_stepCount_10 rfl rfl (Nat.le_refl _) (Nat.le_refl _) ⟨rfl, rfl⟩
theorem sX9_stepCount {wv : Nat} (M : Mm) : TF wv yX9_stepCount cX9_stepCount 1 (some .int) 0 [.inr (0, 0, 0)] M (some (.int (fX9_stepCount M ))) M := tX9_stepCount M   rfl
theorem dX9_selectedTune_0 : decode cX9_selectedTune 0 = .ok (.aload_n 0, 1) := by decide +kernel
theorem dX9_selectedTune_1 : decode cX9_selectedTune 1 = .ok (.getfield 40, 3) := by decide +kernel
theorem dX9_selectedTune_4 : decode cX9_selectedTune 4 = .ok (.getfield 153, 3) := by decide +kernel
theorem dX9_selectedTune_7 : decode cX9_selectedTune 7 = .ok (.getfield 162, 3) := by decide +kernel
theorem dX9_selectedTune_10 : decode cX9_selectedTune 10 = .ok (.ireturn, 1) := by decide +kernel
def fX9_selectedTune (M : Mm) : Int32 := (M.1 (10, 0, 0) 3)
set_option maxRecDepth 20000 in
set_option maxHeartbeats 2000000 in
theorem tX9_selectedTune {wv : Nat} (M : Mm) {res : Int32} (h : fX9_selectedTune M  = res) : TF wv yX9_selectedTune cX9_selectedTune 1 (some .int) 0 [.inr (0, 0, 0)] M (some (.int res)) M := by
  rw [fX9_selectedTune] at h
  refine TF.go (n := 0) (ls := [some (.inr (0, 0, 0))]) rfl rfl rfl rfl rfl ?_
  refine z_aload_n (i := 0) dX9_selectedTune_0 rfl rfl ?_
  refine z_getR (r' := (9, 0, 0)) dX9_selectedTune_1 fl_X9_40 mk0 rfl rfl ?_
  refine z_getR (r' := (10, 0, 0)) dX9_selectedTune_4 fl_X9_153 (m9 _ (Nat.le_of_ble_eq_true rfl)) rfl rfl ?_
  refine z_getI (x := (M.1 (10, 0, 0) 3)) dX9_selectedTune_7 fl_X9_162 (m10 _ (Nat.le_of_ble_eq_true rfl)) rfl rfl ?_
  subst h
  exact z_iret dX9_selectedTune_10 rfl rfl (Nat.le_refl _) (Nat.le_refl _) ⟨rfl, rfl⟩
theorem sX9_selectedTune {wv : Nat} (M : Mm) : TF wv yX9_selectedTune cX9_selectedTune 1 (some .int) 0 [.inr (0, 0, 0)] M (some (.int (fX9_selectedTune M ))) M := tX9_selectedTune M   rfl
theorem dX9_position_0 : decode cX9_position 0 = .ok (.aload_n 0, 1) := by decide +kernel
theorem dX9_position_1 : decode cX9_position 1 = .ok (.getfield 40, 3) := by decide +kernel
theorem dX9_position_4 : decode cX9_position 4 = .ok (.getfield 153, 3) := by decide +kernel
theorem dX9_position_7 : decode cX9_position 7 = .ok (.getfield 165, 3) := by decide +kernel
theorem dX9_position_10 : decode cX9_position 10 = .ok (.ireturn, 1) := by decide +kernel
def fX9_position (M : Mm) : Int32 := (M.1 (10, 0, 0) 2)
set_option maxRecDepth 20000 in
set_option maxHeartbeats 2000000 in
theorem tX9_position {wv : Nat} (M : Mm) {res : Int32} (h : fX9_position M  = res) : TF wv yX9_position cX9_position 1 (some .int) 0 [.inr (0, 0, 0)] M (some (.int res)) M := by
  rw [fX9_position] at h
  refine TF.go (n := 0) (ls := [some (.inr (0, 0, 0))]) rfl rfl rfl rfl rfl ?_
  refine z_aload_n (i := 0) dX9_position_0 rfl rfl ?_
  refine z_getR (r' := (9, 0, 0)) dX9_position_1 fl_X9_40 mk0 rfl rfl ?_
  refine z_getR (r' := (10, 0, 0)) dX9_position_4 fl_X9_153 (m9 _ (Nat.le_of_ble_eq_true rfl)) rfl rfl ?_
  refine z_getI (x := (M.1 (10, 0, 0) 2)) dX9_position_7 fl_X9_165 (m10 _ (Nat.le_of_ble_eq_true rfl)) rfl rfl ?_
  subst h
  exact z_iret dX9_position_10 rfl rfl (Nat.le_refl _) (Nat.le_refl _) ⟨rfl, rfl⟩
theorem sX9_position {wv : Nat} (M : Mm) : TF wv yX9_position cX9_position 1 (some .int) 0 [.inr (0, 0, 0)] M (some (.int (fX9_position M ))) M := tX9_position M   rfl
theorem dX9_toothCount_0 : decode cX9_toothCount 0 = .ok (.aload_n 0, 1) := by decide +kernel
theorem dX9_toothCount_1 : decode cX9_toothCount 1 = .ok (.getfield 40, 3) := by decide +kernel
theorem dX9_toothCount_4 : decode cX9_toothCount 4 = .ok (.getfield 211, 3) := by decide +kernel
theorem dX9_toothCount_7 : decode cX9_toothCount 7 = .ok (.ireturn, 1) := by decide +kernel
def fX9_toothCount (M : Mm) : Int32 := (M.1 (9, 0, 0) 2)
set_option maxRecDepth 20000 in
set_option maxHeartbeats 2000000 in
theorem tX9_toothCount {wv : Nat} (M : Mm) {res : Int32} (h : fX9_toothCount M  = res) : TF wv yX9_toothCount cX9_toothCount 1 (some .int) 0 [.inr (0, 0, 0)] M (some (.int res)) M := by
  rw [fX9_toothCount] at h
  refine TF.go (n := 0) (ls := [some (.inr (0, 0, 0))]) rfl rfl rfl rfl rfl ?_
  refine z_aload_n (i := 0) dX9_toothCount_0 rfl rfl ?_
  refine z_getR (r' := (9, 0, 0)) dX9_toothCount_1 fl_X9_40 mk0 rfl rfl ?_
  refine z_getI (x := (M.1 (9, 0, 0) 2)) dX9_toothCount_4 fl_X9_211 (m9 _ (Nat.le_of_ble_eq_true rfl)) rfl rfl ?_
  subst h
  exact z_iret dX9_toothCount_7 rfl rfl (Nat.le_refl _) (Nat.le_refl _) ⟨rfl, rfl⟩
theorem sX9_toothCount {wv : Nat} (M : Mm) : TF wv yX9_toothCount cX9_toothCount 1 (some .int) 0 [.inr (0, 0, 0)] M (some (.int (fX9_toothCount M ))) M := tX9_toothCount M   rfl
theorem dX9_turnsLeft_0 : decode cX9_turnsLeft 0 = .ok (.aload_n 0, 1) := by decide +kernel
theorem dX9_turnsLeft_1 : decode cX9_turnsLeft 1 = .ok (.getfield 40, 3) := by decide +kernel
theorem dX9_turnsLeft_4 : decode cX9_turnsLeft 4 = .ok (.getfield 244, 3) := by decide +kernel
theorem dX9_turnsLeft_7 : decode cX9_turnsLeft 7 = .ok (.ireturn, 1) := by decide +kernel
def fX9_turnsLeft (M : Mm) : Int32 := (M.1 (9, 0, 0) 3)
set_option maxRecDepth 20000 in
set_option maxHeartbeats 2000000 in
theorem tX9_turnsLeft {wv : Nat} (M : Mm) {res : Int32} (h : fX9_turnsLeft M  = res) : TF wv yX9_turnsLeft cX9_turnsLeft 1 (some .int) 0 [.inr (0, 0, 0)] M (some (.int res)) M := by
  rw [fX9_turnsLeft] at h
  refine TF.go (n := 0) (ls := [some (.inr (0, 0, 0))]) rfl rfl rfl rfl rfl ?_
  refine z_aload_n (i := 0) dX9_turnsLeft_0 rfl rfl ?_
  refine z_getR (r' := (9, 0, 0)) dX9_turnsLeft_1 fl_X9_40 mk0 rfl rfl ?_
  refine z_getI (x := (M.1 (9, 0, 0) 3)) dX9_turnsLeft_4 fl_X9_244 (m9 _ (Nat.le_of_ble_eq_true rfl)) rfl rfl ?_
  subst h
  exact z_iret dX9_turnsLeft_7 rfl rfl (Nat.le_refl _) (Nat.le_refl _) ⟨rfl, rfl⟩
theorem sX9_turnsLeft {wv : Nat} (M : Mm) : TF wv yX9_turnsLeft cX9_turnsLeft 1 (some .int) 0 [.inr (0, 0, 0)] M (some (.int (fX9_turnsLeft M ))) M := tX9_turnsLeft M   rfl
theorem dX9_vane_0 : decode cX9_vane 0 = .ok (.aload_n 0, 1) := by decide +kernel
theorem dX9_vane_1 : decode cX9_vane 1 = .ok (.getfield 40, 3) := by decide +kernel
theorem dX9_vane_4 : decode cX9_vane 4 = .ok (.getfield 247, 3) := by decide +kernel
theorem dX9_vane_7 : decode cX9_vane 7 = .ok (.ireturn, 1) := by decide +kernel
def fX9_vane (M : Mm) : Int32 := (M.1 (9, 0, 0) 4)
set_option maxRecDepth 20000 in
set_option maxHeartbeats 2000000 in
theorem tX9_vane {wv : Nat} (M : Mm) {res : Int32} (h : fX9_vane M  = res) : TF wv yX9_vane cX9_vane 1 (some .int) 0 [.inr (0, 0, 0)] M (some (.int res)) M := by
  rw [fX9_vane] at h
  refine TF.go (n := 0) (ls := [some (.inr (0, 0, 0))]) rfl rfl rfl rfl rfl ?_
  refine z_aload_n (i := 0) dX9_vane_0 rfl rfl ?_
  refine z_getR (r' := (9, 0, 0)) dX9_vane_1 fl_X9_40 mk0 rfl rfl ?_
  refine z_getI (x := (M.1 (9, 0, 0) 4)) dX9_vane_4 fl_X9_247 (m9 _ (Nat.le_of_ble_eq_true rfl)) rfl rfl ?_
  subst h
  exact z_iret dX9_vane_7 rfl rfl (Nat.le_refl _) (Nat.le_refl _) ⟨rfl, rfl⟩
theorem sX9_vane {wv : Nat} (M : Mm) : TF wv yX9_vane cX9_vane 1 (some .int) 0 [.inr (0, 0, 0)] M (some (.int (fX9_vane M ))) M := tX9_vane M   rfl
theorem dX9_tempo_0 : decode cX9_tempo 0 = .ok (.aload_n 0, 1) := by decide +kernel
theorem dX9_tempo_1 : decode cX9_tempo 1 = .ok (.getfield 40, 3) := by decide +kernel
theorem dX9_tempo_4 : decode cX9_tempo 4 = .ok (.invokevirtual 250, 3) := by decide +kernel
theorem dX9_tempo_7 : decode cX9_tempo 7 = .ok (.ireturn, 1) := by decide +kernel
def fX9_tempo (M : Mm) : Int32 := (fX0_stepsPerMinute M 0)
set_option maxRecDepth 20000 in
set_option maxHeartbeats 2000000 in
theorem tX9_tempo {wv : Nat} (M : Mm) {res : Int32} (h : fX9_tempo M  = res) : TF wv yX9_tempo cX9_tempo 1 (some .int) 1 [.inr (0, 0, 0)] M (some (.int res)) M := by
  rw [fX9_tempo] at h
  refine TF.go (n := 0) (ls := [some (.inr (0, 0, 0))]) rfl rfl rfl rfl rfl ?_
  refine z_aload_n (i := 0) dX9_tempo_0 rfl rfl ?_
  refine z_getR (r' := (9, 0, 0)) dX9_tempo_1 fl_X9_40 mk0 rfl rfl ?_
  refine z_fVi (sX0_stepsPerMinute M 0 (Nat.le_of_ble_eq_true rfl)) dX9_tempo_4 ml_X9_250 cd_X0_stepsPerMinute (m9 _ (Nat.le_of_ble_eq_true rfl)) rfl rfl rfl rfl rfl rfl ?_
  subst h
  exact z_iret dX9_tempo_7 rfl rfl (Nat.le_refl _) (Nat.le_refl _) ⟨rfl, rfl⟩
theorem sX9_tempo {wv : Nat} (M : Mm) : TF wv yX9_tempo cX9_tempo 1 (some .int) 1 [.inr (0, 0, 0)] M (some (.int (fX9_tempo M ))) M := tX9_tempo M   rfl
theorem dX9_secondsPerStep_0 : decode cX9_secondsPerStep 0 = .ok (.aload_n 0, 1) := by decide +kernel
theorem dX9_secondsPerStep_1 : decode cX9_secondsPerStep 1 = .ok (.getfield 40, 3) := by decide +kernel
theorem dX9_secondsPerStep_4 : decode cX9_secondsPerStep 4 = .ok (.invokevirtual 250, 3) := by decide +kernel
theorem dX9_secondsPerStep_7 : decode cX9_secondsPerStep 7 = .ok (.istore_n 1, 1) := by decide +kernel
theorem dX9_secondsPerStep_8 : decode cX9_secondsPerStep 8 = .ok (.iload_n 1, 1) := by decide +kernel
theorem dX9_secondsPerStep_9 : decode cX9_secondsPerStep 9 = .ok (.iconst 1, 1) := by decide +kernel
theorem dX9_secondsPerStep_10 : decode cX9_secondsPerStep 10 = .ok (.if_icmp .ge 7, 3) := by decide +kernel
theorem dX9_secondsPerStep_13 : decode cX9_secondsPerStep 13 = .ok (.dconst 0, 1) := by decide +kernel
theorem dX9_secondsPerStep_14 : decode cX9_secondsPerStep 14 = .ok (.goto 9, 3) := by decide +kernel
theorem dX9_secondsPerStep_17 : decode cX9_secondsPerStep 17 = .ok (.ldc2_w 253, 3) := by decide +kernel
theorem dX9_secondsPerStep_20 : decode cX9_secondsPerStep 20 = .ok (.iload_n 1, 1) := by decide +kernel
theorem dX9_secondsPerStep_21 : decode cX9_secondsPerStep 21 = .ok (.i2d, 1) := by decide +kernel
theorem dX9_secondsPerStep_22 : decode cX9_secondsPerStep 22 = .ok (.ddiv, 1) := by decide +kernel
theorem dX9_secondsPerStep_23 : decode cX9_secondsPerStep 23 = .ok (.dreturn, 1) := by decide +kernel
def fX9_secondsPerStep (M : Mm) : Option UInt64 := if (1 : Int32) ≤ (fX0_stepsPerMinute M 0) then (if (FP.ddiv (4633641066610819072 : UInt64) (FP.i2d (fX0_stepsPerMinute M 0))) &&& 0x7fffffffffffffff ≤ 0x7ff0000000000000 then some (FP.ddiv (4633641066610819072 : UInt64) (FP.i2d (fX0_stepsPerMinute M 0))) else none) else some (FP.dconst0)
set_option maxRecDepth 20000 in
set_option maxHeartbeats 2000000 in
theorem sX9_secondsPerStep {wv : Nat} (M : Mm) {res : UInt64} (h : fX9_secondsPerStep M  = some res) : TF wv yX9_secondsPerStep cX9_secondsPerStep 2 (some .double) 1 [.inr (0, 0, 0)] M (some (.double res)) M := by
  rw [fX9_secondsPerStep] at h
  refine TF.go (n := 1) (ls := [some (.inr (0, 0, 0)), none]) rfl rfl rfl rfl rfl ?_
  refine z_aload_n (i := 0) dX9_secondsPerStep_0 rfl rfl ?_
  refine z_getR (r' := (9, 0, 0)) dX9_secondsPerStep_1 fl_X9_40 mk0 rfl rfl ?_
  refine z_fVi (sX0_stepsPerMinute M 0 (Nat.le_of_ble_eq_true rfl)) dX9_secondsPerStep_4 ml_X9_250 cd_X0_stepsPerMinute (m9 _ (Nat.le_of_ble_eq_true rfl)) rfl rfl rfl rfl rfl rfl ?_
  refine z_istore_n (i := 1) dX9_secondsPerStep_7 rfl (Nat.le_of_ble_eq_true rfl) rfl ?_
  refine z_iload_n (i := 1) dX9_secondsPerStep_8 rfl rfl ?_
  refine z_iconst (v := (1 : Int32)) dX9_secondsPerStep_9 kc_1 ?_
  refine z_icmp_ge (tgt := 17) dX9_secondsPerStep_10 rfl (fun hc1 => ?_) (fun hc1 => ?_)
  · have h := it_t h hc1
    refine z_ldc2d (v := (4633641066610819072 : UInt64)) dX9_secondsPerStep_17 (al_mem 833 (by decide +kernel) rfl) ?_
    refine z_iload_n (i := 1) dX9_secondsPerStep_20 rfl rfl ?_
    refine z_i2d dX9_secondsPerStep_21 ?_
    obtain ⟨hc2, h⟩ := chk2 h
    refine z_ddiv dX9_secondsPerStep_22 hc2 ?_
    cases h
    exact z_dret dX9_secondsPerStep_23 rfl (Nat.le_refl _) (Nat.le_refl _) ⟨rfl, rfl⟩
  · have h := it_f h hc1
    refine z_dconst0 dX9_secondsPerStep_13 ?_
    refine z_goto (tgt := 23) dX9_secondsPerStep_14 rfl ?_
    cases h
    exact z_dret dX9_secondsPerStep_23 rfl (Nat.le_refl _) (Nat.le_refl _) ⟨rfl, rfl⟩
theorem dX9_bitsOfPositive_0 : decode cX9_bitsOfPositive 0 = .ok (.dload_n 0, 1) := by decide +kernel
theorem dX9_bitsOfPositive_1 : decode cX9_bitsOfPositive 1 = .ok (.dstore_n 2, 1) := by decide +kernel
theorem dX9_bitsOfPositive_2 : decode cX9_bitsOfPositive 2 = .ok (.ldc2_w 263, 3) := by decide +kernel
theorem dX9_bitsOfPositive_5 : decode cX9_bitsOfPositive 5 = .ok (.lstore 4, 2) := by decide +kernel
theorem dX9_bitsOfPositive_7 : decode cX9_bitsOfPositive 7 = .ok (.iconst 0, 1) := by decide +kernel
theorem dX9_bitsOfPositive_8 : decode cX9_bitsOfPositive 8 = .ok (.istore 6, 2) := by decide +kernel
theorem dX9_bitsOfPositive_10 : decode cX9_bitsOfPositive 10 = .ok (.iload 6, 2) := by decide +kernel
theorem dX9_bitsOfPositive_12 : decode cX9_bitsOfPositive 12 = .ok (.sipush 1023, 3) := by decide +kernel
theorem dX9_bitsOfPositive_15 : decode cX9_bitsOfPositive 15 = .ok (.if_icmp .ge 29, 3) := by decide +kernel
theorem dX9_bitsOfPositive_18 : decode cX9_bitsOfPositive 18 = .ok (.dload_n 2, 1) := by decide +kernel
theorem dX9_bitsOfPositive_19 : decode cX9_bitsOfPositive 19 = .ok (.ldc2_w 265, 3) := by decide +kernel
theorem dX9_bitsOfPositive_22 : decode cX9_bitsOfPositive 22 = .ok (.dcmp .l, 1) := by decide +kernel
theorem dX9_bitsOfPositive_23 : decode cX9_bitsOfPositive 23 = .ok (.ifCond .lt 21, 3) := by decide +kernel
theorem dX9_bitsOfPositive_26 : decode cX9_bitsOfPositive 26 = .ok (.dload_n 2, 1) := by decide +kernel
theorem dX9_bitsOfPositive_27 : decode cX9_bitsOfPositive 27 = .ok (.ldc2_w 265, 3) := by decide +kernel
theorem dX9_bitsOfPositive_30 : decode cX9_bitsOfPositive 30 = .ok (.ddiv, 1) := by decide +kernel
theorem dX9_bitsOfPositive_31 : decode cX9_bitsOfPositive 31 = .ok (.dstore_n 2, 1) := by decide +kernel
theorem dX9_bitsOfPositive_32 : decode cX9_bitsOfPositive 32 = .ok (.lload 4, 2) := by decide +kernel
theorem dX9_bitsOfPositive_34 : decode cX9_bitsOfPositive 34 = .ok (.lconst 1, 1) := by decide +kernel
theorem dX9_bitsOfPositive_35 : decode cX9_bitsOfPositive 35 = .ok (.ladd, 1) := by decide +kernel
theorem dX9_bitsOfPositive_36 : decode cX9_bitsOfPositive 36 = .ok (.lstore 4, 2) := by decide +kernel
theorem dX9_bitsOfPositive_38 : decode cX9_bitsOfPositive 38 = .ok (.iinc 6 1, 3) := by decide +kernel
theorem dX9_bitsOfPositive_41 : decode cX9_bitsOfPositive 41 = .ok (.goto (-31), 3) := by decide +kernel
theorem dX9_bitsOfPositive_44 : decode cX9_bitsOfPositive 44 = .ok (.iconst 0, 1) := by decide +kernel
theorem dX9_bitsOfPositive_45 : decode cX9_bitsOfPositive 45 = .ok (.istore 6, 2) := by decide +kernel
theorem dX9_bitsOfPositive_47 : decode cX9_bitsOfPositive 47 = .ok (.iload 6, 2) := by decide +kernel
theorem dX9_bitsOfPositive_49 : decode cX9_bitsOfPositive 49 = .ok (.sipush 1023, 3) := by decide +kernel
theorem dX9_bitsOfPositive_52 : decode cX9_bitsOfPositive 52 = .ok (.if_icmp .ge 27, 3) := by decide +kernel
theorem dX9_bitsOfPositive_55 : decode cX9_bitsOfPositive 55 = .ok (.dload_n 2, 1) := by decide +kernel
theorem dX9_bitsOfPositive_56 : decode cX9_bitsOfPositive 56 = .ok (.dconst 1, 1) := by decide +kernel
theorem dX9_bitsOfPositive_57 : decode cX9_bitsOfPositive 57 = .ok (.dcmp .g, 1) := by decide +kernel
theorem dX9_bitsOfPositive_58 : decode cX9_bitsOfPositive 58 = .ok (.ifCond .ge 21, 3) := by decide +kernel
theorem dX9_bitsOfPositive_61 : decode cX9_bitsOfPositive 61 = .ok (.dload_n 2, 1) := by decide +kernel
theorem dX9_bitsOfPositive_62 : decode cX9_bitsOfPositive 62 = .ok (.ldc2_w 265, 3) := by decide +kernel
theorem dX9_bitsOfPositive_65 : decode cX9_bitsOfPositive 65 = .ok (.dmul, 1) := by decide +kernel
theorem dX9_bitsOfPositive_66 : decode cX9_bitsOfPositive 66 = .ok (.dstore_n 2, 1) := by decide +kernel
theorem dX9_bitsOfPositive_67 : decode cX9_bitsOfPositive 67 = .ok (.lload 4, 2) := by decide +kernel
theorem dX9_bitsOfPositive_69 : decode cX9_bitsOfPositive 69 = .ok (.lconst 1, 1) := by decide +kernel
theorem dX9_bitsOfPositive_70 : decode cX9_bitsOfPositive 70 = .ok (.lsub, 1) := by decide +kernel
theorem dX9_bitsOfPositive_71 : decode cX9_bitsOfPositive 71 = .ok (.lstore 4, 2) := by decide +kernel
theorem dX9_bitsOfPositive_73 : decode cX9_bitsOfPositive 73 = .ok (.iinc 6 1, 3) := by decide +kernel
theorem dX9_bitsOfPositive_76 : decode cX9_bitsOfPositive 76 = .ok (.goto (-29), 3) := by decide +kernel
theorem dX9_bitsOfPositive_79 : decode cX9_bitsOfPositive 79 = .ok (.dload_n 2, 1) := by decide +kernel
theorem dX9_bitsOfPositive_80 : decode cX9_bitsOfPositive 80 = .ok (.dconst 1, 1) := by decide +kernel
theorem dX9_bitsOfPositive_81 : decode cX9_bitsOfPositive 81 = .ok (.dsub, 1) := by decide +kernel
theorem dX9_bitsOfPositive_82 : decode cX9_bitsOfPositive 82 = .ok (.ldc2_w 267, 3) := by decide +kernel
theorem dX9_bitsOfPositive_85 : decode cX9_bitsOfPositive 85 = .ok (.dmul, 1) := by decide +kernel
theorem dX9_bitsOfPositive_86 : decode cX9_bitsOfPositive 86 = .ok (.d2l, 1) := by decide +kernel
theorem dX9_bitsOfPositive_87 : decode cX9_bitsOfPositive 87 = .ok (.lstore 6, 2) := by decide +kernel
theorem dX9_bitsOfPositive_89 : decode cX9_bitsOfPositive 89 = .ok (.lload 4, 2) := by decide +kernel
theorem dX9_bitsOfPositive_91 : decode cX9_bitsOfPositive 91 = .ok (.bipush 52, 2) := by decide +kernel
theorem dX9_bitsOfPositive_93 : decode cX9_bitsOfPositive 93 = .ok (.lshl, 1) := by decide +kernel
theorem dX9_bitsOfPositive_94 : decode cX9_bitsOfPositive 94 = .ok (.lload 6, 2) := by decide +kernel
theorem dX9_bitsOfPositive_96 : decode cX9_bitsOfPositive 96 = .ok (.ladd, 1) := by decide +kernel
theorem dX9_bitsOfPositive_97 : decode cX9_bitsOfPositive 97 = .ok (.lreturn, 1) := by decide +kernel
def fX9_bitsOfPositive_L10 (M : Mm) (K : UInt64 → Int64 → Int32 → Option Int64) : Nat → UInt64 → Int64 → Int32 → Option Int64
  | 0, _, _, _ => none
  | n + 1, v2, v4, v6 => if (1023 : Int32) ≤ v6 then K v2 v4 v6 else if (Op.cmpValue (FP.dcmp v2 (4611686018427387904 : UInt64)) .l) < 0 then K v2 v4 v6 else if (FP.ddiv v2 (4611686018427387904 : UInt64)) &&& 0x7fffffffffffffff ≤ 0x7ff0000000000000 then fX9_bitsOfPositive_L10 M K n (FP.ddiv v2 (4611686018427387904 : UInt64)) (v4 + (1 : Int64)) (v6 + (1 : Int32)) else none
def fX9_bitsOfPositive_L47 (M : Mm) (K : UInt64 → Int64 → Int32 → Option Int64) : Nat → UInt64 → Int64 → Int32 → Option Int64
  | 0, _, _, _ => none
  | n + 1, v2, v4, v6 => if (1023 : Int32) ≤ v6 then K v2 v4 v6 else if 0 ≤ (Op.cmpValue (FP.dcmp v2 FP.dconst1) .g) then K v2 v4 v6 else if (FP.dmul v2 (4611686018427387904 : UInt64)) &&& 0x7fffffffffffffff ≤ 0x7ff0000000000000 then fX9_bitsOfPositive_L47 M K n (FP.dmul v2 (4611686018427387904 : UInt64)) (v4 - (1 : Int64)) (v6 + (1 : Int32)) else none
def fX9_bitsOfPositive (M : Mm) (x1 : UInt64) : Option Int64 := fX9_bitsOfPositive_L10 M (fun w4 w5 w6 => fX9_bitsOfPositive_L47 M (fun w10 w11 w12 => if (FP.dsub w10 FP.dconst1) &&& 0x7fffffffffffffff ≤ 0x7ff0000000000000 then if (FP.dmul (FP.dsub w10 FP.dconst1) (4841369599423283200 : UInt64)) &&& 0x7fffffffffffffff ≤ 0x7ff0000000000000 then some ((w11 <<< ((52 : Int32).toInt64 &&& 63)) + (FP.d2l (FP.dmul (FP.dsub w10 FP.dconst1) (4841369599423283200 : UInt64)))) else none else none) NF w4 w5 (0 : Int32)) NF x1 (1023 : Int64) (0 : Int32)
set_option maxRecDepth 20000 in
set_option maxHeartbeats 2000000 in
theorem sX9_bitsOfPositive_L10 {wv : Nat} (M : Mm) {res : Int64} {K : UInt64 → Int64 → Int32 → Option Int64} : ∀ (n : Nat) (v2 : UInt64) (v4 : Int64) (v6 : Int32), fX9_bitsOfPositive_L10 M K n v2 v4 v6 = some res →
    (∀ (v2 : UInt64) (v4 : Int64) (v6 : Int32), K v2 v4 v6 = some res → Z RX9 cX9_bitsOfPositive 8 (some .long) [] "bitsOfPositive" (rmD 0 0 0) (QM SH (allR wv) 0 0 (fun v M9 => v = some (.long res) ∧ M9 = M) (fun _ _ => False)) (allR wv) SH 0 0 44 [none, none, some (.inl (.double v2)), none, some (.inl (.long v4)), none, some (.inl (.int v6)), none] [] M) → Z RX9 cX9_bitsOfPositive 8 (some .long) [] "bitsOfPositive" (rmD 0 0 0) (QM SH (allR wv) 0 0 (fun v M9 => v = some (.long res) ∧ M9 = M) (fun _ _ => False)) (allR wv) SH 0 0 10 [none, none, some (.inl (.double v2)), none, some (.inl (.long v4)), none, some (.inl (.int v6)), none] [] M := by
  intro n
  induction n with
  | zero => intro v2 v4 v6 h; cases h
  | succ n ih =>
    intro v2 v4 v6 h hK
    rw [fX9_bitsOfPositive_L10] at h
    refine z_iload (i := 6) dX9_bitsOfPositive_10 rfl ?_
    refine z_sipush (v := (1023 : Int32)) dX9_bitsOfPositive_12 ks_1023 ?_
    refine z_icmp_ge (tgt := 44) dX9_bitsOfPositive_15 rfl (fun hc1 => ?_) (fun hc1 => ?_)
    · have h := it_t h hc1
      exact hK _ _ _ h
    · have h := it_f h hc1
      refine z_dload_n (i := 2) dX9_bitsOfPositive_18 rfl rfl ?_
      refine z_ldc2d (v := (4611686018427387904 : UInt64)) dX9_bitsOfPositive_19 (al_mem 843 (by decide +kernel) rfl) ?_
      refine z_dcmp dX9_bitsOfPositive_22 ?_
      refine z_if_lt (tgt := 44) dX9_bitsOfPositive_23 rfl (fun hc2 => ?_) (fun hc2 => ?_)
      · have h := it_t h hc2
        exact hK _ _ _ h
      · have h := it_f h hc2
        refine z_dload_n (i := 2) dX9_bitsOfPositive_26 rfl rfl ?_
        refine z_ldc2d (v := (4611686018427387904 : UInt64)) dX9_bitsOfPositive_27 (al_mem 843 (by decide +kernel) rfl) ?_
        obtain ⟨hc3, h⟩ := chk2 h
        refine z_ddiv dX9_bitsOfPositive_30 hc3 ?_
        refine z_dstore_n (i := 2) dX9_bitsOfPositive_31 rfl (Nat.le_of_ble_eq_true rfl) rfl ?_
        refine z_lload (i := 4) dX9_bitsOfPositive_32 rfl ?_
        refine z_lconst (v := (1 : Int64)) dX9_bitsOfPositive_34 (by decide) ?_
        refine z_ladd dX9_bitsOfPositive_35 ?_
        refine z_lstore (i := 4) dX9_bitsOfPositive_36 (Nat.le_of_ble_eq_true rfl) rfl ?_
        refine z_iinc (i := 6) (v := (v6 + (1 : Int32))) dX9_bitsOfPositive_38 rfl (iinc_k kc_1) (Nat.le_of_ble_eq_true rfl) rfl ?_
        refine z_goto (tgt := 10) dX9_bitsOfPositive_41 rfl ?_
        exact ih _ _ _ h hK
set_option maxRecDepth 20000 in
set_option maxHeartbeats 2000000 in
theorem sX9_bitsOfPositive_L47 {wv : Nat} (M : Mm) {res : Int64} {K : UInt64 → Int64 → Int32 → Option Int64} : ∀ (n : Nat) (v2 : UInt64) (v4 : Int64) (v6 : Int32), fX9_bitsOfPositive_L47 M K n v2 v4 v6 = some res →
    (∀ (v2 : UInt64) (v4 : Int64) (v6 : Int32), K v2 v4 v6 = some res → Z RX9 cX9_bitsOfPositive 8 (some .long) [] "bitsOfPositive" (rmD 0 0 0) (QM SH (allR wv) 0 0 (fun v M9 => v = some (.long res) ∧ M9 = M) (fun _ _ => False)) (allR wv) SH 0 0 79 [none, none, some (.inl (.double v2)), none, some (.inl (.long v4)), none, some (.inl (.int v6)), none] [] M) → Z RX9 cX9_bitsOfPositive 8 (some .long) [] "bitsOfPositive" (rmD 0 0 0) (QM SH (allR wv) 0 0 (fun v M9 => v = some (.long res) ∧ M9 = M) (fun _ _ => False)) (allR wv) SH 0 0 47 [none, none, some (.inl (.double v2)), none, some (.inl (.long v4)), none, some (.inl (.int v6)), none] [] M := by
  intro n
  induction n with
  | zero => intro v2 v4 v6 h; cases h
  | succ n ih =>
    intro v2 v4 v6 h hK
    rw [fX9_bitsOfPositive_L47] at h
    refine z_iload (i := 6) dX9_bitsOfPositive_47 rfl ?_
    refine z_sipush (v := (1023 : Int32)) dX9_bitsOfPositive_49 ks_1023 ?_
    refine z_icmp_ge (tgt := 79) dX9_bitsOfPositive_52 rfl (fun hc7 => ?_) (fun hc7 => ?_)
    · have h := it_t h hc7
      exact hK _ _ _ h
    · have h := it_f h hc7
      refine z_dload_n (i := 2) dX9_bitsOfPositive_55 rfl rfl ?_
      refine z_dconst1 dX9_bitsOfPositive_56 ?_
      refine z_dcmp dX9_bitsOfPositive_57 ?_
      refine z_if_ge (tgt := 79) dX9_bitsOfPositive_58 rfl (fun hc8 => ?_) (fun hc8 => ?_)
      · have h := it_t h hc8
        exact hK _ _ _ h
      · have h := it_f h hc8
        refine z_dload_n (i := 2) dX9_bitsOfPositive_61 rfl rfl ?_
        refine z_ldc2d (v := (4611686018427387904 : UInt64)) dX9_bitsOfPositive_62 (al_mem 843 (by decide +kernel) rfl) ?_
        obtain ⟨hc9, h⟩ := chk2 h
        refine z_dmul dX9_bitsOfPositive_65 hc9 ?_
        refine z_dstore_n (i := 2) dX9_bitsOfPositive_66 rfl (Nat.le_of_ble_eq_true rfl) rfl ?_
        refine z_lload (i := 4) dX9_bitsOfPositive_67 rfl ?_
        refine z_lconst (v := (1 : Int64)) dX9_bitsOfPositive_69 (by decide) ?_
        refine z_lsub dX9_bitsOfPositive_70 ?_
        refine z_lstore (i := 4) dX9_bitsOfPositive_71 (Nat.le_of_ble_eq_true rfl) rfl ?_
        refine z_iinc (i := 6) (v := (v6 + (1 : Int32))) dX9_bitsOfPositive_73 rfl (iinc_k kc_1) (Nat.le_of_ble_eq_true rfl) rfl ?_
        refine z_goto (tgt := 47) dX9_bitsOfPositive_76 rfl ?_
        exact ih _ _ _ h hK
set_option maxRecDepth 20000 in
set_option maxHeartbeats 2000000 in
theorem sX9_bitsOfPositive {wv : Nat} (M : Mm) (x1 : UInt64) {res : Int64} (h : fX9_bitsOfPositive M x1 = some res) : TF wv yX9_bitsOfPositive cX9_bitsOfPositive 8 (some .long) 0 [.inl (.double x1)] M (some (.long res)) M := by
  rw [fX9_bitsOfPositive] at h
  refine TF.go (n := 6) (ls := [some (.inl (.double x1)), none, none, none, none, none, none, none]) rfl rfl rfl rfl rfl ?_
  refine z_dload_n (i := 0) dX9_bitsOfPositive_0 rfl rfl ?_
  refine z_dstore_n (i := 2) dX9_bitsOfPositive_1 rfl (Nat.le_of_ble_eq_true rfl) rfl ?_
  refine z_ldc2 (v := (1023 : Int64)) dX9_bitsOfPositive_2 (al_mem 842 (by decide +kernel) rfl) ?_
  refine z_lstore (i := 4) dX9_bitsOfPositive_5 (Nat.le_of_ble_eq_true rfl) rfl ?_
  refine z_iconst (v := (0 : Int32)) dX9_bitsOfPositive_7 kc_0 ?_
  refine z_istore (i := 6) dX9_bitsOfPositive_8 (Nat.le_of_ble_eq_true rfl) rfl ?_
  refine z_fgt (i := 0) ?_
  refine sX9_bitsOfPositive_L10 M NF _ _ _ h (fun w4 w5 w6 h => ?_)
  refine z_iconst (v := (0 : Int32)) dX9_bitsOfPositive_44 kc_0 ?_
  refine z_istore (i := 6) dX9_bitsOfPositive_45 (Nat.le_of_ble_eq_true rfl) rfl ?_
  refine sX9_bitsOfPositive_L47 M NF _ _ _ h (fun w10 w11 w12 h => ?_)
  refine z_dload_n (i := 2) dX9_bitsOfPositive_79 rfl rfl ?_
  refine z_dconst1 dX9_bitsOfPositive_80 ?_
  obtain ⟨hc13, h⟩ := chk2 h
  refine z_dsub dX9_bitsOfPositive_81 hc13 ?_
  refine z_ldc2d (v := (4841369599423283200 : UInt64)) dX9_bitsOfPositive_82 (al_mem 844 (by decide +kernel) rfl) ?_
  obtain ⟨hc14, h⟩ := chk2 h
  refine z_dmul dX9_bitsOfPositive_85 hc14 ?_
  refine z_d2l dX9_bitsOfPositive_86 ?_
  refine z_lstore (i := 6) dX9_bitsOfPositive_87 (Nat.le_of_ble_eq_true rfl) rfl ?_
  refine z_lload (i := 4) dX9_bitsOfPositive_89 rfl ?_
  refine z_bipush (v := (52 : Int32)) dX9_bitsOfPositive_91 kb_52 ?_
  refine z_lshl dX9_bitsOfPositive_93 ?_
  refine z_lload (i := 6) dX9_bitsOfPositive_94 rfl ?_
  refine z_ladd dX9_bitsOfPositive_96 ?_
  cases h
  exact z_lret dX9_bitsOfPositive_97 rfl (Nat.le_refl _) (Nat.le_refl _) ⟨rfl, rfl⟩
theorem dX9_secondsPerStepBits_0 : decode cX9_secondsPerStepBits 0 = .ok (.aload_n 0, 1) := by decide +kernel
theorem dX9_secondsPerStepBits_1 : decode cX9_secondsPerStepBits 1 = .ok (.invokevirtual 255, 3) := by decide +kernel
theorem dX9_secondsPerStepBits_4 : decode cX9_secondsPerStepBits 4 = .ok (.invokestatic 259, 3) := by decide +kernel
theorem dX9_secondsPerStepBits_7 : decode cX9_secondsPerStepBits 7 = .ok (.lreturn, 1) := by decide +kernel
def fX9_secondsPerStepBits (M : Mm) : Option Int64 := (fX9_secondsPerStep M).bind fun q1 => (fX9_bitsOfPositive M q1).bind fun q3 => some q3
set_option maxRecDepth 20000 in
set_option maxHeartbeats 2000000 in
theorem sX9_secondsPerStepBits {wv : Nat} (M : Mm) {res : Int64} (h : fX9_secondsPerStepBits M  = some res) : TF wv yX9_secondsPerStepBits cX9_secondsPerStepBits 1 (some .long) 2 [.inr (0, 0, 0)] M (some (.long res)) M := by
  rw [fX9_secondsPerStepBits] at h
  refine TF.go (n := 0) (ls := [some (.inr (0, 0, 0))]) rfl rfl rfl rfl rfl ?_
  refine z_aload_n (i := 0) dX9_secondsPerStepBits_0 rfl rfl ?_
  obtain ⟨q1, hq2, h⟩ := bnd h
  refine z_fVd (sX9_secondsPerStep M hq2) dX9_secondsPerStepBits_1 ml_X9_255 cd_X9_secondsPerStep mk0 rfl rfl rfl rfl rfl rfl ?_
  obtain ⟨q3, hq4, h⟩ := bnd h
  refine z_fSl (sX9_bitsOfPositive M q1 hq4) dX9_secondsPerStepBits_4 ml_X9_259 cd_X9_bitsOfPositive rfl rfl rfl rfl rfl ?_
  cases h
  exact z_lret dX9_secondsPerStepBits_7 rfl (Nat.le_refl _) (Nat.le_refl _) ⟨rfl, rfl⟩
theorem dX9_noteCount_0 : decode cX9_noteCount 0 = .ok (.aload_n 0, 1) := by decide +kernel
theorem dX9_noteCount_1 : decode cX9_noteCount 1 = .ok (.getfield 40, 3) := by decide +kernel
theorem dX9_noteCount_4 : decode cX9_noteCount 4 = .ok (.getfield 269, 3) := by decide +kernel
theorem dX9_noteCount_7 : decode cX9_noteCount 7 = .ok (.ireturn, 1) := by decide +kernel
def fX9_noteCount (M : Mm) : Int32 := (M.1 (9, 0, 0) 5)
set_option maxRecDepth 20000 in
set_option maxHeartbeats 2000000 in
theorem tX9_noteCount {wv : Nat} (M : Mm) {res : Int32} (h : fX9_noteCount M  = res) : TF wv yX9_noteCount cX9_noteCount 1 (some .int) 0 [.inr (0, 0, 0)] M (some (.int res)) M := by
  rw [fX9_noteCount] at h
  refine TF.go (n := 0) (ls := [some (.inr (0, 0, 0))]) rfl rfl rfl rfl rfl ?_
  refine z_aload_n (i := 0) dX9_noteCount_0 rfl rfl ?_
  refine z_getR (r' := (9, 0, 0)) dX9_noteCount_1 fl_X9_40 mk0 rfl rfl ?_
  refine z_getI (x := (M.1 (9, 0, 0) 5)) dX9_noteCount_4 fl_X9_269 (m9 _ (Nat.le_of_ble_eq_true rfl)) rfl rfl ?_
  subst h
  exact z_iret dX9_noteCount_7 rfl rfl (Nat.le_refl _) (Nat.le_refl _) ⟨rfl, rfl⟩
theorem sX9_noteCount {wv : Nat} (M : Mm) : TF wv yX9_noteCount cX9_noteCount 1 (some .int) 0 [.inr (0, 0, 0)] M (some (.int (fX9_noteCount M ))) M := tX9_noteCount M   rfl
theorem dX9_squeakCount_0 : decode cX9_squeakCount 0 = .ok (.aload_n 0, 1) := by decide +kernel
theorem dX9_squeakCount_1 : decode cX9_squeakCount 1 = .ok (.getfield 40, 3) := by decide +kernel
theorem dX9_squeakCount_4 : decode cX9_squeakCount 4 = .ok (.getfield 272, 3) := by decide +kernel
theorem dX9_squeakCount_7 : decode cX9_squeakCount 7 = .ok (.ireturn, 1) := by decide +kernel
def fX9_squeakCount (M : Mm) : Int32 := (M.1 (9, 0, 0) 6)
set_option maxRecDepth 20000 in
set_option maxHeartbeats 2000000 in
theorem tX9_squeakCount {wv : Nat} (M : Mm) {res : Int32} (h : fX9_squeakCount M  = res) : TF wv yX9_squeakCount cX9_squeakCount 1 (some .int) 0 [.inr (0, 0, 0)] M (some (.int res)) M := by
  rw [fX9_squeakCount] at h
  refine TF.go (n := 0) (ls := [some (.inr (0, 0, 0))]) rfl rfl rfl rfl rfl ?_
  refine z_aload_n (i := 0) dX9_squeakCount_0 rfl rfl ?_
  refine z_getR (r' := (9, 0, 0)) dX9_squeakCount_1 fl_X9_40 mk0 rfl rfl ?_
  refine z_getI (x := (M.1 (9, 0, 0) 6)) dX9_squeakCount_4 fl_X9_272 (m9 _ (Nat.le_of_ble_eq_true rfl)) rfl rfl ?_
  subst h
  exact z_iret dX9_squeakCount_7 rfl rfl (Nat.le_refl _) (Nat.le_refl _) ⟨rfl, rfl⟩
theorem sX9_squeakCount {wv : Nat} (M : Mm) : TF wv yX9_squeakCount cX9_squeakCount 1 (some .int) 0 [.inr (0, 0, 0)] M (some (.int (fX9_squeakCount M ))) M := tX9_squeakCount M   rfl
theorem dX9_stepsPlayed_0 : decode cX9_stepsPlayed 0 = .ok (.aload_n 0, 1) := by decide +kernel
theorem dX9_stepsPlayed_1 : decode cX9_stepsPlayed 1 = .ok (.getfield 40, 3) := by decide +kernel
theorem dX9_stepsPlayed_4 : decode cX9_stepsPlayed 4 = .ok (.getfield 275, 3) := by decide +kernel
theorem dX9_stepsPlayed_7 : decode cX9_stepsPlayed 7 = .ok (.ireturn, 1) := by decide +kernel
def fX9_stepsPlayed (M : Mm) : Int32 := (M.1 (9, 0, 0) 7)
set_option maxRecDepth 20000 in
set_option maxHeartbeats 2000000 in
theorem tX9_stepsPlayed {wv : Nat} (M : Mm) {res : Int32} (h : fX9_stepsPlayed M  = res) : TF wv yX9_stepsPlayed cX9_stepsPlayed 1 (some .int) 0 [.inr (0, 0, 0)] M (some (.int res)) M := by
  rw [fX9_stepsPlayed] at h
  refine TF.go (n := 0) (ls := [some (.inr (0, 0, 0))]) rfl rfl rfl rfl rfl ?_
  refine z_aload_n (i := 0) dX9_stepsPlayed_0 rfl rfl ?_
  refine z_getR (r' := (9, 0, 0)) dX9_stepsPlayed_1 fl_X9_40 mk0 rfl rfl ?_
  refine z_getI (x := (M.1 (9, 0, 0) 7)) dX9_stepsPlayed_4 fl_X9_275 (m9 _ (Nat.le_of_ble_eq_true rfl)) rfl rfl ?_
  subst h
  exact z_iret dX9_stepsPlayed_7 rfl rfl (Nat.le_refl _) (Nat.le_refl _) ⟨rfl, rfl⟩
theorem sX9_stepsPlayed {wv : Nat} (M : Mm) : TF wv yX9_stepsPlayed cX9_stepsPlayed 1 (some .int) 0 [.inr (0, 0, 0)] M (some (.int (fX9_stepsPlayed M ))) M := tX9_stepsPlayed M   rfl
theorem dX9_brokenTeeth_0 : decode cX9_brokenTeeth 0 = .ok (.aload_n 0, 1) := by decide +kernel
theorem dX9_brokenTeeth_1 : decode cX9_brokenTeeth 1 = .ok (.getfield 40, 3) := by decide +kernel
theorem dX9_brokenTeeth_4 : decode cX9_brokenTeeth 4 = .ok (.invokevirtual 278, 3) := by decide +kernel
theorem dX9_brokenTeeth_7 : decode cX9_brokenTeeth 7 = .ok (.ireturn, 1) := by decide +kernel
def fX9_brokenTeeth (M : Mm) : Option Int32 := (fX0_brokenCount M 0).bind fun q1 => some q1
set_option maxRecDepth 20000 in
set_option maxHeartbeats 2000000 in
theorem sX9_brokenTeeth {wv : Nat} (M : Mm) {res : Int32} (h : fX9_brokenTeeth M  = some res) : TF wv yX9_brokenTeeth cX9_brokenTeeth 1 (some .int) 2 [.inr (0, 0, 0)] M (some (.int res)) M := by
  rw [fX9_brokenTeeth] at h
  refine TF.go (n := 0) (ls := [some (.inr (0, 0, 0))]) rfl rfl rfl rfl rfl ?_
  refine z_aload_n (i := 0) dX9_brokenTeeth_0 rfl rfl ?_
  refine z_getR (r' := (9, 0, 0)) dX9_brokenTeeth_1 fl_X9_40 mk0 rfl rfl ?_
  obtain ⟨q1, hq2, h⟩ := bnd h
  refine z_fVi (sX0_brokenCount M 0 (Nat.le_of_ble_eq_true rfl) hq2) dX9_brokenTeeth_4 ml_X9_278 cd_X0_brokenCount (m9 _ (Nat.le_of_ble_eq_true rfl)) rfl rfl rfl rfl rfl rfl ?_
  cases h
  exact z_iret dX9_brokenTeeth_7 rfl rfl (Nat.le_refl _) (Nat.le_refl _) ⟨rfl, rfl⟩
theorem dX9_contradictions_0 : decode cX9_contradictions 0 = .ok (.aload_n 0, 1) := by decide +kernel
theorem dX9_contradictions_1 : decode cX9_contradictions 1 = .ok (.getfield 40, 3) := by decide +kernel
theorem dX9_contradictions_4 : decode cX9_contradictions 4 = .ok (.invokevirtual 284, 3) := by decide +kernel
theorem dX9_contradictions_7 : decode cX9_contradictions 7 = .ok (.aload_n 0, 1) := by decide +kernel
theorem dX9_contradictions_8 : decode cX9_contradictions 8 = .ok (.getfield 40, 3) := by decide +kernel
theorem dX9_contradictions_11 : decode cX9_contradictions 11 = .ok (.invokevirtual 287, 3) := by decide +kernel
theorem dX9_contradictions_14 : decode cX9_contradictions 14 = .ok (.iadd, 1) := by decide +kernel
theorem dX9_contradictions_15 : decode cX9_contradictions 15 = .ok (.ireturn, 1) := by decide +kernel
def fX9_contradictions (M : Mm) : Option Int32 := (fX0_unexplainedWear M 0).bind fun q1 => (fX0_brokenTooEarly M 0).bind fun q3 => some (q1 + q3)
set_option maxRecDepth 20000 in
set_option maxHeartbeats 2000000 in
theorem sX9_contradictions {wv : Nat} (M : Mm) {res : Int32} (h : fX9_contradictions M  = some res) : TF wv yX9_contradictions cX9_contradictions 1 (some .int) 2 [.inr (0, 0, 0)] M (some (.int res)) M := by
  rw [fX9_contradictions] at h
  refine TF.go (n := 0) (ls := [some (.inr (0, 0, 0))]) rfl rfl rfl rfl rfl ?_
  refine z_aload_n (i := 0) dX9_contradictions_0 rfl rfl ?_
  refine z_getR (r' := (9, 0, 0)) dX9_contradictions_1 fl_X9_40 mk0 rfl rfl ?_
  obtain ⟨q1, hq2, h⟩ := bnd h
  refine z_fVi (sX0_unexplainedWear M 0 (Nat.le_of_ble_eq_true rfl) hq2) dX9_contradictions_4 ml_X9_284 cd_X0_unexplainedWear (m9 _ (Nat.le_of_ble_eq_true rfl)) rfl rfl rfl rfl rfl rfl ?_
  refine z_aload_n (i := 0) dX9_contradictions_7 rfl rfl ?_
  refine z_getR (r' := (9, 0, 0)) dX9_contradictions_8 fl_X9_40 mk0 rfl rfl ?_
  obtain ⟨q3, hq4, h⟩ := bnd h
  refine z_fVi (sX0_brokenTooEarly M 0 (Nat.le_of_ble_eq_true rfl) hq4) dX9_contradictions_11 ml_X9_287 cd_X0_brokenTooEarly (m9 _ (Nat.le_of_ble_eq_true rfl)) rfl rfl rfl rfl rfl rfl ?_
  refine z_iadd dX9_contradictions_14 ?_
  cases h
  exact z_iret dX9_contradictions_15 rfl rfl (Nat.le_refl _) (Nat.le_refl _) ⟨rfl, rfl⟩
theorem dX9_stepsLeft_0 : decode cX9_stepsLeft 0 = .ok (.aload_n 0, 1) := by decide +kernel
theorem dX9_stepsLeft_1 : decode cX9_stepsLeft 1 = .ok (.getfield 40, 3) := by decide +kernel
theorem dX9_stepsLeft_4 : decode cX9_stepsLeft 4 = .ok (.invokevirtual 290, 3) := by decide +kernel
theorem dX9_stepsLeft_7 : decode cX9_stepsLeft 7 = .ok (.ireturn, 1) := by decide +kernel
def fX9_stepsLeft (M : Mm) : Int32 := (fX0_playableSteps M 0)
set_option maxRecDepth 20000 in
set_option maxHeartbeats 2000000 in
theorem tX9_stepsLeft {wv : Nat} (M : Mm) {res : Int32} (h : fX9_stepsLeft M  = res) : TF wv yX9_stepsLeft cX9_stepsLeft 1 (some .int) 1 [.inr (0, 0, 0)] M (some (.int res)) M := by
  rw [fX9_stepsLeft] at h
  refine TF.go (n := 0) (ls := [some (.inr (0, 0, 0))]) rfl rfl rfl rfl rfl ?_
  refine z_aload_n (i := 0) dX9_stepsLeft_0 rfl rfl ?_
  refine z_getR (r' := (9, 0, 0)) dX9_stepsLeft_1 fl_X9_40 mk0 rfl rfl ?_
  refine z_fVi (sX0_playableSteps M 0 (Nat.le_of_ble_eq_true rfl)) dX9_stepsLeft_4 ml_X9_290 cd_X0_playableSteps (m9 _ (Nat.le_of_ble_eq_true rfl)) rfl rfl rfl rfl rfl rfl ?_
  subst h
  exact z_iret dX9_stepsLeft_7 rfl rfl (Nat.le_refl _) (Nat.le_refl _) ⟨rfl, rfl⟩
theorem sX9_stepsLeft {wv : Nat} (M : Mm) : TF wv yX9_stepsLeft cX9_stepsLeft 1 (some .int) 1 [.inr (0, 0, 0)] M (some (.int (fX9_stepsLeft M ))) M := tX9_stepsLeft M   rfl
