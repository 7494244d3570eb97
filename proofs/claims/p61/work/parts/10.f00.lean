theorem kb_m11 : (Int8.ofInt (-11)).toInt32 = (-11 : Int32) := by decide
theorem kb_m3 : (Int8.ofInt (-3)).toInt32 = (-3 : Int32) := by decide
theorem kb_10 : (Int8.ofInt (10)).toInt32 = (10 : Int32) := by decide
theorem kb_100 : (Int8.ofInt (100)).toInt32 = (100 : Int32) := by decide
theorem kb_11 : (Int8.ofInt (11)).toInt32 = (11 : Int32) := by decide
theorem kb_12 : (Int8.ofInt (12)).toInt32 = (12 : Int32) := by decide
theorem kb_120 : (Int8.ofInt (120)).toInt32 = (120 : Int32) := by decide
theorem kb_122 : (Int8.ofInt (122)).toInt32 = (122 : Int32) := by decide
theorem kb_127 : (Int8.ofInt (127)).toInt32 = (127 : Int32) := by decide
theorem kb_16 : (Int8.ofInt (16)).toInt32 = (16 : Int32) := by decide
theorem kb_20 : (Int8.ofInt (20)).toInt32 = (20 : Int32) := by decide
theorem kb_24 : (Int8.ofInt (24)).toInt32 = (24 : Int32) := by decide
theorem kb_32 : (Int8.ofInt (32)).toInt32 = (32 : Int32) := by decide
theorem kb_33 : (Int8.ofInt (33)).toInt32 = (33 : Int32) := by decide
theorem kb_35 : (Int8.ofInt (35)).toInt32 = (35 : Int32) := by decide
theorem kb_45 : (Int8.ofInt (45)).toInt32 = (45 : Int32) := by decide
theorem kb_48 : (Int8.ofInt (48)).toInt32 = (48 : Int32) := by decide
theorem kb_52 : (Int8.ofInt (52)).toInt32 = (52 : Int32) := by decide
theorem kb_57 : (Int8.ofInt (57)).toInt32 = (57 : Int32) := by decide
theorem kb_59 : (Int8.ofInt (59)).toInt32 = (59 : Int32) := by decide
theorem kb_60 : (Int8.ofInt (60)).toInt32 = (60 : Int32) := by decide
theorem kb_63 : (Int8.ofInt (63)).toInt32 = (63 : Int32) := by decide
theorem kb_64 : (Int8.ofInt (64)).toInt32 = (64 : Int32) := by decide
theorem kb_7 : (Int8.ofInt (7)).toInt32 = (7 : Int32) := by decide
theorem kb_8 : (Int8.ofInt (8)).toInt32 = (8 : Int32) := by decide
theorem kb_9 : (Int8.ofInt (9)).toInt32 = (9 : Int32) := by decide
theorem kb_90 : (Int8.ofInt (90)).toInt32 = (90 : Int32) := by decide
theorem kb_97 : (Int8.ofInt (97)).toInt32 = (97 : Int32) := by decide
theorem kb_99 : (Int8.ofInt (99)).toInt32 = (99 : Int32) := by decide
theorem kc_m1 : Int32.ofInt (-1) = (-1 : Int32) := by decide
theorem kc_m8 : Int32.ofInt (-8) = (-8 : Int32) := by decide
theorem kc_0 : Int32.ofInt (0) = (0 : Int32) := by decide
theorem kc_1 : Int32.ofInt (1) = (1 : Int32) := by decide
theorem kc_2 : Int32.ofInt (2) = (2 : Int32) := by decide
theorem kc_3 : Int32.ofInt (3) = (3 : Int32) := by decide
theorem kc_4 : Int32.ofInt (4) = (4 : Int32) := by decide
theorem kc_5 : Int32.ofInt (5) = (5 : Int32) := by decide
theorem ks_1023 : (Int16.ofInt (1023)).toInt32 = (1023 : Int32) := by decide
theorem ks_255 : (Int16.ofInt (255)).toInt32 = (255 : Int32) := by decide
theorem ks_300 : (Int16.ofInt (300)).toInt32 = (300 : Int32) := by decide
theorem ks_768 : (Int16.ofInt (768)).toInt32 = (768 : Int32) := by decide
theorem ks_800 : (Int16.ofInt (800)).toInt32 = (800 : Int32) := by decide
theorem ks_999 : (Int16.ofInt (999)).toInt32 = (999 : Int32) := by decide
theorem sw_RX6_31 : (RX6, 31, "tooth", 2) ∈ stt := by decide +kernel
theorem sw_RX6_37 : (RX6, 37, "pin", 3) ∈ stt := by decide +kernel
theorem sw_RX6_48 : (RX6, 48, "box", 1) ∈ stt := by decide +kernel
theorem dJ7_fill_d0a16_0 : decode cJ7_fill_d0a16 0 = .ok (.iconst 0, 1) := by decide +kernel
theorem dJ7_fill_d0a16_1 : decode cJ7_fill_d0a16 1 = .ok (.istore_n 3, 1) := by decide +kernel
theorem dJ7_fill_d0a16_2 : decode cJ7_fill_d0a16 2 = .ok (.aload_n 0, 1) := by decide +kernel
theorem dJ7_fill_d0a16_3 : decode cJ7_fill_d0a16 3 = .ok (.arraylength, 1) := by decide +kernel
theorem dJ7_fill_d0a16_4 : decode cJ7_fill_d0a16 4 = .ok (.istore 4, 2) := by decide +kernel
theorem dJ7_fill_d0a16_6 : decode cJ7_fill_d0a16 6 = .ok (.iload_n 3, 1) := by decide +kernel
theorem dJ7_fill_d0a16_7 : decode cJ7_fill_d0a16 7 = .ok (.iload 4, 2) := by decide +kernel
theorem dJ7_fill_d0a16_9 : decode cJ7_fill_d0a16 9 = .ok (.if_icmp .ge 13, 3) := by decide +kernel
theorem dJ7_fill_d0a16_12 : decode cJ7_fill_d0a16 12 = .ok (.aload_n 0, 1) := by decide +kernel
theorem dJ7_fill_d0a16_13 : decode cJ7_fill_d0a16 13 = .ok (.iload_n 3, 1) := by decide +kernel
theorem dJ7_fill_d0a16_14 : decode cJ7_fill_d0a16 14 = .ok (.lload_n 1, 1) := by decide +kernel
theorem dJ7_fill_d0a16_15 : decode cJ7_fill_d0a16 15 = .ok (.lastore, 1) := by decide +kernel
theorem dJ7_fill_d0a16_16 : decode cJ7_fill_d0a16 16 = .ok (.iinc 3 1, 3) := by decide +kernel
theorem dJ7_fill_d0a16_19 : decode cJ7_fill_d0a16 19 = .ok (.goto (-13), 3) := by decide +kernel
theorem dJ7_fill_d0a16_22 : decode cJ7_fill_d0a16 22 = .ok (.return_, 1) := by decide +kernel
def fJ7_fill_d0a16_L6 (j1 : Nat) (c1 : Int64) (c4 : Int32) (K : Int32 → Mm → Option Mm) : Nat → Int32 → Mm → Option Mm
  | 0, _, _ => none
  | n + 1, v3, M => if c4 ≤ v3 then K v3 M else if v3 < 0 ∨ 36 ≤ v3.toNatClampNeg then none else fJ7_fill_d0a16_L6 j1 c1 c4 K n (v3 + (1 : Int32)) (putL M (11, j1, 0) v3.toNatClampNeg c1)
def fJ7_fill_d0a16 (M : Mm) (j1 : Nat) (x2 : Int64) : Option Mm := fJ7_fill_d0a16_L6 j1 x2 (36 : Int32) (fun w3 M4 => some M4) NF (0 : Int32) M
set_option maxRecDepth 20000 in
set_option maxHeartbeats 2000000 in
theorem sJ7_fill_d0a16_L6 {wv : Wv} (j1 : Nat) (c1 : Int64) (c4 : Int32) (hj1 : j1 < 12) {res : Mm} {K : Int32 → Mm → Option Mm} : ∀ (n : Nat) (v3 : Int32) (M : Mm), fJ7_fill_d0a16_L6 j1 c1 c4 K n v3 M = some res →
    (∀ (v3 : Int32) (M : Mm), K v3 M = some res → Z RJ7 cJ7_fill_d0a16 5 none [] "fill" (rmD 0 0 0) (QM SH (allR wv) 0 0 (fun v M9 => v = none ∧ M9 = res) (fun _ _ => False)) (allR wv) SH 0 0 22 [some (.inr (11, j1, 0)), some (.inl (.long c1)), none, some (.inl (.int v3)), some (.inl (.int c4))] [] M) → Z RJ7 cJ7_fill_d0a16 5 none [] "fill" (rmD 0 0 0) (QM SH (allR wv) 0 0 (fun v M9 => v = none ∧ M9 = res) (fun _ _ => False)) (allR wv) SH 0 0 6 [some (.inr (11, j1, 0)), some (.inl (.long c1)), none, some (.inl (.int v3)), some (.inl (.int c4))] [] M := by
  intro n
  induction n with
  | zero => intro v3 M h; cases h
  | succ n ih =>
    intro v3 M h hK
    rw [fJ7_fill_d0a16_L6] at h
    refine z_iload_n (i := 3) dJ7_fill_d0a16_6 rfl rfl ?_
    refine z_iload (i := 4) dJ7_fill_d0a16_7 rfl ?_
    refine z_icmp_ge (tgt := 22) dJ7_fill_d0a16_9 rfl (fun hc1 => ?_) (fun hc1 => ?_)
    · have h := it_t h hc1
      exact hK _ _ h
    · have h := it_f h hc1
      refine z_aload_n (i := 0) dJ7_fill_d0a16_12 rfl rfl ?_
      refine z_iload_n (i := 3) dJ7_fill_d0a16_13 rfl rfl ?_
      refine z_lload_n (i := 1) dJ7_fill_d0a16_14 rfl rfl ?_
      obtain ⟨hc2, h⟩ := chk h
      refine z_last (j := v3.toNatClampNeg) allR_nd dJ7_fill_d0a16_15 (m11 _ hj1) rfl hc2 rfl ?_
      refine z_iinc (i := 3) (v := (v3 + (1 : Int32))) dJ7_fill_d0a16_16 rfl (iinc_k kc_1) (Nat.le_of_ble_eq_true rfl) rfl ?_
      refine z_goto (tgt := 6) dJ7_fill_d0a16_19 rfl ?_
      exact ih _ _ h hK
set_option maxRecDepth 20000 in
set_option maxHeartbeats 2000000 in
theorem sJ7_fill_d0a16 {wv : Wv} (M : Mm) (j1 : Nat) (x2 : Int64) (hj1 : j1 < 12) {res : Mm} (h : fJ7_fill_d0a16 M j1 x2 = some res) : TF wv yJ7_fill_d0a16 cJ7_fill_d0a16 5 none 0 [.inr (11, j1, 0), .inl (.long x2)] M (none) res := by
  rw [fJ7_fill_d0a16] at h
  refine TF.go (n := 2) (ls := [some (.inr (11, j1, 0)), some (.inl (.long x2)), none, none, none]) rfl rfl rfl rfl rfl ?_
  refine z_iconst (v := (0 : Int32)) dJ7_fill_d0a16_0 kc_0 ?_
  refine z_istore_n (i := 3) dJ7_fill_d0a16_1 rfl (Nat.le_of_ble_eq_true rfl) rfl ?_
  refine z_aload_n (i := 0) dJ7_fill_d0a16_2 rfl rfl ?_
  refine z_alen (v := (36 : Int32)) dJ7_fill_d0a16_3 (m11 _ hj1) rfl (Nat.le_of_ble_eq_true rfl) (by decide) ?_
  refine z_istore (i := 4) dJ7_fill_d0a16_4 (Nat.le_of_ble_eq_true rfl) rfl ?_
  refine sJ7_fill_d0a16_L6 j1 x2 (36 : Int32) hj1 NF _ _ h (fun w3 M4 h => ?_)
  cases h
  exact z_vret dJ7_fill_d0a16_22 rfl (Nat.le_refl _) (Nat.le_refl _) ⟨rfl, rfl⟩
theorem dX3_begin_0 : decode cX3_begin 0 = .ok (.aload_n 0, 1) := by decide +kernel
theorem dX3_begin_1 : decode cX3_begin 1 = .ok (.iload_n 1, 1) := by decide +kernel
theorem dX3_begin_2 : decode cX3_begin 2 = .ok (.putfield 15, 3) := by decide +kernel
theorem dX3_begin_5 : decode cX3_begin 5 = .ok (.aload_n 0, 1) := by decide +kernel
theorem dX3_begin_6 : decode cX3_begin 6 = .ok (.iconst 0, 1) := by decide +kernel
theorem dX3_begin_7 : decode cX3_begin 7 = .ok (.putfield 19, 3) := by decide +kernel
theorem dX3_begin_10 : decode cX3_begin 10 = .ok (.aload_n 0, 1) := by decide +kernel
theorem dX3_begin_11 : decode cX3_begin 11 = .ok (.iconst 0, 1) := by decide +kernel
theorem dX3_begin_12 : decode cX3_begin 12 = .ok (.putfield 22, 3) := by decide +kernel
theorem dX3_begin_15 : decode cX3_begin 15 = .ok (.aload_n 0, 1) := by decide +kernel
theorem dX3_begin_16 : decode cX3_begin 16 = .ok (.getfield 9, 3) := by decide +kernel
theorem dX3_begin_19 : decode cX3_begin 19 = .ok (.lconst 0, 1) := by decide +kernel
theorem dX3_begin_20 : decode cX3_begin 20 = .ok (.invokestatic 25, 3) := by decide +kernel
theorem dX3_begin_23 : decode cX3_begin 23 = .ok (.return_, 1) := by decide +kernel
def fX3_begin (M : Mm) (i : Nat) (x1 : Int32) : Option Mm := (fJ7_fill_d0a16 (putI (putI (putI M (10, i, 0) 1 x1) (10, i, 0) 2 (0 : Int32)) (10, i, 0) 3 (0 : Int32)) i (0 : Int64)).bind fun q1 => some q1
set_option maxRecDepth 20000 in
set_option maxHeartbeats 2000000 in
theorem sX3_begin {wv : Wv} (M : Mm) (i : Nat) (x1 : Int32) (hi : i < 12) {res : Mm} (h : fX3_begin M i x1 = some res) : TF wv yX3_begin cX3_begin 2 none 1 [.inr (10, i, 0), .inl (.int x1)] M (none) res := by
  rw [fX3_begin] at h
  refine TF.go (n := 0) (ls := [some (.inr (10, i, 0)), some (.inl (.int x1))]) rfl rfl rfl rfl rfl ?_
  refine z_aload_n (i := 0) dX3_begin_0 rfl rfl ?_
  refine z_iload_n (i := 1) dX3_begin_1 rfl rfl ?_
  refine z_putI allR_nd dX3_begin_2 fl_X3_15 (m10 _ hi) rfl rfl ?_
  refine z_aload_n (i := 0) dX3_begin_5 rfl rfl ?_
  refine z_iconst (v := (0 : Int32)) dX3_begin_6 kc_0 ?_
  refine z_putI allR_nd dX3_begin_7 fl_X3_19 (m10 _ hi) rfl rfl ?_
  refine z_aload_n (i := 0) dX3_begin_10 rfl rfl ?_
  refine z_iconst (v := (0 : Int32)) dX3_begin_11 kc_0 ?_
  refine z_putI allR_nd dX3_begin_12 fl_X3_22 (m10 _ hi) rfl rfl ?_
  refine z_aload_n (i := 0) dX3_begin_15 rfl rfl ?_
  refine z_getR (r' := (11, i, 0)) dX3_begin_16 fl_X3_9 (m10 _ hi) rfl rfl ?_
  refine z_lconst (v := (0 : Int64)) dX3_begin_19 (by decide) ?_
  obtain ⟨q1, hq2, h⟩ := bnd h
  refine z_fSv (sJ7_fill_d0a16 (putI (putI (putI M (10, i, 0) 1 x1) (10, i, 0) 2 (0 : Int32)) (10, i, 0) 3 (0 : Int32)) i (0 : Int64) hi hq2) dX3_begin_20 ml_X3_25 cd_J7_fill_d0a16 rfl rfl rfl rfl rfl ?_
  cases h
  exact z_vret dX3_begin_23 rfl (Nat.le_refl _) (Nat.le_refl _) ⟨rfl, rfl⟩
theorem dX0_begin_0 : decode cX0_begin 0 = .ok (.aload_n 0, 1) := by decide +kernel
theorem dX0_begin_1 : decode cX0_begin 1 = .ok (.getfield 12, 3) := by decide +kernel
theorem dX0_begin_4 : decode cX0_begin 4 = .ok (.iload_n 1, 1) := by decide +kernel
theorem dX0_begin_5 : decode cX0_begin 5 = .ok (.invokevirtual 25, 3) := by decide +kernel
theorem dX0_begin_8 : decode cX0_begin 8 = .ok (.aload_n 0, 1) := by decide +kernel
theorem dX0_begin_9 : decode cX0_begin 9 = .ok (.iconst 0, 1) := by decide +kernel
theorem dX0_begin_10 : decode cX0_begin 10 = .ok (.putfield 29, 3) := by decide +kernel
theorem dX0_begin_13 : decode cX0_begin 13 = .ok (.aload_n 0, 1) := by decide +kernel
theorem dX0_begin_14 : decode cX0_begin 14 = .ok (.iload_n 2, 1) := by decide +kernel
theorem dX0_begin_15 : decode cX0_begin 15 = .ok (.putfield 33, 3) := by decide +kernel
theorem dX0_begin_18 : decode cX0_begin 18 = .ok (.aload_n 0, 1) := by decide +kernel
theorem dX0_begin_19 : decode cX0_begin 19 = .ok (.iload_n 3, 1) := by decide +kernel
theorem dX0_begin_20 : decode cX0_begin 20 = .ok (.putfield 36, 3) := by decide +kernel
theorem dX0_begin_23 : decode cX0_begin 23 = .ok (.aload_n 0, 1) := by decide +kernel
theorem dX0_begin_24 : decode cX0_begin 24 = .ok (.iconst 0, 1) := by decide +kernel
theorem dX0_begin_25 : decode cX0_begin 25 = .ok (.putfield 39, 3) := by decide +kernel
theorem dX0_begin_28 : decode cX0_begin 28 = .ok (.aload_n 0, 1) := by decide +kernel
theorem dX0_begin_29 : decode cX0_begin 29 = .ok (.iconst 0, 1) := by decide +kernel
theorem dX0_begin_30 : decode cX0_begin 30 = .ok (.putfield 42, 3) := by decide +kernel
theorem dX0_begin_33 : decode cX0_begin 33 = .ok (.aload_n 0, 1) := by decide +kernel
theorem dX0_begin_34 : decode cX0_begin 34 = .ok (.iconst 0, 1) := by decide +kernel
theorem dX0_begin_35 : decode cX0_begin 35 = .ok (.putfield 45, 3) := by decide +kernel
theorem dX0_begin_38 : decode cX0_begin 38 = .ok (.aload_n 0, 1) := by decide +kernel
theorem dX0_begin_39 : decode cX0_begin 39 = .ok (.iconst 0, 1) := by decide +kernel
theorem dX0_begin_40 : decode cX0_begin 40 = .ok (.putfield 48, 3) := by decide +kernel
theorem dX0_begin_43 : decode cX0_begin 43 = .ok (.aload_n 0, 1) := by decide +kernel
theorem dX0_begin_44 : decode cX0_begin 44 = .ok (.iconst 0, 1) := by decide +kernel
theorem dX0_begin_45 : decode cX0_begin 45 = .ok (.putfield 51, 3) := by decide +kernel
theorem dX0_begin_48 : decode cX0_begin 48 = .ok (.return_, 1) := by decide +kernel
def fX0_begin (M : Mm) (i : Nat) (x1 : Int32) (x2 : Int32) (x3 : Int32) : Option Mm := (fX3_begin M i x1).bind fun q1 => some (putI (putI (putI (putI (putI (putI (putI (putI q1 (9, i, 0) 2 (0 : Int32)) (9, i, 0) 3 x2) (9, i, 0) 4 x3) (9, i, 0) 5 (0 : Int32)) (9, i, 0) 6 (0 : Int32)) (9, i, 0) 7 (0 : Int32)) (9, i, 0) 8 (0 : Int32)) (9, i, 0) 9 (0 : Int32))
set_option maxRecDepth 20000 in
set_option maxHeartbeats 2000000 in
theorem sX0_begin {wv : Wv} (M : Mm) (i : Nat) (x1 : Int32) (x2 : Int32) (x3 : Int32) (hi : i < 12) {res : Mm} (h : fX0_begin M i x1 x2 x3 = some res) : TF wv yX0_begin cX0_begin 4 none 2 [.inr (9, i, 0), .inl (.int x1), .inl (.int x2), .inl (.int x3)] M (none) res := by
  rw [fX0_begin] at h
  refine TF.go (n := 0) (ls := [some (.inr (9, i, 0)), some (.inl (.int x1)), some (.inl (.int x2)), some (.inl (.int x3))]) rfl rfl rfl rfl rfl ?_
  refine z_aload_n (i := 0) dX0_begin_0 rfl rfl ?_
  refine z_getR (r' := (10, i, 0)) dX0_begin_1 fl_X0_12 (m9 _ hi) rfl rfl ?_
  refine z_iload_n (i := 1) dX0_begin_4 rfl rfl ?_
  obtain ⟨q1, hq2, h⟩ := bnd h
  refine z_fVv (sX3_begin M i x1 hi hq2) dX0_begin_5 ml_X0_25 cd_X3_begin (m10 _ hi) rfl rfl rfl rfl rfl rfl ?_
  refine z_aload_n (i := 0) dX0_begin_8 rfl rfl ?_
  refine z_iconst (v := (0 : Int32)) dX0_begin_9 kc_0 ?_
  refine z_putI allR_nd dX0_begin_10 fl_X0_29 (m9 _ hi) rfl rfl ?_
  refine z_aload_n (i := 0) dX0_begin_13 rfl rfl ?_
  refine z_iload_n (i := 2) dX0_begin_14 rfl rfl ?_
  refine z_putI allR_nd dX0_begin_15 fl_X0_33 (m9 _ hi) rfl rfl ?_
  refine z_aload_n (i := 0) dX0_begin_18 rfl rfl ?_
  refine z_iload_n (i := 3) dX0_begin_19 rfl rfl ?_
  refine z_putI allR_nd dX0_begin_20 fl_X0_36 (m9 _ hi) rfl rfl ?_
  refine z_aload_n (i := 0) dX0_begin_23 rfl rfl ?_
  refine z_iconst (v := (0 : Int32)) dX0_begin_24 kc_0 ?_
  refine z_putI allR_nd dX0_begin_25 fl_X0_39 (m9 _ hi) rfl rfl ?_
  refine z_aload_n (i := 0) dX0_begin_28 rfl rfl ?_
  refine z_iconst (v := (0 : Int32)) dX0_begin_29 kc_0 ?_
  refine z_putI allR_nd dX0_begin_30 fl_X0_42 (m9 _ hi) rfl rfl ?_
  refine z_aload_n (i := 0) dX0_begin_33 rfl rfl ?_
  refine z_iconst (v := (0 : Int32)) dX0_begin_34 kc_0 ?_
  refine z_putI allR_nd dX0_begin_35 fl_X0_45 (m9 _ hi) rfl rfl ?_
  refine z_aload_n (i := 0) dX0_begin_38 rfl rfl ?_
  refine z_iconst (v := (0 : Int32)) dX0_begin_39 kc_0 ?_
  refine z_putI allR_nd dX0_begin_40 fl_X0_48 (m9 _ hi) rfl rfl ?_
  refine z_aload_n (i := 0) dX0_begin_43 rfl rfl ?_
  refine z_iconst (v := (0 : Int32)) dX0_begin_44 kc_0 ?_
  refine z_putI allR_nd dX0_begin_45 fl_X0_51 (m9 _ hi) rfl rfl ?_
  cases h
  exact z_vret dX0_begin_48 rfl (Nat.le_refl _) (Nat.le_refl _) ⟨rfl, rfl⟩
theorem dX8_renew_0 : decode cX8_renew 0 = .ok (.aload_n 0, 1) := by decide +kernel
theorem dX8_renew_1 : decode cX8_renew 1 = .ok (.iconst 0, 1) := by decide +kernel
theorem dX8_renew_2 : decode cX8_renew 2 = .ok (.putfield 24, 3) := by decide +kernel
theorem dX8_renew_5 : decode cX8_renew 5 = .ok (.aload_n 0, 1) := by decide +kernel
theorem dX8_renew_6 : decode cX8_renew 6 = .ok (.iconst 0, 1) := by decide +kernel
theorem dX8_renew_7 : decode cX8_renew 7 = .ok (.putfield 27, 3) := by decide +kernel
theorem dX8_renew_10 : decode cX8_renew 10 = .ok (.aload_n 0, 1) := by decide +kernel
theorem dX8_renew_11 : decode cX8_renew 11 = .ok (.bipush 99, 2) := by decide +kernel
theorem dX8_renew_13 : decode cX8_renew 13 = .ok (.putfield 30, 3) := by decide +kernel
theorem dX8_renew_16 : decode cX8_renew 16 = .ok (.return_, 1) := by decide +kernel
def fX8_renew (M : Mm) (i : Nat) (t : Nat) : Mm := (putI (putI (putI M (13, i, t) 1 (0 : Int32)) (13, i, t) 4 (0 : Int32)) (13, i, t) 5 (99 : Int32))
set_option maxRecDepth 20000 in
set_option maxHeartbeats 2000000 in
theorem tX8_renew {wv : Wv} (M : Mm) (i : Nat) (t : Nat) (hi : i < 12) (ht : t < 12) {res : Mm} (h : fX8_renew M i t = res) : TF wv yX8_renew cX8_renew 1 none 0 [.inr (13, i, t)] M (none) res := by
  rw [fX8_renew] at h
  refine TF.go (n := 0) (ls := [some (.inr (13, i, t))]) rfl rfl rfl rfl rfl ?_
  refine z_aload_n (i := 0) dX8_renew_0 rfl rfl ?_
  refine z_iconst (v := (0 : Int32)) dX8_renew_1 kc_0 ?_
  refine z_putI allR_nd dX8_renew_2 fl_X8_24 (m13 _ hi _ ht) rfl rfl ?_
  refine z_aload_n (i := 0) dX8_renew_5 rfl rfl ?_
  refine z_iconst (v := (0 : Int32)) dX8_renew_6 kc_0 ?_
  refine z_putI allR_nd dX8_renew_7 fl_X8_27 (m13 _ hi _ ht) rfl rfl ?_
  refine z_aload_n (i := 0) dX8_renew_10 rfl rfl ?_
  refine z_bipush (v := (99 : Int32)) dX8_renew_11 kb_99 ?_
  refine z_putI allR_nd dX8_renew_13 fl_X8_30 (m13 _ hi _ ht) rfl rfl ?_
  subst h
  exact z_vret dX8_renew_16 rfl (Nat.le_refl _) (Nat.le_refl _) ⟨rfl, rfl⟩
theorem sX8_renew {wv : Wv} (M : Mm) (i : Nat) (t : Nat) (hi : i < 12) (ht : t < 12) : TF wv yX8_renew cX8_renew 1 none 0 [.inr (13, i, t)] M (none) (fX8_renew M i t) := tX8_renew M i t hi ht rfl
theorem dX8_begin_0 : decode cX8_begin 0 = .ok (.aload_n 0, 1) := by decide +kernel
theorem dX8_begin_1 : decode cX8_begin 1 = .ok (.iload_n 1, 1) := by decide +kernel
theorem dX8_begin_2 : decode cX8_begin 2 = .ok (.putfield 9, 3) := by decide +kernel
theorem dX8_begin_5 : decode cX8_begin 5 = .ok (.aload_n 0, 1) := by decide +kernel
theorem dX8_begin_6 : decode cX8_begin 6 = .ok (.iload_n 2, 1) := by decide +kernel
theorem dX8_begin_7 : decode cX8_begin 7 = .ok (.putfield 15, 3) := by decide +kernel
theorem dX8_begin_10 : decode cX8_begin 10 = .ok (.aload_n 0, 1) := by decide +kernel
theorem dX8_begin_11 : decode cX8_begin 11 = .ok (.iload_n 3, 1) := by decide +kernel
theorem dX8_begin_12 : decode cX8_begin 12 = .ok (.putfield 18, 3) := by decide +kernel
theorem dX8_begin_15 : decode cX8_begin 15 = .ok (.aload_n 0, 1) := by decide +kernel
theorem dX8_begin_16 : decode cX8_begin 16 = .ok (.invokevirtual 21, 3) := by decide +kernel
theorem dX8_begin_19 : decode cX8_begin 19 = .ok (.return_, 1) := by decide +kernel
def fX8_begin (M : Mm) (i : Nat) (t : Nat) (x1 : Int32) (x2 : Int32) (x3 : Int32) : Mm := (fX8_renew (putI (putI (putI M (13, i, t) 0 x1) (13, i, t) 2 x2) (13, i, t) 3 x3) i t)
set_option maxRecDepth 20000 in
set_option maxHeartbeats 2000000 in
theorem tX8_begin {wv : Wv} (M : Mm) (i : Nat) (t : Nat) (x1 : Int32) (x2 : Int32) (x3 : Int32) (hi : i < 12) (ht : t < 12) {res : Mm} (h : fX8_begin M i t x1 x2 x3 = res) : TF wv yX8_begin cX8_begin 4 none 1 [.inr (13, i, t), .inl (.int x1), .inl (.int x2), .inl (.int x3)] M (none) res := by
  rw [fX8_begin] at h
  refine TF.go (n := 0) (ls := [some (.inr (13, i, t)), some (.inl (.int x1)), some (.inl (.int x2)), some (.inl (.int x3))]) rfl rfl rfl rfl rfl ?_
  refine z_aload_n (i := 0) dX8_begin_0 rfl rfl ?_
  refine z_iload_n (i := 1) dX8_begin_1 rfl rfl ?_
  refine z_putI allR_nd dX8_begin_2 fl_X8_9 (m13 _ hi _ ht) rfl rfl ?_
  refine z_aload_n (i := 0) dX8_begin_5 rfl rfl ?_
  refine z_iload_n (i := 2) dX8_begin_6 rfl rfl ?_
  refine z_putI allR_nd dX8_begin_7 fl_X8_15 (m13 _ hi _ ht) rfl rfl ?_
  refine z_aload_n (i := 0) dX8_begin_10 rfl rfl ?_
  refine z_iload_n (i := 3) dX8_begin_11 rfl rfl ?_
  refine z_putI allR_nd dX8_begin_12 fl_X8_18 (m13 _ hi _ ht) rfl rfl ?_
  refine z_aload_n (i := 0) dX8_begin_15 rfl rfl ?_
  refine z_fVv (sX8_renew (putI (putI (putI M (13, i, t) 0 x1) (13, i, t) 2 x2) (13, i, t) 3 x3) i t hi ht) dX8_begin_16 ml_X8_21 cd_X8_renew (m13 _ hi _ ht) rfl rfl rfl rfl rfl rfl ?_
  subst h
  exact z_vret dX8_begin_19 rfl (Nat.le_refl _) (Nat.le_refl _) ⟨rfl, rfl⟩
theorem sX8_begin {wv : Wv} (M : Mm) (i : Nat) (t : Nat) (x1 : Int32) (x2 : Int32) (x3 : Int32) (hi : i < 12) (ht : t < 12) : TF wv yX8_begin cX8_begin 4 none 1 [.inr (13, i, t), .inl (.int x1), .inl (.int x2), .inl (.int x3)] M (none) (fX8_begin M i t x1 x2 x3) := tX8_begin M i t x1 x2 x3 hi ht rfl
theorem dX0_putTooth_0 : decode cX0_putTooth 0 = .ok (.aload_n 0, 1) := by decide +kernel
theorem dX0_putTooth_1 : decode cX0_putTooth 1 = .ok (.getfield 29, 3) := by decide +kernel
theorem dX0_putTooth_4 : decode cX0_putTooth 4 = .ok (.ifCond .lt 37, 3) := by decide +kernel
theorem dX0_putTooth_7 : decode cX0_putTooth 7 = .ok (.aload_n 0, 1) := by decide +kernel
theorem dX0_putTooth_8 : decode cX0_putTooth 8 = .ok (.getfield 29, 3) := by decide +kernel
theorem dX0_putTooth_11 : decode cX0_putTooth 11 = .ok (.bipush 12, 2) := by decide +kernel
theorem dX0_putTooth_13 : decode cX0_putTooth 13 = .ok (.if_icmp .ge 28, 3) := by decide +kernel
theorem dX0_putTooth_16 : decode cX0_putTooth 16 = .ok (.aload_n 0, 1) := by decide +kernel
theorem dX0_putTooth_17 : decode cX0_putTooth 17 = .ok (.getfield 20, 3) := by decide +kernel
theorem dX0_putTooth_20 : decode cX0_putTooth 20 = .ok (.aload_n 0, 1) := by decide +kernel
theorem dX0_putTooth_21 : decode cX0_putTooth 21 = .ok (.getfield 29, 3) := by decide +kernel
theorem dX0_putTooth_24 : decode cX0_putTooth 24 = .ok (.aaload, 1) := by decide +kernel
theorem dX0_putTooth_25 : decode cX0_putTooth 25 = .ok (.iload_n 1, 1) := by decide +kernel
theorem dX0_putTooth_26 : decode cX0_putTooth 26 = .ok (.iload_n 2, 1) := by decide +kernel
theorem dX0_putTooth_27 : decode cX0_putTooth 27 = .ok (.iload_n 3, 1) := by decide +kernel
theorem dX0_putTooth_28 : decode cX0_putTooth 28 = .ok (.invokevirtual 54, 3) := by decide +kernel
theorem dX0_putTooth_31 : decode cX0_putTooth 31 = .ok (.aload_n 0, 1) := by decide +kernel
theorem dX0_putTooth_32 : decode cX0_putTooth 32 = .ok (.dup, 1) := by decide +kernel
theorem dX0_putTooth_33 : decode cX0_putTooth 33 = .ok (.getfield 29, 3) := by decide +kernel
theorem dX0_putTooth_36 : decode cX0_putTooth 36 = .ok (.iconst 1, 1) := by decide +kernel
theorem dX0_putTooth_37 : decode cX0_putTooth 37 = .ok (.iadd, 1) := by decide +kernel
theorem dX0_putTooth_38 : decode cX0_putTooth 38 = .ok (.putfield 29, 3) := by decide +kernel
theorem dX0_putTooth_41 : decode cX0_putTooth 41 = .ok (.return_, 1) := by decide +kernel
def fX0_putTooth (M : Mm) (i : Nat) (x1 : Int32) (x2 : Int32) (x3 : Int32) : Option Mm := if (M.1 (9, i, 0) 2) < 0 then some M else if (12 : Int32) ≤ (M.1 (9, i, 0) 2) then some M else if (M.1 (9, i, 0) 2) < 0 ∨ 12 ≤ (M.1 (9, i, 0) 2).toNatClampNeg then none else some (putI (fX8_begin M i (M.1 (9, i, 0) 2).toNatClampNeg x1 x2 x3) (9, i, 0) 2 (((fX8_begin M i (M.1 (9, i, 0) 2).toNatClampNeg x1 x2 x3).1 (9, i, 0) 2) + (1 : Int32)))
set_option maxRecDepth 20000 in
set_option maxHeartbeats 2000000 in
theorem sX0_putTooth {wv : Wv} (M : Mm) (i : Nat) (x1 : Int32) (x2 : Int32) (x3 : Int32) (hi : i < 12) {res : Mm} (h : fX0_putTooth M i x1 x2 x3 = some res) : TF wv yX0_putTooth cX0_putTooth 4 none 2 [.inr (9, i, 0), .inl (.int x1), .inl (.int x2), .inl (.int x3)] M (none) res := by
  rw [fX0_putTooth] at h
  refine TF.go (n := 0) (ls := [some (.inr (9, i, 0)), some (.inl (.int x1)), some (.inl (.int x2)), some (.inl (.int x3))]) rfl rfl rfl rfl rfl ?_
  refine z_aload_n (i := 0) dX0_putTooth_0 rfl rfl ?_
  refine z_getI (x := (M.1 (9, i, 0) 2)) dX0_putTooth_1 fl_X0_29 (m9 _ hi) rfl rfl ?_
  refine z_if_lt (tgt := 41) dX0_putTooth_4 rfl (fun hc1 => ?_) (fun hc1 => ?_)
  · have h := it_t h hc1
    cases h
    exact z_vret dX0_putTooth_41 rfl (Nat.le_refl _) (Nat.le_refl _) ⟨rfl, rfl⟩
  · have h := it_f h hc1
    refine z_aload_n (i := 0) dX0_putTooth_7 rfl rfl ?_
    refine z_getI (x := (M.1 (9, i, 0) 2)) dX0_putTooth_8 fl_X0_29 (m9 _ hi) rfl rfl ?_
    refine z_bipush (v := (12 : Int32)) dX0_putTooth_11 kb_12 ?_
    refine z_icmp_ge (tgt := 41) dX0_putTooth_13 rfl (fun hc2 => ?_) (fun hc2 => ?_)
    · have h := it_t h hc2
      cases h
      exact z_vret dX0_putTooth_41 rfl (Nat.le_refl _) (Nat.le_refl _) ⟨rfl, rfl⟩
    · have h := it_f h hc2
      refine z_aload_n (i := 0) dX0_putTooth_16 rfl rfl ?_
      refine z_getR (r' := (12, i, 0)) dX0_putTooth_17 fl_X0_20 (m9 _ hi) rfl rfl ?_
      refine z_aload_n (i := 0) dX0_putTooth_20 rfl rfl ?_
      refine z_getI (x := (M.1 (9, i, 0) 2)) dX0_putTooth_21 fl_X0_29 (m9 _ hi) rfl rfl ?_
      obtain ⟨hc3, h⟩ := chk h
      refine z_aald (t := 0) (r' := (13, i, (M.1 (9, i, 0) 2).toNatClampNeg)) dX0_putTooth_24 (m12 _ hi) rfl (Nat.le_of_ble_eq_true rfl) hc3 rfl ?_
      refine z_iload_n (i := 1) dX0_putTooth_25 rfl rfl ?_
      refine z_iload_n (i := 2) dX0_putTooth_26 rfl rfl ?_
      refine z_iload_n (i := 3) dX0_putTooth_27 rfl rfl ?_
      refine z_fVv (sX8_begin M i (M.1 (9, i, 0) 2).toNatClampNeg x1 x2 x3 hi (ltN hc3)) dX0_putTooth_28 ml_X0_54 cd_X8_begin (m13 _ hi _ (ltN hc3)) rfl rfl rfl rfl rfl rfl ?_
      refine z_aload_n (i := 0) dX0_putTooth_31 rfl rfl ?_
      refine z_dup dX0_putTooth_32 rfl ?_
      refine z_getI (x := ((fX8_begin M i (M.1 (9, i, 0) 2).toNatClampNeg x1 x2 x3).1 (9, i, 0) 2)) dX0_putTooth_33 fl_X0_29 (m9 _ hi) rfl rfl ?_
      refine z_iconst (v := (1 : Int32)) dX0_putTooth_36 kc_1 ?_
      refine z_iadd dX0_putTooth_37 ?_
      refine z_putI allR_nd dX0_putTooth_38 fl_X0_29 (m9 _ hi) rfl rfl ?_
      cases h
      exact z_vret dX0_putTooth_41 rfl (Nat.le_refl _) (Nat.le_refl _) ⟨rfl, rfl⟩
theorem dX3_copyFrom_0 : decode cX3_copyFrom 0 = .ok (.aload_n 1, 1) := by decide +kernel
theorem dX3_copyFrom_1 : decode cX3_copyFrom 1 = .ok (.getfield 9, 3) := by decide +kernel
theorem dX3_copyFrom_4 : decode cX3_copyFrom 4 = .ok (.iconst 0, 1) := by decide +kernel
theorem dX3_copyFrom_5 : decode cX3_copyFrom 5 = .ok (.aload_n 0, 1) := by decide +kernel
theorem dX3_copyFrom_6 : decode cX3_copyFrom 6 = .ok (.getfield 9, 3) := by decide +kernel
theorem dX3_copyFrom_9 : decode cX3_copyFrom 9 = .ok (.iconst 0, 1) := by decide +kernel
theorem dX3_copyFrom_10 : decode cX3_copyFrom 10 = .ok (.aload_n 0, 1) := by decide +kernel
theorem dX3_copyFrom_11 : decode cX3_copyFrom 11 = .ok (.getfield 9, 3) := by decide +kernel
theorem dX3_copyFrom_14 : decode cX3_copyFrom 14 = .ok (.arraylength, 1) := by decide +kernel
theorem dX3_copyFrom_15 : decode cX3_copyFrom 15 = .ok (.invokestatic 31, 3) := by decide +kernel
theorem dX3_copyFrom_18 : decode cX3_copyFrom 18 = .ok (.aload_n 0, 1) := by decide +kernel
theorem dX3_copyFrom_19 : decode cX3_copyFrom 19 = .ok (.aload_n 1, 1) := by decide +kernel
theorem dX3_copyFrom_20 : decode cX3_copyFrom 20 = .ok (.getfield 15, 3) := by decide +kernel
theorem dX3_copyFrom_23 : decode cX3_copyFrom 23 = .ok (.putfield 15, 3) := by decide +kernel
theorem dX3_copyFrom_26 : decode cX3_copyFrom 26 = .ok (.aload_n 0, 1) := by decide +kernel
theorem dX3_copyFrom_27 : decode cX3_copyFrom 27 = .ok (.aload_n 1, 1) := by decide +kernel
theorem dX3_copyFrom_28 : decode cX3_copyFrom 28 = .ok (.getfield 19, 3) := by decide +kernel
theorem dX3_copyFrom_31 : decode cX3_copyFrom 31 = .ok (.putfield 19, 3) := by decide +kernel
theorem dX3_copyFrom_34 : decode cX3_copyFrom 34 = .ok (.aload_n 0, 1) := by decide +kernel
theorem dX3_copyFrom_35 : decode cX3_copyFrom 35 = .ok (.aload_n 1, 1) := by decide +kernel
theorem dX3_copyFrom_36 : decode cX3_copyFrom 36 = .ok (.getfield 22, 3) := by decide +kernel
theorem dX3_copyFrom_39 : decode cX3_copyFrom 39 = .ok (.putfield 22, 3) := by decide +kernel
theorem dX3_copyFrom_42 : decode cX3_copyFrom 42 = .ok (.return_, 1) := by decide +kernel
def fX3_copyFrom (M : Mm) (i : Nat) (j1 : Nat) : Mm := (putI (putI (putI (M.1, fun r j => if r = (11, i, 0) then va_cpy (M.2 (11, j1, 0)) (M.2 (11, i, 0)) 0 0 36 j else M.2 r j) (10, i, 0) 1 ((M.1, fun r j => if r = (11, i, 0) then va_cpy (M.2 (11, j1, 0)) (M.2 (11, i, 0)) 0 0 36 j else M.2 r j).1 (10, j1, 0) 1)) (10, i, 0) 2 ((M.1, fun r j => if r = (11, i, 0) then va_cpy (M.2 (11, j1, 0)) (M.2 (11, i, 0)) 0 0 36 j else M.2 r j).1 (10, j1, 0) 2)) (10, i, 0) 3 ((M.1, fun r j => if r = (11, i, 0) then va_cpy (M.2 (11, j1, 0)) (M.2 (11, i, 0)) 0 0 36 j else M.2 r j).1 (10, j1, 0) 3))
set_option maxRecDepth 20000 in
set_option maxHeartbeats 2000000 in
theorem tX3_copyFrom {wv : Wv} (M : Mm) (i : Nat) (j1 : Nat) (hi : i < 12) (hj1 : j1 < 12) {res : Mm} (h : fX3_copyFrom M i j1 = res) : TF wv yX3_copyFrom cX3_copyFrom 2 none 1 [.inr (10, i, 0), .inr (10, j1, 0)] M (none) res := by
  rw [fX3_copyFrom] at h
  refine TF.go (n := 0) (ls := [some (.inr (10, i, 0)), some (.inr (10, j1, 0))]) rfl rfl rfl rfl rfl ?_
  refine z_aload_n (i := 1) dX3_copyFrom_0 rfl rfl ?_
  refine z_getR (r' := (11, j1, 0)) dX3_copyFrom_1 fl_X3_9 (m10 _ hj1) rfl rfl ?_
  refine z_iconst (v := (0 : Int32)) dX3_copyFrom_4 kc_0 ?_
  refine z_aload_n (i := 0) dX3_copyFrom_5 rfl rfl ?_
  refine z_getR (r' := (11, i, 0)) dX3_copyFrom_6 fl_X3_9 (m10 _ hi) rfl rfl ?_
  refine z_iconst (v := (0 : Int32)) dX3_copyFrom_9 kc_0 ?_
  refine z_aload_n (i := 0) dX3_copyFrom_10 rfl rfl ?_
  refine z_getR (r' := (11, i, 0)) dX3_copyFrom_11 fl_X3_9 (m10 _ hi) rfl rfl ?_
  refine z_alen (v := (36 : Int32)) dX3_copyFrom_14 (m11 _ hi) rfl (Nat.le_of_ble_eq_true rfl) (by decide) ?_
  refine z_acopyl dX3_copyFrom_15 ac_ml ac_nat ac_sta ac_ini (m11 _ hj1) (m11 _ hi) rfl rfl (by decide) (by decide) (by decide) (by decide) (by decide) ⟨Nat.le_of_ble_eq_true rfl, Nat.le_of_ble_eq_true rfl⟩ ?_
  refine z_aload_n (i := 0) dX3_copyFrom_18 rfl rfl ?_
  refine z_aload_n (i := 1) dX3_copyFrom_19 rfl rfl ?_
  refine z_getI (x := ((M.1, fun r j => if r = (11, i, 0) then va_cpy (M.2 (11, j1, 0)) (M.2 (11, i, 0)) 0 0 36 j else M.2 r j).1 (10, j1, 0) 1)) dX3_copyFrom_20 fl_X3_15 (m10 _ hj1) rfl rfl ?_
  refine z_putI allR_nd dX3_copyFrom_23 fl_X3_15 (m10 _ hi) rfl rfl ?_
  refine z_aload_n (i := 0) dX3_copyFrom_26 rfl rfl ?_
  refine z_aload_n (i := 1) dX3_copyFrom_27 rfl rfl ?_
  refine z_getI (x := ((M.1, fun r j => if r = (11, i, 0) then va_cpy (M.2 (11, j1, 0)) (M.2 (11, i, 0)) 0 0 36 j else M.2 r j).1 (10, j1, 0) 2)) dX3_copyFrom_28 fl_X3_19 (m10 _ hj1) rfl rfl ?_
  refine z_putI allR_nd dX3_copyFrom_31 fl_X3_19 (m10 _ hi) rfl rfl ?_
  refine z_aload_n (i := 0) dX3_copyFrom_34 rfl rfl ?_
  refine z_aload_n (i := 1) dX3_copyFrom_35 rfl rfl ?_
  refine z_getI (x := ((M.1, fun r j => if r = (11, i, 0) then va_cpy (M.2 (11, j1, 0)) (M.2 (11, i, 0)) 0 0 36 j else M.2 r j).1 (10, j1, 0) 3)) dX3_copyFrom_36 fl_X3_22 (m10 _ hj1) rfl rfl ?_
  refine z_putI allR_nd dX3_copyFrom_39 fl_X3_22 (m10 _ hi) rfl rfl ?_
  subst h
  exact z_vret dX3_copyFrom_42 rfl (Nat.le_refl _) (Nat.le_refl _) ⟨rfl, rfl⟩
theorem sX3_copyFrom {wv : Wv} (M : Mm) (i : Nat) (j1 : Nat) (hi : i < 12) (hj1 : j1 < 12) : TF wv yX3_copyFrom cX3_copyFrom 2 none 1 [.inr (10, i, 0), .inr (10, j1, 0)] M (none) (fX3_copyFrom M i j1) := tX3_copyFrom M i j1 hi hj1 rfl
theorem dX8_copyFrom_0 : decode cX8_copyFrom 0 = .ok (.aload_n 0, 1) := by decide +kernel
theorem dX8_copyFrom_1 : decode cX8_copyFrom 1 = .ok (.aload_n 1, 1) := by decide +kernel
theorem dX8_copyFrom_2 : decode cX8_copyFrom 2 = .ok (.getfield 9, 3) := by decide +kernel
theorem dX8_copyFrom_5 : decode cX8_copyFrom 5 = .ok (.putfield 9, 3) := by decide +kernel
theorem dX8_copyFrom_8 : decode cX8_copyFrom 8 = .ok (.aload_n 0, 1) := by decide +kernel
theorem dX8_copyFrom_9 : decode cX8_copyFrom 9 = .ok (.aload_n 1, 1) := by decide +kernel
theorem dX8_copyFrom_10 : decode cX8_copyFrom 10 = .ok (.getfield 24, 3) := by decide +kernel
theorem dX8_copyFrom_13 : decode cX8_copyFrom 13 = .ok (.putfield 24, 3) := by decide +kernel
theorem dX8_copyFrom_16 : decode cX8_copyFrom 16 = .ok (.aload_n 0, 1) := by decide +kernel
theorem dX8_copyFrom_17 : decode cX8_copyFrom 17 = .ok (.aload_n 1, 1) := by decide +kernel
theorem dX8_copyFrom_18 : decode cX8_copyFrom 18 = .ok (.getfield 15, 3) := by decide +kernel
theorem dX8_copyFrom_21 : decode cX8_copyFrom 21 = .ok (.putfield 15, 3) := by decide +kernel
theorem dX8_copyFrom_24 : decode cX8_copyFrom 24 = .ok (.aload_n 0, 1) := by decide +kernel
theorem dX8_copyFrom_25 : decode cX8_copyFrom 25 = .ok (.aload_n 1, 1) := by decide +kernel
theorem dX8_copyFrom_26 : decode cX8_copyFrom 26 = .ok (.getfield 18, 3) := by decide +kernel
theorem dX8_copyFrom_29 : decode cX8_copyFrom 29 = .ok (.putfield 18, 3) := by decide +kernel
theorem dX8_copyFrom_32 : decode cX8_copyFrom 32 = .ok (.aload_n 0, 1) := by decide +kernel
theorem dX8_copyFrom_33 : decode cX8_copyFrom 33 = .ok (.aload_n 1, 1) := by decide +kernel
theorem dX8_copyFrom_34 : decode cX8_copyFrom 34 = .ok (.getfield 27, 3) := by decide +kernel
theorem dX8_copyFrom_37 : decode cX8_copyFrom 37 = .ok (.putfield 27, 3) := by decide +kernel
theorem dX8_copyFrom_40 : decode cX8_copyFrom 40 = .ok (.aload_n 0, 1) := by decide +kernel
theorem dX8_copyFrom_41 : decode cX8_copyFrom 41 = .ok (.aload_n 1, 1) := by decide +kernel
theorem dX8_copyFrom_42 : decode cX8_copyFrom 42 = .ok (.getfield 30, 3) := by decide +kernel
theorem dX8_copyFrom_45 : decode cX8_copyFrom 45 = .ok (.putfield 30, 3) := by decide +kernel
theorem dX8_copyFrom_48 : decode cX8_copyFrom 48 = .ok (.return_, 1) := by decide +kernel
def fX8_copyFrom (M : Mm) (i : Nat) (t : Nat) (j1 : Nat) (u1 : Nat) : Mm := (putI (putI (putI (putI (putI (putI M (13, i, t) 0 (M.1 (13, j1, u1) 0)) (13, i, t) 1 (M.1 (13, j1, u1) 1)) (13, i, t) 2 (M.1 (13, j1, u1) 2)) (13, i, t) 3 (M.1 (13, j1, u1) 3)) (13, i, t) 4 (M.1 (13, j1, u1) 4)) (13, i, t) 5 (M.1 (13, j1, u1) 5))
set_option maxRecDepth 20000 in
set_option maxHeartbeats 2000000 in
theorem tX8_copyFrom {wv : Wv} (M : Mm) (i : Nat) (t : Nat) (j1 : Nat) (u1 : Nat) (hi : i < 12) (ht : t < 12) (hj1 : j1 < 12) (hu1 : u1 < 12) {res : Mm} (h : fX8_copyFrom M i t j1 u1 = res) : TF wv yX8_copyFrom cX8_copyFrom 2 none 0 [.inr (13, i, t), .inr (13, j1, u1)] M (none) res := by
  rw [fX8_copyFrom] at h
  refine TF.go (n := 0) (ls := [some (.inr (13, i, t)), some (.inr (13, j1, u1))]) rfl rfl rfl rfl rfl ?_
  refine z_aload_n (i := 0) dX8_copyFrom_0 rfl rfl ?_
  refine z_aload_n (i := 1) dX8_copyFrom_1 rfl rfl ?_
  refine z_getI (x := (M.1 (13, j1, u1) 0)) dX8_copyFrom_2 fl_X8_9 (m13 _ hj1 _ hu1) rfl rfl ?_
  refine z_putI allR_nd dX8_copyFrom_5 fl_X8_9 (m13 _ hi _ ht) rfl rfl ?_
  refine z_aload_n (i := 0) dX8_copyFrom_8 rfl rfl ?_
  refine z_aload_n (i := 1) dX8_copyFrom_9 rfl rfl ?_
  refine z_getI (x := (M.1 (13, j1, u1) 1)) dX8_copyFrom_10 fl_X8_24 (m13 _ hj1 _ hu1) rfl rfl ?_
  refine z_putI allR_nd dX8_copyFrom_13 fl_X8_24 (m13 _ hi _ ht) rfl rfl ?_
  refine z_aload_n (i := 0) dX8_copyFrom_16 rfl rfl ?_
  refine z_aload_n (i := 1) dX8_copyFrom_17 rfl rfl ?_
  refine z_getI (x := (M.1 (13, j1, u1) 2)) dX8_copyFrom_18 fl_X8_15 (m13 _ hj1 _ hu1) rfl rfl ?_
  refine z_putI allR_nd dX8_copyFrom_21 fl_X8_15 (m13 _ hi _ ht) rfl rfl ?_
  refine z_aload_n (i := 0) dX8_copyFrom_24 rfl rfl ?_
  refine z_aload_n (i := 1) dX8_copyFrom_25 rfl rfl ?_
  refine z_getI (x := (M.1 (13, j1, u1) 3)) dX8_copyFrom_26 fl_X8_18 (m13 _ hj1 _ hu1) rfl rfl ?_
  refine z_putI allR_nd dX8_copyFrom_29 fl_X8_18 (m13 _ hi _ ht) rfl rfl ?_
  refine z_aload_n (i := 0) dX8_copyFrom_32 rfl rfl ?_
  refine z_aload_n (i := 1) dX8_copyFrom_33 rfl rfl ?_
  refine z_getI (x := (M.1 (13, j1, u1) 4)) dX8_copyFrom_34 fl_X8_27 (m13 _ hj1 _ hu1) rfl rfl ?_
  refine z_putI allR_nd dX8_copyFrom_37 fl_X8_27 (m13 _ hi _ ht) rfl rfl ?_
  refine z_aload_n (i := 0) dX8_copyFrom_40 rfl rfl ?_
  refine z_aload_n (i := 1) dX8_copyFrom_41 rfl rfl ?_
  refine z_getI (x := (M.1 (13, j1, u1) 5)) dX8_copyFrom_42 fl_X8_30 (m13 _ hj1 _ hu1) rfl rfl ?_
  refine z_putI allR_nd dX8_copyFrom_45 fl_X8_30 (m13 _ hi _ ht) rfl rfl ?_
  subst h
  exact z_vret dX8_copyFrom_48 rfl (Nat.le_refl _) (Nat.le_refl _) ⟨rfl, rfl⟩
theorem sX8_copyFrom {wv : Wv} (M : Mm) (i : Nat) (t : Nat) (j1 : Nat) (u1 : Nat) (hi : i < 12) (ht : t < 12) (hj1 : j1 < 12) (hu1 : u1 < 12) : TF wv yX8_copyFrom cX8_copyFrom 2 none 0 [.inr (13, i, t), .inr (13, j1, u1)] M (none) (fX8_copyFrom M i t j1 u1) := tX8_copyFrom M i t j1 u1 hi ht hj1 hu1 rfl
theorem dX0_copyFrom_0 : decode cX0_copyFrom 0 = .ok (.aload_n 0, 1) := by decide +kernel
theorem dX0_copyFrom_1 : decode cX0_copyFrom 1 = .ok (.getfield 12, 3) := by decide +kernel
theorem dX0_copyFrom_4 : decode cX0_copyFrom 4 = .ok (.aload_n 1, 1) := by decide +kernel
theorem dX0_copyFrom_5 : decode cX0_copyFrom 5 = .ok (.getfield 12, 3) := by decide +kernel
theorem dX0_copyFrom_8 : decode cX0_copyFrom 8 = .ok (.invokevirtual 57, 3) := by decide +kernel
theorem dX0_copyFrom_11 : decode cX0_copyFrom 11 = .ok (.iconst 0, 1) := by decide +kernel
theorem dX0_copyFrom_12 : decode cX0_copyFrom 12 = .ok (.istore_n 2, 1) := by decide +kernel
theorem dX0_copyFrom_13 : decode cX0_copyFrom 13 = .ok (.iload_n 2, 1) := by decide +kernel
theorem dX0_copyFrom_14 : decode cX0_copyFrom 14 = .ok (.bipush 12, 2) := by decide +kernel
theorem dX0_copyFrom_16 : decode cX0_copyFrom 16 = .ok (.if_icmp .ge 24, 3) := by decide +kernel
theorem dX0_copyFrom_19 : decode cX0_copyFrom 19 = .ok (.aload_n 0, 1) := by decide +kernel
theorem dX0_copyFrom_20 : decode cX0_copyFrom 20 = .ok (.getfield 20, 3) := by decide +kernel
theorem dX0_copyFrom_23 : decode cX0_copyFrom 23 = .ok (.iload_n 2, 1) := by decide +kernel
theorem dX0_copyFrom_24 : decode cX0_copyFrom 24 = .ok (.aaload, 1) := by decide +kernel
theorem dX0_copyFrom_25 : decode cX0_copyFrom 25 = .ok (.aload_n 1, 1) := by decide +kernel
theorem dX0_copyFrom_26 : decode cX0_copyFrom 26 = .ok (.getfield 20, 3) := by decide +kernel
theorem dX0_copyFrom_29 : decode cX0_copyFrom 29 = .ok (.iload_n 2, 1) := by decide +kernel
theorem dX0_copyFrom_30 : decode cX0_copyFrom 30 = .ok (.aaload, 1) := by decide +kernel
theorem dX0_copyFrom_31 : decode cX0_copyFrom 31 = .ok (.invokevirtual 61, 3) := by decide +kernel
theorem dX0_copyFrom_34 : decode cX0_copyFrom 34 = .ok (.iinc 2 1, 3) := by decide +kernel
theorem dX0_copyFrom_37 : decode cX0_copyFrom 37 = .ok (.goto (-24), 3) := by decide +kernel
theorem dX0_copyFrom_40 : decode cX0_copyFrom 40 = .ok (.aload_n 0, 1) := by decide +kernel
theorem dX0_copyFrom_41 : decode cX0_copyFrom 41 = .ok (.aload_n 1, 1) := by decide +kernel
theorem dX0_copyFrom_42 : decode cX0_copyFrom 42 = .ok (.getfield 29, 3) := by decide +kernel
theorem dX0_copyFrom_45 : decode cX0_copyFrom 45 = .ok (.putfield 29, 3) := by decide +kernel
theorem dX0_copyFrom_48 : decode cX0_copyFrom 48 = .ok (.aload_n 0, 1) := by decide +kernel
theorem dX0_copyFrom_49 : decode cX0_copyFrom 49 = .ok (.aload_n 1, 1) := by decide +kernel
theorem dX0_copyFrom_50 : decode cX0_copyFrom 50 = .ok (.getfield 33, 3) := by decide +kernel
theorem dX0_copyFrom_53 : decode cX0_copyFrom 53 = .ok (.putfield 33, 3) := by decide +kernel
theorem dX0_copyFrom_56 : decode cX0_copyFrom 56 = .ok (.aload_n 0, 1) := by decide +kernel
theorem dX0_copyFrom_57 : decode cX0_copyFrom 57 = .ok (.aload_n 1, 1) := by decide +kernel
theorem dX0_copyFrom_58 : decode cX0_copyFrom 58 = .ok (.getfield 36, 3) := by decide +kernel
theorem dX0_copyFrom_61 : decode cX0_copyFrom 61 = .ok (.putfield 36, 3) := by decide +kernel
theorem dX0_copyFrom_64 : decode cX0_copyFrom 64 = .ok (.aload_n 0, 1) := by decide +kernel
theorem dX0_copyFrom_65 : decode cX0_copyFrom 65 = .ok (.aload_n 1, 1) := by decide +kernel
theorem dX0_copyFrom_66 : decode cX0_copyFrom 66 = .ok (.getfield 39, 3) := by decide +kernel
theorem dX0_copyFrom_69 : decode cX0_copyFrom 69 = .ok (.putfield 39, 3) := by decide +kernel
theorem dX0_copyFrom_72 : decode cX0_copyFrom 72 = .ok (.aload_n 0, 1) := by decide +kernel
theorem dX0_copyFrom_73 : decode cX0_copyFrom 73 = .ok (.aload_n 1, 1) := by decide +kernel
theorem dX0_copyFrom_74 : decode cX0_copyFrom 74 = .ok (.getfield 42, 3) := by decide +kernel
theorem dX0_copyFrom_77 : decode cX0_copyFrom 77 = .ok (.putfield 42, 3) := by decide +kernel
theorem dX0_copyFrom_80 : decode cX0_copyFrom 80 = .ok (.aload_n 0, 1) := by decide +kernel
theorem dX0_copyFrom_81 : decode cX0_copyFrom 81 = .ok (.aload_n 1, 1) := by decide +kernel
theorem dX0_copyFrom_82 : decode cX0_copyFrom 82 = .ok (.getfield 45, 3) := by decide +kernel
theorem dX0_copyFrom_85 : decode cX0_copyFrom 85 = .ok (.putfield 45, 3) := by decide +kernel
theorem dX0_copyFrom_88 : decode cX0_copyFrom 88 = .ok (.aload_n 0, 1) := by decide +kernel
theorem dX0_copyFrom_89 : decode cX0_copyFrom 89 = .ok (.aload_n 1, 1) := by decide +kernel
theorem dX0_copyFrom_90 : decode cX0_copyFrom 90 = .ok (.getfield 48, 3) := by decide +kernel
theorem dX0_copyFrom_93 : decode cX0_copyFrom 93 = .ok (.putfield 48, 3) := by decide +kernel
theorem dX0_copyFrom_96 : decode cX0_copyFrom 96 = .ok (.aload_n 0, 1) := by decide +kernel
theorem dX0_copyFrom_97 : decode cX0_copyFrom 97 = .ok (.aload_n 1, 1) := by decide +kernel
theorem dX0_copyFrom_98 : decode cX0_copyFrom 98 = .ok (.getfield 51, 3) := by decide +kernel
theorem dX0_copyFrom_101 : decode cX0_copyFrom 101 = .ok (.putfield 51, 3) := by decide +kernel
theorem dX0_copyFrom_104 : decode cX0_copyFrom 104 = .ok (.return_, 1) := by decide +kernel
def fX0_copyFrom_L13 (i : Nat) (j1 : Nat) (K : Int32 → Mm → Option Mm) : Nat → Int32 → Mm → Option Mm
  | 0, _, _ => none
  | n + 1, v2, M => if (12 : Int32) ≤ v2 then K v2 M else if v2 < 0 ∨ 12 ≤ v2.toNatClampNeg then none else if v2 < 0 ∨ 12 ≤ v2.toNatClampNeg then none else fX0_copyFrom_L13 i j1 K n (v2 + (1 : Int32)) (fX8_copyFrom M i v2.toNatClampNeg j1 v2.toNatClampNeg)
def fX0_copyFrom (M : Mm) (i : Nat) (j1 : Nat) : Option Mm := fX0_copyFrom_L13 i j1 (fun w4 M5 => some (putI (putI (putI (putI (putI (putI (putI (putI M5 (9, i, 0) 2 (M5.1 (9, j1, 0) 2)) (9, i, 0) 3 (M5.1 (9, j1, 0) 3)) (9, i, 0) 4 (M5.1 (9, j1, 0) 4)) (9, i, 0) 5 (M5.1 (9, j1, 0) 5)) (9, i, 0) 6 (M5.1 (9, j1, 0) 6)) (9, i, 0) 7 (M5.1 (9, j1, 0) 7)) (9, i, 0) 8 (M5.1 (9, j1, 0) 8)) (9, i, 0) 9 (M5.1 (9, j1, 0) 9))) NF (0 : Int32) (fX3_copyFrom M i j1)
set_option maxRecDepth 20000 in
set_option maxHeartbeats 2000000 in
theorem sX0_copyFrom_L13 {wv : Wv} (i : Nat) (j1 : Nat) (hi : i < 12) (hj1 : j1 < 12) {res : Mm} {K : Int32 → Mm → Option Mm} : ∀ (n : Nat) (v2 : Int32) (M : Mm), fX0_copyFrom_L13 i j1 K n v2 M = some res →
    (∀ (v2 : Int32) (M : Mm), K v2 M = some res → Z RX0 cX0_copyFrom 3 none [] "copyFrom" (rmD 2 0 0) (QM SH (allR wv) 0 0 (fun v M9 => v = none ∧ M9 = res) (fun _ _ => False)) (allR wv) SH 0 0 40 [some (.inr (9, i, 0)), some (.inr (9, j1, 0)), some (.inl (.int v2))] [] M) → Z RX0 cX0_copyFrom 3 none [] "copyFrom" (rmD 2 0 0) (QM SH (allR wv) 0 0 (fun v M9 => v = none ∧ M9 = res) (fun _ _ => False)) (allR wv) SH 0 0 13 [some (.inr (9, i, 0)), some (.inr (9, j1, 0)), some (.inl (.int v2))] [] M := by
  intro n
  induction n with
  | zero => intro v2 M h; cases h
  | succ n ih =>
    intro v2 M h hK
    rw [fX0_copyFrom_L13] at h
    refine z_iload_n (i := 2) dX0_copyFrom_13 rfl rfl ?_
    refine z_bipush (v := (12 : Int32)) dX0_copyFrom_14 kb_12 ?_
    refine z_icmp_ge (tgt := 40) dX0_copyFrom_16 rfl (fun hc1 => ?_) (fun hc1 => ?_)
    · have h := it_t h hc1
      exact hK _ _ h
    · have h := it_f h hc1
      refine z_aload_n (i := 0) dX0_copyFrom_19 rfl rfl ?_
      refine z_getR (r' := (12, i, 0)) dX0_copyFrom_20 fl_X0_20 (m9 _ hi) rfl rfl ?_
      refine z_iload_n (i := 2) dX0_copyFrom_23 rfl rfl ?_
      obtain ⟨hc2, h⟩ := chk h
      refine z_aald (t := 0) (r' := (13, i, v2.toNatClampNeg)) dX0_copyFrom_24 (m12 _ hi) rfl (Nat.le_of_ble_eq_true rfl) hc2 rfl ?_
      refine z_aload_n (i := 1) dX0_copyFrom_25 rfl rfl ?_
      refine z_getR (r' := (12, j1, 0)) dX0_copyFrom_26 fl_X0_20 (m9 _ hj1) rfl rfl ?_
      refine z_iload_n (i := 2) dX0_copyFrom_29 rfl rfl ?_
      obtain ⟨hc3, h⟩ := chk h
      refine z_aald (t := 0) (r' := (13, j1, v2.toNatClampNeg)) dX0_copyFrom_30 (m12 _ hj1) rfl (Nat.le_of_ble_eq_true rfl) hc3 rfl ?_
      refine z_fVv (sX8_copyFrom M i v2.toNatClampNeg j1 v2.toNatClampNeg hi (ltN hc2) hj1 (ltN hc3)) dX0_copyFrom_31 ml_X0_61 cd_X8_copyFrom (m13 _ hi _ (ltN hc2)) rfl rfl rfl rfl rfl rfl ?_
      refine z_iinc (i := 2) (v := (v2 + (1 : Int32))) dX0_copyFrom_34 rfl (iinc_k kc_1) (Nat.le_of_ble_eq_true rfl) rfl ?_
      refine z_goto (tgt := 13) dX0_copyFrom_37 rfl ?_
      exact ih _ _ h hK
set_option maxRecDepth 20000 in
set_option maxHeartbeats 2000000 in
theorem sX0_copyFrom {wv : Wv} (M : Mm) (i : Nat) (j1 : Nat) (hi : i < 12) (hj1 : j1 < 12) {res : Mm} (h : fX0_copyFrom M i j1 = some res) : TF wv yX0_copyFrom cX0_copyFrom 3 none 2 [.inr (9, i, 0), .inr (9, j1, 0)] M (none) res := by
  rw [fX0_copyFrom] at h
  refine TF.go (n := 1) (ls := [some (.inr (9, i, 0)), some (.inr (9, j1, 0)), none]) rfl rfl rfl rfl rfl ?_
  refine z_aload_n (i := 0) dX0_copyFrom_0 rfl rfl ?_
  refine z_getR (r' := (10, i, 0)) dX0_copyFrom_1 fl_X0_12 (m9 _ hi) rfl rfl ?_
  refine z_aload_n (i := 1) dX0_copyFrom_4 rfl rfl ?_
  refine z_getR (r' := (10, j1, 0)) dX0_copyFrom_5 fl_X0_12 (m9 _ hj1) rfl rfl ?_
  refine z_fVv (sX3_copyFrom M i j1 hi hj1) dX0_copyFrom_8 ml_X0_57 cd_X3_copyFrom (m10 _ hi) rfl rfl rfl rfl rfl rfl ?_
  refine z_iconst (v := (0 : Int32)) dX0_copyFrom_11 kc_0 ?_
  refine z_istore_n (i := 2) dX0_copyFrom_12 rfl (Nat.le_of_ble_eq_true rfl) rfl ?_
  refine sX0_copyFrom_L13 i j1 hi hj1 NF _ _ h (fun w4 M5 h => ?_)
  refine z_aload_n (i := 0) dX0_copyFrom_40 rfl rfl ?_
  refine z_aload_n (i := 1) dX0_copyFrom_41 rfl rfl ?_
  refine z_getI (x := (M5.1 (9, j1, 0) 2)) dX0_copyFrom_42 fl_X0_29 (m9 _ hj1) rfl rfl ?_
  refine z_putI allR_nd dX0_copyFrom_45 fl_X0_29 (m9 _ hi) rfl rfl ?_
  refine z_aload_n (i := 0) dX0_copyFrom_48 rfl rfl ?_
  refine z_aload_n (i := 1) dX0_copyFrom_49 rfl rfl ?_
  refine z_getI (x := (M5.1 (9, j1, 0) 3)) dX0_copyFrom_50 fl_X0_33 (m9 _ hj1) rfl rfl ?_
  refine z_putI allR_nd dX0_copyFrom_53 fl_X0_33 (m9 _ hi) rfl rfl ?_
  refine z_aload_n (i := 0) dX0_copyFrom_56 rfl rfl ?_
  refine z_aload_n (i := 1) dX0_copyFrom_57 rfl rfl ?_
  refine z_getI (x := (M5.1 (9, j1, 0) 4)) dX0_copyFrom_58 fl_X0_36 (m9 _ hj1) rfl rfl ?_
  refine z_putI allR_nd dX0_copyFrom_61 fl_X0_36 (m9 _ hi) rfl rfl ?_
  refine z_aload_n (i := 0) dX0_copyFrom_64 rfl rfl ?_
  refine z_aload_n (i := 1) dX0_copyFrom_65 rfl rfl ?_
  refine z_getI (x := (M5.1 (9, j1, 0) 5)) dX0_copyFrom_66 fl_X0_39 (m9 _ hj1) rfl rfl ?_
  refine z_putI allR_nd dX0_copyFrom_69 fl_X0_39 (m9 _ hi) rfl rfl ?_
  refine z_aload_n (i := 0) dX0_copyFrom_72 rfl rfl ?_
  refine z_aload_n (i := 1) dX0_copyFrom_73 rfl rfl ?_
  refine z_getI (x := (M5.1 (9, j1, 0) 6)) dX0_copyFrom_74 fl_X0_42 (m9 _ hj1) rfl rfl ?_
  refine z_putI allR_nd dX0_copyFrom_77 fl_X0_42 (m9 _ hi) rfl rfl ?_
  refine z_aload_n (i := 0) dX0_copyFrom_80 rfl rfl ?_
  refine z_aload_n (i := 1) dX0_copyFrom_81 rfl rfl ?_
  refine z_getI (x := (M5.1 (9, j1, 0) 7)) dX0_copyFrom_82 fl_X0_45 (m9 _ hj1) rfl rfl ?_
  refine z_putI allR_nd dX0_copyFrom_85 fl_X0_45 (m9 _ hi) rfl rfl ?_
  refine z_aload_n (i := 0) dX0_copyFrom_88 rfl rfl ?_
  refine z_aload_n (i := 1) dX0_copyFrom_89 rfl rfl ?_
  refine z_getI (x := (M5.1 (9, j1, 0) 8)) dX0_copyFrom_90 fl_X0_48 (m9 _ hj1) rfl rfl ?_
  refine z_putI allR_nd dX0_copyFrom_93 fl_X0_48 (m9 _ hi) rfl rfl ?_
  refine z_aload_n (i := 0) dX0_copyFrom_96 rfl rfl ?_
  refine z_aload_n (i := 1) dX0_copyFrom_97 rfl rfl ?_
  refine z_getI (x := (M5.1 (9, j1, 0) 9)) dX0_copyFrom_98 fl_X0_51 (m9 _ hj1) rfl rfl ?_
  refine z_putI allR_nd dX0_copyFrom_101 fl_X0_51 (m9 _ hi) rfl rfl ?_
  cases h
  exact z_vret dX0_copyFrom_104 rfl (Nat.le_refl _) (Nat.le_refl _) ⟨rfl, rfl⟩
theorem dX0_tuneFault_0 : decode cX0_tuneFault 0 = .ok (.iload_n 1, 1) := by decide +kernel
theorem dX0_tuneFault_1 : decode cX0_tuneFault 1 = .ok (.ifCond .lt 8, 3) := by decide +kernel
theorem dX0_tuneFault_4 : decode cX0_tuneFault 4 = .ok (.iload_n 1, 1) := by decide +kernel
theorem dX0_tuneFault_5 : decode cX0_tuneFault 5 = .ok (.iconst 3, 1) := by decide +kernel
theorem dX0_tuneFault_6 : decode cX0_tuneFault 6 = .ok (.if_icmp .lt 7, 3) := by decide +kernel
theorem dX0_tuneFault_9 : decode cX0_tuneFault 9 = .ok (.iconst 1, 1) := by decide +kernel
theorem dX0_tuneFault_10 : decode cX0_tuneFault 10 = .ok (.goto 4, 3) := by decide +kernel
theorem dX0_tuneFault_13 : decode cX0_tuneFault 13 = .ok (.iconst 0, 1) := by decide +kernel
theorem dX0_tuneFault_14 : decode cX0_tuneFault 14 = .ok (.ireturn, 1) := by decide +kernel
def fX0_tuneFault (M : Mm) (i : Nat) (x1 : Int32) : Int32 := if x1 < 0 then (1 : Int32) else if x1 < (3 : Int32) then (0 : Int32) else (1 : Int32)
set_option maxRecDepth 20000 in
set_option maxHeartbeats 2000000 in
theorem tX0_tuneFault {wv : Wv} (M : Mm) (i : Nat) (x1 : Int32) (hi : i < 12) {res : Int32} (h : fX0_tuneFault M i x1 = res) : TF wv yX0_tuneFault cX0_tuneFault 2 (some .int) 0 [.inr (9, i, 0), .inl (.int x1)] M (some (.int res)) M := by
  rw [fX0_tuneFault] at h
  refine TF.go (n := 0) (ls := [some (.inr (9, i, 0)), some (.inl (.int x1))]) rfl rfl rfl rfl rfl ?_
  refine z_iload_n (i := 1) dX0_tuneFault_0 rfl rfl ?_
  refine z_if_lt (tgt := 9) dX0_tuneFault_1 rfl (fun hc1 => ?_) (fun hc1 => ?_)
  · have h := it_t h hc1
    refine z_iconst (v := (1 : Int32)) dX0_tuneFault_9 kc_1 ?_
    refine z_goto (tgt := 14) dX0_tuneFault_10 rfl ?_
    subst h
    exact z_iret dX0_tuneFault_14 rfl rfl (Nat.le_refl _) (Nat.le_refl _) ⟨rfl, rfl⟩
  · have h := it_f h hc1
    refine z_iload_n (i := 1) dX0_tuneFault_4 rfl rfl ?_
    refine z_iconst (v := (3 : Int32)) dX0_tuneFault_5 kc_3 ?_
    refine z_icmp_lt (tgt := 13) dX0_tuneFault_6 rfl (fun hc2 => ?_) (fun hc2 => ?_)
    · have h := it_t h hc2
      refine z_iconst (v := (0 : Int32)) dX0_tuneFault_13 kc_0 ?_
      subst h
      exact z_iret dX0_tuneFault_14 rfl rfl (Nat.le_refl _) (Nat.le_refl _) ⟨rfl, rfl⟩
    · have h := it_f h hc2
      refine z_iconst (v := (1 : Int32)) dX0_tuneFault_9 kc_1 ?_
      refine z_goto (tgt := 14) dX0_tuneFault_10 rfl ?_
      subst h
      exact z_iret dX0_tuneFault_14 rfl rfl (Nat.le_refl _) (Nat.le_refl _) ⟨rfl, rfl⟩
theorem sX0_tuneFault {wv : Wv} (M : Mm) (i : Nat) (x1 : Int32) (hi : i < 12) : TF wv yX0_tuneFault cX0_tuneFault 2 (some .int) 0 [.inr (9, i, 0), .inl (.int x1)] M (some (.int (fX0_tuneFault M i x1))) M := tX0_tuneFault M i x1 hi rfl
theorem dX0_toothFault_0 : decode cX0_toothFault 0 = .ok (.iload_n 1, 1) := by decide +kernel
theorem dX0_toothFault_1 : decode cX0_toothFault 1 = .ok (.ifCond .lt 17, 3) := by decide +kernel
theorem dX0_toothFault_4 : decode cX0_toothFault 4 = .ok (.iload_n 1, 1) := by decide +kernel
theorem dX0_toothFault_5 : decode cX0_toothFault 5 = .ok (.aload_n 0, 1) := by decide +kernel
theorem dX0_toothFault_6 : decode cX0_toothFault 6 = .ok (.getfield 29, 3) := by decide +kernel
theorem dX0_toothFault_9 : decode cX0_toothFault 9 = .ok (.if_icmp .ge 9, 3) := by decide +kernel
theorem dX0_toothFault_12 : decode cX0_toothFault 12 = .ok (.iload_n 1, 1) := by decide +kernel
theorem dX0_toothFault_13 : decode cX0_toothFault 13 = .ok (.bipush 12, 2) := by decide +kernel
theorem dX0_toothFault_15 : decode cX0_toothFault 15 = .ok (.if_icmp .lt 7, 3) := by decide +kernel
theorem dX0_toothFault_18 : decode cX0_toothFault 18 = .ok (.iconst 1, 1) := by decide +kernel
theorem dX0_toothFault_19 : decode cX0_toothFault 19 = .ok (.goto 4, 3) := by decide +kernel
theorem dX0_toothFault_22 : decode cX0_toothFault 22 = .ok (.iconst 0, 1) := by decide +kernel
theorem dX0_toothFault_23 : decode cX0_toothFault 23 = .ok (.ireturn, 1) := by decide +kernel
def fX0_toothFault (M : Mm) (i : Nat) (x1 : Int32) : Int32 := if x1 < 0 then (1 : Int32) else if (M.1 (9, i, 0) 2) ≤ x1 then (1 : Int32) else if x1 < (12 : Int32) then (0 : Int32) else (1 : Int32)
set_option maxRecDepth 20000 in
set_option maxHeartbeats 2000000 in
theorem tX0_toothFault {wv : Wv} (M : Mm) (i : Nat) (x1 : Int32) (hi : i < 12) {res : Int32} (h : fX0_toothFault M i x1 = res) : TF wv yX0_toothFault cX0_toothFault 2 (some .int) 0 [.inr (9, i, 0), .inl (.int x1)] M (some (.int res)) M := by
  rw [fX0_toothFault] at h
  refine TF.go (n := 0) (ls := [some (.inr (9, i, 0)), some (.inl (.int x1))]) rfl rfl rfl rfl rfl ?_
  refine z_iload_n (i := 1) dX0_toothFault_0 rfl rfl ?_
  refine z_if_lt (tgt := 18) dX0_toothFault_1 rfl (fun hc1 => ?_) (fun hc1 => ?_)
  · have h := it_t h hc1
    refine z_iconst (v := (1 : Int32)) dX0_toothFault_18 kc_1 ?_
    refine z_goto (tgt := 23) dX0_toothFault_19 rfl ?_
    subst h
    exact z_iret dX0_toothFault_23 rfl rfl (Nat.le_refl _) (Nat.le_refl _) ⟨rfl, rfl⟩
  · have h := it_f h hc1
    refine z_iload_n (i := 1) dX0_toothFault_4 rfl rfl ?_
    refine z_aload_n (i := 0) dX0_toothFault_5 rfl rfl ?_
    refine z_getI (x := (M.1 (9, i, 0) 2)) dX0_toothFault_6 fl_X0_29 (m9 _ hi) rfl rfl ?_
    refine z_icmp_ge (tgt := 18) dX0_toothFault_9 rfl (fun hc2 => ?_) (fun hc2 => ?_)
    · have h := it_t h hc2
      refine z_iconst (v := (1 : Int32)) dX0_toothFault_18 kc_1 ?_
      refine z_goto (tgt := 23) dX0_toothFault_19 rfl ?_
      subst h
      exact z_iret dX0_toothFault_23 rfl rfl (Nat.le_refl _) (Nat.le_refl _) ⟨rfl, rfl⟩
    · have h := it_f h hc2
      refine z_iload_n (i := 1) dX0_toothFault_12 rfl rfl ?_
      refine z_bipush (v := (12 : Int32)) dX0_toothFault_13 kb_12 ?_
      refine z_icmp_lt (tgt := 22) dX0_toothFault_15 rfl (fun hc3 => ?_) (fun hc3 => ?_)
      · have h := it_t h hc3
        refine z_iconst (v := (0 : Int32)) dX0_toothFault_22 kc_0 ?_
        subst h
        exact z_iret dX0_toothFault_23 rfl rfl (Nat.le_refl _) (Nat.le_refl _) ⟨rfl, rfl⟩
      · have h := it_f h hc3
        refine z_iconst (v := (1 : Int32)) dX0_toothFault_18 kc_1 ?_
        refine z_goto (tgt := 23) dX0_toothFault_19 rfl ?_
        subst h
        exact z_iret dX0_toothFault_23 rfl rfl (Nat.le_refl _) (Nat.le_refl _) ⟨rfl, rfl⟩
theorem sX0_toothFault {wv : Wv} (M : Mm) (i : Nat) (x1 : Int32) (hi : i < 12) : TF wv yX0_toothFault cX0_toothFault 2 (some .int) 0 [.inr (9, i, 0), .inl (.int x1)] M (some (.int (fX0_toothFault M i x1))) M := tX0_toothFault M i x1 hi rfl
theorem dX0_stepFault_0 : decode cX0_stepFault 0 = .ok (.iload_n 1, 1) := by decide +kernel
theorem dX0_stepFault_1 : decode cX0_stepFault 1 = .ok (.ifCond .lt 14, 3) := by decide +kernel
theorem dX0_stepFault_4 : decode cX0_stepFault 4 = .ok (.iload_n 1, 1) := by decide +kernel
theorem dX0_stepFault_5 : decode cX0_stepFault 5 = .ok (.aload_n 0, 1) := by decide +kernel
theorem dX0_stepFault_6 : decode cX0_stepFault 6 = .ok (.getfield 12, 3) := by decide +kernel
theorem dX0_stepFault_9 : decode cX0_stepFault 9 = .ok (.getfield 64, 3) := by decide +kernel
theorem dX0_stepFault_12 : decode cX0_stepFault 12 = .ok (.if_icmp .lt 7, 3) := by decide +kernel
theorem dX0_stepFault_15 : decode cX0_stepFault 15 = .ok (.iconst 1, 1) := by decide +kernel
theorem dX0_stepFault_16 : decode cX0_stepFault 16 = .ok (.goto 4, 3) := by decide +kernel
theorem dX0_stepFault_19 : decode cX0_stepFault 19 = .ok (.iconst 0, 1) := by decide +kernel
theorem dX0_stepFault_20 : decode cX0_stepFault 20 = .ok (.ireturn, 1) := by decide +kernel
def fX0_stepFault (M : Mm) (i : Nat) (x1 : Int32) : Int32 := if x1 < 0 then (1 : Int32) else if x1 < (M.1 (10, i, 0) 1) then (0 : Int32) else (1 : Int32)
set_option maxRecDepth 20000 in
set_option maxHeartbeats 2000000 in
theorem tX0_stepFault {wv : Wv} (M : Mm) (i : Nat) (x1 : Int32) (hi : i < 12) {res : Int32} (h : fX0_stepFault M i x1 = res) : TF wv yX0_stepFault cX0_stepFault 2 (some .int) 0 [.inr (9, i, 0), .inl (.int x1)] M (some (.int res)) M := by
  rw [fX0_stepFault] at h
  refine TF.go (n := 0) (ls := [some (.inr (9, i, 0)), some (.inl (.int x1))]) rfl rfl rfl rfl rfl ?_
  refine z_iload_n (i := 1) dX0_stepFault_0 rfl rfl ?_
  refine z_if_lt (tgt := 15) dX0_stepFault_1 rfl (fun hc1 => ?_) (fun hc1 => ?_)
  · have h := it_t h hc1
    refine z_iconst (v := (1 : Int32)) dX0_stepFault_15 kc_1 ?_
    refine z_goto (tgt := 20) dX0_stepFault_16 rfl ?_
    subst h
    exact z_iret dX0_stepFault_20 rfl rfl (Nat.le_refl _) (Nat.le_refl _) ⟨rfl, rfl⟩
  · have h := it_f h hc1
    refine z_iload_n (i := 1) dX0_stepFault_4 rfl rfl ?_
    refine z_aload_n (i := 0) dX0_stepFault_5 rfl rfl ?_
    refine z_getR (r' := (10, i, 0)) dX0_stepFault_6 fl_X0_12 (m9 _ hi) rfl rfl ?_
    refine z_getI (x := (M.1 (10, i, 0) 1)) dX0_stepFault_9 fl_X0_64 (m10 _ hi) rfl rfl ?_
    refine z_icmp_lt (tgt := 19) dX0_stepFault_12 rfl (fun hc2 => ?_) (fun hc2 => ?_)
    · have h := it_t h hc2
      refine z_iconst (v := (0 : Int32)) dX0_stepFault_19 kc_0 ?_
      subst h
      exact z_iret dX0_stepFault_20 rfl rfl (Nat.le_refl _) (Nat.le_refl _) ⟨rfl, rfl⟩
    · have h := it_f h hc2
      refine z_iconst (v := (1 : Int32)) dX0_stepFault_15 kc_1 ?_
      refine z_goto (tgt := 20) dX0_stepFault_16 rfl ?_
      subst h
      exact z_iret dX0_stepFault_20 rfl rfl (Nat.le_refl _) (Nat.le_refl _) ⟨rfl, rfl⟩
theorem sX0_stepFault {wv : Wv} (M : Mm) (i : Nat) (x1 : Int32) (hi : i < 12) : TF wv yX0_stepFault cX0_stepFault 2 (some .int) 0 [.inr (9, i, 0), .inl (.int x1)] M (some (.int (fX0_stepFault M i x1))) M := tX0_stepFault M i x1 hi rfl
theorem dJ9_max_7cf53_0 : decode cJ9_max_7cf53 0 = .ok (.iload_n 0, 1) := by decide +kernel
theorem dJ9_max_7cf53_1 : decode cJ9_max_7cf53 1 = .ok (.iload_n 1, 1) := by decide +kernel
theorem dJ9_max_7cf53_2 : decode cJ9_max_7cf53 2 = .ok (.if_icmp .lt 7, 3) := by decide +kernel
theorem dJ9_max_7cf53_5 : decode cJ9_max_7cf53 5 = .ok (.iload_n 0, 1) := by decide +kernel
theorem dJ9_max_7cf53_6 : decode cJ9_max_7cf53 6 = .ok (.goto 4, 3) := by decide +kernel
theorem dJ9_max_7cf53_9 : decode cJ9_max_7cf53 9 = .ok (.iload_n 1, 1) := by decide +kernel
theorem dJ9_max_7cf53_10 : decode cJ9_max_7cf53 10 = .ok (.ireturn, 1) := by decide +kernel
def fJ9_max_7cf53 (M : Mm) (x1 : Int32) (x2 : Int32) : Int32 := if x1 < x2 then x2 else x1
set_option maxRecDepth 20000 in
set_option maxHeartbeats 2000000 in
theorem tJ9_max_7cf53 {wv : Wv} (M : Mm) (x1 : Int32) (x2 : Int32) {res : Int32} (h : fJ9_max_7cf53 M x1 x2 = res) : TF wv yJ9_max_7cf53 cJ9_max_7cf53 2 (some .int) 0 [.inl (.int x1), .inl (.int x2)] M (some (.int res)) M := by
  rw [fJ9_max_7cf53] at h
  refine TF.go (n := 0) (ls := [some (.inl (.int x1)), some (.inl (.int x2))]) (by decide +kernel) rfl rfl rfl rfl ?_
  refine z_iload_n (i := 0) dJ9_max_7cf53_0 rfl rfl ?_
  refine z_iload_n (i := 1) dJ9_max_7cf53_1 rfl rfl ?_
  refine z_icmp_lt (tgt := 9) dJ9_max_7cf53_2 rfl (fun hc1 => ?_) (fun hc1 => ?_)
  · have h := it_t h hc1
    refine z_iload_n (i := 1) dJ9_max_7cf53_9 rfl rfl ?_
    subst h
    exact z_iret dJ9_max_7cf53_10 rfl rfl (Nat.le_refl _) (Nat.le_refl _) ⟨rfl, rfl⟩
  · have h := it_f h hc1
    refine z_iload_n (i := 0) dJ9_max_7cf53_5 rfl rfl ?_
    refine z_goto (tgt := 10) dJ9_max_7cf53_6 rfl ?_
    subst h
    exact z_iret dJ9_max_7cf53_10 rfl rfl (Nat.le_refl _) (Nat.le_refl _) ⟨rfl, rfl⟩
theorem sJ9_max_7cf53 {wv : Wv} (M : Mm) (x1 : Int32) (x2 : Int32) : TF wv yJ9_max_7cf53 cJ9_max_7cf53 2 (some .int) 0 [.inl (.int x1), .inl (.int x2)] M (some (.int (fJ9_max_7cf53 M x1 x2))) M := tJ9_max_7cf53 M x1 x2  rfl
theorem dX0_placeFault_0 : decode cX0_placeFault 0 = .ok (.aload_n 0, 1) := by decide +kernel
theorem dX0_placeFault_1 : decode cX0_placeFault 1 = .ok (.iload_n 1, 1) := by decide +kernel
theorem dX0_placeFault_2 : decode cX0_placeFault 2 = .ok (.invokevirtual 67, 3) := by decide +kernel
theorem dX0_placeFault_5 : decode cX0_placeFault 5 = .ok (.aload_n 0, 1) := by decide +kernel
theorem dX0_placeFault_6 : decode cX0_placeFault 6 = .ok (.iload_n 2, 1) := by decide +kernel
theorem dX0_placeFault_7 : decode cX0_placeFault 7 = .ok (.invokevirtual 71, 3) := by decide +kernel
theorem dX0_placeFault_10 : decode cX0_placeFault 10 = .ok (.aload_n 0, 1) := by decide +kernel
theorem dX0_placeFault_11 : decode cX0_placeFault 11 = .ok (.iload_n 3, 1) := by decide +kernel
theorem dX0_placeFault_12 : decode cX0_placeFault 12 = .ok (.invokevirtual 74, 3) := by decide +kernel
theorem dX0_placeFault_15 : decode cX0_placeFault 15 = .ok (.invokestatic 77, 3) := by decide +kernel
theorem dX0_placeFault_18 : decode cX0_placeFault 18 = .ok (.invokestatic 77, 3) := by decide +kernel
theorem dX0_placeFault_21 : decode cX0_placeFault 21 = .ok (.ireturn, 1) := by decide +kernel
def fX0_placeFault (M : Mm) (i : Nat) (x1 : Int32) (x2 : Int32) (x3 : Int32) : Int32 := (fJ9_max_7cf53 M (fX0_tuneFault M i x1) (fJ9_max_7cf53 M (fX0_toothFault M i x2) (fX0_stepFault M i x3)))
set_option maxRecDepth 20000 in
set_option maxHeartbeats 2000000 in
theorem tX0_placeFault {wv : Wv} (M : Mm) (i : Nat) (x1 : Int32) (x2 : Int32) (x3 : Int32) (hi : i < 12) {res : Int32} (h : fX0_placeFault M i x1 x2 x3 = res) : TF wv yX0_placeFault cX0_placeFault 4 (some .int) 1 [.inr (9, i, 0), .inl (.int x1), .inl (.int x2), .inl (.int x3)] M (some (.int res)) M := by
  rw [fX0_placeFault] at h
  refine TF.go (n := 0) (ls := [some (.inr (9, i, 0)), some (.inl (.int x1)), some (.inl (.int x2)), some (.inl (.int x3))]) rfl rfl rfl rfl rfl ?_
  refine z_aload_n (i := 0) dX0_placeFault_0 rfl rfl ?_
  refine z_iload_n (i := 1) dX0_placeFault_1 rfl rfl ?_
  refine z_fVi (sX0_tuneFault M i x1 hi) dX0_placeFault_2 ml_X0_67 cd_X0_tuneFault (m9 _ hi) rfl rfl rfl rfl rfl rfl ?_
  refine z_aload_n (i := 0) dX0_placeFault_5 rfl rfl ?_
  refine z_iload_n (i := 2) dX0_placeFault_6 rfl rfl ?_
  refine z_fVi (sX0_toothFault M i x2 hi) dX0_placeFault_7 ml_X0_71 cd_X0_toothFault (m9 _ hi) rfl rfl rfl rfl rfl rfl ?_
  refine z_aload_n (i := 0) dX0_placeFault_10 rfl rfl ?_
  refine z_iload_n (i := 3) dX0_placeFault_11 rfl rfl ?_
  refine z_fVi (sX0_stepFault M i x3 hi) dX0_placeFault_12 ml_X0_74 cd_X0_stepFault (m9 _ hi) rfl rfl rfl rfl rfl rfl ?_
  refine z_fSi (sJ9_max_7cf53 M (fX0_toothFault M i x2) (fX0_stepFault M i x3)) dX0_placeFault_15 ml_X0_77 cd_J9_max_7cf53 rfl rfl rfl rfl rfl ?_
  refine z_fSi (sJ9_max_7cf53 M (fX0_tuneFault M i x1) (fJ9_max_7cf53 M (fX0_toothFault M i x2) (fX0_stepFault M i x3))) dX0_placeFault_18 ml_X0_77 cd_J9_max_7cf53 rfl rfl rfl rfl rfl ?_
  subst h
  exact z_iret dX0_placeFault_21 rfl rfl (Nat.le_refl _) (Nat.le_refl _) ⟨rfl, rfl⟩
theorem sX0_placeFault {wv : Wv} (M : Mm) (i : Nat) (x1 : Int32) (x2 : Int32) (x3 : Int32) (hi : i < 12) : TF wv yX0_placeFault cX0_placeFault 4 (some .int) 1 [.inr (9, i, 0), .inl (.int x1), .inl (.int x2), .inl (.int x3)] M (some (.int (fX0_placeFault M i x1 x2 x3))) M := tX0_placeFault M i x1 x2 x3 hi rfl
theorem dX3_hasPin_0 : decode cX3_hasPin 0 = .ok (.iload_n 1, 1) := by decide +kernel
theorem dX3_hasPin_1 : decode cX3_hasPin 1 = .ok (.ifCond .lt 42, 3) := by decide +kernel
theorem dX3_hasPin_4 : decode cX3_hasPin 4 = .ok (.iload_n 1, 1) := by decide +kernel
theorem dX3_hasPin_5 : decode cX3_hasPin 5 = .ok (.iconst 3, 1) := by decide +kernel
theorem dX3_hasPin_6 : decode cX3_hasPin 6 = .ok (.if_icmp .ge 37, 3) := by decide +kernel
theorem dX3_hasPin_9 : decode cX3_hasPin 9 = .ok (.iload_n 2, 1) := by decide +kernel
theorem dX3_hasPin_10 : decode cX3_hasPin 10 = .ok (.ifCond .lt 33, 3) := by decide +kernel
theorem dX3_hasPin_13 : decode cX3_hasPin 13 = .ok (.iload_n 2, 1) := by decide +kernel
theorem dX3_hasPin_14 : decode cX3_hasPin 14 = .ok (.bipush 12, 2) := by decide +kernel
theorem dX3_hasPin_16 : decode cX3_hasPin 16 = .ok (.if_icmp .ge 27, 3) := by decide +kernel
theorem dX3_hasPin_19 : decode cX3_hasPin 19 = .ok (.aload_n 0, 1) := by decide +kernel
theorem dX3_hasPin_20 : decode cX3_hasPin 20 = .ok (.getfield 9, 3) := by decide +kernel
theorem dX3_hasPin_23 : decode cX3_hasPin 23 = .ok (.iload_n 1, 1) := by decide +kernel
theorem dX3_hasPin_24 : decode cX3_hasPin 24 = .ok (.bipush 12, 2) := by decide +kernel
theorem dX3_hasPin_26 : decode cX3_hasPin 26 = .ok (.imul, 1) := by decide +kernel
theorem dX3_hasPin_27 : decode cX3_hasPin 27 = .ok (.iload_n 2, 1) := by decide +kernel
theorem dX3_hasPin_28 : decode cX3_hasPin 28 = .ok (.iadd, 1) := by decide +kernel
theorem dX3_hasPin_29 : decode cX3_hasPin 29 = .ok (.laload, 1) := by decide +kernel
theorem dX3_hasPin_30 : decode cX3_hasPin 30 = .ok (.iload_n 3, 1) := by decide +kernel
theorem dX3_hasPin_31 : decode cX3_hasPin 31 = .ok (.lushr, 1) := by decide +kernel
theorem dX3_hasPin_32 : decode cX3_hasPin 32 = .ok (.lconst 1, 1) := by decide +kernel
theorem dX3_hasPin_33 : decode cX3_hasPin 33 = .ok (.land, 1) := by decide +kernel
theorem dX3_hasPin_34 : decode cX3_hasPin 34 = .ok (.lconst 0, 1) := by decide +kernel
theorem dX3_hasPin_35 : decode cX3_hasPin 35 = .ok (.lcmp, 1) := by decide +kernel
theorem dX3_hasPin_36 : decode cX3_hasPin 36 = .ok (.ifCond .eq 7, 3) := by decide +kernel
theorem dX3_hasPin_39 : decode cX3_hasPin 39 = .ok (.iconst 1, 1) := by decide +kernel
theorem dX3_hasPin_40 : decode cX3_hasPin 40 = .ok (.goto 4, 3) := by decide +kernel
theorem dX3_hasPin_43 : decode cX3_hasPin 43 = .ok (.iconst 0, 1) := by decide +kernel
theorem dX3_hasPin_44 : decode cX3_hasPin 44 = .ok (.ireturn, 1) := by decide +kernel
def fX3_hasPin (M : Mm) (i : Nat) (x1 : Int32) (x2 : Int32) (x3 : Int32) : Option Int32 := if x1 < 0 then some (0 : Int32) else if (3 : Int32) ≤ x1 then some (0 : Int32) else if x2 < 0 then some (0 : Int32) else if (12 : Int32) ≤ x2 then some (0 : Int32) else if ((x1 * (12 : Int32)) + x2) < 0 ∨ 36 ≤ ((x1 * (12 : Int32)) + x2).toNatClampNeg then none else if (lg_cmp ((((M.2 (11, i, 0) ((x1 * (12 : Int32)) + x2).toNatClampNeg).toUInt64 >>> (x3.toInt64.toUInt64 &&& Int64.toUInt64 63)).toInt64) &&& (1 : Int64)) (0 : Int64)) = 0 then some (0 : Int32) else some (1 : Int32)
set_option maxRecDepth 20000 in
set_option maxHeartbeats 2000000 in
theorem sX3_hasPin {wv : Wv} (M : Mm) (i : Nat) (x1 : Int32) (x2 : Int32) (x3 : Int32) (hi : i < 12) {res : Int32} (h : fX3_hasPin M i x1 x2 x3 = some res) : TF wv yX3_hasPin cX3_hasPin 4 (some .boolean) 0 [.inr (10, i, 0), .inl (.int x1), .inl (.int x2), .inl (.int x3)] M (some (.int res)) M := by
  rw [fX3_hasPin] at h
  refine TF.go (n := 0) (ls := [some (.inr (10, i, 0)), some (.inl (.int x1)), some (.inl (.int x2)), some (.inl (.int x3))]) rfl rfl rfl rfl rfl ?_
  refine z_iload_n (i := 1) dX3_hasPin_0 rfl rfl ?_
  refine z_if_lt (tgt := 43) dX3_hasPin_1 rfl (fun hc1 => ?_) (fun hc1 => ?_)
  · have h := it_t h hc1
    refine z_iconst (v := (0 : Int32)) dX3_hasPin_43 kc_0 ?_
    cases h
    exact z_iret dX3_hasPin_44 rfl rfl (Nat.le_refl _) (Nat.le_refl _) ⟨rfl, rfl⟩
  · have h := it_f h hc1
    refine z_iload_n (i := 1) dX3_hasPin_4 rfl rfl ?_
    refine z_iconst (v := (3 : Int32)) dX3_hasPin_5 kc_3 ?_
    refine z_icmp_ge (tgt := 43) dX3_hasPin_6 rfl (fun hc2 => ?_) (fun hc2 => ?_)
    · have h := it_t h hc2
      refine z_iconst (v := (0 : Int32)) dX3_hasPin_43 kc_0 ?_
      cases h
      exact z_iret dX3_hasPin_44 rfl rfl (Nat.le_refl _) (Nat.le_refl _) ⟨rfl, rfl⟩
    · have h := it_f h hc2
      refine z_iload_n (i := 2) dX3_hasPin_9 rfl rfl ?_
      refine z_if_lt (tgt := 43) dX3_hasPin_10 rfl (fun hc3 => ?_) (fun hc3 => ?_)
      · have h := it_t h hc3
        refine z_iconst (v := (0 : Int32)) dX3_hasPin_43 kc_0 ?_
        cases h
        exact z_iret dX3_hasPin_44 rfl rfl (Nat.le_refl _) (Nat.le_refl _) ⟨rfl, rfl⟩
      · have h := it_f h hc3
        refine z_iload_n (i := 2) dX3_hasPin_13 rfl rfl ?_
        refine z_bipush (v := (12 : Int32)) dX3_hasPin_14 kb_12 ?_
        refine z_icmp_ge (tgt := 43) dX3_hasPin_16 rfl (fun hc4 => ?_) (fun hc4 => ?_)
        · have h := it_t h hc4
          refine z_iconst (v := (0 : Int32)) dX3_hasPin_43 kc_0 ?_
          cases h
          exact z_iret dX3_hasPin_44 rfl rfl (Nat.le_refl _) (Nat.le_refl _) ⟨rfl, rfl⟩
        · have h := it_f h hc4
          refine z_aload_n (i := 0) dX3_hasPin_19 rfl rfl ?_
          refine z_getR (r' := (11, i, 0)) dX3_hasPin_20 fl_X3_9 (m10 _ hi) rfl rfl ?_
          refine z_iload_n (i := 1) dX3_hasPin_23 rfl rfl ?_
          refine z_bipush (v := (12 : Int32)) dX3_hasPin_24 kb_12 ?_
          refine z_imul dX3_hasPin_26 ?_
          refine z_iload_n (i := 2) dX3_hasPin_27 rfl rfl ?_
          refine z_iadd dX3_hasPin_28 ?_
          obtain ⟨hc5, h⟩ := chk h
          refine z_lald (x := (M.2 (11, i, 0) ((x1 * (12 : Int32)) + x2).toNatClampNeg)) dX3_hasPin_29 (m11 _ hi) rfl hc5 rfl ?_
          refine z_iload_n (i := 3) dX3_hasPin_30 rfl rfl ?_
          refine z_lushr dX3_hasPin_31 ?_
          refine z_lconst (v := (1 : Int64)) dX3_hasPin_32 (by decide) ?_
          refine z_land dX3_hasPin_33 ?_
          refine z_lconst (v := (0 : Int64)) dX3_hasPin_34 (by decide) ?_
          refine z_lcmp dX3_hasPin_35 ?_
          refine z_if_eq (tgt := 43) dX3_hasPin_36 rfl (fun hc6 => ?_) (fun hc6 => ?_)
          · have h := it_t h hc6
            refine z_iconst (v := (0 : Int32)) dX3_hasPin_43 kc_0 ?_
            cases h
            exact z_iret dX3_hasPin_44 rfl rfl (Nat.le_refl _) (Nat.le_refl _) ⟨rfl, rfl⟩
          · have h := it_f h hc6
            refine z_iconst (v := (1 : Int32)) dX3_hasPin_39 kc_1 ?_
            refine z_goto (tgt := 44) dX3_hasPin_40 rfl ?_
            cases h
            exact z_iret dX3_hasPin_44 rfl rfl (Nat.le_refl _) (Nat.le_refl _) ⟨rfl, rfl⟩
