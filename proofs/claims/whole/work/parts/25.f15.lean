theorem dX10_pins_0 : decode cX10_pins 0 = .ok (.iconst 0, 1) := by decide +kernel
theorem dX10_pins_1 : decode cX10_pins 1 = .ok (.istore_n 2, 1) := by decide +kernel
theorem dX10_pins_2 : decode cX10_pins 2 = .ok (.iconst 0, 1) := by decide +kernel
theorem dX10_pins_3 : decode cX10_pins 3 = .ok (.istore_n 3, 1) := by decide +kernel
theorem dX10_pins_4 : decode cX10_pins 4 = .ok (.iload_n 3, 1) := by decide +kernel
theorem dX10_pins_5 : decode cX10_pins 5 = .ok (.aload_n 0, 1) := by decide +kernel
theorem dX10_pins_6 : decode cX10_pins 6 = .ok (.getfield 7, 3) := by decide +kernel
theorem dX10_pins_9 : decode cX10_pins 9 = .ok (.iconst 0, 1) := by decide +kernel
theorem dX10_pins_10 : decode cX10_pins 10 = .ok (.iaload, 1) := by decide +kernel
theorem dX10_pins_11 : decode cX10_pins 11 = .ok (.if_icmp .ge 43, 3) := by decide +kernel
theorem dX10_pins_14 : decode cX10_pins 14 = .ok (.iconst 0, 1) := by decide +kernel
theorem dX10_pins_15 : decode cX10_pins 15 = .ok (.istore 4, 2) := by decide +kernel
theorem dX10_pins_17 : decode cX10_pins 17 = .ok (.iload 4, 2) := by decide +kernel
theorem dX10_pins_19 : decode cX10_pins 19 = .ok (.aload_n 0, 1) := by decide +kernel
theorem dX10_pins_20 : decode cX10_pins 20 = .ok (.getfield 7, 3) := by decide +kernel
theorem dX10_pins_23 : decode cX10_pins 23 = .ok (.iconst 3, 1) := by decide +kernel
theorem dX10_pins_24 : decode cX10_pins 24 = .ok (.iaload, 1) := by decide +kernel
theorem dX10_pins_25 : decode cX10_pins 25 = .ok (.if_icmp .ge 23, 3) := by decide +kernel
theorem dX10_pins_28 : decode cX10_pins 28 = .ok (.aload_n 0, 1) := by decide +kernel
theorem dX10_pins_29 : decode cX10_pins 29 = .ok (.iload_n 1, 1) := by decide +kernel
theorem dX10_pins_30 : decode cX10_pins 30 = .ok (.iload 4, 2) := by decide +kernel
theorem dX10_pins_32 : decode cX10_pins 32 = .ok (.iload_n 3, 1) := by decide +kernel
theorem dX10_pins_33 : decode cX10_pins 33 = .ok (.invokevirtual 93, 3) := by decide +kernel
theorem dX10_pins_36 : decode cX10_pins 36 = .ok (.ifCond .eq 6, 3) := by decide +kernel
theorem dX10_pins_39 : decode cX10_pins 39 = .ok (.iinc 2 1, 3) := by decide +kernel
theorem dX10_pins_42 : decode cX10_pins 42 = .ok (.iinc 4 1, 3) := by decide +kernel
theorem dX10_pins_45 : decode cX10_pins 45 = .ok (.goto (-28), 3) := by decide +kernel
theorem dX10_pins_48 : decode cX10_pins 48 = .ok (.iinc 3 1, 3) := by decide +kernel
theorem dX10_pins_51 : decode cX10_pins 51 = .ok (.goto (-47), 3) := by decide +kernel
theorem dX10_pins_54 : decode cX10_pins 54 = .ok (.iload_n 2, 1) := by decide +kernel
theorem dX10_pins_55 : decode cX10_pins 55 = .ok (.ireturn, 1) := by decide +kernel
def fX10_pins_L17 (M : Mm) (c1 : Int32) (c3 : Int32) (K : Int32 → Int32 → Option Int32) : Nat → Int32 → Int32 → Option Int32
  | 0, _, _ => none
  | n + 1, v2, v4 => if (M.1 (19, 0, 0) 3) ≤ v4 then K v2 v4 else (fX10_has M c1 v4 c3).bind fun q3 => if q3 = 0 then fX10_pins_L17 M c1 c3 K n v2 (v4 + (1 : Int32)) else fX10_pins_L17 M c1 c3 K n (v2 + (1 : Int32)) (v4 + (1 : Int32))
def fX10_pins_L4 (M : Mm) (c1 : Int32) (K : Int32 → Int32 → Option Int32) : Nat → Int32 → Int32 → Option Int32
  | 0, _, _ => none
  | n + 1, v2, v3 => if (M.1 (19, 0, 0) 0) ≤ v3 then K v2 v3 else fX10_pins_L17 M c1 v3 (fun w6 w7 => fX10_pins_L4 M c1 K n w6 (v3 + (1 : Int32))) NF v2 (0 : Int32)
def fX10_pins (M : Mm) (x1 : Int32) : Option Int32 := fX10_pins_L4 M x1 (fun w8 w9 => some w8) NF (0 : Int32) (0 : Int32)
set_option maxRecDepth 20000 in
set_option maxHeartbeats 2000000 in
theorem sX10_pins_L17 {wv : Nat} (M : Mm) (c1 : Int32) (c3 : Int32) {res : Int32} {K : Int32 → Int32 → Option Int32} : ∀ (n : Nat) (v2 : Int32) (v4 : Int32), fX10_pins_L17 M c1 c3 K n v2 v4 = some res →
    (∀ (v2 : Int32) (v4 : Int32), K v2 v4 = some res → Z RX10 cX10_pins 5 (some .int) [] "pins" (rmD 2 0 0) (QM SH (allR (wv + 1)) 0 0 (fun v M9 => v = some (.int res) ∧ M9 = M) (fun _ _ => False)) (allR (wv + 1)) SH 0 0 48 [some (.inr (18, 0, 0)), some (.inl (.int c1)), some (.inl (.int v2)), some (.inl (.int c3)), some (.inl (.int v4))] [] M) → Z RX10 cX10_pins 5 (some .int) [] "pins" (rmD 2 0 0) (QM SH (allR (wv + 1)) 0 0 (fun v M9 => v = some (.int res) ∧ M9 = M) (fun _ _ => False)) (allR (wv + 1)) SH 0 0 17 [some (.inr (18, 0, 0)), some (.inl (.int c1)), some (.inl (.int v2)), some (.inl (.int c3)), some (.inl (.int v4))] [] M := by
  intro n
  induction n with
  | zero => intro v2 v4 h; cases h
  | succ n ih =>
    intro v2 v4 h hK
    rw [fX10_pins_L17] at h
    refine z_iload (i := 4) dX10_pins_17 rfl ?_
    refine z_aload_n (i := 0) dX10_pins_19 rfl rfl ?_
    refine z_getR (r' := (19, 0, 0)) dX10_pins_20 fl_X10_7 mk18 rfl rfl ?_
    refine z_iconst (v := (3 : Int32)) dX10_pins_23 kc_3 ?_
    refine z_iald (x := (M.1 (19, 0, 0) 3)) dX10_pins_24 (m19 _ (Nat.le_of_ble_eq_true rfl)) rfl (by decide) rfl ?_
    refine z_icmp_ge (tgt := 48) dX10_pins_25 rfl (fun hc2 => ?_) (fun hc2 => ?_)
    · have h := it_t h hc2
      exact hK _ _ h
    · have h := it_f h hc2
      refine z_aload_n (i := 0) dX10_pins_28 rfl rfl ?_
      refine z_iload_n (i := 1) dX10_pins_29 rfl rfl ?_
      refine z_iload (i := 4) dX10_pins_30 rfl ?_
      refine z_iload_n (i := 3) dX10_pins_32 rfl rfl ?_
      obtain ⟨q3, hq4, h⟩ := bnd h
      refine z_fVi (sX10_has M c1 v4 c3 hq4) dX10_pins_33 ml_X10_93 cd_X10_has mk18 rfl rfl rfl rfl rfl rfl ?_
      refine z_if_eq (tgt := 42) dX10_pins_36 rfl (fun hc5 => ?_) (fun hc5 => ?_)
      · have h := it_t h hc5
        refine z_iinc (i := 4) (v := (v4 + (1 : Int32))) dX10_pins_42 rfl (iinc_k kc_1) (Nat.le_of_ble_eq_true rfl) rfl ?_
        refine z_goto (tgt := 17) dX10_pins_45 rfl ?_
        exact ih _ _ h hK
      · have h := it_f h hc5
        refine z_iinc (i := 2) (v := (v2 + (1 : Int32))) dX10_pins_39 rfl (iinc_k kc_1) (Nat.le_of_ble_eq_true rfl) rfl ?_
        refine z_iinc (i := 4) (v := (v4 + (1 : Int32))) dX10_pins_42 rfl (iinc_k kc_1) (Nat.le_of_ble_eq_true rfl) rfl ?_
        refine z_goto (tgt := 17) dX10_pins_45 rfl ?_
        exact ih _ _ h hK
set_option maxRecDepth 20000 in
set_option maxHeartbeats 2000000 in
theorem sX10_pins_L4 {wv : Nat} (M : Mm) (c1 : Int32) {res : Int32} {K : Int32 → Int32 → Option Int32} : ∀ (n : Nat) (v2 : Int32) (v3 : Int32), fX10_pins_L4 M c1 K n v2 v3 = some res →
    (∀ (v2 : Int32) (v3 : Int32), K v2 v3 = some res → Z RX10 cX10_pins 5 (some .int) [] "pins" (rmD 2 0 0) (QM SH (allR (wv + 1)) 0 0 (fun v M9 => v = some (.int res) ∧ M9 = M) (fun _ _ => False)) (allR (wv + 1)) SH 0 0 54 [some (.inr (18, 0, 0)), some (.inl (.int c1)), some (.inl (.int v2)), some (.inl (.int v3)), none] [] M) → Z RX10 cX10_pins 5 (some .int) [] "pins" (rmD 2 0 0) (QM SH (allR (wv + 1)) 0 0 (fun v M9 => v = some (.int res) ∧ M9 = M) (fun _ _ => False)) (allR (wv + 1)) SH 0 0 4 [some (.inr (18, 0, 0)), some (.inl (.int c1)), some (.inl (.int v2)), some (.inl (.int v3)), none] [] M := by
  intro n
  induction n with
  | zero => intro v2 v3 h; cases h
  | succ n ih =>
    intro v2 v3 h hK
    rw [fX10_pins_L4] at h
    refine z_iload_n (i := 3) dX10_pins_4 rfl rfl ?_
    refine z_aload_n (i := 0) dX10_pins_5 rfl rfl ?_
    refine z_getR (r' := (19, 0, 0)) dX10_pins_6 fl_X10_7 mk18 rfl rfl ?_
    refine z_iconst (v := (0 : Int32)) dX10_pins_9 kc_0 ?_
    refine z_iald (x := (M.1 (19, 0, 0) 0)) dX10_pins_10 (m19 _ (Nat.le_of_ble_eq_true rfl)) rfl (by decide) rfl ?_
    refine z_icmp_ge (tgt := 54) dX10_pins_11 rfl (fun hc1 => ?_) (fun hc1 => ?_)
    · have h := it_t h hc1
      exact hK _ _ h
    · have h := it_f h hc1
      refine z_iconst (v := (0 : Int32)) dX10_pins_14 kc_0 ?_
      refine z_istore (i := 4) dX10_pins_15 (Nat.le_of_ble_eq_true rfl) rfl ?_
      refine sX10_pins_L17 M c1 v3 NF _ _ h (fun w6 w7 h => ?_)
      refine z_iinc (i := 3) (v := (v3 + (1 : Int32))) dX10_pins_48 rfl (iinc_k kc_1) (Nat.le_of_ble_eq_true rfl) rfl ?_
      refine z_goto (tgt := 4) dX10_pins_51 rfl ?_
      refine z_fgt (i := 4) ?_
      exact ih _ _ h hK
set_option maxRecDepth 20000 in
set_option maxHeartbeats 2000000 in
theorem sX10_pins {wv : Nat} (M : Mm) (x1 : Int32) {res : Int32} (h : fX10_pins M x1 = some res) : TF (wv + 1) yX10_pins cX10_pins 5 (some .int) 2 [.inr (18, 0, 0), .inl (.int x1)] M (some (.int res)) M := by
  rw [fX10_pins] at h
  refine TF.go (n := 3) (ls := [some (.inr (18, 0, 0)), some (.inl (.int x1)), none, none, none]) rfl rfl rfl rfl rfl ?_
  refine z_iconst (v := (0 : Int32)) dX10_pins_0 kc_0 ?_
  refine z_istore_n (i := 2) dX10_pins_1 rfl (Nat.le_of_ble_eq_true rfl) rfl ?_
  refine z_iconst (v := (0 : Int32)) dX10_pins_2 kc_0 ?_
  refine z_istore_n (i := 3) dX10_pins_3 rfl (Nat.le_of_ble_eq_true rfl) rfl ?_
  refine sX10_pins_L4 M x1 NF _ _ h (fun w8 w9 h => ?_)
  refine z_iload_n (i := 2) dX10_pins_54 rfl rfl ?_
  cases h
  exact z_iret dX10_pins_55 rfl rfl (Nat.le_refl _) (Nat.le_refl _) ⟨rfl, rfl⟩
theorem dX10_far_0 : decode cX10_far 0 = .ok (.iconst 1, 1) := by decide +kernel
theorem dX10_far_1 : decode cX10_far 1 = .ok (.istore 4, 2) := by decide +kernel
theorem dX10_far_3 : decode cX10_far 3 = .ok (.iload 4, 2) := by decide +kernel
theorem dX10_far_5 : decode cX10_far 5 = .ok (.aload_n 0, 1) := by decide +kernel
theorem dX10_far_6 : decode cX10_far 6 = .ok (.getfield 7, 3) := by decide +kernel
theorem dX10_far_9 : decode cX10_far 9 = .ok (.iconst 0, 1) := by decide +kernel
theorem dX10_far_10 : decode cX10_far 10 = .ok (.iaload, 1) := by decide +kernel
theorem dX10_far_11 : decode cX10_far 11 = .ok (.if_icmp .ge 36, 3) := by decide +kernel
theorem dX10_far_14 : decode cX10_far 14 = .ok (.aload_n 0, 1) := by decide +kernel
theorem dX10_far_15 : decode cX10_far 15 = .ok (.iload_n 1, 1) := by decide +kernel
theorem dX10_far_16 : decode cX10_far 16 = .ok (.iload_n 2, 1) := by decide +kernel
theorem dX10_far_17 : decode cX10_far 17 = .ok (.iload_n 3, 1) := by decide +kernel
theorem dX10_far_18 : decode cX10_far 18 = .ok (.aload_n 0, 1) := by decide +kernel
theorem dX10_far_19 : decode cX10_far 19 = .ok (.getfield 7, 3) := by decide +kernel
theorem dX10_far_22 : decode cX10_far 22 = .ok (.iconst 0, 1) := by decide +kernel
theorem dX10_far_23 : decode cX10_far 23 = .ok (.iaload, 1) := by decide +kernel
theorem dX10_far_24 : decode cX10_far 24 = .ok (.iadd, 1) := by decide +kernel
theorem dX10_far_25 : decode cX10_far 25 = .ok (.iload 4, 2) := by decide +kernel
theorem dX10_far_27 : decode cX10_far 27 = .ok (.isub, 1) := by decide +kernel
theorem dX10_far_28 : decode cX10_far 28 = .ok (.aload_n 0, 1) := by decide +kernel
theorem dX10_far_29 : decode cX10_far 29 = .ok (.getfield 7, 3) := by decide +kernel
theorem dX10_far_32 : decode cX10_far 32 = .ok (.iconst 0, 1) := by decide +kernel
theorem dX10_far_33 : decode cX10_far 33 = .ok (.iaload, 1) := by decide +kernel
theorem dX10_far_34 : decode cX10_far 34 = .ok (.irem, 1) := by decide +kernel
theorem dX10_far_35 : decode cX10_far 35 = .ok (.invokevirtual 93, 3) := by decide +kernel
theorem dX10_far_38 : decode cX10_far 38 = .ok (.ifCond .ne 9, 3) := by decide +kernel
theorem dX10_far_41 : decode cX10_far 41 = .ok (.iinc 4 1, 3) := by decide +kernel
theorem dX10_far_44 : decode cX10_far 44 = .ok (.goto (-41), 3) := by decide +kernel
theorem dX10_far_47 : decode cX10_far 47 = .ok (.iload 4, 2) := by decide +kernel
theorem dX10_far_49 : decode cX10_far 49 = .ok (.ireturn, 1) := by decide +kernel
def fX10_far_L3 (M : Mm) (c1 : Int32) (c2 : Int32) (c3 : Int32) (K : Int32 → Option Int32) : Nat → Int32 → Option Int32
  | 0, _ => none
  | n + 1, v4 => if (M.1 (19, 0, 0) 0) ≤ v4 then K v4 else if (M.1 (19, 0, 0) 0) = 0 then none else (fX10_has M c1 c2 (((c3 + (M.1 (19, 0, 0) 0)) - v4) - ((c3 + (M.1 (19, 0, 0) 0)) - v4) / (M.1 (19, 0, 0) 0) * (M.1 (19, 0, 0) 0))).bind fun q3 => if q3 = 0 then fX10_far_L3 M c1 c2 c3 K n (v4 + (1 : Int32)) else K v4
def fX10_far (M : Mm) (x1 : Int32) (x2 : Int32) (x3 : Int32) : Option Int32 := fX10_far_L3 M x1 x2 x3 (fun w6 => some w6) NF (1 : Int32)
set_option maxRecDepth 20000 in
set_option maxHeartbeats 2000000 in
theorem sX10_far_L3 {wv : Nat} (M : Mm) (c1 : Int32) (c2 : Int32) (c3 : Int32) {res : Int32} {K : Int32 → Option Int32} : ∀ (n : Nat) (v4 : Int32), fX10_far_L3 M c1 c2 c3 K n v4 = some res →
    (∀ (v4 : Int32), K v4 = some res → Z RX10 cX10_far 5 (some .int) [] "far" (rmD 2 0 0) (QM SH (allR (wv + 1)) 0 0 (fun v M9 => v = some (.int res) ∧ M9 = M) (fun _ _ => False)) (allR (wv + 1)) SH 0 0 47 [some (.inr (18, 0, 0)), some (.inl (.int c1)), some (.inl (.int c2)), some (.inl (.int c3)), some (.inl (.int v4))] [] M) → Z RX10 cX10_far 5 (some .int) [] "far" (rmD 2 0 0) (QM SH (allR (wv + 1)) 0 0 (fun v M9 => v = some (.int res) ∧ M9 = M) (fun _ _ => False)) (allR (wv + 1)) SH 0 0 3 [some (.inr (18, 0, 0)), some (.inl (.int c1)), some (.inl (.int c2)), some (.inl (.int c3)), some (.inl (.int v4))] [] M := by
  intro n
  induction n with
  | zero => intro v4 h; cases h
  | succ n ih =>
    intro v4 h hK
    rw [fX10_far_L3] at h
    refine z_iload (i := 4) dX10_far_3 rfl ?_
    refine z_aload_n (i := 0) dX10_far_5 rfl rfl ?_
    refine z_getR (r' := (19, 0, 0)) dX10_far_6 fl_X10_7 mk18 rfl rfl ?_
    refine z_iconst (v := (0 : Int32)) dX10_far_9 kc_0 ?_
    refine z_iald (x := (M.1 (19, 0, 0) 0)) dX10_far_10 (m19 _ (Nat.le_of_ble_eq_true rfl)) rfl (by decide) rfl ?_
    refine z_icmp_ge (tgt := 47) dX10_far_11 rfl (fun hc1 => ?_) (fun hc1 => ?_)
    · have h := it_t h hc1
      exact hK _ h
    · have h := it_f h hc1
      refine z_aload_n (i := 0) dX10_far_14 rfl rfl ?_
      refine z_iload_n (i := 1) dX10_far_15 rfl rfl ?_
      refine z_iload_n (i := 2) dX10_far_16 rfl rfl ?_
      refine z_iload_n (i := 3) dX10_far_17 rfl rfl ?_
      refine z_aload_n (i := 0) dX10_far_18 rfl rfl ?_
      refine z_getR (r' := (19, 0, 0)) dX10_far_19 fl_X10_7 mk18 rfl rfl ?_
      refine z_iconst (v := (0 : Int32)) dX10_far_22 kc_0 ?_
      refine z_iald (x := (M.1 (19, 0, 0) 0)) dX10_far_23 (m19 _ (Nat.le_of_ble_eq_true rfl)) rfl (by decide) rfl ?_
      refine z_iadd dX10_far_24 ?_
      refine z_iload (i := 4) dX10_far_25 rfl ?_
      refine z_isub dX10_far_27 ?_
      refine z_aload_n (i := 0) dX10_far_28 rfl rfl ?_
      refine z_getR (r' := (19, 0, 0)) dX10_far_29 fl_X10_7 mk18 rfl rfl ?_
      refine z_iconst (v := (0 : Int32)) dX10_far_32 kc_0 ?_
      refine z_iald (x := (M.1 (19, 0, 0) 0)) dX10_far_33 (m19 _ (Nat.le_of_ble_eq_true rfl)) rfl (by decide) rfl ?_
      obtain ⟨hc2, h⟩ := chk h
      refine z_irem dX10_far_34 hc2 ?_
      obtain ⟨q3, hq4, h⟩ := bnd h
      refine z_fVi (sX10_has M c1 c2 (((c3 + (M.1 (19, 0, 0) 0)) - v4) - ((c3 + (M.1 (19, 0, 0) 0)) - v4) / (M.1 (19, 0, 0) 0) * (M.1 (19, 0, 0) 0)) hq4) dX10_far_35 ml_X10_93 cd_X10_has mk18 rfl rfl rfl rfl rfl rfl ?_
      refine z_if_ne (tgt := 47) dX10_far_38 rfl (fun hc5 => ?_) (fun hc5 => ?_)
      · have h := it_f h hc5
        exact hK _ h
      · have h := it_t h hc5
        refine z_iinc (i := 4) (v := (v4 + (1 : Int32))) dX10_far_41 rfl (iinc_k kc_1) (Nat.le_of_ble_eq_true rfl) rfl ?_
        refine z_goto (tgt := 3) dX10_far_44 rfl ?_
        exact ih _ h hK
set_option maxRecDepth 20000 in
set_option maxHeartbeats 2000000 in
theorem sX10_far {wv : Nat} (M : Mm) (x1 : Int32) (x2 : Int32) (x3 : Int32) {res : Int32} (h : fX10_far M x1 x2 x3 = some res) : TF (wv + 1) yX10_far cX10_far 5 (some .int) 2 [.inr (18, 0, 0), .inl (.int x1), .inl (.int x2), .inl (.int x3)] M (some (.int res)) M := by
  rw [fX10_far] at h
  refine TF.go (n := 1) (ls := [some (.inr (18, 0, 0)), some (.inl (.int x1)), some (.inl (.int x2)), some (.inl (.int x3)), none]) rfl rfl rfl rfl rfl ?_
  refine z_iconst (v := (1 : Int32)) dX10_far_0 kc_1 ?_
  refine z_istore (i := 4) dX10_far_1 (Nat.le_of_ble_eq_true rfl) rfl ?_
  refine sX10_far_L3 M x1 x2 x3 NF _ h (fun w6 h => ?_)
  refine z_iload (i := 4) dX10_far_47 rfl ?_
  cases h
  exact z_iret dX10_far_49 rfl rfl (Nat.le_refl _) (Nat.le_refl _) ⟨rfl, rfl⟩
theorem dX10_isClose_0 : decode cX10_isClose 0 = .ok (.aload_n 0, 1) := by decide +kernel
theorem dX10_isClose_1 : decode cX10_isClose 1 = .ok (.iload_n 1, 1) := by decide +kernel
theorem dX10_isClose_2 : decode cX10_isClose 2 = .ok (.iload_n 2, 1) := by decide +kernel
theorem dX10_isClose_3 : decode cX10_isClose 3 = .ok (.iload_n 3, 1) := by decide +kernel
theorem dX10_isClose_4 : decode cX10_isClose 4 = .ok (.invokevirtual 93, 3) := by decide +kernel
theorem dX10_isClose_7 : decode cX10_isClose 7 = .ok (.ifCond .eq 23, 3) := by decide +kernel
theorem dX10_isClose_10 : decode cX10_isClose 10 = .ok (.aload_n 0, 1) := by decide +kernel
theorem dX10_isClose_11 : decode cX10_isClose 11 = .ok (.iload_n 1, 1) := by decide +kernel
theorem dX10_isClose_12 : decode cX10_isClose 12 = .ok (.iload_n 2, 1) := by decide +kernel
theorem dX10_isClose_13 : decode cX10_isClose 13 = .ok (.iload_n 3, 1) := by decide +kernel
theorem dX10_isClose_14 : decode cX10_isClose 14 = .ok (.invokevirtual 96, 3) := by decide +kernel
theorem dX10_isClose_17 : decode cX10_isClose 17 = .ok (.aload_n 0, 1) := by decide +kernel
theorem dX10_isClose_18 : decode cX10_isClose 18 = .ok (.iload_n 2, 1) := by decide +kernel
theorem dX10_isClose_19 : decode cX10_isClose 19 = .ok (.iconst 2, 1) := by decide +kernel
theorem dX10_isClose_20 : decode cX10_isClose 20 = .ok (.invokevirtual 90, 3) := by decide +kernel
theorem dX10_isClose_23 : decode cX10_isClose 23 = .ok (.if_icmp .ge 7, 3) := by decide +kernel
theorem dX10_isClose_26 : decode cX10_isClose 26 = .ok (.iconst 1, 1) := by decide +kernel
theorem dX10_isClose_27 : decode cX10_isClose 27 = .ok (.goto 4, 3) := by decide +kernel
theorem dX10_isClose_30 : decode cX10_isClose 30 = .ok (.iconst 0, 1) := by decide +kernel
theorem dX10_isClose_31 : decode cX10_isClose 31 = .ok (.ireturn, 1) := by decide +kernel
def fX10_isClose (M : Mm) (x1 : Int32) (x2 : Int32) (x3 : Int32) : Option Int32 := (fX10_has M x1 x2 x3).bind fun q1 => if q1 = 0 then some (0 : Int32) else (fX10_far M x1 x2 x3).bind fun q4 => (fX10_of M x2 (2 : Int32)).bind fun q6 => if q6 ≤ q4 then some (0 : Int32) else some (1 : Int32)
set_option maxRecDepth 20000 in
set_option maxHeartbeats 2000000 in
theorem sX10_isClose {wv : Nat} (M : Mm) (x1 : Int32) (x2 : Int32) (x3 : Int32) {res : Int32} (h : fX10_isClose M x1 x2 x3 = some res) : TF (wv + 1) yX10_isClose cX10_isClose 4 (some .boolean) 3 [.inr (18, 0, 0), .inl (.int x1), .inl (.int x2), .inl (.int x3)] M (some (.int res)) M := by
  rw [fX10_isClose] at h
  refine TF.go (n := 0) (ls := [some (.inr (18, 0, 0)), some (.inl (.int x1)), some (.inl (.int x2)), some (.inl (.int x3))]) rfl rfl rfl rfl rfl ?_
  refine z_aload_n (i := 0) dX10_isClose_0 rfl rfl ?_
  refine z_iload_n (i := 1) dX10_isClose_1 rfl rfl ?_
  refine z_iload_n (i := 2) dX10_isClose_2 rfl rfl ?_
  refine z_iload_n (i := 3) dX10_isClose_3 rfl rfl ?_
  obtain ⟨q1, hq2, h⟩ := bnd h
  refine z_fVi (sX10_has M x1 x2 x3 hq2) dX10_isClose_4 ml_X10_93 cd_X10_has mk18 rfl rfl rfl rfl rfl rfl ?_
  refine z_if_eq (tgt := 30) dX10_isClose_7 rfl (fun hc3 => ?_) (fun hc3 => ?_)
  · have h := it_t h hc3
    refine z_iconst (v := (0 : Int32)) dX10_isClose_30 kc_0 ?_
    cases h
    exact z_iret dX10_isClose_31 rfl rfl (Nat.le_refl _) (Nat.le_refl _) ⟨rfl, rfl⟩
  · have h := it_f h hc3
    refine z_aload_n (i := 0) dX10_isClose_10 rfl rfl ?_
    refine z_iload_n (i := 1) dX10_isClose_11 rfl rfl ?_
    refine z_iload_n (i := 2) dX10_isClose_12 rfl rfl ?_
    refine z_iload_n (i := 3) dX10_isClose_13 rfl rfl ?_
    obtain ⟨q4, hq5, h⟩ := bnd h
    refine z_fVi (sX10_far M x1 x2 x3 hq5) dX10_isClose_14 ml_X10_96 cd_X10_far mk18 rfl rfl rfl rfl rfl rfl ?_
    refine z_aload_n (i := 0) dX10_isClose_17 rfl rfl ?_
    refine z_iload_n (i := 2) dX10_isClose_18 rfl rfl ?_
    refine z_iconst (v := (2 : Int32)) dX10_isClose_19 kc_2 ?_
    obtain ⟨q6, hq7, h⟩ := bnd h
    refine z_fVi (sX10_of M x2 (2 : Int32) hq7) dX10_isClose_20 ml_X10_90 cd_X10_of mk18 rfl rfl rfl rfl rfl rfl ?_
    refine z_icmp_ge (tgt := 30) dX10_isClose_23 rfl (fun hc8 => ?_) (fun hc8 => ?_)
    · have h := it_t h hc8
      refine z_iconst (v := (0 : Int32)) dX10_isClose_30 kc_0 ?_
      cases h
      exact z_iret dX10_isClose_31 rfl rfl (Nat.le_refl _) (Nat.le_refl _) ⟨rfl, rfl⟩
    · have h := it_f h hc8
      refine z_iconst (v := (1 : Int32)) dX10_isClose_26 kc_1 ?_
      refine z_goto (tgt := 31) dX10_isClose_27 rfl ?_
      cases h
      exact z_iret dX10_isClose_31 rfl rfl (Nat.le_refl _) (Nat.le_refl _) ⟨rfl, rfl⟩
theorem dX10_sound_0 : decode cX10_sound 0 = .ok (.aload_n 0, 1) := by decide +kernel
theorem dX10_sound_1 : decode cX10_sound 1 = .ok (.aload_n 0, 1) := by decide +kernel
theorem dX10_sound_2 : decode cX10_sound 2 = .ok (.getfield 7, 3) := by decide +kernel
theorem dX10_sound_5 : decode cX10_sound 5 = .ok (.iconst 4, 1) := by decide +kernel
theorem dX10_sound_6 : decode cX10_sound 6 = .ok (.iaload, 1) := by decide +kernel
theorem dX10_sound_7 : decode cX10_sound 7 = .ok (.iload_n 1, 1) := by decide +kernel
theorem dX10_sound_8 : decode cX10_sound 8 = .ok (.aload_n 0, 1) := by decide +kernel
theorem dX10_sound_9 : decode cX10_sound 9 = .ok (.getfield 7, 3) := by decide +kernel
theorem dX10_sound_12 : decode cX10_sound 12 = .ok (.iconst 5, 1) := by decide +kernel
theorem dX10_sound_13 : decode cX10_sound 13 = .ok (.iaload, 1) := by decide +kernel
theorem dX10_sound_14 : decode cX10_sound 14 = .ok (.invokevirtual 93, 3) := by decide +kernel
theorem dX10_sound_17 : decode cX10_sound 17 = .ok (.ifCond .ne 5, 3) := by decide +kernel
theorem dX10_sound_20 : decode cX10_sound 20 = .ok (.iconst 0, 1) := by decide +kernel
theorem dX10_sound_21 : decode cX10_sound 21 = .ok (.ireturn, 1) := by decide +kernel
theorem dX10_sound_22 : decode cX10_sound 22 = .ok (.aload_n 0, 1) := by decide +kernel
theorem dX10_sound_23 : decode cX10_sound 23 = .ok (.iload_n 1, 1) := by decide +kernel
theorem dX10_sound_24 : decode cX10_sound 24 = .ok (.invokevirtual 100, 3) := by decide +kernel
theorem dX10_sound_27 : decode cX10_sound 27 = .ok (.ifCond .eq 5, 3) := by decide +kernel
theorem dX10_sound_30 : decode cX10_sound 30 = .ok (.iconst 1, 1) := by decide +kernel
theorem dX10_sound_31 : decode cX10_sound 31 = .ok (.ireturn, 1) := by decide +kernel
theorem dX10_sound_32 : decode cX10_sound 32 = .ok (.aload_n 0, 1) := by decide +kernel
theorem dX10_sound_33 : decode cX10_sound 33 = .ok (.iload_n 1, 1) := by decide +kernel
theorem dX10_sound_34 : decode cX10_sound 34 = .ok (.iconst 5, 1) := by decide +kernel
theorem dX10_sound_35 : decode cX10_sound 35 = .ok (.invokevirtual 90, 3) := by decide +kernel
theorem dX10_sound_38 : decode cX10_sound 38 = .ok (.aload_n 0, 1) := by decide +kernel
theorem dX10_sound_39 : decode cX10_sound 39 = .ok (.iload_n 1, 1) := by decide +kernel
theorem dX10_sound_40 : decode cX10_sound 40 = .ok (.iconst 2, 1) := by decide +kernel
theorem dX10_sound_41 : decode cX10_sound 41 = .ok (.invokevirtual 90, 3) := by decide +kernel
theorem dX10_sound_44 : decode cX10_sound 44 = .ok (.if_icmp .lt 7, 3) := by decide +kernel
theorem dX10_sound_47 : decode cX10_sound 47 = .ok (.iconst 2, 1) := by decide +kernel
theorem dX10_sound_48 : decode cX10_sound 48 = .ok (.goto 4, 3) := by decide +kernel
theorem dX10_sound_51 : decode cX10_sound 51 = .ok (.iconst 3, 1) := by decide +kernel
theorem dX10_sound_52 : decode cX10_sound 52 = .ok (.ireturn, 1) := by decide +kernel
def fX10_sound (M : Mm) (x1 : Int32) : Option Int32 := (fX10_has M (M.1 (19, 0, 0) 4) x1 (M.1 (19, 0, 0) 5)).bind fun q1 => if q1 = 0 then some (0 : Int32) else (fX10_isBad M x1).bind fun q4 => if q4 = 0 then ((fX10_of M x1 (5 : Int32)).bind fun q7 => (fX10_of M x1 (2 : Int32)).bind fun q9 => if q7 < q9 then some (3 : Int32) else some (2 : Int32)) else some (1 : Int32)
set_option maxRecDepth 20000 in
set_option maxHeartbeats 2000000 in
theorem sX10_sound {wv : Nat} (M : Mm) (x1 : Int32) {res : Int32} (h : fX10_sound M x1 = some res) : TF (wv + 1) yX10_sound cX10_sound 2 (some .int) 2 [.inr (18, 0, 0), .inl (.int x1)] M (some (.int res)) M := by
  rw [fX10_sound] at h
  refine TF.go (n := 0) (ls := [some (.inr (18, 0, 0)), some (.inl (.int x1))]) rfl rfl rfl rfl rfl ?_
  refine z_aload_n (i := 0) dX10_sound_0 rfl rfl ?_
  refine z_aload_n (i := 0) dX10_sound_1 rfl rfl ?_
  refine z_getR (r' := (19, 0, 0)) dX10_sound_2 fl_X10_7 mk18 rfl rfl ?_
  refine z_iconst (v := (4 : Int32)) dX10_sound_5 kc_4 ?_
  refine z_iald (x := (M.1 (19, 0, 0) 4)) dX10_sound_6 (m19 _ (Nat.le_of_ble_eq_true rfl)) rfl (by decide) rfl ?_
  refine z_iload_n (i := 1) dX10_sound_7 rfl rfl ?_
  refine z_aload_n (i := 0) dX10_sound_8 rfl rfl ?_
  refine z_getR (r' := (19, 0, 0)) dX10_sound_9 fl_X10_7 mk18 rfl rfl ?_
  refine z_iconst (v := (5 : Int32)) dX10_sound_12 kc_5 ?_
  refine z_iald (x := (M.1 (19, 0, 0) 5)) dX10_sound_13 (m19 _ (Nat.le_of_ble_eq_true rfl)) rfl (by decide) rfl ?_
  obtain ⟨q1, hq2, h⟩ := bnd h
  refine z_fVi (sX10_has M (M.1 (19, 0, 0) 4) x1 (M.1 (19, 0, 0) 5) hq2) dX10_sound_14 ml_X10_93 cd_X10_has mk18 rfl rfl rfl rfl rfl rfl ?_
  refine z_if_ne (tgt := 22) dX10_sound_17 rfl (fun hc3 => ?_) (fun hc3 => ?_)
  · have h := it_f h hc3
    refine z_aload_n (i := 0) dX10_sound_22 rfl rfl ?_
    refine z_iload_n (i := 1) dX10_sound_23 rfl rfl ?_
    obtain ⟨q4, hq5, h⟩ := bnd h
    refine z_fVi (sX10_isBad M x1 hq5) dX10_sound_24 ml_X10_100 cd_X10_isBad mk18 rfl rfl rfl rfl rfl rfl ?_
    refine z_if_eq (tgt := 32) dX10_sound_27 rfl (fun hc6 => ?_) (fun hc6 => ?_)
    · have h := it_t h hc6
      refine z_aload_n (i := 0) dX10_sound_32 rfl rfl ?_
      refine z_iload_n (i := 1) dX10_sound_33 rfl rfl ?_
      refine z_iconst (v := (5 : Int32)) dX10_sound_34 kc_5 ?_
      obtain ⟨q7, hq8, h⟩ := bnd h
      refine z_fVi (sX10_of M x1 (5 : Int32) hq8) dX10_sound_35 ml_X10_90 cd_X10_of mk18 rfl rfl rfl rfl rfl rfl ?_
      refine z_aload_n (i := 0) dX10_sound_38 rfl rfl ?_
      refine z_iload_n (i := 1) dX10_sound_39 rfl rfl ?_
      refine z_iconst (v := (2 : Int32)) dX10_sound_40 kc_2 ?_
      obtain ⟨q9, hq10, h⟩ := bnd h
      refine z_fVi (sX10_of M x1 (2 : Int32) hq10) dX10_sound_41 ml_X10_90 cd_X10_of mk18 rfl rfl rfl rfl rfl rfl ?_
      refine z_icmp_lt (tgt := 51) dX10_sound_44 rfl (fun hc11 => ?_) (fun hc11 => ?_)
      · have h := it_t h hc11
        refine z_iconst (v := (3 : Int32)) dX10_sound_51 kc_3 ?_
        cases h
        exact z_iret dX10_sound_52 rfl rfl (Nat.le_refl _) (Nat.le_refl _) ⟨rfl, rfl⟩
      · have h := it_f h hc11
        refine z_iconst (v := (2 : Int32)) dX10_sound_47 kc_2 ?_
        refine z_goto (tgt := 52) dX10_sound_48 rfl ?_
        cases h
        exact z_iret dX10_sound_52 rfl rfl (Nat.le_refl _) (Nat.le_refl _) ⟨rfl, rfl⟩
    · have h := it_f h hc6
      refine z_iconst (v := (1 : Int32)) dX10_sound_30 kc_1 ?_
      cases h
      exact z_iret dX10_sound_31 rfl rfl (Nat.le_refl _) (Nat.le_refl _) ⟨rfl, rfl⟩
  · have h := it_t h hc3
    refine z_iconst (v := (0 : Int32)) dX10_sound_20 kc_0 ?_
    cases h
    exact z_iret dX10_sound_21 rfl rfl (Nat.le_refl _) (Nat.le_refl _) ⟨rfl, rfl⟩
theorem dX10_plucks_0 : decode cX10_plucks 0 = .ok (.aload_n 0, 1) := by decide +kernel
theorem dX10_plucks_1 : decode cX10_plucks 1 = .ok (.iload_n 1, 1) := by decide +kernel
theorem dX10_plucks_2 : decode cX10_plucks 2 = .ok (.invokevirtual 104, 3) := by decide +kernel
theorem dX10_plucks_5 : decode cX10_plucks 5 = .ok (.istore_n 2, 1) := by decide +kernel
theorem dX10_plucks_6 : decode cX10_plucks 6 = .ok (.iload_n 2, 1) := by decide +kernel
theorem dX10_plucks_7 : decode cX10_plucks 7 = .ok (.iconst 2, 1) := by decide +kernel
theorem dX10_plucks_8 : decode cX10_plucks 8 = .ok (.if_icmp .ge 4, 3) := by decide +kernel
theorem dX10_plucks_11 : decode cX10_plucks 11 = .ok (.return_, 1) := by decide +kernel
theorem dX10_plucks_12 : decode cX10_plucks 12 = .ok (.aload_n 0, 1) := by decide +kernel
theorem dX10_plucks_13 : decode cX10_plucks 13 = .ok (.getfield 7, 3) := by decide +kernel
theorem dX10_plucks_16 : decode cX10_plucks 16 = .ok (.iload_n 2, 1) := by decide +kernel
theorem dX10_plucks_17 : decode cX10_plucks 17 = .ok (.iconst 2, 1) := by decide +kernel
theorem dX10_plucks_18 : decode cX10_plucks 18 = .ok (.if_icmp .ne 8, 3) := by decide +kernel
theorem dX10_plucks_21 : decode cX10_plucks 21 = .ok (.bipush 6, 2) := by decide +kernel
theorem dX10_plucks_23 : decode cX10_plucks 23 = .ok (.goto 5, 3) := by decide +kernel
theorem dX10_plucks_26 : decode cX10_plucks 26 = .ok (.bipush 7, 2) := by decide +kernel
theorem dX10_plucks_28 : decode cX10_plucks 28 = .ok (.dup2, 1) := by decide +kernel
theorem dX10_plucks_29 : decode cX10_plucks 29 = .ok (.iaload, 1) := by decide +kernel
theorem dX10_plucks_30 : decode cX10_plucks 30 = .ok (.iconst 1, 1) := by decide +kernel
theorem dX10_plucks_31 : decode cX10_plucks 31 = .ok (.iadd, 1) := by decide +kernel
theorem dX10_plucks_32 : decode cX10_plucks 32 = .ok (.iastore, 1) := by decide +kernel
theorem dX10_plucks_33 : decode cX10_plucks 33 = .ok (.aload_n 0, 1) := by decide +kernel
theorem dX10_plucks_34 : decode cX10_plucks 34 = .ok (.iload_n 1, 1) := by decide +kernel
theorem dX10_plucks_35 : decode cX10_plucks 35 = .ok (.iconst 4, 1) := by decide +kernel
theorem dX10_plucks_36 : decode cX10_plucks 36 = .ok (.aload_n 0, 1) := by decide +kernel
theorem dX10_plucks_37 : decode cX10_plucks 37 = .ok (.iload_n 1, 1) := by decide +kernel
theorem dX10_plucks_38 : decode cX10_plucks 38 = .ok (.iconst 4, 1) := by decide +kernel
theorem dX10_plucks_39 : decode cX10_plucks 39 = .ok (.invokevirtual 90, 3) := by decide +kernel
theorem dX10_plucks_42 : decode cX10_plucks 42 = .ok (.iload_n 2, 1) := by decide +kernel
theorem dX10_plucks_43 : decode cX10_plucks 43 = .ok (.iconst 2, 1) := by decide +kernel
theorem dX10_plucks_44 : decode cX10_plucks 44 = .ok (.if_icmp .ne 7, 3) := by decide +kernel
theorem dX10_plucks_47 : decode cX10_plucks 47 = .ok (.iconst 1, 1) := by decide +kernel
theorem dX10_plucks_48 : decode cX10_plucks 48 = .ok (.goto 4, 3) := by decide +kernel
theorem dX10_plucks_51 : decode cX10_plucks 51 = .ok (.iconst 5, 1) := by decide +kernel
theorem dX10_plucks_52 : decode cX10_plucks 52 = .ok (.iadd, 1) := by decide +kernel
theorem dX10_plucks_53 : decode cX10_plucks 53 = .ok (.invokevirtual 108, 3) := by decide +kernel
theorem dX10_plucks_56 : decode cX10_plucks 56 = .ok (.aload_n 0, 1) := by decide +kernel
theorem dX10_plucks_57 : decode cX10_plucks 57 = .ok (.iload_n 1, 1) := by decide +kernel
theorem dX10_plucks_58 : decode cX10_plucks 58 = .ok (.iconst 5, 1) := by decide +kernel
theorem dX10_plucks_59 : decode cX10_plucks 59 = .ok (.iconst 0, 1) := by decide +kernel
theorem dX10_plucks_60 : decode cX10_plucks 60 = .ok (.invokevirtual 108, 3) := by decide +kernel
theorem dX10_plucks_63 : decode cX10_plucks 63 = .ok (.return_, 1) := by decide +kernel
def fX10_plucks (M : Mm) (x1 : Int32) : Option Mm := (fX10_sound M x1).bind fun q1 => if (2 : Int32) ≤ q1 then (if q1 = (2 : Int32) then ((fX10_of (putI M (19, 0, 0) 6 ((M.1 (19, 0, 0) 6) + (1 : Int32))) x1 (4 : Int32)).bind fun q16 => if q1 = (2 : Int32) then ((fX10_puts (putI M (19, 0, 0) 6 ((M.1 (19, 0, 0) 6) + (1 : Int32))) x1 (4 : Int32) (q16 + (1 : Int32))).bind fun q23 => (fX10_puts q23 x1 (5 : Int32) (0 : Int32)).bind fun q25 => some q25) else (fX10_puts (putI M (19, 0, 0) 6 ((M.1 (19, 0, 0) 6) + (1 : Int32))) x1 (4 : Int32) (q16 + (5 : Int32))).bind fun q19 => (fX10_puts q19 x1 (5 : Int32) (0 : Int32)).bind fun q21 => some q21) else (fX10_of (putI M (19, 0, 0) 7 ((M.1 (19, 0, 0) 7) + (1 : Int32))) x1 (4 : Int32)).bind fun q5 => if q1 = (2 : Int32) then ((fX10_puts (putI M (19, 0, 0) 7 ((M.1 (19, 0, 0) 7) + (1 : Int32))) x1 (4 : Int32) (q5 + (1 : Int32))).bind fun q12 => (fX10_puts q12 x1 (5 : Int32) (0 : Int32)).bind fun q14 => some q14) else (fX10_puts (putI M (19, 0, 0) 7 ((M.1 (19, 0, 0) 7) + (1 : Int32))) x1 (4 : Int32) (q5 + (5 : Int32))).bind fun q8 => (fX10_puts q8 x1 (5 : Int32) (0 : Int32)).bind fun q10 => some q10) else some M
set_option maxRecDepth 20000 in
set_option maxHeartbeats 2000000 in
theorem sX10_plucks {wv : Nat} (M : Mm) (x1 : Int32) {res : Mm} (h : fX10_plucks M x1 = some res) : TF (wv + 1) yX10_plucks cX10_plucks 3 none 3 [.inr (18, 0, 0), .inl (.int x1)] M (none) res := by
  rw [fX10_plucks] at h
  refine TF.go (n := 1) (ls := [some (.inr (18, 0, 0)), some (.inl (.int x1)), none]) rfl rfl rfl rfl rfl ?_
  refine z_aload_n (i := 0) dX10_plucks_0 rfl rfl ?_
  refine z_iload_n (i := 1) dX10_plucks_1 rfl rfl ?_
  obtain ⟨q1, hq2, h⟩ := bnd h
  refine z_fVi (sX10_sound M x1 hq2) dX10_plucks_2 ml_X10_104 cd_X10_sound mk18 rfl rfl rfl rfl rfl rfl ?_
  refine z_istore_n (i := 2) dX10_plucks_5 rfl (Nat.le_of_ble_eq_true rfl) rfl ?_
  refine z_iload_n (i := 2) dX10_plucks_6 rfl rfl ?_
  refine z_iconst (v := (2 : Int32)) dX10_plucks_7 kc_2 ?_
  refine z_icmp_ge (tgt := 12) dX10_plucks_8 rfl (fun hc3 => ?_) (fun hc3 => ?_)
  · have h := it_t h hc3
    refine z_aload_n (i := 0) dX10_plucks_12 rfl rfl ?_
    refine z_getR (r' := (19, 0, 0)) dX10_plucks_13 fl_X10_7 mk18 rfl rfl ?_
    refine z_iload_n (i := 2) dX10_plucks_16 rfl rfl ?_
    refine z_iconst (v := (2 : Int32)) dX10_plucks_17 kc_2 ?_
    refine z_icmp_ne (tgt := 26) dX10_plucks_18 rfl (fun hc4 => ?_) (fun hc4 => ?_)
    · have h := it_f h hc4
      refine z_bipush (v := (7 : Int32)) dX10_plucks_26 kb_7 ?_
      refine z_dup2 dX10_plucks_28 rfl rfl ?_
      refine z_iald (x := (M.1 (19, 0, 0) 7)) dX10_plucks_29 (m19 _ (Nat.le_of_ble_eq_true rfl)) rfl (by decide) rfl ?_
      refine z_iconst (v := (1 : Int32)) dX10_plucks_30 kc_1 ?_
      refine z_iadd dX10_plucks_31 ?_
      refine z_iast (j := 7) allR_nd dX10_plucks_32 (m19 _ (Nat.le_of_ble_eq_true rfl)) rfl (by decide) rfl ?_
      refine z_aload_n (i := 0) dX10_plucks_33 rfl rfl ?_
      refine z_iload_n (i := 1) dX10_plucks_34 rfl rfl ?_
      refine z_iconst (v := (4 : Int32)) dX10_plucks_35 kc_4 ?_
      refine z_aload_n (i := 0) dX10_plucks_36 rfl rfl ?_
      refine z_iload_n (i := 1) dX10_plucks_37 rfl rfl ?_
      refine z_iconst (v := (4 : Int32)) dX10_plucks_38 kc_4 ?_
      obtain ⟨q5, hq6, h⟩ := bnd h
      refine z_fVi (sX10_of (putI M (19, 0, 0) 7 ((M.1 (19, 0, 0) 7) + (1 : Int32))) x1 (4 : Int32) hq6) dX10_plucks_39 ml_X10_90 cd_X10_of mk18 rfl rfl rfl rfl rfl rfl ?_
      refine z_iload_n (i := 2) dX10_plucks_42 rfl rfl ?_
      refine z_iconst (v := (2 : Int32)) dX10_plucks_43 kc_2 ?_
      refine z_icmp_ne (tgt := 51) dX10_plucks_44 rfl (fun hc7 => ?_) (fun hc7 => ?_)
      · have h := it_f h hc7
        refine z_iconst (v := (5 : Int32)) dX10_plucks_51 kc_5 ?_
        refine z_iadd dX10_plucks_52 ?_
        obtain ⟨q8, hq9, h⟩ := bnd h
        refine z_fVv (sX10_puts (putI M (19, 0, 0) 7 ((M.1 (19, 0, 0) 7) + (1 : Int32))) x1 (4 : Int32) (q5 + (5 : Int32)) hq9) dX10_plucks_53 ml_X10_108 cd_X10_puts mk18 rfl rfl rfl rfl rfl rfl ?_
        refine z_aload_n (i := 0) dX10_plucks_56 rfl rfl ?_
        refine z_iload_n (i := 1) dX10_plucks_57 rfl rfl ?_
        refine z_iconst (v := (5 : Int32)) dX10_plucks_58 kc_5 ?_
        refine z_iconst (v := (0 : Int32)) dX10_plucks_59 kc_0 ?_
        obtain ⟨q10, hq11, h⟩ := bnd h
        refine z_fVv (sX10_puts q8 x1 (5 : Int32) (0 : Int32) hq11) dX10_plucks_60 ml_X10_108 cd_X10_puts mk18 rfl rfl rfl rfl rfl rfl ?_
        cases h
        exact z_vret dX10_plucks_63 rfl (Nat.le_refl _) (Nat.le_refl _) ⟨rfl, rfl⟩
      · have h := it_t h hc7
        refine z_iconst (v := (1 : Int32)) dX10_plucks_47 kc_1 ?_
        refine z_goto (tgt := 52) dX10_plucks_48 rfl ?_
        refine z_iadd dX10_plucks_52 ?_
        obtain ⟨q12, hq13, h⟩ := bnd h
        refine z_fVv (sX10_puts (putI M (19, 0, 0) 7 ((M.1 (19, 0, 0) 7) + (1 : Int32))) x1 (4 : Int32) (q5 + (1 : Int32)) hq13) dX10_plucks_53 ml_X10_108 cd_X10_puts mk18 rfl rfl rfl rfl rfl rfl ?_
        refine z_aload_n (i := 0) dX10_plucks_56 rfl rfl ?_
        refine z_iload_n (i := 1) dX10_plucks_57 rfl rfl ?_
        refine z_iconst (v := (5 : Int32)) dX10_plucks_58 kc_5 ?_
        refine z_iconst (v := (0 : Int32)) dX10_plucks_59 kc_0 ?_
        obtain ⟨q14, hq15, h⟩ := bnd h
        refine z_fVv (sX10_puts q12 x1 (5 : Int32) (0 : Int32) hq15) dX10_plucks_60 ml_X10_108 cd_X10_puts mk18 rfl rfl rfl rfl rfl rfl ?_
        cases h
        exact z_vret dX10_plucks_63 rfl (Nat.le_refl _) (Nat.le_refl _) ⟨rfl, rfl⟩
    · have h := it_t h hc4
      refine z_bipush (v := (6 : Int32)) dX10_plucks_21 kb_6 ?_
      refine z_goto (tgt := 28) dX10_plucks_23 rfl ?_
      refine z_dup2 dX10_plucks_28 rfl rfl ?_
      refine z_iald (x := (M.1 (19, 0, 0) 6)) dX10_plucks_29 (m19 _ (Nat.le_of_ble_eq_true rfl)) rfl (by decide) rfl ?_
      refine z_iconst (v := (1 : Int32)) dX10_plucks_30 kc_1 ?_
      refine z_iadd dX10_plucks_31 ?_
      refine z_iast (j := 6) allR_nd dX10_plucks_32 (m19 _ (Nat.le_of_ble_eq_true rfl)) rfl (by decide) rfl ?_
      refine z_aload_n (i := 0) dX10_plucks_33 rfl rfl ?_
      refine z_iload_n (i := 1) dX10_plucks_34 rfl rfl ?_
      refine z_iconst (v := (4 : Int32)) dX10_plucks_35 kc_4 ?_
      refine z_aload_n (i := 0) dX10_plucks_36 rfl rfl ?_
      refine z_iload_n (i := 1) dX10_plucks_37 rfl rfl ?_
      refine z_iconst (v := (4 : Int32)) dX10_plucks_38 kc_4 ?_
      obtain ⟨q16, hq17, h⟩ := bnd h
      refine z_fVi (sX10_of (putI M (19, 0, 0) 6 ((M.1 (19, 0, 0) 6) + (1 : Int32))) x1 (4 : Int32) hq17) dX10_plucks_39 ml_X10_90 cd_X10_of mk18 rfl rfl rfl rfl rfl rfl ?_
      refine z_iload_n (i := 2) dX10_plucks_42 rfl rfl ?_
      refine z_iconst (v := (2 : Int32)) dX10_plucks_43 kc_2 ?_
      refine z_icmp_ne (tgt := 51) dX10_plucks_44 rfl (fun hc18 => ?_) (fun hc18 => ?_)
      · have h := it_f h hc18
        refine z_iconst (v := (5 : Int32)) dX10_plucks_51 kc_5 ?_
        refine z_iadd dX10_plucks_52 ?_
        obtain ⟨q19, hq20, h⟩ := bnd h
        refine z_fVv (sX10_puts (putI M (19, 0, 0) 6 ((M.1 (19, 0, 0) 6) + (1 : Int32))) x1 (4 : Int32) (q16 + (5 : Int32)) hq20) dX10_plucks_53 ml_X10_108 cd_X10_puts mk18 rfl rfl rfl rfl rfl rfl ?_
        refine z_aload_n (i := 0) dX10_plucks_56 rfl rfl ?_
        refine z_iload_n (i := 1) dX10_plucks_57 rfl rfl ?_
        refine z_iconst (v := (5 : Int32)) dX10_plucks_58 kc_5 ?_
        refine z_iconst (v := (0 : Int32)) dX10_plucks_59 kc_0 ?_
        obtain ⟨q21, hq22, h⟩ := bnd h
        refine z_fVv (sX10_puts q19 x1 (5 : Int32) (0 : Int32) hq22) dX10_plucks_60 ml_X10_108 cd_X10_puts mk18 rfl rfl rfl rfl rfl rfl ?_
        cases h
        exact z_vret dX10_plucks_63 rfl (Nat.le_refl _) (Nat.le_refl _) ⟨rfl, rfl⟩
      · have h := it_t h hc18
        refine z_iconst (v := (1 : Int32)) dX10_plucks_47 kc_1 ?_
        refine z_goto (tgt := 52) dX10_plucks_48 rfl ?_
        refine z_iadd dX10_plucks_52 ?_
        obtain ⟨q23, hq24, h⟩ := bnd h
        refine z_fVv (sX10_puts (putI M (19, 0, 0) 6 ((M.1 (19, 0, 0) 6) + (1 : Int32))) x1 (4 : Int32) (q16 + (1 : Int32)) hq24) dX10_plucks_53 ml_X10_108 cd_X10_puts mk18 rfl rfl rfl rfl rfl rfl ?_
        refine z_aload_n (i := 0) dX10_plucks_56 rfl rfl ?_
        refine z_iload_n (i := 1) dX10_plucks_57 rfl rfl ?_
        refine z_iconst (v := (5 : Int32)) dX10_plucks_58 kc_5 ?_
        refine z_iconst (v := (0 : Int32)) dX10_plucks_59 kc_0 ?_
        obtain ⟨q25, hq26, h⟩ := bnd h
        refine z_fVv (sX10_puts q23 x1 (5 : Int32) (0 : Int32) hq26) dX10_plucks_60 ml_X10_108 cd_X10_puts mk18 rfl rfl rfl rfl rfl rfl ?_
        cases h
        exact z_vret dX10_plucks_63 rfl (Nat.le_refl _) (Nat.le_refl _) ⟨rfl, rfl⟩
  · have h := it_f h hc3
    cases h
    exact z_vret dX10_plucks_11 rfl (Nat.le_refl _) (Nat.le_refl _) ⟨rfl, rfl⟩
theorem dX10_step_0 : decode cX10_step 0 = .ok (.iconst 0, 1) := by decide +kernel
theorem dX10_step_1 : decode cX10_step 1 = .ok (.istore_n 1, 1) := by decide +kernel
theorem dX10_step_2 : decode cX10_step 2 = .ok (.iload_n 1, 1) := by decide +kernel
theorem dX10_step_3 : decode cX10_step 3 = .ok (.aload_n 0, 1) := by decide +kernel
theorem dX10_step_4 : decode cX10_step 4 = .ok (.getfield 7, 3) := by decide +kernel
theorem dX10_step_7 : decode cX10_step 7 = .ok (.iconst 3, 1) := by decide +kernel
theorem dX10_step_8 : decode cX10_step 8 = .ok (.iaload, 1) := by decide +kernel
theorem dX10_step_9 : decode cX10_step 9 = .ok (.if_icmp .ge 14, 3) := by decide +kernel
theorem dX10_step_12 : decode cX10_step 12 = .ok (.aload_n 0, 1) := by decide +kernel
theorem dX10_step_13 : decode cX10_step 13 = .ok (.iload_n 1, 1) := by decide +kernel
theorem dX10_step_14 : decode cX10_step 14 = .ok (.invokevirtual 112, 3) := by decide +kernel
theorem dX10_step_17 : decode cX10_step 17 = .ok (.iinc 1 1, 3) := by decide +kernel
theorem dX10_step_20 : decode cX10_step 20 = .ok (.goto (-18), 3) := by decide +kernel
theorem dX10_step_23 : decode cX10_step 23 = .ok (.iconst 0, 1) := by decide +kernel
theorem dX10_step_24 : decode cX10_step 24 = .ok (.istore_n 1, 1) := by decide +kernel
theorem dX10_step_25 : decode cX10_step 25 = .ok (.iload_n 1, 1) := by decide +kernel
theorem dX10_step_26 : decode cX10_step 26 = .ok (.aload_n 0, 1) := by decide +kernel
theorem dX10_step_27 : decode cX10_step 27 = .ok (.getfield 7, 3) := by decide +kernel
theorem dX10_step_30 : decode cX10_step 30 = .ok (.iconst 3, 1) := by decide +kernel
theorem dX10_step_31 : decode cX10_step 31 = .ok (.iaload, 1) := by decide +kernel
theorem dX10_step_32 : decode cX10_step 32 = .ok (.if_icmp .ge 28, 3) := by decide +kernel
theorem dX10_step_35 : decode cX10_step 35 = .ok (.aload_n 0, 1) := by decide +kernel
theorem dX10_step_36 : decode cX10_step 36 = .ok (.iload_n 1, 1) := by decide +kernel
theorem dX10_step_37 : decode cX10_step 37 = .ok (.iconst 5, 1) := by decide +kernel
theorem dX10_step_38 : decode cX10_step 38 = .ok (.bipush 99, 2) := by decide +kernel
theorem dX10_step_40 : decode cX10_step 40 = .ok (.aload_n 0, 1) := by decide +kernel
theorem dX10_step_41 : decode cX10_step 41 = .ok (.iload_n 1, 1) := by decide +kernel
theorem dX10_step_42 : decode cX10_step 42 = .ok (.iconst 5, 1) := by decide +kernel
theorem dX10_step_43 : decode cX10_step 43 = .ok (.invokevirtual 90, 3) := by decide +kernel
theorem dX10_step_46 : decode cX10_step 46 = .ok (.iconst 1, 1) := by decide +kernel
theorem dX10_step_47 : decode cX10_step 47 = .ok (.iadd, 1) := by decide +kernel
theorem dX10_step_48 : decode cX10_step 48 = .ok (.invokestatic 116, 3) := by decide +kernel
theorem dX10_step_51 : decode cX10_step 51 = .ok (.invokevirtual 108, 3) := by decide +kernel
theorem dX10_step_54 : decode cX10_step 54 = .ok (.iinc 1 1, 3) := by decide +kernel
theorem dX10_step_57 : decode cX10_step 57 = .ok (.goto (-32), 3) := by decide +kernel
theorem dX10_step_60 : decode cX10_step 60 = .ok (.aload_n 0, 1) := by decide +kernel
theorem dX10_step_61 : decode cX10_step 61 = .ok (.getfield 7, 3) := by decide +kernel
theorem dX10_step_64 : decode cX10_step 64 = .ok (.iconst 5, 1) := by decide +kernel
theorem dX10_step_65 : decode cX10_step 65 = .ok (.dup2, 1) := by decide +kernel
theorem dX10_step_66 : decode cX10_step 66 = .ok (.iaload, 1) := by decide +kernel
theorem dX10_step_67 : decode cX10_step 67 = .ok (.iconst 1, 1) := by decide +kernel
theorem dX10_step_68 : decode cX10_step 68 = .ok (.iadd, 1) := by decide +kernel
theorem dX10_step_69 : decode cX10_step 69 = .ok (.iastore, 1) := by decide +kernel
theorem dX10_step_70 : decode cX10_step 70 = .ok (.aload_n 0, 1) := by decide +kernel
theorem dX10_step_71 : decode cX10_step 71 = .ok (.getfield 7, 3) := by decide +kernel
theorem dX10_step_74 : decode cX10_step 74 = .ok (.iconst 5, 1) := by decide +kernel
theorem dX10_step_75 : decode cX10_step 75 = .ok (.iaload, 1) := by decide +kernel
theorem dX10_step_76 : decode cX10_step 76 = .ok (.aload_n 0, 1) := by decide +kernel
theorem dX10_step_77 : decode cX10_step 77 = .ok (.getfield 7, 3) := by decide +kernel
theorem dX10_step_80 : decode cX10_step 80 = .ok (.iconst 0, 1) := by decide +kernel
theorem dX10_step_81 : decode cX10_step 81 = .ok (.iaload, 1) := by decide +kernel
theorem dX10_step_82 : decode cX10_step 82 = .ok (.if_icmp .ne 20, 3) := by decide +kernel
theorem dX10_step_85 : decode cX10_step 85 = .ok (.aload_n 0, 1) := by decide +kernel
theorem dX10_step_86 : decode cX10_step 86 = .ok (.getfield 7, 3) := by decide +kernel
theorem dX10_step_89 : decode cX10_step 89 = .ok (.iconst 5, 1) := by decide +kernel
theorem dX10_step_90 : decode cX10_step 90 = .ok (.iconst 0, 1) := by decide +kernel
theorem dX10_step_91 : decode cX10_step 91 = .ok (.iastore, 1) := by decide +kernel
theorem dX10_step_92 : decode cX10_step 92 = .ok (.aload_n 0, 1) := by decide +kernel
theorem dX10_step_93 : decode cX10_step 93 = .ok (.getfield 7, 3) := by decide +kernel
theorem dX10_step_96 : decode cX10_step 96 = .ok (.iconst 1, 1) := by decide +kernel
theorem dX10_step_97 : decode cX10_step 97 = .ok (.dup2, 1) := by decide +kernel
theorem dX10_step_98 : decode cX10_step 98 = .ok (.iaload, 1) := by decide +kernel
theorem dX10_step_99 : decode cX10_step 99 = .ok (.iconst 1, 1) := by decide +kernel
theorem dX10_step_100 : decode cX10_step 100 = .ok (.isub, 1) := by decide +kernel
theorem dX10_step_101 : decode cX10_step 101 = .ok (.iastore, 1) := by decide +kernel
theorem dX10_step_102 : decode cX10_step 102 = .ok (.aload_n 0, 1) := by decide +kernel
theorem dX10_step_103 : decode cX10_step 103 = .ok (.getfield 7, 3) := by decide +kernel
theorem dX10_step_106 : decode cX10_step 106 = .ok (.bipush 8, 2) := by decide +kernel
theorem dX10_step_108 : decode cX10_step 108 = .ok (.dup2, 1) := by decide +kernel
theorem dX10_step_109 : decode cX10_step 109 = .ok (.iaload, 1) := by decide +kernel
theorem dX10_step_110 : decode cX10_step 110 = .ok (.iconst 1, 1) := by decide +kernel
theorem dX10_step_111 : decode cX10_step 111 = .ok (.iadd, 1) := by decide +kernel
theorem dX10_step_112 : decode cX10_step 112 = .ok (.iastore, 1) := by decide +kernel
theorem dX10_step_113 : decode cX10_step 113 = .ok (.return_, 1) := by decide +kernel
def fX10_step_L2 (K : Int32 → Mm → Option Mm) : Nat → Int32 → Mm → Option Mm
  | 0, _, _ => none
  | n + 1, v1, M => if (M.1 (19, 0, 0) 3) ≤ v1 then K v1 M else (fX10_plucks M v1).bind fun q2 => fX10_step_L2 K n (v1 + (1 : Int32)) q2
def fX10_step_L25 (K : Int32 → Mm → Option Mm) : Nat → Int32 → Mm → Option Mm
  | 0, _, _ => none
  | n + 1, v1, M => if (M.1 (19, 0, 0) 3) ≤ v1 then K v1 M else (fX10_of M v1 (5 : Int32)).bind fun q7 => (fX10_puts M v1 (5 : Int32) (fJ9_min_7cf53 M (99 : Int32) (q7 + (1 : Int32)))).bind fun q9 => fX10_step_L25 K n (v1 + (1 : Int32)) q9
def fX10_step (M : Mm) : Option Mm := fX10_step_L2 (fun w4 M5 => fX10_step_L25 (fun w11 M12 => if ((M12.1 (19, 0, 0) 5) + (1 : Int32)) = (M12.1 (19, 0, 0) 0) then some (putI (putI (putI (putI M12 (19, 0, 0) 5 ((M12.1 (19, 0, 0) 5) + (1 : Int32))) (19, 0, 0) 5 (0 : Int32)) (19, 0, 0) 1 ((M12.1 (19, 0, 0) 1) - (1 : Int32))) (19, 0, 0) 8 ((M12.1 (19, 0, 0) 8) + (1 : Int32))) else some (putI (putI M12 (19, 0, 0) 5 ((M12.1 (19, 0, 0) 5) + (1 : Int32))) (19, 0, 0) 8 ((M12.1 (19, 0, 0) 8) + (1 : Int32)))) NF (0 : Int32) M5) NF (0 : Int32) M
set_option maxRecDepth 20000 in
set_option maxHeartbeats 2000000 in
theorem sX10_step_L2 {wv : Nat} {res : Mm} {K : Int32 → Mm → Option Mm} : ∀ (n : Nat) (v1 : Int32) (M : Mm), fX10_step_L2 K n v1 M = some res →
    (∀ (v1 : Int32) (M : Mm), K v1 M = some res → Z RX10 cX10_step 2 none [] "step" (rmD 4 0 0) (QM SH (allR (wv + 1)) 0 0 (fun v M9 => v = none ∧ M9 = res) (fun _ _ => False)) (allR (wv + 1)) SH 0 0 23 [some (.inr (18, 0, 0)), some (.inl (.int v1))] [] M) → Z RX10 cX10_step 2 none [] "step" (rmD 4 0 0) (QM SH (allR (wv + 1)) 0 0 (fun v M9 => v = none ∧ M9 = res) (fun _ _ => False)) (allR (wv + 1)) SH 0 0 2 [some (.inr (18, 0, 0)), some (.inl (.int v1))] [] M := by
  intro n
  induction n with
  | zero => intro v1 M h; cases h
  | succ n ih =>
    intro v1 M h hK
    rw [fX10_step_L2] at h
    refine z_iload_n (i := 1) dX10_step_2 rfl rfl ?_
    refine z_aload_n (i := 0) dX10_step_3 rfl rfl ?_
    refine z_getR (r' := (19, 0, 0)) dX10_step_4 fl_X10_7 mk18 rfl rfl ?_
    refine z_iconst (v := (3 : Int32)) dX10_step_7 kc_3 ?_
    refine z_iald (x := (M.1 (19, 0, 0) 3)) dX10_step_8 (m19 _ (Nat.le_of_ble_eq_true rfl)) rfl (by decide) rfl ?_
    refine z_icmp_ge (tgt := 23) dX10_step_9 rfl (fun hc1 => ?_) (fun hc1 => ?_)
    · have h := it_t h hc1
      exact hK _ _ h
    · have h := it_f h hc1
      refine z_aload_n (i := 0) dX10_step_12 rfl rfl ?_
      refine z_iload_n (i := 1) dX10_step_13 rfl rfl ?_
      obtain ⟨q2, hq3, h⟩ := bnd h
      refine z_fVv (sX10_plucks M v1 hq3) dX10_step_14 ml_X10_112 cd_X10_plucks mk18 rfl rfl rfl rfl rfl rfl ?_
      refine z_iinc (i := 1) (v := (v1 + (1 : Int32))) dX10_step_17 rfl (iinc_k kc_1) (Nat.le_of_ble_eq_true rfl) rfl ?_
      refine z_goto (tgt := 2) dX10_step_20 rfl ?_
      exact ih _ _ h hK
set_option maxRecDepth 20000 in
set_option maxHeartbeats 2000000 in
theorem sX10_step_L25 {wv : Nat} {res : Mm} {K : Int32 → Mm → Option Mm} : ∀ (n : Nat) (v1 : Int32) (M : Mm), fX10_step_L25 K n v1 M = some res →
    (∀ (v1 : Int32) (M : Mm), K v1 M = some res → Z RX10 cX10_step 2 none [] "step" (rmD 4 0 0) (QM SH (allR (wv + 1)) 0 0 (fun v M9 => v = none ∧ M9 = res) (fun _ _ => False)) (allR (wv + 1)) SH 0 0 60 [some (.inr (18, 0, 0)), some (.inl (.int v1))] [] M) → Z RX10 cX10_step 2 none [] "step" (rmD 4 0 0) (QM SH (allR (wv + 1)) 0 0 (fun v M9 => v = none ∧ M9 = res) (fun _ _ => False)) (allR (wv + 1)) SH 0 0 25 [some (.inr (18, 0, 0)), some (.inl (.int v1))] [] M := by
  intro n
  induction n with
  | zero => intro v1 M h; cases h
  | succ n ih =>
    intro v1 M h hK
    rw [fX10_step_L25] at h
    refine z_iload_n (i := 1) dX10_step_25 rfl rfl ?_
    refine z_aload_n (i := 0) dX10_step_26 rfl rfl ?_
    refine z_getR (r' := (19, 0, 0)) dX10_step_27 fl_X10_7 mk18 rfl rfl ?_
    refine z_iconst (v := (3 : Int32)) dX10_step_30 kc_3 ?_
    refine z_iald (x := (M.1 (19, 0, 0) 3)) dX10_step_31 (m19 _ (Nat.le_of_ble_eq_true rfl)) rfl (by decide) rfl ?_
    refine z_icmp_ge (tgt := 60) dX10_step_32 rfl (fun hc6 => ?_) (fun hc6 => ?_)
    · have h := it_t h hc6
      exact hK _ _ h
    · have h := it_f h hc6
      refine z_aload_n (i := 0) dX10_step_35 rfl rfl ?_
      refine z_iload_n (i := 1) dX10_step_36 rfl rfl ?_
      refine z_iconst (v := (5 : Int32)) dX10_step_37 kc_5 ?_
      refine z_bipush (v := (99 : Int32)) dX10_step_38 kb_99 ?_
      refine z_aload_n (i := 0) dX10_step_40 rfl rfl ?_
      refine z_iload_n (i := 1) dX10_step_41 rfl rfl ?_
      refine z_iconst (v := (5 : Int32)) dX10_step_42 kc_5 ?_
      obtain ⟨q7, hq8, h⟩ := bnd h
      refine z_fVi (sX10_of M v1 (5 : Int32) hq8) dX10_step_43 ml_X10_90 cd_X10_of mk18 rfl rfl rfl rfl rfl rfl ?_
      refine z_iconst (v := (1 : Int32)) dX10_step_46 kc_1 ?_
      refine z_iadd dX10_step_47 ?_
      refine z_fSi (sJ9_min_7cf53 M (99 : Int32) (q7 + (1 : Int32))) dX10_step_48 ml_X10_116 cd_J9_min_7cf53 rfl rfl rfl rfl rfl ?_
      obtain ⟨q9, hq10, h⟩ := bnd h
      refine z_fVv (sX10_puts M v1 (5 : Int32) (fJ9_min_7cf53 M (99 : Int32) (q7 + (1 : Int32))) hq10) dX10_step_51 ml_X10_108 cd_X10_puts mk18 rfl rfl rfl rfl rfl rfl ?_
      refine z_iinc (i := 1) (v := (v1 + (1 : Int32))) dX10_step_54 rfl (iinc_k kc_1) (Nat.le_of_ble_eq_true rfl) rfl ?_
      refine z_goto (tgt := 25) dX10_step_57 rfl ?_
      exact ih _ _ h hK
set_option maxRecDepth 20000 in
set_option maxHeartbeats 2000000 in
theorem sX10_step {wv : Nat} (M : Mm) {res : Mm} (h : fX10_step M  = some res) : TF (wv + 1) yX10_step cX10_step 2 none 4 [.inr (18, 0, 0)] M (none) res := by
  rw [fX10_step] at h
  refine TF.go (n := 1) (ls := [some (.inr (18, 0, 0)), none]) rfl rfl rfl rfl rfl ?_
  refine z_iconst (v := (0 : Int32)) dX10_step_0 kc_0 ?_
  refine z_istore_n (i := 1) dX10_step_1 rfl (Nat.le_of_ble_eq_true rfl) rfl ?_
  refine sX10_step_L2  NF _ _ h (fun w4 M5 h => ?_)
  refine z_iconst (v := (0 : Int32)) dX10_step_23 kc_0 ?_
  refine z_istore_n (i := 1) dX10_step_24 rfl (Nat.le_of_ble_eq_true rfl) rfl ?_
  refine sX10_step_L25  NF _ _ h (fun w11 M12 h => ?_)
  refine z_aload_n (i := 0) dX10_step_60 rfl rfl ?_
  refine z_getR (r' := (19, 0, 0)) dX10_step_61 fl_X10_7 mk18 rfl rfl ?_
  refine z_iconst (v := (5 : Int32)) dX10_step_64 kc_5 ?_
  refine z_dup2 dX10_step_65 rfl rfl ?_
  refine z_iald (x := (M12.1 (19, 0, 0) 5)) dX10_step_66 (m19 _ (Nat.le_of_ble_eq_true rfl)) rfl (by decide) rfl ?_
  refine z_iconst (v := (1 : Int32)) dX10_step_67 kc_1 ?_
  refine z_iadd dX10_step_68 ?_
  refine z_iast (j := 5) allR_nd dX10_step_69 (m19 _ (Nat.le_of_ble_eq_true rfl)) rfl (by decide) rfl ?_
  refine z_aload_n (i := 0) dX10_step_70 rfl rfl ?_
  refine z_getR (r' := (19, 0, 0)) dX10_step_71 fl_X10_7 mk18 rfl rfl ?_
  refine z_iconst (v := (5 : Int32)) dX10_step_74 kc_5 ?_
  refine z_iald (x := ((M12.1 (19, 0, 0) 5) + (1 : Int32))) dX10_step_75 (m19 _ (Nat.le_of_ble_eq_true rfl)) rfl (by decide) (gp1 (M := M12) (r := (19, 0, 0)) (j := 5) (v := ((M12.1 (19, 0, 0) 5) + (1 : Int32)))) ?_
  refine z_aload_n (i := 0) dX10_step_76 rfl rfl ?_
  refine z_getR (r' := (19, 0, 0)) dX10_step_77 fl_X10_7 mk18 rfl rfl ?_
  refine z_iconst (v := (0 : Int32)) dX10_step_80 kc_0 ?_
  refine z_iald (x := (M12.1 (19, 0, 0) 0)) dX10_step_81 (m19 _ (Nat.le_of_ble_eq_true rfl)) rfl (by decide) rfl ?_
  refine z_icmp_ne (tgt := 102) dX10_step_82 rfl (fun hc13 => ?_) (fun hc13 => ?_)
  · have h := it_f h hc13
    refine z_aload_n (i := 0) dX10_step_102 rfl rfl ?_
    refine z_getR (r' := (19, 0, 0)) dX10_step_103 fl_X10_7 mk18 rfl rfl ?_
    refine z_bipush (v := (8 : Int32)) dX10_step_106 kb_8 ?_
    refine z_dup2 dX10_step_108 rfl rfl ?_
    refine z_iald (x := (M12.1 (19, 0, 0) 8)) dX10_step_109 (m19 _ (Nat.le_of_ble_eq_true rfl)) rfl (by decide) rfl ?_
    refine z_iconst (v := (1 : Int32)) dX10_step_110 kc_1 ?_
    refine z_iadd dX10_step_111 ?_
    refine z_iast (j := 8) allR_nd dX10_step_112 (m19 _ (Nat.le_of_ble_eq_true rfl)) rfl (by decide) rfl ?_
    cases h
    exact z_vret dX10_step_113 rfl (Nat.le_refl _) (Nat.le_refl _) ⟨rfl, rfl⟩
  · have h := it_t h hc13
    refine z_aload_n (i := 0) dX10_step_85 rfl rfl ?_
    refine z_getR (r' := (19, 0, 0)) dX10_step_86 fl_X10_7 mk18 rfl rfl ?_
    refine z_iconst (v := (5 : Int32)) dX10_step_89 kc_5 ?_
    refine z_iconst (v := (0 : Int32)) dX10_step_90 kc_0 ?_
    refine z_iast (j := 5) allR_nd dX10_step_91 (m19 _ (Nat.le_of_ble_eq_true rfl)) rfl (by decide) rfl ?_
    refine z_aload_n (i := 0) dX10_step_92 rfl rfl ?_
    refine z_getR (r' := (19, 0, 0)) dX10_step_93 fl_X10_7 mk18 rfl rfl ?_
    refine z_iconst (v := (1 : Int32)) dX10_step_96 kc_1 ?_
    refine z_dup2 dX10_step_97 rfl rfl ?_
    refine z_iald (x := (M12.1 (19, 0, 0) 1)) dX10_step_98 (m19 _ (Nat.le_of_ble_eq_true rfl)) rfl (by decide) rfl ?_
    refine z_iconst (v := (1 : Int32)) dX10_step_99 kc_1 ?_
    refine z_isub dX10_step_100 ?_
    refine z_iast (j := 1) allR_nd dX10_step_101 (m19 _ (Nat.le_of_ble_eq_true rfl)) rfl (by decide) rfl ?_
    refine z_aload_n (i := 0) dX10_step_102 rfl rfl ?_
    refine z_getR (r' := (19, 0, 0)) dX10_step_103 fl_X10_7 mk18 rfl rfl ?_
    refine z_bipush (v := (8 : Int32)) dX10_step_106 kb_8 ?_
    refine z_dup2 dX10_step_108 rfl rfl ?_
    refine z_iald (x := (M12.1 (19, 0, 0) 8)) dX10_step_109 (m19 _ (Nat.le_of_ble_eq_true rfl)) rfl (by decide) rfl ?_
    refine z_iconst (v := (1 : Int32)) dX10_step_110 kc_1 ?_
    refine z_iadd dX10_step_111 ?_
    refine z_iast (j := 8) allR_nd dX10_step_112 (m19 _ (Nat.le_of_ble_eq_true rfl)) rfl (by decide) rfl ?_
    cases h
    exact z_vret dX10_step_113 rfl (Nat.le_refl _) (Nat.le_refl _) ⟨rfl, rfl⟩
theorem dX10_steps_0 : decode cX10_steps 0 = .ok (.iconst 0, 1) := by decide +kernel
theorem dX10_steps_1 : decode cX10_steps 1 = .ok (.istore_n 2, 1) := by decide +kernel
theorem dX10_steps_2 : decode cX10_steps 2 = .ok (.iload_n 2, 1) := by decide +kernel
theorem dX10_steps_3 : decode cX10_steps 3 = .ok (.iload_n 1, 1) := by decide +kernel
theorem dX10_steps_4 : decode cX10_steps 4 = .ok (.if_icmp .ge 22, 3) := by decide +kernel
theorem dX10_steps_7 : decode cX10_steps 7 = .ok (.aload_n 0, 1) := by decide +kernel
theorem dX10_steps_8 : decode cX10_steps 8 = .ok (.getfield 7, 3) := by decide +kernel
theorem dX10_steps_11 : decode cX10_steps 11 = .ok (.iconst 1, 1) := by decide +kernel
theorem dX10_steps_12 : decode cX10_steps 12 = .ok (.iaload, 1) := by decide +kernel
theorem dX10_steps_13 : decode cX10_steps 13 = .ok (.ifCond .le 13, 3) := by decide +kernel
theorem dX10_steps_16 : decode cX10_steps 16 = .ok (.aload_n 0, 1) := by decide +kernel
theorem dX10_steps_17 : decode cX10_steps 17 = .ok (.invokevirtual 121, 3) := by decide +kernel
theorem dX10_steps_20 : decode cX10_steps 20 = .ok (.iinc 2 1, 3) := by decide +kernel
theorem dX10_steps_23 : decode cX10_steps 23 = .ok (.goto (-21), 3) := by decide +kernel
theorem dX10_steps_26 : decode cX10_steps 26 = .ok (.iload_n 2, 1) := by decide +kernel
theorem dX10_steps_27 : decode cX10_steps 27 = .ok (.ireturn, 1) := by decide +kernel
def fX10_steps_L2 (c1 : Int32) (K : Int32 → Mm → Option (Int32 × Mm)) : Nat → Int32 → Mm → Option (Int32 × Mm)
  | 0, _, _ => none
  | n + 1, v2, M => if c1 ≤ v2 then K v2 M else if (M.1 (19, 0, 0) 1) ≤ 0 then K v2 M else (fX10_step M).bind fun q3 => fX10_steps_L2 c1 K n (v2 + (1 : Int32)) q3
def fX10_steps (M : Mm) (x1 : Int32) : Option (Int32 × Mm) := fX10_steps_L2 x1 (fun w5 M6 => some (w5, M6)) NF (0 : Int32) M
set_option maxRecDepth 20000 in
set_option maxHeartbeats 2000000 in
theorem sX10_steps_L2 {wv : Nat} (c1 : Int32) {res : (Int32 × Mm)} {K : Int32 → Mm → Option (Int32 × Mm)} : ∀ (n : Nat) (v2 : Int32) (M : Mm), fX10_steps_L2 c1 K n v2 M = some res →
    (∀ (v2 : Int32) (M : Mm), K v2 M = some res → Z RX10 cX10_steps 3 (some .int) [] "steps" (rmD 5 0 0) (QM SH (allR (wv + 1)) 0 0 (fun v M9 => v = some (.int res.1) ∧ M9 = res.2) (fun _ _ => False)) (allR (wv + 1)) SH 0 0 26 [some (.inr (18, 0, 0)), some (.inl (.int c1)), some (.inl (.int v2))] [] M) → Z RX10 cX10_steps 3 (some .int) [] "steps" (rmD 5 0 0) (QM SH (allR (wv + 1)) 0 0 (fun v M9 => v = some (.int res.1) ∧ M9 = res.2) (fun _ _ => False)) (allR (wv + 1)) SH 0 0 2 [some (.inr (18, 0, 0)), some (.inl (.int c1)), some (.inl (.int v2))] [] M := by
  intro n
  induction n with
  | zero => intro v2 M h; cases h
  | succ n ih =>
    intro v2 M h hK
    rw [fX10_steps_L2] at h
    refine z_iload_n (i := 2) dX10_steps_2 rfl rfl ?_
    refine z_iload_n (i := 1) dX10_steps_3 rfl rfl ?_
    refine z_icmp_ge (tgt := 26) dX10_steps_4 rfl (fun hc1 => ?_) (fun hc1 => ?_)
    · have h := it_t h hc1
      exact hK _ _ h
    · have h := it_f h hc1
      refine z_aload_n (i := 0) dX10_steps_7 rfl rfl ?_
      refine z_getR (r' := (19, 0, 0)) dX10_steps_8 fl_X10_7 mk18 rfl rfl ?_
      refine z_iconst (v := (1 : Int32)) dX10_steps_11 kc_1 ?_
      refine z_iald (x := (M.1 (19, 0, 0) 1)) dX10_steps_12 (m19 _ (Nat.le_of_ble_eq_true rfl)) rfl (by decide) rfl ?_
      refine z_if_le (tgt := 26) dX10_steps_13 rfl (fun hc2 => ?_) (fun hc2 => ?_)
      · have h := it_t h hc2
        exact hK _ _ h
      · have h := it_f h hc2
        refine z_aload_n (i := 0) dX10_steps_16 rfl rfl ?_
        obtain ⟨q3, hq4, h⟩ := bnd h
        refine z_fVv (sX10_step M hq4) dX10_steps_17 ml_X10_121 cd_X10_step mk18 rfl rfl rfl rfl rfl rfl ?_
        refine z_iinc (i := 2) (v := (v2 + (1 : Int32))) dX10_steps_20 rfl (iinc_k kc_1) (Nat.le_of_ble_eq_true rfl) rfl ?_
        refine z_goto (tgt := 2) dX10_steps_23 rfl ?_
        exact ih _ _ h hK
set_option maxRecDepth 20000 in
set_option maxHeartbeats 2000000 in
theorem sX10_steps {wv : Nat} (M : Mm) (x1 : Int32) {res : (Int32 × Mm)} (h : fX10_steps M x1 = some res) : TF (wv + 1) yX10_steps cX10_steps 3 (some .int) 5 [.inr (18, 0, 0), .inl (.int x1)] M (some (.int res.1)) res.2 := by
  rw [fX10_steps] at h
  refine TF.go (n := 1) (ls := [some (.inr (18, 0, 0)), some (.inl (.int x1)), none]) rfl rfl rfl rfl rfl ?_
  refine z_iconst (v := (0 : Int32)) dX10_steps_0 kc_0 ?_
  refine z_istore_n (i := 2) dX10_steps_1 rfl (Nat.le_of_ble_eq_true rfl) rfl ?_
  refine sX10_steps_L2 x1 NF _ _ h (fun w5 M6 h => ?_)
  refine z_iload_n (i := 2) dX10_steps_26 rfl rfl ?_
  cases h
  exact z_iret dX10_steps_27 rfl rfl (Nat.le_refl _) (Nat.le_refl _) ⟨rfl, rfl⟩
theorem dX10_tries_0 : decode cX10_tries 0 = .ok (.iconst 0, 1) := by decide +kernel
theorem dX10_tries_1 : decode cX10_tries 1 = .ok (.istore_n 1, 1) := by decide +kernel
theorem dX10_tries_2 : decode cX10_tries 2 = .ok (.iload_n 1, 1) := by decide +kernel
theorem dX10_tries_3 : decode cX10_tries 3 = .ok (.sipush 280, 3) := by decide +kernel
theorem dX10_tries_6 : decode cX10_tries 6 = .ok (.if_icmp .ge 21, 3) := by decide +kernel
theorem dX10_tries_9 : decode cX10_tries 9 = .ok (.aload_n 0, 1) := by decide +kernel
theorem dX10_tries_10 : decode cX10_tries 10 = .ok (.getfield 13, 3) := by decide +kernel
theorem dX10_tries_13 : decode cX10_tries 13 = .ok (.iload_n 1, 1) := by decide +kernel
theorem dX10_tries_14 : decode cX10_tries 14 = .ok (.aload_n 0, 1) := by decide +kernel
theorem dX10_tries_15 : decode cX10_tries 15 = .ok (.getfield 7, 3) := by decide +kernel
theorem dX10_tries_18 : decode cX10_tries 18 = .ok (.iload_n 1, 1) := by decide +kernel
theorem dX10_tries_19 : decode cX10_tries 19 = .ok (.iaload, 1) := by decide +kernel
theorem dX10_tries_20 : decode cX10_tries 20 = .ok (.iastore, 1) := by decide +kernel
theorem dX10_tries_21 : decode cX10_tries 21 = .ok (.iinc 1 1, 3) := by decide +kernel
theorem dX10_tries_24 : decode cX10_tries 24 = .ok (.goto (-22), 3) := by decide +kernel
theorem dX10_tries_27 : decode cX10_tries 27 = .ok (.return_, 1) := by decide +kernel
def fX10_tries_L2 (K : Int32 → Mm → Option Mm) : Nat → Int32 → Mm → Option Mm
  | 0, _, _ => none
  | n + 1, v1, M => if (280 : Int32) ≤ v1 then K v1 M else if v1 < 0 ∨ 280 ≤ v1.toNatClampNeg then none else if v1 < 0 ∨ 280 ≤ v1.toNatClampNeg then none else fX10_tries_L2 K n (v1 + (1 : Int32)) (putI M (19, 1, 0) v1.toNatClampNeg (M.1 (19, 0, 0) v1.toNatClampNeg))
def fX10_tries (M : Mm) : Option Mm := fX10_tries_L2 (fun w4 M5 => some M5) NF (0 : Int32) M
set_option maxRecDepth 20000 in
set_option maxHeartbeats 2000000 in
theorem sX10_tries_L2 {wv : Nat} {res : Mm} {K : Int32 → Mm → Option Mm} : ∀ (n : Nat) (v1 : Int32) (M : Mm), fX10_tries_L2 K n v1 M = some res →
    (∀ (v1 : Int32) (M : Mm), K v1 M = some res → Z RX10 cX10_tries 2 none [] "tries" (rmD 0 0 0) (QM SH (allR (wv + 1)) 0 0 (fun v M9 => v = none ∧ M9 = res) (fun _ _ => False)) (allR (wv + 1)) SH 0 0 27 [some (.inr (18, 0, 0)), some (.inl (.int v1))] [] M) → Z RX10 cX10_tries 2 none [] "tries" (rmD 0 0 0) (QM SH (allR (wv + 1)) 0 0 (fun v M9 => v = none ∧ M9 = res) (fun _ _ => False)) (allR (wv + 1)) SH 0 0 2 [some (.inr (18, 0, 0)), some (.inl (.int v1))] [] M := by
  intro n
  induction n with
  | zero => intro v1 M h; cases h
  | succ n ih =>
    intro v1 M h hK
    rw [fX10_tries_L2] at h
    refine z_iload_n (i := 1) dX10_tries_2 rfl rfl ?_
    refine z_sipush (v := (280 : Int32)) dX10_tries_3 ks_280 ?_
    refine z_icmp_ge (tgt := 27) dX10_tries_6 rfl (fun hc1 => ?_) (fun hc1 => ?_)
    · have h := it_t h hc1
      exact hK _ _ h
    · have h := it_f h hc1
      refine z_aload_n (i := 0) dX10_tries_9 rfl rfl ?_
      refine z_getR (r' := (19, 1, 0)) dX10_tries_10 fl_X10_13 mk18 rfl rfl ?_
      refine z_iload_n (i := 1) dX10_tries_13 rfl rfl ?_
      refine z_aload_n (i := 0) dX10_tries_14 rfl rfl ?_
      refine z_getR (r' := (19, 0, 0)) dX10_tries_15 fl_X10_7 mk18 rfl rfl ?_
      refine z_iload_n (i := 1) dX10_tries_18 rfl rfl ?_
      obtain ⟨hc2, h⟩ := chk h
      refine z_iald (x := (M.1 (19, 0, 0) v1.toNatClampNeg)) dX10_tries_19 (m19 _ (Nat.le_of_ble_eq_true rfl)) rfl hc2 rfl ?_
      obtain ⟨hc3, h⟩ := chk h
      refine z_iast (j := v1.toNatClampNeg) allR_nd dX10_tries_20 (m19 _ (Nat.le_of_ble_eq_true rfl)) rfl hc3 rfl ?_
      refine z_iinc (i := 1) (v := (v1 + (1 : Int32))) dX10_tries_21 rfl (iinc_k kc_1) (Nat.le_of_ble_eq_true rfl) rfl ?_
      refine z_goto (tgt := 2) dX10_tries_24 rfl ?_
      exact ih _ _ h hK
set_option maxRecDepth 20000 in
set_option maxHeartbeats 2000000 in
theorem sX10_tries {wv : Nat} (M : Mm) {res : Mm} (h : fX10_tries M  = some res) : TF (wv + 1) yX10_tries cX10_tries 2 none 0 [.inr (18, 0, 0)] M (none) res := by
  rw [fX10_tries] at h
  refine TF.go (n := 1) (ls := [some (.inr (18, 0, 0)), none]) rfl rfl rfl rfl rfl ?_
  refine z_iconst (v := (0 : Int32)) dX10_tries_0 kc_0 ?_
  refine z_istore_n (i := 1) dX10_tries_1 rfl (Nat.le_of_ble_eq_true rfl) rfl ?_
  refine sX10_tries_L2  NF _ _ h (fun w4 M5 h => ?_)
  cases h
  exact z_vret dX10_tries_27 rfl (Nat.le_refl _) (Nat.le_refl _) ⟨rfl, rfl⟩
theorem dX10_back_0 : decode cX10_back 0 = .ok (.iconst 0, 1) := by decide +kernel
theorem dX10_back_1 : decode cX10_back 1 = .ok (.istore_n 2, 1) := by decide +kernel
theorem dX10_back_2 : decode cX10_back 2 = .ok (.iload_n 2, 1) := by decide +kernel
theorem dX10_back_3 : decode cX10_back 3 = .ok (.sipush 280, 3) := by decide +kernel
theorem dX10_back_6 : decode cX10_back 6 = .ok (.if_icmp .ge 21, 3) := by decide +kernel
theorem dX10_back_9 : decode cX10_back 9 = .ok (.aload_n 0, 1) := by decide +kernel
theorem dX10_back_10 : decode cX10_back 10 = .ok (.getfield 7, 3) := by decide +kernel
theorem dX10_back_13 : decode cX10_back 13 = .ok (.iload_n 2, 1) := by decide +kernel
theorem dX10_back_14 : decode cX10_back 14 = .ok (.aload_n 0, 1) := by decide +kernel
theorem dX10_back_15 : decode cX10_back 15 = .ok (.getfield 13, 3) := by decide +kernel
theorem dX10_back_18 : decode cX10_back 18 = .ok (.iload_n 2, 1) := by decide +kernel
theorem dX10_back_19 : decode cX10_back 19 = .ok (.iaload, 1) := by decide +kernel
theorem dX10_back_20 : decode cX10_back 20 = .ok (.iastore, 1) := by decide +kernel
theorem dX10_back_21 : decode cX10_back 21 = .ok (.iinc 2 1, 3) := by decide +kernel
theorem dX10_back_24 : decode cX10_back 24 = .ok (.goto (-22), 3) := by decide +kernel
theorem dX10_back_27 : decode cX10_back 27 = .ok (.iload_n 1, 1) := by decide +kernel
theorem dX10_back_28 : decode cX10_back 28 = .ok (.ireturn, 1) := by decide +kernel
def fX10_back_L2 (c1 : Int32) (K : Int32 → Mm → Option (Int32 × Mm)) : Nat → Int32 → Mm → Option (Int32 × Mm)
  | 0, _, _ => none
  | n + 1, v2, M => if (280 : Int32) ≤ v2 then K v2 M else if v2 < 0 ∨ 280 ≤ v2.toNatClampNeg then none else if v2 < 0 ∨ 280 ≤ v2.toNatClampNeg then none else fX10_back_L2 c1 K n (v2 + (1 : Int32)) (putI M (19, 0, 0) v2.toNatClampNeg (M.1 (19, 1, 0) v2.toNatClampNeg))
def fX10_back (M : Mm) (x1 : Int32) : Option (Int32 × Mm) := fX10_back_L2 x1 (fun w4 M5 => some (x1, M5)) NF (0 : Int32) M
set_option maxRecDepth 20000 in
set_option maxHeartbeats 2000000 in
theorem sX10_back_L2 {wv : Nat} (c1 : Int32) {res : (Int32 × Mm)} {K : Int32 → Mm → Option (Int32 × Mm)} : ∀ (n : Nat) (v2 : Int32) (M : Mm), fX10_back_L2 c1 K n v2 M = some res →
    (∀ (v2 : Int32) (M : Mm), K v2 M = some res → Z RX10 cX10_back 3 (some .int) [] "back" (rmD 0 0 0) (QM SH (allR (wv + 1)) 0 0 (fun v M9 => v = some (.int res.1) ∧ M9 = res.2) (fun _ _ => False)) (allR (wv + 1)) SH 0 0 27 [some (.inr (18, 0, 0)), some (.inl (.int c1)), some (.inl (.int v2))] [] M) → Z RX10 cX10_back 3 (some .int) [] "back" (rmD 0 0 0) (QM SH (allR (wv + 1)) 0 0 (fun v M9 => v = some (.int res.1) ∧ M9 = res.2) (fun _ _ => False)) (allR (wv + 1)) SH 0 0 2 [some (.inr (18, 0, 0)), some (.inl (.int c1)), some (.inl (.int v2))] [] M := by
  intro n
  induction n with
  | zero => intro v2 M h; cases h
  | succ n ih =>
    intro v2 M h hK
    rw [fX10_back_L2] at h
    refine z_iload_n (i := 2) dX10_back_2 rfl rfl ?_
    refine z_sipush (v := (280 : Int32)) dX10_back_3 ks_280 ?_
    refine z_icmp_ge (tgt := 27) dX10_back_6 rfl (fun hc1 => ?_) (fun hc1 => ?_)
    · have h := it_t h hc1
      exact hK _ _ h
    · have h := it_f h hc1
      refine z_aload_n (i := 0) dX10_back_9 rfl rfl ?_
      refine z_getR (r' := (19, 0, 0)) dX10_back_10 fl_X10_7 mk18 rfl rfl ?_
      refine z_iload_n (i := 2) dX10_back_13 rfl rfl ?_
      refine z_aload_n (i := 0) dX10_back_14 rfl rfl ?_
      refine z_getR (r' := (19, 1, 0)) dX10_back_15 fl_X10_13 mk18 rfl rfl ?_
      refine z_iload_n (i := 2) dX10_back_18 rfl rfl ?_
      obtain ⟨hc2, h⟩ := chk h
      refine z_iald (x := (M.1 (19, 1, 0) v2.toNatClampNeg)) dX10_back_19 (m19 _ (Nat.le_of_ble_eq_true rfl)) rfl hc2 rfl ?_
      obtain ⟨hc3, h⟩ := chk h
      refine z_iast (j := v2.toNatClampNeg) allR_nd dX10_back_20 (m19 _ (Nat.le_of_ble_eq_true rfl)) rfl hc3 rfl ?_
      refine z_iinc (i := 2) (v := (v2 + (1 : Int32))) dX10_back_21 rfl (iinc_k kc_1) (Nat.le_of_ble_eq_true rfl) rfl ?_
      refine z_goto (tgt := 2) dX10_back_24 rfl ?_
      exact ih _ _ h hK
set_option maxRecDepth 20000 in
set_option maxHeartbeats 2000000 in
theorem sX10_back {wv : Nat} (M : Mm) (x1 : Int32) {res : (Int32 × Mm)} (h : fX10_back M x1 = some res) : TF (wv + 1) yX10_back cX10_back 3 (some .int) 0 [.inr (18, 0, 0), .inl (.int x1)] M (some (.int res.1)) res.2 := by
  rw [fX10_back] at h
  refine TF.go (n := 1) (ls := [some (.inr (18, 0, 0)), some (.inl (.int x1)), none]) rfl rfl rfl rfl rfl ?_
  refine z_iconst (v := (0 : Int32)) dX10_back_0 kc_0 ?_
  refine z_istore_n (i := 2) dX10_back_1 rfl (Nat.le_of_ble_eq_true rfl) rfl ?_
  refine sX10_back_L2 x1 NF _ _ h (fun w4 M5 h => ?_)
  refine z_iload_n (i := 1) dX10_back_27 rfl rfl ?_
  cases h
  exact z_iret dX10_back_28 rfl rfl (Nat.le_refl _) (Nat.le_refl _) ⟨rfl, rfl⟩
