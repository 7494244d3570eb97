theorem dX3_longestRestOf_0 : decode cX3_longestRestOf 0 = .ok (.iconst 0, 1) := by decide +kernel
theorem dX3_longestRestOf_1 : decode cX3_longestRestOf 1 = .ok (.istore_n 2, 1) := by decide +kernel
theorem dX3_longestRestOf_2 : decode cX3_longestRestOf 2 = .ok (.iconst 0, 1) := by decide +kernel
theorem dX3_longestRestOf_3 : decode cX3_longestRestOf 3 = .ok (.istore_n 3, 1) := by decide +kernel
theorem dX3_longestRestOf_4 : decode cX3_longestRestOf 4 = .ok (.iconst 0, 1) := by decide +kernel
theorem dX3_longestRestOf_5 : decode cX3_longestRestOf 5 = .ok (.istore 4, 2) := by decide +kernel
theorem dX3_longestRestOf_7 : decode cX3_longestRestOf 7 = .ok (.iload 4, 2) := by decide +kernel
theorem dX3_longestRestOf_9 : decode cX3_longestRestOf 9 = .ok (.iconst 2, 1) := by decide +kernel
theorem dX3_longestRestOf_10 : decode cX3_longestRestOf 10 = .ok (.aload_n 0, 1) := by decide +kernel
theorem dX3_longestRestOf_11 : decode cX3_longestRestOf 11 = .ok (.getfield 15, 3) := by decide +kernel
theorem dX3_longestRestOf_14 : decode cX3_longestRestOf 14 = .ok (.imul, 1) := by decide +kernel
theorem dX3_longestRestOf_15 : decode cX3_longestRestOf 15 = .ok (.if_icmp .ge 56, 3) := by decide +kernel
theorem dX3_longestRestOf_18 : decode cX3_longestRestOf 18 = .ok (.iload 4, 2) := by decide +kernel
theorem dX3_longestRestOf_20 : decode cX3_longestRestOf 20 = .ok (.aload_n 0, 1) := by decide +kernel
theorem dX3_longestRestOf_21 : decode cX3_longestRestOf 21 = .ok (.getfield 15, 3) := by decide +kernel
theorem dX3_longestRestOf_24 : decode cX3_longestRestOf 24 = .ok (.if_icmp .ge 8, 3) := by decide +kernel
theorem dX3_longestRestOf_27 : decode cX3_longestRestOf 27 = .ok (.iload 4, 2) := by decide +kernel
theorem dX3_longestRestOf_29 : decode cX3_longestRestOf 29 = .ok (.goto 10, 3) := by decide +kernel
theorem dX3_longestRestOf_32 : decode cX3_longestRestOf 32 = .ok (.iload 4, 2) := by decide +kernel
theorem dX3_longestRestOf_34 : decode cX3_longestRestOf 34 = .ok (.aload_n 0, 1) := by decide +kernel
theorem dX3_longestRestOf_35 : decode cX3_longestRestOf 35 = .ok (.getfield 15, 3) := by decide +kernel
theorem dX3_longestRestOf_38 : decode cX3_longestRestOf 38 = .ok (.isub, 1) := by decide +kernel
theorem dX3_longestRestOf_39 : decode cX3_longestRestOf 39 = .ok (.istore 5, 2) := by decide +kernel
theorem dX3_longestRestOf_41 : decode cX3_longestRestOf 41 = .ok (.aload_n 0, 1) := by decide +kernel
theorem dX3_longestRestOf_42 : decode cX3_longestRestOf 42 = .ok (.iload_n 1, 1) := by decide +kernel
theorem dX3_longestRestOf_43 : decode cX3_longestRestOf 43 = .ok (.iload 5, 2) := by decide +kernel
theorem dX3_longestRestOf_45 : decode cX3_longestRestOf 45 = .ok (.invokevirtual 61, 3) := by decide +kernel
theorem dX3_longestRestOf_48 : decode cX3_longestRestOf 48 = .ok (.ifCond .ne 9, 3) := by decide +kernel
theorem dX3_longestRestOf_51 : decode cX3_longestRestOf 51 = .ok (.iload_n 3, 1) := by decide +kernel
theorem dX3_longestRestOf_52 : decode cX3_longestRestOf 52 = .ok (.iconst 1, 1) := by decide +kernel
theorem dX3_longestRestOf_53 : decode cX3_longestRestOf 53 = .ok (.iadd, 1) := by decide +kernel
theorem dX3_longestRestOf_54 : decode cX3_longestRestOf 54 = .ok (.goto 4, 3) := by decide +kernel
theorem dX3_longestRestOf_57 : decode cX3_longestRestOf 57 = .ok (.iconst 0, 1) := by decide +kernel
theorem dX3_longestRestOf_58 : decode cX3_longestRestOf 58 = .ok (.istore_n 3, 1) := by decide +kernel
theorem dX3_longestRestOf_59 : decode cX3_longestRestOf 59 = .ok (.iload_n 2, 1) := by decide +kernel
theorem dX3_longestRestOf_60 : decode cX3_longestRestOf 60 = .ok (.iload_n 3, 1) := by decide +kernel
theorem dX3_longestRestOf_61 : decode cX3_longestRestOf 61 = .ok (.invokestatic 65, 3) := by decide +kernel
theorem dX3_longestRestOf_64 : decode cX3_longestRestOf 64 = .ok (.istore_n 2, 1) := by decide +kernel
theorem dX3_longestRestOf_65 : decode cX3_longestRestOf 65 = .ok (.iinc 4 1, 3) := by decide +kernel
theorem dX3_longestRestOf_68 : decode cX3_longestRestOf 68 = .ok (.goto (-61), 3) := by decide +kernel
theorem dX3_longestRestOf_71 : decode cX3_longestRestOf 71 = .ok (.iload_n 2, 1) := by decide +kernel
theorem dX3_longestRestOf_72 : decode cX3_longestRestOf 72 = .ok (.aload_n 0, 1) := by decide +kernel
theorem dX3_longestRestOf_73 : decode cX3_longestRestOf 73 = .ok (.getfield 15, 3) := by decide +kernel
theorem dX3_longestRestOf_76 : decode cX3_longestRestOf 76 = .ok (.invokestatic 70, 3) := by decide +kernel
theorem dX3_longestRestOf_79 : decode cX3_longestRestOf 79 = .ok (.ireturn, 1) := by decide +kernel
def fX3_longestRestOf_L7 (M : Mm) (i : Nat) (c1 : Int32) (K : Int32 → Int32 → Int32 → Option Int32) : Nat → Int32 → Int32 → Int32 → Option Int32
  | 0, _, _, _ => none
  | n + 1, v2, v3, v4 => if ((2 : Int32) * (M.1 (10, i, 0) 1)) ≤ v4 then K v2 v3 v4 else if (M.1 (10, i, 0) 1) ≤ v4 then ((fX3_teethAt M i c1 (v4 - (M.1 (10, i, 0) 1))).bind fun q3 => if q3 = 0 then fX3_longestRestOf_L7 M i c1 K n (fJ9_max_7cf53 M v2 (v3 + (1 : Int32))) (v3 + (1 : Int32)) (v4 + (1 : Int32)) else fX3_longestRestOf_L7 M i c1 K n (fJ9_max_7cf53 M v2 (0 : Int32)) (0 : Int32) (v4 + (1 : Int32))) else (fX3_teethAt M i c1 v4).bind fun q6 => if q6 = 0 then fX3_longestRestOf_L7 M i c1 K n (fJ9_max_7cf53 M v2 (v3 + (1 : Int32))) (v3 + (1 : Int32)) (v4 + (1 : Int32)) else fX3_longestRestOf_L7 M i c1 K n (fJ9_max_7cf53 M v2 (0 : Int32)) (0 : Int32) (v4 + (1 : Int32))
def fX3_longestRestOf (M : Mm) (i : Nat) (x1 : Int32) : Option Int32 := fX3_longestRestOf_L7 M i x1 (fun w9 w10 w11 => some (fJ9_min_7cf53 M w9 (M.1 (10, i, 0) 1))) NF (0 : Int32) (0 : Int32) (0 : Int32)
set_option maxRecDepth 20000 in
set_option maxHeartbeats 2000000 in
theorem sX3_longestRestOf_L7 {wv : Nat} (M : Mm) (i : Nat) (c1 : Int32) (hi : i < 12) {res : Int32} {K : Int32 → Int32 → Int32 → Option Int32} : ∀ (n : Nat) (v2 : Int32) (v3 : Int32) (v4 : Int32), fX3_longestRestOf_L7 M i c1 K n v2 v3 v4 = some res →
    (∀ (v2 : Int32) (v3 : Int32) (v4 : Int32), K v2 v3 v4 = some res → Z RX3 cX3_longestRestOf 6 (some .int) [] "longestRestOf" (rmD 2 0 0) (QM SH (allR wv) 0 0 (fun v M9 => v = some (.int res) ∧ M9 = M) (fun _ _ => False)) (allR wv) SH 0 0 71 [some (.inr (10, i, 0)), some (.inl (.int c1)), some (.inl (.int v2)), some (.inl (.int v3)), some (.inl (.int v4)), none] [] M) → Z RX3 cX3_longestRestOf 6 (some .int) [] "longestRestOf" (rmD 2 0 0) (QM SH (allR wv) 0 0 (fun v M9 => v = some (.int res) ∧ M9 = M) (fun _ _ => False)) (allR wv) SH 0 0 7 [some (.inr (10, i, 0)), some (.inl (.int c1)), some (.inl (.int v2)), some (.inl (.int v3)), some (.inl (.int v4)), none] [] M := by
  intro n
  induction n with
  | zero => intro v2 v3 v4 h; cases h
  | succ n ih =>
    intro v2 v3 v4 h hK
    rw [fX3_longestRestOf_L7] at h
    refine z_iload (i := 4) dX3_longestRestOf_7 rfl ?_
    refine z_iconst (v := (2 : Int32)) dX3_longestRestOf_9 kc_2 ?_
    refine z_aload_n (i := 0) dX3_longestRestOf_10 rfl rfl ?_
    refine z_getI (x := (M.1 (10, i, 0) 1)) dX3_longestRestOf_11 fl_X3_15 (m10 _ hi) rfl rfl ?_
    refine z_imul dX3_longestRestOf_14 ?_
    refine z_icmp_ge (tgt := 71) dX3_longestRestOf_15 rfl (fun hc1 => ?_) (fun hc1 => ?_)
    · have h := it_t h hc1
      exact hK _ _ _ h
    · have h := it_f h hc1
      refine z_iload (i := 4) dX3_longestRestOf_18 rfl ?_
      refine z_aload_n (i := 0) dX3_longestRestOf_20 rfl rfl ?_
      refine z_getI (x := (M.1 (10, i, 0) 1)) dX3_longestRestOf_21 fl_X3_15 (m10 _ hi) rfl rfl ?_
      refine z_icmp_ge (tgt := 32) dX3_longestRestOf_24 rfl (fun hc2 => ?_) (fun hc2 => ?_)
      · have h := it_t h hc2
        refine z_iload (i := 4) dX3_longestRestOf_32 rfl ?_
        refine z_aload_n (i := 0) dX3_longestRestOf_34 rfl rfl ?_
        refine z_getI (x := (M.1 (10, i, 0) 1)) dX3_longestRestOf_35 fl_X3_15 (m10 _ hi) rfl rfl ?_
        refine z_isub dX3_longestRestOf_38 ?_
        refine z_istore (i := 5) dX3_longestRestOf_39 (Nat.le_of_ble_eq_true rfl) rfl ?_
        refine z_aload_n (i := 0) dX3_longestRestOf_41 rfl rfl ?_
        refine z_iload_n (i := 1) dX3_longestRestOf_42 rfl rfl ?_
        refine z_iload (i := 5) dX3_longestRestOf_43 rfl ?_
        obtain ⟨q3, hq4, h⟩ := bnd h
        refine z_fVi (sX3_teethAt M i c1 (v4 - (M.1 (10, i, 0) 1)) hi hq4) dX3_longestRestOf_45 ml_X3_61 cd_X3_teethAt (m10 _ hi) rfl rfl rfl rfl rfl rfl ?_
        refine z_if_ne (tgt := 57) dX3_longestRestOf_48 rfl (fun hc5 => ?_) (fun hc5 => ?_)
        · have h := it_f h hc5
          refine z_iconst (v := (0 : Int32)) dX3_longestRestOf_57 kc_0 ?_
          refine z_istore_n (i := 3) dX3_longestRestOf_58 rfl (Nat.le_of_ble_eq_true rfl) rfl ?_
          refine z_iload_n (i := 2) dX3_longestRestOf_59 rfl rfl ?_
          refine z_iload_n (i := 3) dX3_longestRestOf_60 rfl rfl ?_
          refine z_fSi (sJ9_max_7cf53 M v2 (0 : Int32)) dX3_longestRestOf_61 ml_X3_65 cd_J9_max_7cf53 rfl rfl rfl rfl rfl ?_
          refine z_istore_n (i := 2) dX3_longestRestOf_64 rfl (Nat.le_of_ble_eq_true rfl) rfl ?_
          refine z_iinc (i := 4) (v := (v4 + (1 : Int32))) dX3_longestRestOf_65 rfl (iinc_k kc_1) (Nat.le_of_ble_eq_true rfl) rfl ?_
          refine z_goto (tgt := 7) dX3_longestRestOf_68 rfl ?_
          refine z_fgt (i := 5) ?_
          exact ih _ _ _ h hK
        · have h := it_t h hc5
          refine z_iload_n (i := 3) dX3_longestRestOf_51 rfl rfl ?_
          refine z_iconst (v := (1 : Int32)) dX3_longestRestOf_52 kc_1 ?_
          refine z_iadd dX3_longestRestOf_53 ?_
          refine z_goto (tgt := 58) dX3_longestRestOf_54 rfl ?_
          refine z_istore_n (i := 3) dX3_longestRestOf_58 rfl (Nat.le_of_ble_eq_true rfl) rfl ?_
          refine z_iload_n (i := 2) dX3_longestRestOf_59 rfl rfl ?_
          refine z_iload_n (i := 3) dX3_longestRestOf_60 rfl rfl ?_
          refine z_fSi (sJ9_max_7cf53 M v2 (v3 + (1 : Int32))) dX3_longestRestOf_61 ml_X3_65 cd_J9_max_7cf53 rfl rfl rfl rfl rfl ?_
          refine z_istore_n (i := 2) dX3_longestRestOf_64 rfl (Nat.le_of_ble_eq_true rfl) rfl ?_
          refine z_iinc (i := 4) (v := (v4 + (1 : Int32))) dX3_longestRestOf_65 rfl (iinc_k kc_1) (Nat.le_of_ble_eq_true rfl) rfl ?_
          refine z_goto (tgt := 7) dX3_longestRestOf_68 rfl ?_
          refine z_fgt (i := 5) ?_
          exact ih _ _ _ h hK
      · have h := it_f h hc2
        refine z_iload (i := 4) dX3_longestRestOf_27 rfl ?_
        refine z_goto (tgt := 39) dX3_longestRestOf_29 rfl ?_
        refine z_istore (i := 5) dX3_longestRestOf_39 (Nat.le_of_ble_eq_true rfl) rfl ?_
        refine z_aload_n (i := 0) dX3_longestRestOf_41 rfl rfl ?_
        refine z_iload_n (i := 1) dX3_longestRestOf_42 rfl rfl ?_
        refine z_iload (i := 5) dX3_longestRestOf_43 rfl ?_
        obtain ⟨q6, hq7, h⟩ := bnd h
        refine z_fVi (sX3_teethAt M i c1 v4 hi hq7) dX3_longestRestOf_45 ml_X3_61 cd_X3_teethAt (m10 _ hi) rfl rfl rfl rfl rfl rfl ?_
        refine z_if_ne (tgt := 57) dX3_longestRestOf_48 rfl (fun hc8 => ?_) (fun hc8 => ?_)
        · have h := it_f h hc8
          refine z_iconst (v := (0 : Int32)) dX3_longestRestOf_57 kc_0 ?_
          refine z_istore_n (i := 3) dX3_longestRestOf_58 rfl (Nat.le_of_ble_eq_true rfl) rfl ?_
          refine z_iload_n (i := 2) dX3_longestRestOf_59 rfl rfl ?_
          refine z_iload_n (i := 3) dX3_longestRestOf_60 rfl rfl ?_
          refine z_fSi (sJ9_max_7cf53 M v2 (0 : Int32)) dX3_longestRestOf_61 ml_X3_65 cd_J9_max_7cf53 rfl rfl rfl rfl rfl ?_
          refine z_istore_n (i := 2) dX3_longestRestOf_64 rfl (Nat.le_of_ble_eq_true rfl) rfl ?_
          refine z_iinc (i := 4) (v := (v4 + (1 : Int32))) dX3_longestRestOf_65 rfl (iinc_k kc_1) (Nat.le_of_ble_eq_true rfl) rfl ?_
          refine z_goto (tgt := 7) dX3_longestRestOf_68 rfl ?_
          refine z_fgt (i := 5) ?_
          exact ih _ _ _ h hK
        · have h := it_t h hc8
          refine z_iload_n (i := 3) dX3_longestRestOf_51 rfl rfl ?_
          refine z_iconst (v := (1 : Int32)) dX3_longestRestOf_52 kc_1 ?_
          refine z_iadd dX3_longestRestOf_53 ?_
          refine z_goto (tgt := 58) dX3_longestRestOf_54 rfl ?_
          refine z_istore_n (i := 3) dX3_longestRestOf_58 rfl (Nat.le_of_ble_eq_true rfl) rfl ?_
          refine z_iload_n (i := 2) dX3_longestRestOf_59 rfl rfl ?_
          refine z_iload_n (i := 3) dX3_longestRestOf_60 rfl rfl ?_
          refine z_fSi (sJ9_max_7cf53 M v2 (v3 + (1 : Int32))) dX3_longestRestOf_61 ml_X3_65 cd_J9_max_7cf53 rfl rfl rfl rfl rfl ?_
          refine z_istore_n (i := 2) dX3_longestRestOf_64 rfl (Nat.le_of_ble_eq_true rfl) rfl ?_
          refine z_iinc (i := 4) (v := (v4 + (1 : Int32))) dX3_longestRestOf_65 rfl (iinc_k kc_1) (Nat.le_of_ble_eq_true rfl) rfl ?_
          refine z_goto (tgt := 7) dX3_longestRestOf_68 rfl ?_
          refine z_fgt (i := 5) ?_
          exact ih _ _ _ h hK
set_option maxRecDepth 20000 in
set_option maxHeartbeats 2000000 in
theorem sX3_longestRestOf {wv : Nat} (M : Mm) (i : Nat) (x1 : Int32) (hi : i < 12) {res : Int32} (h : fX3_longestRestOf M i x1 = some res) : TF wv yX3_longestRestOf cX3_longestRestOf 6 (some .int) 2 [.inr (10, i, 0), .inl (.int x1)] M (some (.int res)) M := by
  rw [fX3_longestRestOf] at h
  refine TF.go (n := 4) (ls := [some (.inr (10, i, 0)), some (.inl (.int x1)), none, none, none, none]) rfl rfl rfl rfl rfl ?_
  refine z_iconst (v := (0 : Int32)) dX3_longestRestOf_0 kc_0 ?_
  refine z_istore_n (i := 2) dX3_longestRestOf_1 rfl (Nat.le_of_ble_eq_true rfl) rfl ?_
  refine z_iconst (v := (0 : Int32)) dX3_longestRestOf_2 kc_0 ?_
  refine z_istore_n (i := 3) dX3_longestRestOf_3 rfl (Nat.le_of_ble_eq_true rfl) rfl ?_
  refine z_iconst (v := (0 : Int32)) dX3_longestRestOf_4 kc_0 ?_
  refine z_istore (i := 4) dX3_longestRestOf_5 (Nat.le_of_ble_eq_true rfl) rfl ?_
  refine sX3_longestRestOf_L7 M i x1 hi NF _ _ _ h (fun w9 w10 w11 h => ?_)
  refine z_iload_n (i := 2) dX3_longestRestOf_71 rfl rfl ?_
  refine z_aload_n (i := 0) dX3_longestRestOf_72 rfl rfl ?_
  refine z_getI (x := (M.1 (10, i, 0) 1)) dX3_longestRestOf_73 fl_X3_15 (m10 _ hi) rfl rfl ?_
  refine z_fSi (sJ9_min_7cf53 M w9 (M.1 (10, i, 0) 1)) dX3_longestRestOf_76 ml_X3_70 cd_J9_min_7cf53 rfl rfl rfl rfl rfl ?_
  cases h
  exact z_iret dX3_longestRestOf_79 rfl rfl (Nat.le_refl _) (Nat.le_refl _) ⟨rfl, rfl⟩
theorem dJ9_floorMod_7cf53_0 : decode cJ9_floorMod_7cf53 0 = .ok (.iload_n 0, 1) := by decide +kernel
theorem dJ9_floorMod_7cf53_1 : decode cJ9_floorMod_7cf53 1 = .ok (.iload_n 1, 1) := by decide +kernel
theorem dJ9_floorMod_7cf53_2 : decode cJ9_floorMod_7cf53 2 = .ok (.irem, 1) := by decide +kernel
theorem dJ9_floorMod_7cf53_3 : decode cJ9_floorMod_7cf53 3 = .ok (.istore_n 2, 1) := by decide +kernel
theorem dJ9_floorMod_7cf53_4 : decode cJ9_floorMod_7cf53 4 = .ok (.iload_n 0, 1) := by decide +kernel
theorem dJ9_floorMod_7cf53_5 : decode cJ9_floorMod_7cf53 5 = .ok (.iload_n 1, 1) := by decide +kernel
theorem dJ9_floorMod_7cf53_6 : decode cJ9_floorMod_7cf53 6 = .ok (.ixor, 1) := by decide +kernel
theorem dJ9_floorMod_7cf53_7 : decode cJ9_floorMod_7cf53 7 = .ok (.ifCond .ge 11, 3) := by decide +kernel
theorem dJ9_floorMod_7cf53_10 : decode cJ9_floorMod_7cf53 10 = .ok (.iload_n 2, 1) := by decide +kernel
theorem dJ9_floorMod_7cf53_11 : decode cJ9_floorMod_7cf53 11 = .ok (.ifCond .eq 7, 3) := by decide +kernel
theorem dJ9_floorMod_7cf53_14 : decode cJ9_floorMod_7cf53 14 = .ok (.iload_n 2, 1) := by decide +kernel
theorem dJ9_floorMod_7cf53_15 : decode cJ9_floorMod_7cf53 15 = .ok (.iload_n 1, 1) := by decide +kernel
theorem dJ9_floorMod_7cf53_16 : decode cJ9_floorMod_7cf53 16 = .ok (.iadd, 1) := by decide +kernel
theorem dJ9_floorMod_7cf53_17 : decode cJ9_floorMod_7cf53 17 = .ok (.ireturn, 1) := by decide +kernel
theorem dJ9_floorMod_7cf53_18 : decode cJ9_floorMod_7cf53 18 = .ok (.iload_n 2, 1) := by decide +kernel
theorem dJ9_floorMod_7cf53_19 : decode cJ9_floorMod_7cf53 19 = .ok (.ireturn, 1) := by decide +kernel
def fJ9_floorMod_7cf53 (M : Mm) (x1 : Int32) (x2 : Int32) : Option Int32 := if x2 = 0 then none else if 0 ≤ (x1 ^^^ x2) then some (x1 - x1 / x2 * x2) else if (x1 - x1 / x2 * x2) = 0 then some (x1 - x1 / x2 * x2) else some ((x1 - x1 / x2 * x2) + x2)
set_option maxRecDepth 20000 in
set_option maxHeartbeats 2000000 in
theorem sJ9_floorMod_7cf53 {wv : Nat} (M : Mm) (x1 : Int32) (x2 : Int32) {res : Int32} (h : fJ9_floorMod_7cf53 M x1 x2 = some res) : TF wv yJ9_floorMod_7cf53 cJ9_floorMod_7cf53 3 (some .int) 0 [.inl (.int x1), .inl (.int x2)] M (some (.int res)) M := by
  rw [fJ9_floorMod_7cf53] at h
  refine TF.go (n := 1) (ls := [some (.inl (.int x1)), some (.inl (.int x2)), none]) (by decide +kernel) rfl rfl rfl rfl ?_
  refine z_iload_n (i := 0) dJ9_floorMod_7cf53_0 rfl rfl ?_
  refine z_iload_n (i := 1) dJ9_floorMod_7cf53_1 rfl rfl ?_
  obtain ⟨hc1, h⟩ := chk h
  refine z_irem dJ9_floorMod_7cf53_2 hc1 ?_
  refine z_istore_n (i := 2) dJ9_floorMod_7cf53_3 rfl (Nat.le_of_ble_eq_true rfl) rfl ?_
  refine z_iload_n (i := 0) dJ9_floorMod_7cf53_4 rfl rfl ?_
  refine z_iload_n (i := 1) dJ9_floorMod_7cf53_5 rfl rfl ?_
  refine z_ixor dJ9_floorMod_7cf53_6 ?_
  refine z_if_ge (tgt := 18) dJ9_floorMod_7cf53_7 rfl (fun hc2 => ?_) (fun hc2 => ?_)
  · have h := it_t h hc2
    refine z_iload_n (i := 2) dJ9_floorMod_7cf53_18 rfl rfl ?_
    cases h
    exact z_iret dJ9_floorMod_7cf53_19 rfl rfl (Nat.le_refl _) (Nat.le_refl _) ⟨rfl, rfl⟩
  · have h := it_f h hc2
    refine z_iload_n (i := 2) dJ9_floorMod_7cf53_10 rfl rfl ?_
    refine z_if_eq (tgt := 18) dJ9_floorMod_7cf53_11 rfl (fun hc3 => ?_) (fun hc3 => ?_)
    · have h := it_t h hc3
      refine z_iload_n (i := 2) dJ9_floorMod_7cf53_18 rfl rfl ?_
      cases h
      exact z_iret dJ9_floorMod_7cf53_19 rfl rfl (Nat.le_refl _) (Nat.le_refl _) ⟨rfl, rfl⟩
    · have h := it_f h hc3
      refine z_iload_n (i := 2) dJ9_floorMod_7cf53_14 rfl rfl ?_
      refine z_iload_n (i := 1) dJ9_floorMod_7cf53_15 rfl rfl ?_
      refine z_iadd dJ9_floorMod_7cf53_16 ?_
      cases h
      exact z_iret dJ9_floorMod_7cf53_17 rfl rfl (Nat.le_refl _) (Nat.le_refl _) ⟨rfl, rfl⟩
theorem dX3_turnedRow_0 : decode cX3_turnedRow 0 = .ok (.lconst 0, 1) := by decide +kernel
theorem dX3_turnedRow_1 : decode cX3_turnedRow 1 = .ok (.lstore 4, 2) := by decide +kernel
theorem dX3_turnedRow_3 : decode cX3_turnedRow 3 = .ok (.iconst 0, 1) := by decide +kernel
theorem dX3_turnedRow_4 : decode cX3_turnedRow 4 = .ok (.istore 6, 2) := by decide +kernel
theorem dX3_turnedRow_6 : decode cX3_turnedRow 6 = .ok (.iload 6, 2) := by decide +kernel
theorem dX3_turnedRow_8 : decode cX3_turnedRow 8 = .ok (.aload_n 0, 1) := by decide +kernel
theorem dX3_turnedRow_9 : decode cX3_turnedRow 9 = .ok (.getfield 15, 3) := by decide +kernel
theorem dX3_turnedRow_12 : decode cX3_turnedRow 12 = .ok (.if_icmp .ge 52, 3) := by decide +kernel
theorem dX3_turnedRow_15 : decode cX3_turnedRow 15 = .ok (.iload 6, 2) := by decide +kernel
theorem dX3_turnedRow_17 : decode cX3_turnedRow 17 = .ok (.iload_n 3, 1) := by decide +kernel
theorem dX3_turnedRow_18 : decode cX3_turnedRow 18 = .ok (.iadd, 1) := by decide +kernel
theorem dX3_turnedRow_19 : decode cX3_turnedRow 19 = .ok (.aload_n 0, 1) := by decide +kernel
theorem dX3_turnedRow_20 : decode cX3_turnedRow 20 = .ok (.getfield 15, 3) := by decide +kernel
theorem dX3_turnedRow_23 : decode cX3_turnedRow 23 = .ok (.if_icmp .ge 10, 3) := by decide +kernel
theorem dX3_turnedRow_26 : decode cX3_turnedRow 26 = .ok (.iload 6, 2) := by decide +kernel
theorem dX3_turnedRow_28 : decode cX3_turnedRow 28 = .ok (.iload_n 3, 1) := by decide +kernel
theorem dX3_turnedRow_29 : decode cX3_turnedRow 29 = .ok (.iadd, 1) := by decide +kernel
theorem dX3_turnedRow_30 : decode cX3_turnedRow 30 = .ok (.goto 12, 3) := by decide +kernel
theorem dX3_turnedRow_33 : decode cX3_turnedRow 33 = .ok (.iload 6, 2) := by decide +kernel
theorem dX3_turnedRow_35 : decode cX3_turnedRow 35 = .ok (.iload_n 3, 1) := by decide +kernel
theorem dX3_turnedRow_36 : decode cX3_turnedRow 36 = .ok (.iadd, 1) := by decide +kernel
theorem dX3_turnedRow_37 : decode cX3_turnedRow 37 = .ok (.aload_n 0, 1) := by decide +kernel
theorem dX3_turnedRow_38 : decode cX3_turnedRow 38 = .ok (.getfield 15, 3) := by decide +kernel
theorem dX3_turnedRow_41 : decode cX3_turnedRow 41 = .ok (.isub, 1) := by decide +kernel
theorem dX3_turnedRow_42 : decode cX3_turnedRow 42 = .ok (.istore 7, 2) := by decide +kernel
theorem dX3_turnedRow_44 : decode cX3_turnedRow 44 = .ok (.lload 4, 2) := by decide +kernel
theorem dX3_turnedRow_46 : decode cX3_turnedRow 46 = .ok (.lload_n 1, 1) := by decide +kernel
theorem dX3_turnedRow_47 : decode cX3_turnedRow 47 = .ok (.iload 6, 2) := by decide +kernel
theorem dX3_turnedRow_49 : decode cX3_turnedRow 49 = .ok (.lushr, 1) := by decide +kernel
theorem dX3_turnedRow_50 : decode cX3_turnedRow 50 = .ok (.lconst 1, 1) := by decide +kernel
theorem dX3_turnedRow_51 : decode cX3_turnedRow 51 = .ok (.land, 1) := by decide +kernel
theorem dX3_turnedRow_52 : decode cX3_turnedRow 52 = .ok (.iload 7, 2) := by decide +kernel
theorem dX3_turnedRow_54 : decode cX3_turnedRow 54 = .ok (.lshl, 1) := by decide +kernel
theorem dX3_turnedRow_55 : decode cX3_turnedRow 55 = .ok (.lor, 1) := by decide +kernel
theorem dX3_turnedRow_56 : decode cX3_turnedRow 56 = .ok (.lstore 4, 2) := by decide +kernel
theorem dX3_turnedRow_58 : decode cX3_turnedRow 58 = .ok (.iinc 6 1, 3) := by decide +kernel
theorem dX3_turnedRow_61 : decode cX3_turnedRow 61 = .ok (.goto (-55), 3) := by decide +kernel
theorem dX3_turnedRow_64 : decode cX3_turnedRow 64 = .ok (.lload 4, 2) := by decide +kernel
theorem dX3_turnedRow_66 : decode cX3_turnedRow 66 = .ok (.lreturn, 1) := by decide +kernel
def fX3_turnedRow_L6 (M : Mm) (i : Nat) (c1 : Int64) (c3 : Int32) (K : Int64 → Int32 → Option Int64) : Nat → Int64 → Int32 → Option Int64
  | 0, _, _ => none
  | n + 1, v4, v6 => if (M.1 (10, i, 0) 1) ≤ v6 then K v4 v6 else if (M.1 (10, i, 0) 1) ≤ (v6 + c3) then fX3_turnedRow_L6 M i c1 c3 K n (v4 ||| ((((c1.toUInt64 >>> (v6.toInt64.toUInt64 &&& Int64.toUInt64 63)).toInt64) &&& (1 : Int64)) <<< (((v6 + c3) - (M.1 (10, i, 0) 1)).toInt64 &&& 63))) (v6 + (1 : Int32)) else fX3_turnedRow_L6 M i c1 c3 K n (v4 ||| ((((c1.toUInt64 >>> (v6.toInt64.toUInt64 &&& Int64.toUInt64 63)).toInt64) &&& (1 : Int64)) <<< ((v6 + c3).toInt64 &&& 63))) (v6 + (1 : Int32))
def fX3_turnedRow (M : Mm) (i : Nat) (x1 : Int64) (x2 : Int32) : Option Int64 := fX3_turnedRow_L6 M i x1 x2 (fun w3 w4 => some w3) NF (0 : Int64) (0 : Int32)
set_option maxRecDepth 20000 in
set_option maxHeartbeats 2000000 in
theorem sX3_turnedRow_L6 {wv : Nat} (M : Mm) (i : Nat) (c1 : Int64) (c3 : Int32) (hi : i < 12) {res : Int64} {K : Int64 → Int32 → Option Int64} : ∀ (n : Nat) (v4 : Int64) (v6 : Int32), fX3_turnedRow_L6 M i c1 c3 K n v4 v6 = some res →
    (∀ (v4 : Int64) (v6 : Int32), K v4 v6 = some res → Z RX3 cX3_turnedRow 8 (some .long) [] "turnedRow" (rmD 0 0 0) (QM SH (allR wv) 0 0 (fun v M9 => v = some (.long res) ∧ M9 = M) (fun _ _ => False)) (allR wv) SH 0 0 64 [some (.inr (10, i, 0)), some (.inl (.long c1)), none, some (.inl (.int c3)), some (.inl (.long v4)), none, some (.inl (.int v6)), none] [] M) → Z RX3 cX3_turnedRow 8 (some .long) [] "turnedRow" (rmD 0 0 0) (QM SH (allR wv) 0 0 (fun v M9 => v = some (.long res) ∧ M9 = M) (fun _ _ => False)) (allR wv) SH 0 0 6 [some (.inr (10, i, 0)), some (.inl (.long c1)), none, some (.inl (.int c3)), some (.inl (.long v4)), none, some (.inl (.int v6)), none] [] M := by
  intro n
  induction n with
  | zero => intro v4 v6 h; cases h
  | succ n ih =>
    intro v4 v6 h hK
    rw [fX3_turnedRow_L6] at h
    refine z_iload (i := 6) dX3_turnedRow_6 rfl ?_
    refine z_aload_n (i := 0) dX3_turnedRow_8 rfl rfl ?_
    refine z_getI (x := (M.1 (10, i, 0) 1)) dX3_turnedRow_9 fl_X3_15 (m10 _ hi) rfl rfl ?_
    refine z_icmp_ge (tgt := 64) dX3_turnedRow_12 rfl (fun hc1 => ?_) (fun hc1 => ?_)
    · have h := it_t h hc1
      exact hK _ _ h
    · have h := it_f h hc1
      refine z_iload (i := 6) dX3_turnedRow_15 rfl ?_
      refine z_iload_n (i := 3) dX3_turnedRow_17 rfl rfl ?_
      refine z_iadd dX3_turnedRow_18 ?_
      refine z_aload_n (i := 0) dX3_turnedRow_19 rfl rfl ?_
      refine z_getI (x := (M.1 (10, i, 0) 1)) dX3_turnedRow_20 fl_X3_15 (m10 _ hi) rfl rfl ?_
      refine z_icmp_ge (tgt := 33) dX3_turnedRow_23 rfl (fun hc2 => ?_) (fun hc2 => ?_)
      · have h := it_t h hc2
        refine z_iload (i := 6) dX3_turnedRow_33 rfl ?_
        refine z_iload_n (i := 3) dX3_turnedRow_35 rfl rfl ?_
        refine z_iadd dX3_turnedRow_36 ?_
        refine z_aload_n (i := 0) dX3_turnedRow_37 rfl rfl ?_
        refine z_getI (x := (M.1 (10, i, 0) 1)) dX3_turnedRow_38 fl_X3_15 (m10 _ hi) rfl rfl ?_
        refine z_isub dX3_turnedRow_41 ?_
        refine z_istore (i := 7) dX3_turnedRow_42 (Nat.le_of_ble_eq_true rfl) rfl ?_
        refine z_lload (i := 4) dX3_turnedRow_44 rfl ?_
        refine z_lload_n (i := 1) dX3_turnedRow_46 rfl rfl ?_
        refine z_iload (i := 6) dX3_turnedRow_47 rfl ?_
        refine z_lushr dX3_turnedRow_49 ?_
        refine z_lconst (v := (1 : Int64)) dX3_turnedRow_50 (by decide) ?_
        refine z_land dX3_turnedRow_51 ?_
        refine z_iload (i := 7) dX3_turnedRow_52 rfl ?_
        refine z_lshl dX3_turnedRow_54 ?_
        refine z_lor dX3_turnedRow_55 ?_
        refine z_lstore (i := 4) dX3_turnedRow_56 (Nat.le_of_ble_eq_true rfl) rfl ?_
        refine z_iinc (i := 6) (v := (v6 + (1 : Int32))) dX3_turnedRow_58 rfl (iinc_k kc_1) (Nat.le_of_ble_eq_true rfl) rfl ?_
        refine z_goto (tgt := 6) dX3_turnedRow_61 rfl ?_
        refine z_fgt (i := 7) ?_
        exact ih _ _ h hK
      · have h := it_f h hc2
        refine z_iload (i := 6) dX3_turnedRow_26 rfl ?_
        refine z_iload_n (i := 3) dX3_turnedRow_28 rfl rfl ?_
        refine z_iadd dX3_turnedRow_29 ?_
        refine z_goto (tgt := 42) dX3_turnedRow_30 rfl ?_
        refine z_istore (i := 7) dX3_turnedRow_42 (Nat.le_of_ble_eq_true rfl) rfl ?_
        refine z_lload (i := 4) dX3_turnedRow_44 rfl ?_
        refine z_lload_n (i := 1) dX3_turnedRow_46 rfl rfl ?_
        refine z_iload (i := 6) dX3_turnedRow_47 rfl ?_
        refine z_lushr dX3_turnedRow_49 ?_
        refine z_lconst (v := (1 : Int64)) dX3_turnedRow_50 (by decide) ?_
        refine z_land dX3_turnedRow_51 ?_
        refine z_iload (i := 7) dX3_turnedRow_52 rfl ?_
        refine z_lshl dX3_turnedRow_54 ?_
        refine z_lor dX3_turnedRow_55 ?_
        refine z_lstore (i := 4) dX3_turnedRow_56 (Nat.le_of_ble_eq_true rfl) rfl ?_
        refine z_iinc (i := 6) (v := (v6 + (1 : Int32))) dX3_turnedRow_58 rfl (iinc_k kc_1) (Nat.le_of_ble_eq_true rfl) rfl ?_
        refine z_goto (tgt := 6) dX3_turnedRow_61 rfl ?_
        refine z_fgt (i := 7) ?_
        exact ih _ _ h hK
set_option maxRecDepth 20000 in
set_option maxHeartbeats 2000000 in
theorem sX3_turnedRow {wv : Nat} (M : Mm) (i : Nat) (x1 : Int64) (x2 : Int32) (hi : i < 12) {res : Int64} (h : fX3_turnedRow M i x1 x2 = some res) : TF wv yX3_turnedRow cX3_turnedRow 8 (some .long) 0 [.inr (10, i, 0), .inl (.long x1), .inl (.int x2)] M (some (.long res)) M := by
  rw [fX3_turnedRow] at h
  refine TF.go (n := 4) (ls := [some (.inr (10, i, 0)), some (.inl (.long x1)), none, some (.inl (.int x2)), none, none, none, none]) rfl rfl rfl rfl rfl ?_
  refine z_lconst (v := (0 : Int64)) dX3_turnedRow_0 (by decide) ?_
  refine z_lstore (i := 4) dX3_turnedRow_1 (Nat.le_of_ble_eq_true rfl) rfl ?_
  refine z_iconst (v := (0 : Int32)) dX3_turnedRow_3 kc_0 ?_
  refine z_istore (i := 6) dX3_turnedRow_4 (Nat.le_of_ble_eq_true rfl) rfl ?_
  refine sX3_turnedRow_L6 M i x1 x2 hi NF _ _ h (fun w3 w4 h => ?_)
  refine z_lload (i := 4) dX3_turnedRow_64 rfl ?_
  cases h
  exact z_lret dX3_turnedRow_66 rfl (Nat.le_refl _) (Nat.le_refl _) ⟨rfl, rfl⟩
theorem dX3_turnPins_0 : decode cX3_turnPins 0 = .ok (.iload_n 2, 1) := by decide +kernel
theorem dX3_turnPins_1 : decode cX3_turnPins 1 = .ok (.iconst 1, 1) := by decide +kernel
theorem dX3_turnPins_2 : decode cX3_turnPins 2 = .ok (.aload_n 0, 1) := by decide +kernel
theorem dX3_turnPins_3 : decode cX3_turnPins 3 = .ok (.getfield 15, 3) := by decide +kernel
theorem dX3_turnPins_6 : decode cX3_turnPins 6 = .ok (.invokestatic 65, 3) := by decide +kernel
theorem dX3_turnPins_9 : decode cX3_turnPins 9 = .ok (.invokestatic 73, 3) := by decide +kernel
theorem dX3_turnPins_12 : decode cX3_turnPins 12 = .ok (.istore_n 3, 1) := by decide +kernel
theorem dX3_turnPins_13 : decode cX3_turnPins 13 = .ok (.iconst 0, 1) := by decide +kernel
theorem dX3_turnPins_14 : decode cX3_turnPins 14 = .ok (.istore 4, 2) := by decide +kernel
theorem dX3_turnPins_16 : decode cX3_turnPins 16 = .ok (.iload 4, 2) := by decide +kernel
theorem dX3_turnPins_18 : decode cX3_turnPins 18 = .ok (.bipush 12, 2) := by decide +kernel
theorem dX3_turnPins_20 : decode cX3_turnPins 20 = .ok (.if_icmp .ge 28, 3) := by decide +kernel
theorem dX3_turnPins_23 : decode cX3_turnPins 23 = .ok (.aload_n 0, 1) := by decide +kernel
theorem dX3_turnPins_24 : decode cX3_turnPins 24 = .ok (.iload_n 1, 1) := by decide +kernel
theorem dX3_turnPins_25 : decode cX3_turnPins 25 = .ok (.iload 4, 2) := by decide +kernel
theorem dX3_turnPins_27 : decode cX3_turnPins 27 = .ok (.aload_n 0, 1) := by decide +kernel
theorem dX3_turnPins_28 : decode cX3_turnPins 28 = .ok (.aload_n 0, 1) := by decide +kernel
theorem dX3_turnPins_29 : decode cX3_turnPins 29 = .ok (.iload_n 1, 1) := by decide +kernel
theorem dX3_turnPins_30 : decode cX3_turnPins 30 = .ok (.iload 4, 2) := by decide +kernel
theorem dX3_turnPins_32 : decode cX3_turnPins 32 = .ok (.invokevirtual 41, 3) := by decide +kernel
theorem dX3_turnPins_35 : decode cX3_turnPins 35 = .ok (.iload_n 3, 1) := by decide +kernel
theorem dX3_turnPins_36 : decode cX3_turnPins 36 = .ok (.invokevirtual 76, 3) := by decide +kernel
theorem dX3_turnPins_39 : decode cX3_turnPins 39 = .ok (.invokevirtual 45, 3) := by decide +kernel
theorem dX3_turnPins_42 : decode cX3_turnPins 42 = .ok (.iinc 4 1, 3) := by decide +kernel
theorem dX3_turnPins_45 : decode cX3_turnPins 45 = .ok (.goto (-29), 3) := by decide +kernel
theorem dX3_turnPins_48 : decode cX3_turnPins 48 = .ok (.return_, 1) := by decide +kernel
def fX3_turnPins_L16 (i : Nat) (c1 : Int32) (c3 : Int32) (K : Int32 → Mm → Option Mm) : Nat → Int32 → Mm → Option Mm
  | 0, _, _ => none
  | n + 1, v4, M => if (12 : Int32) ≤ v4 then K v4 M else (fX3_row M i c1 v4).bind fun q4 => (fX3_turnedRow M i q4 c3).bind fun q6 => (fX3_setRow M i c1 v4 q6).bind fun q8 => fX3_turnPins_L16 i c1 c3 K n (v4 + (1 : Int32)) q8
def fX3_turnPins (M : Mm) (i : Nat) (x1 : Int32) (x2 : Int32) : Option Mm := (fJ9_floorMod_7cf53 M x2 (fJ9_max_7cf53 M (1 : Int32) (M.1 (10, i, 0) 1))).bind fun q1 => fX3_turnPins_L16 i x1 q1 (fun w10 M11 => some M11) NF (0 : Int32) M
set_option maxRecDepth 20000 in
set_option maxHeartbeats 2000000 in
theorem sX3_turnPins_L16 {wv : Nat} (i : Nat) (c1 : Int32) (c3 : Int32) (hi : i < 12) {res : Mm} {K : Int32 → Mm → Option Mm} : ∀ (n : Nat) (v4 : Int32) (M : Mm), fX3_turnPins_L16 i c1 c3 K n v4 M = some res →
    (∀ (v4 : Int32) (M : Mm), K v4 M = some res → Z RX3 cX3_turnPins 5 none [] "turnPins" (rmD 2 0 0) (QM SH (allR wv) 0 0 (fun v M9 => v = none ∧ M9 = res) (fun _ _ => False)) (allR wv) SH 0 0 48 [some (.inr (10, i, 0)), some (.inl (.int c1)), none, some (.inl (.int c3)), some (.inl (.int v4))] [] M) → Z RX3 cX3_turnPins 5 none [] "turnPins" (rmD 2 0 0) (QM SH (allR wv) 0 0 (fun v M9 => v = none ∧ M9 = res) (fun _ _ => False)) (allR wv) SH 0 0 16 [some (.inr (10, i, 0)), some (.inl (.int c1)), none, some (.inl (.int c3)), some (.inl (.int v4))] [] M := by
  intro n
  induction n with
  | zero => intro v4 M h; cases h
  | succ n ih =>
    intro v4 M h hK
    rw [fX3_turnPins_L16] at h
    refine z_iload (i := 4) dX3_turnPins_16 rfl ?_
    refine z_bipush (v := (12 : Int32)) dX3_turnPins_18 kb_12 ?_
    refine z_icmp_ge (tgt := 48) dX3_turnPins_20 rfl (fun hc3 => ?_) (fun hc3 => ?_)
    · have h := it_t h hc3
      exact hK _ _ h
    · have h := it_f h hc3
      refine z_aload_n (i := 0) dX3_turnPins_23 rfl rfl ?_
      refine z_iload_n (i := 1) dX3_turnPins_24 rfl rfl ?_
      refine z_iload (i := 4) dX3_turnPins_25 rfl ?_
      refine z_aload_n (i := 0) dX3_turnPins_27 rfl rfl ?_
      refine z_aload_n (i := 0) dX3_turnPins_28 rfl rfl ?_
      refine z_iload_n (i := 1) dX3_turnPins_29 rfl rfl ?_
      refine z_iload (i := 4) dX3_turnPins_30 rfl ?_
      obtain ⟨q4, hq5, h⟩ := bnd h
      refine z_fVl (sX3_row M i c1 v4 hi hq5) dX3_turnPins_32 ml_X3_41 cd_X3_row (m10 _ hi) rfl rfl rfl rfl rfl rfl ?_
      refine z_iload_n (i := 3) dX3_turnPins_35 rfl rfl ?_
      obtain ⟨q6, hq7, h⟩ := bnd h
      refine z_fVl (sX3_turnedRow M i q4 c3 hi hq7) dX3_turnPins_36 ml_X3_76 cd_X3_turnedRow (m10 _ hi) rfl rfl rfl rfl rfl rfl ?_
      obtain ⟨q8, hq9, h⟩ := bnd h
      refine z_fVv (sX3_setRow M i c1 v4 q6 hi hq9) dX3_turnPins_39 ml_X3_45 cd_X3_setRow (m10 _ hi) rfl rfl rfl rfl rfl rfl ?_
      refine z_iinc (i := 4) (v := (v4 + (1 : Int32))) dX3_turnPins_42 rfl (iinc_k kc_1) (Nat.le_of_ble_eq_true rfl) rfl ?_
      refine z_goto (tgt := 16) dX3_turnPins_45 rfl ?_
      exact ih _ _ h hK
set_option maxRecDepth 20000 in
set_option maxHeartbeats 2000000 in
theorem sX3_turnPins {wv : Nat} (M : Mm) (i : Nat) (x1 : Int32) (x2 : Int32) (hi : i < 12) {res : Mm} (h : fX3_turnPins M i x1 x2 = some res) : TF wv yX3_turnPins cX3_turnPins 5 none 2 [.inr (10, i, 0), .inl (.int x1), .inl (.int x2)] M (none) res := by
  rw [fX3_turnPins] at h
  refine TF.go (n := 2) (ls := [some (.inr (10, i, 0)), some (.inl (.int x1)), some (.inl (.int x2)), none, none]) rfl rfl rfl rfl rfl ?_
  refine z_iload_n (i := 2) dX3_turnPins_0 rfl rfl ?_
  refine z_iconst (v := (1 : Int32)) dX3_turnPins_1 kc_1 ?_
  refine z_aload_n (i := 0) dX3_turnPins_2 rfl rfl ?_
  refine z_getI (x := (M.1 (10, i, 0) 1)) dX3_turnPins_3 fl_X3_15 (m10 _ hi) rfl rfl ?_
  refine z_fSi (sJ9_max_7cf53 M (1 : Int32) (M.1 (10, i, 0) 1)) dX3_turnPins_6 ml_X3_65 cd_J9_max_7cf53 rfl rfl rfl rfl rfl ?_
  obtain ⟨q1, hq2, h⟩ := bnd h
  refine z_fSi (sJ9_floorMod_7cf53 M x2 (fJ9_max_7cf53 M (1 : Int32) (M.1 (10, i, 0) 1)) hq2) dX3_turnPins_9 ml_X3_73 cd_J9_floorMod_7cf53 rfl rfl rfl rfl rfl ?_
  refine z_istore_n (i := 3) dX3_turnPins_12 rfl (Nat.le_of_ble_eq_true rfl) rfl ?_
  refine z_iconst (v := (0 : Int32)) dX3_turnPins_13 kc_0 ?_
  refine z_istore (i := 4) dX3_turnPins_14 (Nat.le_of_ble_eq_true rfl) rfl ?_
  refine z_fgt (i := 2) ?_
  refine sX3_turnPins_L16 i x1 q1 hi NF _ _ h (fun w10 M11 h => ?_)
  cases h
  exact z_vret dX3_turnPins_48 rfl (Nat.le_refl _) (Nat.le_refl _) ⟨rfl, rfl⟩
theorem dX3_movePins_0 : decode cX3_movePins 0 = .ok (.iconst 0, 1) := by decide +kernel
theorem dX3_movePins_1 : decode cX3_movePins 1 = .ok (.istore_n 3, 1) := by decide +kernel
theorem dX3_movePins_2 : decode cX3_movePins 2 = .ok (.iload_n 3, 1) := by decide +kernel
theorem dX3_movePins_3 : decode cX3_movePins 3 = .ok (.bipush 12, 2) := by decide +kernel
theorem dX3_movePins_5 : decode cX3_movePins 5 = .ok (.if_icmp .ge 39, 3) := by decide +kernel
theorem dX3_movePins_8 : decode cX3_movePins 8 = .ok (.iload_n 2, 1) := by decide +kernel
theorem dX3_movePins_9 : decode cX3_movePins 9 = .ok (.ifCond .le 10, 3) := by decide +kernel
theorem dX3_movePins_12 : decode cX3_movePins 12 = .ok (.bipush 11, 2) := by decide +kernel
theorem dX3_movePins_14 : decode cX3_movePins 14 = .ok (.iload_n 3, 1) := by decide +kernel
theorem dX3_movePins_15 : decode cX3_movePins 15 = .ok (.isub, 1) := by decide +kernel
theorem dX3_movePins_16 : decode cX3_movePins 16 = .ok (.goto 4, 3) := by decide +kernel
theorem dX3_movePins_19 : decode cX3_movePins 19 = .ok (.iload_n 3, 1) := by decide +kernel
theorem dX3_movePins_20 : decode cX3_movePins 20 = .ok (.istore 4, 2) := by decide +kernel
theorem dX3_movePins_22 : decode cX3_movePins 22 = .ok (.aload_n 0, 1) := by decide +kernel
theorem dX3_movePins_23 : decode cX3_movePins 23 = .ok (.iload_n 1, 1) := by decide +kernel
theorem dX3_movePins_24 : decode cX3_movePins 24 = .ok (.iload 4, 2) := by decide +kernel
theorem dX3_movePins_26 : decode cX3_movePins 26 = .ok (.aload_n 0, 1) := by decide +kernel
theorem dX3_movePins_27 : decode cX3_movePins 27 = .ok (.iload_n 1, 1) := by decide +kernel
theorem dX3_movePins_28 : decode cX3_movePins 28 = .ok (.iload 4, 2) := by decide +kernel
theorem dX3_movePins_30 : decode cX3_movePins 30 = .ok (.iload_n 2, 1) := by decide +kernel
theorem dX3_movePins_31 : decode cX3_movePins 31 = .ok (.isub, 1) := by decide +kernel
theorem dX3_movePins_32 : decode cX3_movePins 32 = .ok (.invokevirtual 41, 3) := by decide +kernel
theorem dX3_movePins_35 : decode cX3_movePins 35 = .ok (.invokevirtual 45, 3) := by decide +kernel
theorem dX3_movePins_38 : decode cX3_movePins 38 = .ok (.iinc 3 1, 3) := by decide +kernel
theorem dX3_movePins_41 : decode cX3_movePins 41 = .ok (.goto (-39), 3) := by decide +kernel
theorem dX3_movePins_44 : decode cX3_movePins 44 = .ok (.return_, 1) := by decide +kernel
def fX3_movePins_L2 (i : Nat) (c1 : Int32) (c2 : Int32) (K : Int32 → Mm → Option Mm) : Nat → Int32 → Mm → Option Mm
  | 0, _, _ => none
  | n + 1, v3, M => if (12 : Int32) ≤ v3 then K v3 M else if c2 ≤ 0 then ((fX3_row M i c1 (v3 - c2)).bind fun q3 => (fX3_setRow M i c1 v3 q3).bind fun q5 => fX3_movePins_L2 i c1 c2 K n (v3 + (1 : Int32)) q5) else (fX3_row M i c1 (((11 : Int32) - v3) - c2)).bind fun q7 => (fX3_setRow M i c1 ((11 : Int32) - v3) q7).bind fun q9 => fX3_movePins_L2 i c1 c2 K n (v3 + (1 : Int32)) q9
def fX3_movePins (M : Mm) (i : Nat) (x1 : Int32) (x2 : Int32) : Option Mm := fX3_movePins_L2 i x1 x2 (fun w11 M12 => some M12) NF (0 : Int32) M
set_option maxRecDepth 20000 in
set_option maxHeartbeats 2000000 in
theorem sX3_movePins_L2 {wv : Nat} (i : Nat) (c1 : Int32) (c2 : Int32) (hi : i < 12) {res : Mm} {K : Int32 → Mm → Option Mm} : ∀ (n : Nat) (v3 : Int32) (M : Mm), fX3_movePins_L2 i c1 c2 K n v3 M = some res →
    (∀ (v3 : Int32) (M : Mm), K v3 M = some res → Z RX3 cX3_movePins 5 none [] "movePins" (rmD 2 0 0) (QM SH (allR wv) 0 0 (fun v M9 => v = none ∧ M9 = res) (fun _ _ => False)) (allR wv) SH 0 0 44 [some (.inr (10, i, 0)), some (.inl (.int c1)), some (.inl (.int c2)), some (.inl (.int v3)), none] [] M) → Z RX3 cX3_movePins 5 none [] "movePins" (rmD 2 0 0) (QM SH (allR wv) 0 0 (fun v M9 => v = none ∧ M9 = res) (fun _ _ => False)) (allR wv) SH 0 0 2 [some (.inr (10, i, 0)), some (.inl (.int c1)), some (.inl (.int c2)), some (.inl (.int v3)), none] [] M := by
  intro n
  induction n with
  | zero => intro v3 M h; cases h
  | succ n ih =>
    intro v3 M h hK
    rw [fX3_movePins_L2] at h
    refine z_iload_n (i := 3) dX3_movePins_2 rfl rfl ?_
    refine z_bipush (v := (12 : Int32)) dX3_movePins_3 kb_12 ?_
    refine z_icmp_ge (tgt := 44) dX3_movePins_5 rfl (fun hc1 => ?_) (fun hc1 => ?_)
    · have h := it_t h hc1
      exact hK _ _ h
    · have h := it_f h hc1
      refine z_iload_n (i := 2) dX3_movePins_8 rfl rfl ?_
      refine z_if_le (tgt := 19) dX3_movePins_9 rfl (fun hc2 => ?_) (fun hc2 => ?_)
      · have h := it_t h hc2
        refine z_iload_n (i := 3) dX3_movePins_19 rfl rfl ?_
        refine z_istore (i := 4) dX3_movePins_20 (Nat.le_of_ble_eq_true rfl) rfl ?_
        refine z_aload_n (i := 0) dX3_movePins_22 rfl rfl ?_
        refine z_iload_n (i := 1) dX3_movePins_23 rfl rfl ?_
        refine z_iload (i := 4) dX3_movePins_24 rfl ?_
        refine z_aload_n (i := 0) dX3_movePins_26 rfl rfl ?_
        refine z_iload_n (i := 1) dX3_movePins_27 rfl rfl ?_
        refine z_iload (i := 4) dX3_movePins_28 rfl ?_
        refine z_iload_n (i := 2) dX3_movePins_30 rfl rfl ?_
        refine z_isub dX3_movePins_31 ?_
        obtain ⟨q3, hq4, h⟩ := bnd h
        refine z_fVl (sX3_row M i c1 (v3 - c2) hi hq4) dX3_movePins_32 ml_X3_41 cd_X3_row (m10 _ hi) rfl rfl rfl rfl rfl rfl ?_
        obtain ⟨q5, hq6, h⟩ := bnd h
        refine z_fVv (sX3_setRow M i c1 v3 q3 hi hq6) dX3_movePins_35 ml_X3_45 cd_X3_setRow (m10 _ hi) rfl rfl rfl rfl rfl rfl ?_
        refine z_iinc (i := 3) (v := (v3 + (1 : Int32))) dX3_movePins_38 rfl (iinc_k kc_1) (Nat.le_of_ble_eq_true rfl) rfl ?_
        refine z_goto (tgt := 2) dX3_movePins_41 rfl ?_
        refine z_fgt (i := 4) ?_
        exact ih _ _ h hK
      · have h := it_f h hc2
        refine z_bipush (v := (11 : Int32)) dX3_movePins_12 kb_11 ?_
        refine z_iload_n (i := 3) dX3_movePins_14 rfl rfl ?_
        refine z_isub dX3_movePins_15 ?_
        refine z_goto (tgt := 20) dX3_movePins_16 rfl ?_
        refine z_istore (i := 4) dX3_movePins_20 (Nat.le_of_ble_eq_true rfl) rfl ?_
        refine z_aload_n (i := 0) dX3_movePins_22 rfl rfl ?_
        refine z_iload_n (i := 1) dX3_movePins_23 rfl rfl ?_
        refine z_iload (i := 4) dX3_movePins_24 rfl ?_
        refine z_aload_n (i := 0) dX3_movePins_26 rfl rfl ?_
        refine z_iload_n (i := 1) dX3_movePins_27 rfl rfl ?_
        refine z_iload (i := 4) dX3_movePins_28 rfl ?_
        refine z_iload_n (i := 2) dX3_movePins_30 rfl rfl ?_
        refine z_isub dX3_movePins_31 ?_
        obtain ⟨q7, hq8, h⟩ := bnd h
        refine z_fVl (sX3_row M i c1 (((11 : Int32) - v3) - c2) hi hq8) dX3_movePins_32 ml_X3_41 cd_X3_row (m10 _ hi) rfl rfl rfl rfl rfl rfl ?_
        obtain ⟨q9, hq10, h⟩ := bnd h
        refine z_fVv (sX3_setRow M i c1 ((11 : Int32) - v3) q7 hi hq10) dX3_movePins_35 ml_X3_45 cd_X3_setRow (m10 _ hi) rfl rfl rfl rfl rfl rfl ?_
        refine z_iinc (i := 3) (v := (v3 + (1 : Int32))) dX3_movePins_38 rfl (iinc_k kc_1) (Nat.le_of_ble_eq_true rfl) rfl ?_
        refine z_goto (tgt := 2) dX3_movePins_41 rfl ?_
        refine z_fgt (i := 4) ?_
        exact ih _ _ h hK
set_option maxRecDepth 20000 in
set_option maxHeartbeats 2000000 in
theorem sX3_movePins {wv : Nat} (M : Mm) (i : Nat) (x1 : Int32) (x2 : Int32) (hi : i < 12) {res : Mm} (h : fX3_movePins M i x1 x2 = some res) : TF wv yX3_movePins cX3_movePins 5 none 2 [.inr (10, i, 0), .inl (.int x1), .inl (.int x2)] M (none) res := by
  rw [fX3_movePins] at h
  refine TF.go (n := 2) (ls := [some (.inr (10, i, 0)), some (.inl (.int x1)), some (.inl (.int x2)), none, none]) rfl rfl rfl rfl rfl ?_
  refine z_iconst (v := (0 : Int32)) dX3_movePins_0 kc_0 ?_
  refine z_istore_n (i := 3) dX3_movePins_1 rfl (Nat.le_of_ble_eq_true rfl) rfl ?_
  refine sX3_movePins_L2 i x1 x2 hi NF _ _ h (fun w11 M12 h => ?_)
  cases h
  exact z_vret dX3_movePins_44 rfl (Nat.le_refl _) (Nat.le_refl _) ⟨rfl, rfl⟩
theorem dX3_copyPins_0 : decode cX3_copyPins 0 = .ok (.iconst 0, 1) := by decide +kernel
theorem dX3_copyPins_1 : decode cX3_copyPins 1 = .ok (.istore_n 3, 1) := by decide +kernel
theorem dX3_copyPins_2 : decode cX3_copyPins 2 = .ok (.iload_n 3, 1) := by decide +kernel
theorem dX3_copyPins_3 : decode cX3_copyPins 3 = .ok (.bipush 12, 2) := by decide +kernel
theorem dX3_copyPins_5 : decode cX3_copyPins 5 = .ok (.if_icmp .ge 21, 3) := by decide +kernel
theorem dX3_copyPins_8 : decode cX3_copyPins 8 = .ok (.aload_n 0, 1) := by decide +kernel
theorem dX3_copyPins_9 : decode cX3_copyPins 9 = .ok (.iload_n 2, 1) := by decide +kernel
theorem dX3_copyPins_10 : decode cX3_copyPins 10 = .ok (.iload_n 3, 1) := by decide +kernel
theorem dX3_copyPins_11 : decode cX3_copyPins 11 = .ok (.aload_n 0, 1) := by decide +kernel
theorem dX3_copyPins_12 : decode cX3_copyPins 12 = .ok (.iload_n 1, 1) := by decide +kernel
theorem dX3_copyPins_13 : decode cX3_copyPins 13 = .ok (.iload_n 3, 1) := by decide +kernel
theorem dX3_copyPins_14 : decode cX3_copyPins 14 = .ok (.invokevirtual 41, 3) := by decide +kernel
theorem dX3_copyPins_17 : decode cX3_copyPins 17 = .ok (.invokevirtual 45, 3) := by decide +kernel
theorem dX3_copyPins_20 : decode cX3_copyPins 20 = .ok (.iinc 3 1, 3) := by decide +kernel
theorem dX3_copyPins_23 : decode cX3_copyPins 23 = .ok (.goto (-21), 3) := by decide +kernel
theorem dX3_copyPins_26 : decode cX3_copyPins 26 = .ok (.return_, 1) := by decide +kernel
def fX3_copyPins_L2 (i : Nat) (c1 : Int32) (c2 : Int32) (K : Int32 → Mm → Option Mm) : Nat → Int32 → Mm → Option Mm
  | 0, _, _ => none
  | n + 1, v3, M => if (12 : Int32) ≤ v3 then K v3 M else (fX3_row M i c1 v3).bind fun q2 => (fX3_setRow M i c2 v3 q2).bind fun q4 => fX3_copyPins_L2 i c1 c2 K n (v3 + (1 : Int32)) q4
def fX3_copyPins (M : Mm) (i : Nat) (x1 : Int32) (x2 : Int32) : Option Mm := fX3_copyPins_L2 i x1 x2 (fun w6 M7 => some M7) NF (0 : Int32) M
set_option maxRecDepth 20000 in
set_option maxHeartbeats 2000000 in
theorem sX3_copyPins_L2 {wv : Nat} (i : Nat) (c1 : Int32) (c2 : Int32) (hi : i < 12) {res : Mm} {K : Int32 → Mm → Option Mm} : ∀ (n : Nat) (v3 : Int32) (M : Mm), fX3_copyPins_L2 i c1 c2 K n v3 M = some res →
    (∀ (v3 : Int32) (M : Mm), K v3 M = some res → Z RX3 cX3_copyPins 4 none [] "copyPins" (rmD 2 0 0) (QM SH (allR wv) 0 0 (fun v M9 => v = none ∧ M9 = res) (fun _ _ => False)) (allR wv) SH 0 0 26 [some (.inr (10, i, 0)), some (.inl (.int c1)), some (.inl (.int c2)), some (.inl (.int v3))] [] M) → Z RX3 cX3_copyPins 4 none [] "copyPins" (rmD 2 0 0) (QM SH (allR wv) 0 0 (fun v M9 => v = none ∧ M9 = res) (fun _ _ => False)) (allR wv) SH 0 0 2 [some (.inr (10, i, 0)), some (.inl (.int c1)), some (.inl (.int c2)), some (.inl (.int v3))] [] M := by
  intro n
  induction n with
  | zero => intro v3 M h; cases h
  | succ n ih =>
    intro v3 M h hK
    rw [fX3_copyPins_L2] at h
    refine z_iload_n (i := 3) dX3_copyPins_2 rfl rfl ?_
    refine z_bipush (v := (12 : Int32)) dX3_copyPins_3 kb_12 ?_
    refine z_icmp_ge (tgt := 26) dX3_copyPins_5 rfl (fun hc1 => ?_) (fun hc1 => ?_)
    · have h := it_t h hc1
      exact hK _ _ h
    · have h := it_f h hc1
      refine z_aload_n (i := 0) dX3_copyPins_8 rfl rfl ?_
      refine z_iload_n (i := 2) dX3_copyPins_9 rfl rfl ?_
      refine z_iload_n (i := 3) dX3_copyPins_10 rfl rfl ?_
      refine z_aload_n (i := 0) dX3_copyPins_11 rfl rfl ?_
      refine z_iload_n (i := 1) dX3_copyPins_12 rfl rfl ?_
      refine z_iload_n (i := 3) dX3_copyPins_13 rfl rfl ?_
      obtain ⟨q2, hq3, h⟩ := bnd h
      refine z_fVl (sX3_row M i c1 v3 hi hq3) dX3_copyPins_14 ml_X3_41 cd_X3_row (m10 _ hi) rfl rfl rfl rfl rfl rfl ?_
      obtain ⟨q4, hq5, h⟩ := bnd h
      refine z_fVv (sX3_setRow M i c2 v3 q2 hi hq5) dX3_copyPins_17 ml_X3_45 cd_X3_setRow (m10 _ hi) rfl rfl rfl rfl rfl rfl ?_
      refine z_iinc (i := 3) (v := (v3 + (1 : Int32))) dX3_copyPins_20 rfl (iinc_k kc_1) (Nat.le_of_ble_eq_true rfl) rfl ?_
      refine z_goto (tgt := 2) dX3_copyPins_23 rfl ?_
      exact ih _ _ h hK
set_option maxRecDepth 20000 in
set_option maxHeartbeats 2000000 in
theorem sX3_copyPins {wv : Nat} (M : Mm) (i : Nat) (x1 : Int32) (x2 : Int32) (hi : i < 12) {res : Mm} (h : fX3_copyPins M i x1 x2 = some res) : TF wv yX3_copyPins cX3_copyPins 4 none 2 [.inr (10, i, 0), .inl (.int x1), .inl (.int x2)] M (none) res := by
  rw [fX3_copyPins] at h
  refine TF.go (n := 1) (ls := [some (.inr (10, i, 0)), some (.inl (.int x1)), some (.inl (.int x2)), none]) rfl rfl rfl rfl rfl ?_
  refine z_iconst (v := (0 : Int32)) dX3_copyPins_0 kc_0 ?_
  refine z_istore_n (i := 3) dX3_copyPins_1 rfl (Nat.le_of_ble_eq_true rfl) rfl ?_
  refine sX3_copyPins_L2 i x1 x2 hi NF _ _ h (fun w6 M7 h => ?_)
  cases h
  exact z_vret dX3_copyPins_26 rfl (Nat.le_refl _) (Nat.le_refl _) ⟨rfl, rfl⟩
theorem dX4_begin_0 : decode cX4_begin 0 = .ok (.aload_n 0, 1) := by decide +kernel
theorem dX4_begin_1 : decode cX4_begin 1 = .ok (.iconst 0, 1) := by decide +kernel
theorem dX4_begin_2 : decode cX4_begin 2 = .ok (.putfield 24, 3) := by decide +kernel
theorem dX4_begin_5 : decode cX4_begin 5 = .ok (.aload_n 0, 1) := by decide +kernel
theorem dX4_begin_6 : decode cX4_begin 6 = .ok (.iconst 0, 1) := by decide +kernel
theorem dX4_begin_7 : decode cX4_begin 7 = .ok (.putfield 28, 3) := by decide +kernel
theorem dX4_begin_10 : decode cX4_begin 10 = .ok (.aload_n 0, 1) := by decide +kernel
theorem dX4_begin_11 : decode cX4_begin 11 = .ok (.iconst 0, 1) := by decide +kernel
theorem dX4_begin_12 : decode cX4_begin 12 = .ok (.putfield 31, 3) := by decide +kernel
theorem dX4_begin_15 : decode cX4_begin 15 = .ok (.return_, 1) := by decide +kernel
def fX4_begin (M : Mm) : Mm := (putI (putI (putI M (7, 0, 0) 4 (0 : Int32)) (7, 0, 0) 5 (0 : Int32)) (7, 0, 0) 6 (0 : Int32))
set_option maxRecDepth 20000 in
set_option maxHeartbeats 2000000 in
theorem tX4_begin {wv : Nat} (M : Mm) {res : Mm} (h : fX4_begin M  = res) : TF wv yX4_begin cX4_begin 1 none 0 [.inr (7, 0, 0)] M (none) res := by
  rw [fX4_begin] at h
  refine TF.go (n := 0) (ls := [some (.inr (7, 0, 0))]) rfl rfl rfl rfl rfl ?_
  refine z_aload_n (i := 0) dX4_begin_0 rfl rfl ?_
  refine z_iconst (v := (0 : Int32)) dX4_begin_1 kc_0 ?_
  refine z_putI allR_nd dX4_begin_2 fl_X4_24 mk7 rfl rfl ?_
  refine z_aload_n (i := 0) dX4_begin_5 rfl rfl ?_
  refine z_iconst (v := (0 : Int32)) dX4_begin_6 kc_0 ?_
  refine z_putI allR_nd dX4_begin_7 fl_X4_28 mk7 rfl rfl ?_
  refine z_aload_n (i := 0) dX4_begin_10 rfl rfl ?_
  refine z_iconst (v := (0 : Int32)) dX4_begin_11 kc_0 ?_
  refine z_putX allR_nd dX4_begin_12 fl_X4_31 mk7 rfl rfl rfl rfl ?_
  subst h
  exact z_vret dX4_begin_15 rfl (Nat.le_refl _) (Nat.le_refl _) ⟨rfl, rfl⟩
theorem sX4_begin {wv : Nat} (M : Mm) : TF wv yX4_begin cX4_begin 1 none 0 [.inr (7, 0, 0)] M (none) (fX4_begin M ) := tX4_begin M   rfl
theorem dX4_putCommand_0 : decode cX4_putCommand 0 = .ok (.aload_n 0, 1) := by decide +kernel
theorem dX4_putCommand_1 : decode cX4_putCommand 1 = .ok (.getfield 24, 3) := by decide +kernel
theorem dX4_putCommand_4 : decode cX4_putCommand 4 = .ok (.ifCond .lt 12, 3) := by decide +kernel
theorem dX4_putCommand_7 : decode cX4_putCommand 7 = .ok (.aload_n 0, 1) := by decide +kernel
theorem dX4_putCommand_8 : decode cX4_putCommand 8 = .ok (.getfield 24, 3) := by decide +kernel
theorem dX4_putCommand_11 : decode cX4_putCommand 11 = .ok (.bipush 30, 2) := by decide +kernel
theorem dX4_putCommand_13 : decode cX4_putCommand 13 = .ok (.if_icmp .lt 5, 3) := by decide +kernel
theorem dX4_putCommand_16 : decode cX4_putCommand 16 = .ok (.iconst (-1), 1) := by decide +kernel
theorem dX4_putCommand_17 : decode cX4_putCommand 17 = .ok (.ireturn, 1) := by decide +kernel
theorem dX4_putCommand_18 : decode cX4_putCommand 18 = .ok (.aload_n 0, 1) := by decide +kernel
theorem dX4_putCommand_19 : decode cX4_putCommand 19 = .ok (.getfield 24, 3) := by decide +kernel
theorem dX4_putCommand_22 : decode cX4_putCommand 22 = .ok (.istore_n 3, 1) := by decide +kernel
theorem dX4_putCommand_23 : decode cX4_putCommand 23 = .ok (.aload_n 0, 1) := by decide +kernel
theorem dX4_putCommand_24 : decode cX4_putCommand 24 = .ok (.getfield 11, 3) := by decide +kernel
theorem dX4_putCommand_27 : decode cX4_putCommand 27 = .ok (.iload_n 3, 1) := by decide +kernel
theorem dX4_putCommand_28 : decode cX4_putCommand 28 = .ok (.iload_n 1, 1) := by decide +kernel
theorem dX4_putCommand_29 : decode cX4_putCommand 29 = .ok (.iastore, 1) := by decide +kernel
theorem dX4_putCommand_30 : decode cX4_putCommand 30 = .ok (.aload_n 0, 1) := by decide +kernel
theorem dX4_putCommand_31 : decode cX4_putCommand 31 = .ok (.getfield 15, 3) := by decide +kernel
theorem dX4_putCommand_34 : decode cX4_putCommand 34 = .ok (.iload_n 3, 1) := by decide +kernel
theorem dX4_putCommand_35 : decode cX4_putCommand 35 = .ok (.iload_n 2, 1) := by decide +kernel
theorem dX4_putCommand_36 : decode cX4_putCommand 36 = .ok (.iastore, 1) := by decide +kernel
theorem dX4_putCommand_37 : decode cX4_putCommand 37 = .ok (.aload_n 0, 1) := by decide +kernel
theorem dX4_putCommand_38 : decode cX4_putCommand 38 = .ok (.dup, 1) := by decide +kernel
theorem dX4_putCommand_39 : decode cX4_putCommand 39 = .ok (.getfield 24, 3) := by decide +kernel
theorem dX4_putCommand_42 : decode cX4_putCommand 42 = .ok (.iconst 1, 1) := by decide +kernel
theorem dX4_putCommand_43 : decode cX4_putCommand 43 = .ok (.iadd, 1) := by decide +kernel
theorem dX4_putCommand_44 : decode cX4_putCommand 44 = .ok (.putfield 24, 3) := by decide +kernel
theorem dX4_putCommand_47 : decode cX4_putCommand 47 = .ok (.iload_n 3, 1) := by decide +kernel
theorem dX4_putCommand_48 : decode cX4_putCommand 48 = .ok (.ireturn, 1) := by decide +kernel
def fX4_putCommand (M : Mm) (x1 : Int32) (x2 : Int32) : Option (Int32 × Mm) := if (M.1 (7, 0, 0) 4) < 0 then some ((-1 : Int32), M) else if (M.1 (7, 0, 0) 4) < (30 : Int32) then (if (M.1 (7, 0, 0) 4) < 0 ∨ 30 ≤ (M.1 (7, 0, 0) 4).toNatClampNeg then none else if (M.1 (7, 0, 0) 4) < 0 ∨ 30 ≤ (M.1 (7, 0, 0) 4).toNatClampNeg then none else some ((M.1 (7, 0, 0) 4), (putI (putI (putI M (8, 0, 0) (M.1 (7, 0, 0) 4).toNatClampNeg x1) (8, 1, 0) (M.1 (7, 0, 0) 4).toNatClampNeg x2) (7, 0, 0) 4 ((M.1 (7, 0, 0) 4) + (1 : Int32))))) else some ((-1 : Int32), M)
set_option maxRecDepth 20000 in
set_option maxHeartbeats 2000000 in
theorem sX4_putCommand {wv : Nat} (M : Mm) (x1 : Int32) (x2 : Int32) {res : (Int32 × Mm)} (h : fX4_putCommand M x1 x2 = some res) : TF wv yX4_putCommand cX4_putCommand 4 (some .int) 0 [.inr (7, 0, 0), .inl (.int x1), .inl (.int x2)] M (some (.int res.1)) res.2 := by
  rw [fX4_putCommand] at h
  refine TF.go (n := 1) (ls := [some (.inr (7, 0, 0)), some (.inl (.int x1)), some (.inl (.int x2)), none]) rfl rfl rfl rfl rfl ?_
  refine z_aload_n (i := 0) dX4_putCommand_0 rfl rfl ?_
  refine z_getI (x := (M.1 (7, 0, 0) 4)) dX4_putCommand_1 fl_X4_24 mk7 rfl rfl ?_
  refine z_if_lt (tgt := 16) dX4_putCommand_4 rfl (fun hc1 => ?_) (fun hc1 => ?_)
  · have h := it_t h hc1
    refine z_iconst (v := (-1 : Int32)) dX4_putCommand_16 kc_m1 ?_
    cases h
    exact z_iret dX4_putCommand_17 rfl rfl (Nat.le_refl _) (Nat.le_refl _) ⟨rfl, rfl⟩
  · have h := it_f h hc1
    refine z_aload_n (i := 0) dX4_putCommand_7 rfl rfl ?_
    refine z_getI (x := (M.1 (7, 0, 0) 4)) dX4_putCommand_8 fl_X4_24 mk7 rfl rfl ?_
    refine z_bipush (v := (30 : Int32)) dX4_putCommand_11 kb_30 ?_
    refine z_icmp_lt (tgt := 18) dX4_putCommand_13 rfl (fun hc2 => ?_) (fun hc2 => ?_)
    · have h := it_t h hc2
      refine z_aload_n (i := 0) dX4_putCommand_18 rfl rfl ?_
      refine z_getI (x := (M.1 (7, 0, 0) 4)) dX4_putCommand_19 fl_X4_24 mk7 rfl rfl ?_
      refine z_istore_n (i := 3) dX4_putCommand_22 rfl (Nat.le_of_ble_eq_true rfl) rfl ?_
      refine z_aload_n (i := 0) dX4_putCommand_23 rfl rfl ?_
      refine z_getR (r' := (8, 0, 0)) dX4_putCommand_24 fl_X4_11 mk7 rfl rfl ?_
      refine z_iload_n (i := 3) dX4_putCommand_27 rfl rfl ?_
      refine z_iload_n (i := 1) dX4_putCommand_28 rfl rfl ?_
      obtain ⟨hc3, h⟩ := chk h
      refine z_iast (j := (M.1 (7, 0, 0) 4).toNatClampNeg) allR_nd dX4_putCommand_29 (m8 _ (Nat.le_of_ble_eq_true rfl)) rfl hc3 rfl ?_
      refine z_aload_n (i := 0) dX4_putCommand_30 rfl rfl ?_
      refine z_getR (r' := (8, 1, 0)) dX4_putCommand_31 fl_X4_15 mk7 rfl rfl ?_
      refine z_iload_n (i := 3) dX4_putCommand_34 rfl rfl ?_
      refine z_iload_n (i := 2) dX4_putCommand_35 rfl rfl ?_
      obtain ⟨hc4, h⟩ := chk h
      refine z_iast (j := (M.1 (7, 0, 0) 4).toNatClampNeg) allR_nd dX4_putCommand_36 (m8 _ (Nat.le_of_ble_eq_true rfl)) rfl hc4 rfl ?_
      refine z_aload_n (i := 0) dX4_putCommand_37 rfl rfl ?_
      refine z_dup dX4_putCommand_38 rfl ?_
      refine z_getI (x := (M.1 (7, 0, 0) 4)) dX4_putCommand_39 fl_X4_24 mk7 rfl rfl ?_
      refine z_iconst (v := (1 : Int32)) dX4_putCommand_42 kc_1 ?_
      refine z_iadd dX4_putCommand_43 ?_
      refine z_putI allR_nd dX4_putCommand_44 fl_X4_24 mk7 rfl rfl ?_
      refine z_iload_n (i := 3) dX4_putCommand_47 rfl rfl ?_
      cases h
      exact z_iret dX4_putCommand_48 rfl rfl (Nat.le_refl _) (Nat.le_refl _) ⟨rfl, rfl⟩
    · have h := it_f h hc2
      refine z_iconst (v := (-1 : Int32)) dX4_putCommand_16 kc_m1 ?_
      cases h
      exact z_iret dX4_putCommand_17 rfl rfl (Nat.le_refl _) (Nat.le_refl _) ⟨rfl, rfl⟩
theorem dX4_putArgument_0 : decode cX4_putArgument 0 = .ok (.iload_n 1, 1) := by decide +kernel
theorem dX4_putArgument_1 : decode cX4_putArgument 1 = .ok (.iconst 3, 1) := by decide +kernel
theorem dX4_putArgument_2 : decode cX4_putArgument 2 = .ok (.imul, 1) := by decide +kernel
theorem dX4_putArgument_3 : decode cX4_putArgument 3 = .ok (.iload_n 2, 1) := by decide +kernel
theorem dX4_putArgument_4 : decode cX4_putArgument 4 = .ok (.iadd, 1) := by decide +kernel
theorem dX4_putArgument_5 : decode cX4_putArgument 5 = .ok (.istore 4, 2) := by decide +kernel
theorem dX4_putArgument_7 : decode cX4_putArgument 7 = .ok (.iload 4, 2) := by decide +kernel
theorem dX4_putArgument_9 : decode cX4_putArgument 9 = .ok (.ifCond .lt 21, 3) := by decide +kernel
theorem dX4_putArgument_12 : decode cX4_putArgument 12 = .ok (.iload 4, 2) := by decide +kernel
theorem dX4_putArgument_14 : decode cX4_putArgument 14 = .ok (.aload_n 0, 1) := by decide +kernel
theorem dX4_putArgument_15 : decode cX4_putArgument 15 = .ok (.getfield 21, 3) := by decide +kernel
theorem dX4_putArgument_18 : decode cX4_putArgument 18 = .ok (.arraylength, 1) := by decide +kernel
theorem dX4_putArgument_19 : decode cX4_putArgument 19 = .ok (.if_icmp .ge 11, 3) := by decide +kernel
theorem dX4_putArgument_22 : decode cX4_putArgument 22 = .ok (.aload_n 0, 1) := by decide +kernel
theorem dX4_putArgument_23 : decode cX4_putArgument 23 = .ok (.getfield 21, 3) := by decide +kernel
theorem dX4_putArgument_26 : decode cX4_putArgument 26 = .ok (.iload 4, 2) := by decide +kernel
theorem dX4_putArgument_28 : decode cX4_putArgument 28 = .ok (.iload_n 3, 1) := by decide +kernel
theorem dX4_putArgument_29 : decode cX4_putArgument 29 = .ok (.iastore, 1) := by decide +kernel
theorem dX4_putArgument_30 : decode cX4_putArgument 30 = .ok (.return_, 1) := by decide +kernel
def fX4_putArgument (M : Mm) (x1 : Int32) (x2 : Int32) (x3 : Int32) : Option Mm := if ((x1 * (3 : Int32)) + x2) < 0 then some M else if (90 : Int32) ≤ ((x1 * (3 : Int32)) + x2) then some M else if ((x1 * (3 : Int32)) + x2) < 0 ∨ 90 ≤ ((x1 * (3 : Int32)) + x2).toNatClampNeg then none else some (putI M (8, 3, 0) ((x1 * (3 : Int32)) + x2).toNatClampNeg x3)
set_option maxRecDepth 20000 in
set_option maxHeartbeats 2000000 in
theorem sX4_putArgument {wv : Nat} (M : Mm) (x1 : Int32) (x2 : Int32) (x3 : Int32) {res : Mm} (h : fX4_putArgument M x1 x2 x3 = some res) : TF wv yX4_putArgument cX4_putArgument 5 none 0 [.inr (7, 0, 0), .inl (.int x1), .inl (.int x2), .inl (.int x3)] M (none) res := by
  rw [fX4_putArgument] at h
  refine TF.go (n := 1) (ls := [some (.inr (7, 0, 0)), some (.inl (.int x1)), some (.inl (.int x2)), some (.inl (.int x3)), none]) rfl rfl rfl rfl rfl ?_
  refine z_iload_n (i := 1) dX4_putArgument_0 rfl rfl ?_
  refine z_iconst (v := (3 : Int32)) dX4_putArgument_1 kc_3 ?_
  refine z_imul dX4_putArgument_2 ?_
  refine z_iload_n (i := 2) dX4_putArgument_3 rfl rfl ?_
  refine z_iadd dX4_putArgument_4 ?_
  refine z_istore (i := 4) dX4_putArgument_5 (Nat.le_of_ble_eq_true rfl) rfl ?_
  refine z_iload (i := 4) dX4_putArgument_7 rfl ?_
  refine z_if_lt (tgt := 30) dX4_putArgument_9 rfl (fun hc1 => ?_) (fun hc1 => ?_)
  · have h := it_t h hc1
    cases h
    exact z_vret dX4_putArgument_30 rfl (Nat.le_refl _) (Nat.le_refl _) ⟨rfl, rfl⟩
  · have h := it_f h hc1
    refine z_iload (i := 4) dX4_putArgument_12 rfl ?_
    refine z_aload_n (i := 0) dX4_putArgument_14 rfl rfl ?_
    refine z_getR (r' := (8, 3, 0)) dX4_putArgument_15 fl_X4_21 mk7 rfl rfl ?_
    refine z_alen (v := (90 : Int32)) dX4_putArgument_18 (m8 _ (Nat.le_of_ble_eq_true rfl)) rfl (Nat.le_of_ble_eq_true rfl) (by decide) ?_
    refine z_icmp_ge (tgt := 30) dX4_putArgument_19 rfl (fun hc2 => ?_) (fun hc2 => ?_)
    · have h := it_t h hc2
      cases h
      exact z_vret dX4_putArgument_30 rfl (Nat.le_refl _) (Nat.le_refl _) ⟨rfl, rfl⟩
    · have h := it_f h hc2
      refine z_aload_n (i := 0) dX4_putArgument_22 rfl rfl ?_
      refine z_getR (r' := (8, 3, 0)) dX4_putArgument_23 fl_X4_21 mk7 rfl rfl ?_
      refine z_iload (i := 4) dX4_putArgument_26 rfl ?_
      refine z_iload_n (i := 3) dX4_putArgument_28 rfl rfl ?_
      obtain ⟨hc3, h⟩ := chk h
      refine z_iast (j := ((x1 * (3 : Int32)) + x2).toNatClampNeg) allR_nd dX4_putArgument_29 (m8 _ (Nat.le_of_ble_eq_true rfl)) rfl hc3 rfl ?_
      cases h
      exact z_vret dX4_putArgument_30 rfl (Nat.le_refl _) (Nat.le_refl _) ⟨rfl, rfl⟩
theorem dX4_argument_0 : decode cX4_argument 0 = .ok (.iload_n 1, 1) := by decide +kernel
theorem dX4_argument_1 : decode cX4_argument 1 = .ok (.iconst 3, 1) := by decide +kernel
theorem dX4_argument_2 : decode cX4_argument 2 = .ok (.imul, 1) := by decide +kernel
theorem dX4_argument_3 : decode cX4_argument 3 = .ok (.iload_n 2, 1) := by decide +kernel
theorem dX4_argument_4 : decode cX4_argument 4 = .ok (.iadd, 1) := by decide +kernel
theorem dX4_argument_5 : decode cX4_argument 5 = .ok (.istore_n 3, 1) := by decide +kernel
theorem dX4_argument_6 : decode cX4_argument 6 = .ok (.iload_n 3, 1) := by decide +kernel
theorem dX4_argument_7 : decode cX4_argument 7 = .ok (.ifCond .lt 21, 3) := by decide +kernel
theorem dX4_argument_10 : decode cX4_argument 10 = .ok (.iload_n 3, 1) := by decide +kernel
theorem dX4_argument_11 : decode cX4_argument 11 = .ok (.aload_n 0, 1) := by decide +kernel
theorem dX4_argument_12 : decode cX4_argument 12 = .ok (.getfield 21, 3) := by decide +kernel
theorem dX4_argument_15 : decode cX4_argument 15 = .ok (.arraylength, 1) := by decide +kernel
theorem dX4_argument_16 : decode cX4_argument 16 = .ok (.if_icmp .ge 12, 3) := by decide +kernel
theorem dX4_argument_19 : decode cX4_argument 19 = .ok (.aload_n 0, 1) := by decide +kernel
theorem dX4_argument_20 : decode cX4_argument 20 = .ok (.getfield 21, 3) := by decide +kernel
theorem dX4_argument_23 : decode cX4_argument 23 = .ok (.iload_n 3, 1) := by decide +kernel
theorem dX4_argument_24 : decode cX4_argument 24 = .ok (.iaload, 1) := by decide +kernel
theorem dX4_argument_25 : decode cX4_argument 25 = .ok (.goto 4, 3) := by decide +kernel
theorem dX4_argument_28 : decode cX4_argument 28 = .ok (.iconst (-1), 1) := by decide +kernel
theorem dX4_argument_29 : decode cX4_argument 29 = .ok (.ireturn, 1) := by decide +kernel
def fX4_argument (M : Mm) (x1 : Int32) (x2 : Int32) : Option Int32 := if ((x1 * (3 : Int32)) + x2) < 0 then some (-1 : Int32) else if (90 : Int32) ≤ ((x1 * (3 : Int32)) + x2) then some (-1 : Int32) else if ((x1 * (3 : Int32)) + x2) < 0 ∨ 90 ≤ ((x1 * (3 : Int32)) + x2).toNatClampNeg then none else some (M.1 (8, 3, 0) ((x1 * (3 : Int32)) + x2).toNatClampNeg)
set_option maxRecDepth 20000 in
set_option maxHeartbeats 2000000 in
theorem sX4_argument {wv : Nat} (M : Mm) (x1 : Int32) (x2 : Int32) {res : Int32} (h : fX4_argument M x1 x2 = some res) : TF wv yX4_argument cX4_argument 4 (some .int) 0 [.inr (7, 0, 0), .inl (.int x1), .inl (.int x2)] M (some (.int res)) M := by
  rw [fX4_argument] at h
  refine TF.go (n := 1) (ls := [some (.inr (7, 0, 0)), some (.inl (.int x1)), some (.inl (.int x2)), none]) rfl rfl rfl rfl rfl ?_
  refine z_iload_n (i := 1) dX4_argument_0 rfl rfl ?_
  refine z_iconst (v := (3 : Int32)) dX4_argument_1 kc_3 ?_
  refine z_imul dX4_argument_2 ?_
  refine z_iload_n (i := 2) dX4_argument_3 rfl rfl ?_
  refine z_iadd dX4_argument_4 ?_
  refine z_istore_n (i := 3) dX4_argument_5 rfl (Nat.le_of_ble_eq_true rfl) rfl ?_
  refine z_iload_n (i := 3) dX4_argument_6 rfl rfl ?_
  refine z_if_lt (tgt := 28) dX4_argument_7 rfl (fun hc1 => ?_) (fun hc1 => ?_)
  · have h := it_t h hc1
    refine z_iconst (v := (-1 : Int32)) dX4_argument_28 kc_m1 ?_
    cases h
    exact z_iret dX4_argument_29 rfl rfl (Nat.le_refl _) (Nat.le_refl _) ⟨rfl, rfl⟩
  · have h := it_f h hc1
    refine z_iload_n (i := 3) dX4_argument_10 rfl rfl ?_
    refine z_aload_n (i := 0) dX4_argument_11 rfl rfl ?_
    refine z_getR (r' := (8, 3, 0)) dX4_argument_12 fl_X4_21 mk7 rfl rfl ?_
    refine z_alen (v := (90 : Int32)) dX4_argument_15 (m8 _ (Nat.le_of_ble_eq_true rfl)) rfl (Nat.le_of_ble_eq_true rfl) (by decide) ?_
    refine z_icmp_ge (tgt := 28) dX4_argument_16 rfl (fun hc2 => ?_) (fun hc2 => ?_)
    · have h := it_t h hc2
      refine z_iconst (v := (-1 : Int32)) dX4_argument_28 kc_m1 ?_
      cases h
      exact z_iret dX4_argument_29 rfl rfl (Nat.le_refl _) (Nat.le_refl _) ⟨rfl, rfl⟩
    · have h := it_f h hc2
      refine z_aload_n (i := 0) dX4_argument_19 rfl rfl ?_
      refine z_getR (r' := (8, 3, 0)) dX4_argument_20 fl_X4_21 mk7 rfl rfl ?_
      refine z_iload_n (i := 3) dX4_argument_23 rfl rfl ?_
      obtain ⟨hc3, h⟩ := chk h
      refine z_iald (x := (M.1 (8, 3, 0) ((x1 * (3 : Int32)) + x2).toNatClampNeg)) dX4_argument_24 (m8 _ (Nat.le_of_ble_eq_true rfl)) rfl hc3 rfl ?_
      refine z_goto (tgt := 29) dX4_argument_25 rfl ?_
      cases h
      exact z_iret dX4_argument_29 rfl rfl (Nat.le_refl _) (Nat.le_refl _) ⟨rfl, rfl⟩
theorem dX4_closeRepeat_0 : decode cX4_closeRepeat 0 = .ok (.iload_n 1, 1) := by decide +kernel
theorem dX4_closeRepeat_1 : decode cX4_closeRepeat 1 = .ok (.ifCond .lt 19, 3) := by decide +kernel
theorem dX4_closeRepeat_4 : decode cX4_closeRepeat 4 = .ok (.iload_n 1, 1) := by decide +kernel
theorem dX4_closeRepeat_5 : decode cX4_closeRepeat 5 = .ok (.bipush 30, 2) := by decide +kernel
theorem dX4_closeRepeat_7 : decode cX4_closeRepeat 7 = .ok (.if_icmp .ge 13, 3) := by decide +kernel
theorem dX4_closeRepeat_10 : decode cX4_closeRepeat 10 = .ok (.aload_n 0, 1) := by decide +kernel
theorem dX4_closeRepeat_11 : decode cX4_closeRepeat 11 = .ok (.getfield 18, 3) := by decide +kernel
theorem dX4_closeRepeat_14 : decode cX4_closeRepeat 14 = .ok (.iload_n 1, 1) := by decide +kernel
theorem dX4_closeRepeat_15 : decode cX4_closeRepeat 15 = .ok (.aload_n 0, 1) := by decide +kernel
theorem dX4_closeRepeat_16 : decode cX4_closeRepeat 16 = .ok (.getfield 24, 3) := by decide +kernel
theorem dX4_closeRepeat_19 : decode cX4_closeRepeat 19 = .ok (.iastore, 1) := by decide +kernel
theorem dX4_closeRepeat_20 : decode cX4_closeRepeat 20 = .ok (.return_, 1) := by decide +kernel
def fX4_closeRepeat (M : Mm) (x1 : Int32) : Option Mm := if x1 < 0 then some M else if (30 : Int32) ≤ x1 then some M else if x1 < 0 ∨ 30 ≤ x1.toNatClampNeg then none else some (putI M (8, 2, 0) x1.toNatClampNeg (M.1 (7, 0, 0) 4))
set_option maxRecDepth 20000 in
set_option maxHeartbeats 2000000 in
theorem sX4_closeRepeat {wv : Nat} (M : Mm) (x1 : Int32) {res : Mm} (h : fX4_closeRepeat M x1 = some res) : TF wv yX4_closeRepeat cX4_closeRepeat 2 none 0 [.inr (7, 0, 0), .inl (.int x1)] M (none) res := by
  rw [fX4_closeRepeat] at h
  refine TF.go (n := 0) (ls := [some (.inr (7, 0, 0)), some (.inl (.int x1))]) rfl rfl rfl rfl rfl ?_
  refine z_iload_n (i := 1) dX4_closeRepeat_0 rfl rfl ?_
  refine z_if_lt (tgt := 20) dX4_closeRepeat_1 rfl (fun hc1 => ?_) (fun hc1 => ?_)
  · have h := it_t h hc1
    cases h
    exact z_vret dX4_closeRepeat_20 rfl (Nat.le_refl _) (Nat.le_refl _) ⟨rfl, rfl⟩
  · have h := it_f h hc1
    refine z_iload_n (i := 1) dX4_closeRepeat_4 rfl rfl ?_
    refine z_bipush (v := (30 : Int32)) dX4_closeRepeat_5 kb_30 ?_
    refine z_icmp_ge (tgt := 20) dX4_closeRepeat_7 rfl (fun hc2 => ?_) (fun hc2 => ?_)
    · have h := it_t h hc2
      cases h
      exact z_vret dX4_closeRepeat_20 rfl (Nat.le_refl _) (Nat.le_refl _) ⟨rfl, rfl⟩
    · have h := it_f h hc2
      refine z_aload_n (i := 0) dX4_closeRepeat_10 rfl rfl ?_
      refine z_getR (r' := (8, 2, 0)) dX4_closeRepeat_11 fl_X4_18 mk7 rfl rfl ?_
      refine z_iload_n (i := 1) dX4_closeRepeat_14 rfl rfl ?_
      refine z_aload_n (i := 0) dX4_closeRepeat_15 rfl rfl ?_
      refine z_getI (x := (M.1 (7, 0, 0) 4)) dX4_closeRepeat_16 fl_X4_24 mk7 rfl rfl ?_
      obtain ⟨hc3, h⟩ := chk h
      refine z_iast (j := x1.toNatClampNeg) allR_nd dX4_closeRepeat_19 (m8 _ (Nat.le_of_ble_eq_true rfl)) rfl hc3 rfl ?_
      cases h
      exact z_vret dX4_closeRepeat_20 rfl (Nat.le_refl _) (Nat.le_refl _) ⟨rfl, rfl⟩
