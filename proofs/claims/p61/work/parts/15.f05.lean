theorem dX3_turnedRow_0 : decode cX3_turnedRow 0 = .ok (.lconst 0, 1) := by decide +kernel
theorem dX3_turnedRow_1 : decode cX3_turnedRow 1 = .ok (.lstore 4, 2) := by decide +kernel
theorem dX3_turnedRow_3 : decode cX3_turnedRow 3 = .ok (.iconst 0, 1) := by decide +kernel
theorem dX3_turnedRow_4 : decode cX3_turnedRow 4 = .ok (.istore 6, 2) := by decide +kernel
theorem dX3_turnedRow_6 : decode cX3_turnedRow 6 = .ok (.iload 6, 2) := by decide +kernel
theorem dX3_turnedRow_8 : decode cX3_turnedRow 8 = .ok (.aload_n 0, 1) := by decide +kernel
theorem dX3_turnedRow_9 : decode cX3_turnedRow 9 = .ok (.getfield 15, 3) := by decide +kernel
theorem dX3_turnedRow_12 : decode cX3_turnedRow 12 = .ok (.if_icmp .ge 52, 3) := by decide +kernel
theorem dX3_turnedRow_15 : decode cX3_turnedRow 15 = .ok (.iload 6, 2) := by decide +kernel
theorem dX3_turnedRow_17 : decode cX3_turnedRow 17 = .ok (.iload_n 3, 1) := by decide +kernel
theorem dX3_turnedRow_18 : decode cX3_turnedRow 18 = .ok (.iadd, 1) := by decide +kernel
theorem dX3_turnedRow_19 : decode cX3_turnedRow 19 = .ok (.aload_n 0, 1) := by decide +kernel
theorem dX3_turnedRow_20 : decode cX3_turnedRow 20 = .ok (.getfield 15, 3) := by decide +kernel
theorem dX3_turnedRow_23 : decode cX3_turnedRow 23 = .ok (.if_icmp .ge 10, 3) := by decide +kernel
theorem dX3_turnedRow_26 : decode cX3_turnedRow 26 = .ok (.iload 6, 2) := by decide +kernel
theorem dX3_turnedRow_28 : decode cX3_turnedRow 28 = .ok (.iload_n 3, 1) := by decide +kernel
theorem dX3_turnedRow_29 : decode cX3_turnedRow 29 = .ok (.iadd, 1) := by decide +kernel
theorem dX3_turnedRow_30 : decode cX3_turnedRow 30 = .ok (.goto 12, 3) := by decide +kernel
theorem dX3_turnedRow_33 : decode cX3_turnedRow 33 = .ok (.iload 6, 2) := by decide +kernel
theorem dX3_turnedRow_35 : decode cX3_turnedRow 35 = .ok (.iload_n 3, 1) := by decide +kernel
theorem dX3_turnedRow_36 : decode cX3_turnedRow 36 = .ok (.iadd, 1) := by decide +kernel
theorem dX3_turnedRow_37 : decode cX3_turnedRow 37 = .ok (.aload_n 0, 1) := by decide +kernel
theorem dX3_turnedRow_38 : decode cX3_turnedRow 38 = .ok (.getfield 15, 3) := by decide +kernel
theorem dX3_turnedRow_41 : decode cX3_turnedRow 41 = .ok (.isub, 1) := by decide +kernel
theorem dX3_turnedRow_42 : decode cX3_turnedRow 42 = .ok (.istore 7, 2) := by decide +kernel
theorem dX3_turnedRow_44 : decode cX3_turnedRow 44 = .ok (.lload 4, 2) := by decide +kernel
theorem dX3_turnedRow_46 : decode cX3_turnedRow 46 = .ok (.lload_n 1, 1) := by decide +kernel
theorem dX3_turnedRow_47 : decode cX3_turnedRow 47 = .ok (.iload 6, 2) := by decide +kernel
theorem dX3_turnedRow_49 : decode cX3_turnedRow 49 = .ok (.lushr, 1) := by decide +kernel
theorem dX3_turnedRow_50 : decode cX3_turnedRow 50 = .ok (.lconst 1, 1) := by decide +kernel
theorem dX3_turnedRow_51 : decode cX3_turnedRow 51 = .ok (.land, 1) := by decide +kernel
theorem dX3_turnedRow_52 : decode cX3_turnedRow 52 = .ok (.iload 7, 2) := by decide +kernel
theorem dX3_turnedRow_54 : decode cX3_turnedRow 54 = .ok (.lshl, 1) := by decide +kernel
theorem dX3_turnedRow_55 : decode cX3_turnedRow 55 = .ok (.lor, 1) := by decide +kernel
theorem dX3_turnedRow_56 : decode cX3_turnedRow 56 = .ok (.lstore 4, 2) := by decide +kernel
theorem dX3_turnedRow_58 : decode cX3_turnedRow 58 = .ok (.iinc 6 1, 3) := by decide +kernel
theorem dX3_turnedRow_61 : decode cX3_turnedRow 61 = .ok (.goto (-55), 3) := by decide +kernel
theorem dX3_turnedRow_64 : decode cX3_turnedRow 64 = .ok (.lload 4, 2) := by decide +kernel
theorem dX3_turnedRow_66 : decode cX3_turnedRow 66 = .ok (.lreturn, 1) := by decide +kernel
def fX3_turnedRow_L6 (M : Mm) (i : Nat) (c1 : Int64) (c3 : Int32) (K : Int64 → Int32 → Option Int64) : Nat → Int64 → Int32 → Option Int64
  | 0, _, _ => none
  | n + 1, v4, v6 => if (M.1 (10, i, 0) 1) ≤ v6 then K v4 v6 else if (M.1 (10, i, 0) 1) ≤ (v6 + c3) then fX3_turnedRow_L6 M i c1 c3 K n (v4 ||| ((((c1.toUInt64 >>> (v6.toInt64.toUInt64 &&& Int64.toUInt64 63)).toInt64) &&& (1 : Int64)) <<< (((v6 + c3) - (M.1 (10, i, 0) 1)).toInt64 &&& 63))) (v6 + (1 : Int32)) else fX3_turnedRow_L6 M i c1 c3 K n (v4 ||| ((((c1.toUInt64 >>> (v6.toInt64.toUInt64 &&& Int64.toUInt64 63)).toInt64) &&& (1 : Int64)) <<< ((v6 + c3).toInt64 &&& 63))) (v6 + (1 : Int32))
def fX3_turnedRow (M : Mm) (i : Nat) (x1 : Int64) (x2 : Int32) : Option Int64 := fX3_turnedRow_L6 M i x1 x2 (fun w3 w4 => some w3) NF (0 : Int64) (0 : Int32)
set_option maxRecDepth 20000 in
set_option maxHeartbeats 2000000 in
theorem sX3_turnedRow_L6 {wv : Wv} (M : Mm) (i : Nat) (c1 : Int64) (c3 : Int32) (hi : i < 12) {res : Int64} {K : Int64 → Int32 → Option Int64} : ∀ (n : Nat) (v4 : Int64) (v6 : Int32), fX3_turnedRow_L6 M i c1 c3 K n v4 v6 = some res →
    (∀ (v4 : Int64) (v6 : Int32), K v4 v6 = some res → Z RX3 cX3_turnedRow 8 (some .long) [] "turnedRow" (rmD 0 0 0) (QM SH (allR wv) 0 0 (fun v M9 => v = some (.long res) ∧ M9 = M) (fun _ _ => False)) (allR wv) SH 0 0 64 [some (.inr (10, i, 0)), some (.inl (.long c1)), none, some (.inl (.int c3)), some (.inl (.long v4)), none, some (.inl (.int v6)), none] [] M) → Z RX3 cX3_turnedRow 8 (some .long) [] "turnedRow" (rmD 0 0 0) (QM SH (allR wv) 0 0 (fun v M9 => v = some (.long res) ∧ M9 = M) (fun _ _ => False)) (allR wv) SH 0 0 6 [some (.inr (10, i, 0)), some (.inl (.long c1)), none, some (.inl (.int c3)), some (.inl (.long v4)), none, some (.inl (.int v6)), none] [] M := by
  intro n
  induction n with
  | zero => intro v4 v6 h; cases h
  | succ n ih =>
    intro v4 v6 h hK
    rw [fX3_turnedRow_L6] at h
    refine z_iload (i := 6) dX3_turnedRow_6 rfl ?_
    refine z_aload_n (i := 0) dX3_turnedRow_8 rfl rfl ?_
    refine z_getI (x := (M.1 (10, i, 0) 1)) dX3_turnedRow_9 fl_X3_15 (m10 _ hi) rfl rfl ?_
    refine z_icmp_ge (tgt := 64) dX3_turnedRow_12 rfl (fun hc1 => ?_) (fun hc1 => ?_)
    · have h := it_t h hc1
      exact hK _ _ h
    · have h := it_f h hc1
      refine z_iload (i := 6) dX3_turnedRow_15 rfl ?_
      refine z_iload_n (i := 3) dX3_turnedRow_17 rfl rfl ?_
      refine z_iadd dX3_turnedRow_18 ?_
      refine z_aload_n (i := 0) dX3_turnedRow_19 rfl rfl ?_
      refine z_getI (x := (M.1 (10, i, 0) 1)) dX3_turnedRow_20 fl_X3_15 (m10 _ hi) rfl rfl ?_
      refine z_icmp_ge (tgt := 33) dX3_turnedRow_23 rfl (fun hc2 => ?_) (fun hc2 => ?_)
      · have h := it_t h hc2
        refine z_iload (i := 6) dX3_turnedRow_33 rfl ?_
        refine z_iload_n (i := 3) dX3_turnedRow_35 rfl rfl ?_
        refine z_iadd dX3_turnedRow_36 ?_
        refine z_aload_n (i := 0) dX3_turnedRow_37 rfl rfl ?_
        refine z_getI (x := (M.1 (10, i, 0) 1)) dX3_turnedRow_38 fl_X3_15 (m10 _ hi) rfl rfl ?_
        refine z_isub dX3_turnedRow_41 ?_
        refine z_istore (i := 7) dX3_turnedRow_42 (Nat.le_of_ble_eq_true rfl) rfl ?_
        refine z_lload (i := 4) dX3_turnedRow_44 rfl ?_
        refine z_lload_n (i := 1) dX3_turnedRow_46 rfl rfl ?_
        refine z_iload (i := 6) dX3_turnedRow_47 rfl ?_
        refine z_lushr dX3_turnedRow_49 ?_
        refine z_lconst (v := (1 : Int64)) dX3_turnedRow_50 (by decide) ?_
        refine z_land dX3_turnedRow_51 ?_
        refine z_iload (i := 7) dX3_turnedRow_52 rfl ?_
        refine z_lshl dX3_turnedRow_54 ?_
        refine z_lor dX3_turnedRow_55 ?_
        refine z_lstore (i := 4) dX3_turnedRow_56 (Nat.le_of_ble_eq_true rfl) rfl ?_
        refine z_iinc (i := 6) (v := (v6 + (1 : Int32))) dX3_turnedRow_58 rfl (iinc_k kc_1) (Nat.le_of_ble_eq_true rfl) rfl ?_
        refine z_goto (tgt := 6) dX3_turnedRow_61 rfl ?_
        refine z_fgt (i := 7) ?_
        exact ih _ _ h hK
      · have h := it_f h hc2
        refine z_iload (i := 6) dX3_turnedRow_26 rfl ?_
        refine z_iload_n (i := 3) dX3_turnedRow_28 rfl rfl ?_
        refine z_iadd dX3_turnedRow_29 ?_
        refine z_goto (tgt := 42) dX3_turnedRow_30 rfl ?_
        refine z_istore (i := 7) dX3_turnedRow_42 (Nat.le_of_ble_eq_true rfl) rfl ?_
        refine z_lload (i := 4) dX3_turnedRow_44 rfl ?_
        refine z_lload_n (i := 1) dX3_turnedRow_46 rfl rfl ?_
        refine z_iload (i := 6) dX3_turnedRow_47 rfl ?_
        refine z_lushr dX3_turnedRow_49 ?_
        refine z_lconst (v := (1 : Int64)) dX3_turnedRow_50 (by decide) ?_
        refine z_land dX3_turnedRow_51 ?_
        refine z_iload (i := 7) dX3_turnedRow_52 rfl ?_
        refine z_lshl dX3_turnedRow_54 ?_
        refine z_lor dX3_turnedRow_55 ?_
        refine z_lstore (i := 4) dX3_turnedRow_56 (Nat.le_of_ble_eq_true rfl) rfl ?_
        refine z_iinc (i := 6) (v := (v6 + (1 : Int32))) dX3_turnedRow_58 rfl (iinc_k kc_1) (Nat.le_of_ble_eq_true rfl) rfl ?_
        refine z_goto (tgt := 6) dX3_turnedRow_61 rfl ?_
        refine z_fgt (i := 7) ?_
        exact ih _ _ h hK
set_option maxRecDepth 20000 in
set_option maxHeartbeats 2000000 in
theorem sX3_turnedRow {wv : Wv} (M : Mm) (i : Nat) (x1 : Int64) (x2 : Int32) (hi : i < 12) {res : Int64} (h : fX3_turnedRow M i x1 x2 = some res) : TF wv yX3_turnedRow cX3_turnedRow 8 (some .long) 0 [.inr (10, i, 0), .inl (.long x1), .inl (.int x2)] M (some (.long res)) M := by
  rw [fX3_turnedRow] at h
  refine TF.go (n := 4) (ls := [some (.inr (10, i, 0)), some (.inl (.long x1)), none, some (.inl (.int x2)), none, none, none, none]) rfl rfl rfl rfl rfl ?_
  refine z_lconst (v := (0 : Int64)) dX3_turnedRow_0 (by decide) ?_
  refine z_lstore (i := 4) dX3_turnedRow_1 (Nat.le_of_ble_eq_true rfl) rfl ?_
  refine z_iconst (v := (0 : Int32)) dX3_turnedRow_3 kc_0 ?_
  refine z_istore (i := 6) dX3_turnedRow_4 (Nat.le_of_ble_eq_true rfl) rfl ?_
  refine sX3_turnedRow_L6 M i x1 x2 hi NF _ _ h (fun w3 w4 h => ?_)
  refine z_lload (i := 4) dX3_turnedRow_64 rfl ?_
  cases h
  exact z_lret dX3_turnedRow_66 rfl (Nat.le_refl _) (Nat.le_refl _) ⟨rfl, rfl⟩
theorem dX3_turnPins_0 : decode cX3_turnPins 0 = .ok (.iload_n 2, 1) := by decide +kernel
theorem dX3_turnPins_1 : decode cX3_turnPins 1 = .ok (.iconst 1, 1) := by decide +kernel
theorem dX3_turnPins_2 : decode cX3_turnPins 2 = .ok (.aload_n 0, 1) := by decide +kernel
theorem dX3_turnPins_3 : decode cX3_turnPins 3 = .ok (.getfield 15, 3) := by decide +kernel
theorem dX3_turnPins_6 : decode cX3_turnPins 6 = .ok (.invokestatic 65, 3) := by decide +kernel
theorem dX3_turnPins_9 : decode cX3_turnPins 9 = .ok (.invokestatic 73, 3) := by decide +kernel
theorem dX3_turnPins_12 : decode cX3_turnPins 12 = .ok (.istore_n 3, 1) := by decide +kernel
theorem dX3_turnPins_13 : decode cX3_turnPins 13 = .ok (.iconst 0, 1) := by decide +kernel
theorem dX3_turnPins_14 : decode cX3_turnPins 14 = .ok (.istore 4, 2) := by decide +kernel
theorem dX3_turnPins_16 : decode cX3_turnPins 16 = .ok (.iload 4, 2) := by decide +kernel
theorem dX3_turnPins_18 : decode cX3_turnPins 18 = .ok (.bipush 12, 2) := by decide +kernel
theorem dX3_turnPins_20 : decode cX3_turnPins 20 = .ok (.if_icmp .ge 28, 3) := by decide +kernel
theorem dX3_turnPins_23 : decode cX3_turnPins 23 = .ok (.aload_n 0, 1) := by decide +kernel
theorem dX3_turnPins_24 : decode cX3_turnPins 24 = .ok (.iload_n 1, 1) := by decide +kernel
theorem dX3_turnPins_25 : decode cX3_turnPins 25 = .ok (.iload 4, 2) := by decide +kernel
theorem dX3_turnPins_27 : decode cX3_turnPins 27 = .ok (.aload_n 0, 1) := by decide +kernel
theorem dX3_turnPins_28 : decode cX3_turnPins 28 = .ok (.aload_n 0, 1) := by decide +kernel
theorem dX3_turnPins_29 : decode cX3_turnPins 29 = .ok (.iload_n 1, 1) := by decide +kernel
theorem dX3_turnPins_30 : decode cX3_turnPins 30 = .ok (.iload 4, 2) := by decide +kernel
theorem dX3_turnPins_32 : decode cX3_turnPins 32 = .ok (.invokevirtual 41, 3) := by decide +kernel
theorem dX3_turnPins_35 : decode cX3_turnPins 35 = .ok (.iload_n 3, 1) := by decide +kernel
theorem dX3_turnPins_36 : decode cX3_turnPins 36 = .ok (.invokevirtual 76, 3) := by decide +kernel
theorem dX3_turnPins_39 : decode cX3_turnPins 39 = .ok (.invokevirtual 45, 3) := by decide +kernel
theorem dX3_turnPins_42 : decode cX3_turnPins 42 = .ok (.iinc 4 1, 3) := by decide +kernel
theorem dX3_turnPins_45 : decode cX3_turnPins 45 = .ok (.goto (-29), 3) := by decide +kernel
theorem dX3_turnPins_48 : decode cX3_turnPins 48 = .ok (.return_, 1) := by decide +kernel
def fX3_turnPins_L16 (i : Nat) (c1 : Int32) (c3 : Int32) (K : Int32 → Mm → Option Mm) : Nat → Int32 → Mm → Option Mm
  | 0, _, _ => none
  | n + 1, v4, M => if (12 : Int32) ≤ v4 then K v4 M else (fX3_row M i c1 v4).bind fun q4 => (fX3_turnedRow M i q4 c3).bind fun q6 => (fX3_setRow M i c1 v4 q6).bind fun q8 => fX3_turnPins_L16 i c1 c3 K n (v4 + (1 : Int32)) q8
def fX3_turnPins (M : Mm) (i : Nat) (x1 : Int32) (x2 : Int32) : Option Mm := (fJ9_floorMod_7cf53 M x2 (fJ9_max_7cf53 M (1 : Int32) (M.1 (10, i, 0) 1))).bind fun q1 => fX3_turnPins_L16 i x1 q1 (fun w10 M11 => some M11) NF (0 : Int32) M
set_option maxRecDepth 20000 in
set_option maxHeartbeats 2000000 in
theorem sX3_turnPins_L16 {wv : Wv} (i : Nat) (c1 : Int32) (c3 : Int32) (hi : i < 12) {res : Mm} {K : Int32 → Mm → Option Mm} : ∀ (n : Nat) (v4 : Int32) (M : Mm), fX3_turnPins_L16 i c1 c3 K n v4 M = some res →
    (∀ (v4 : Int32) (M : Mm), K v4 M = some res → Z RX3 cX3_turnPins 5 none [] "turnPins" (rmD 2 0 0) (QM SH (allR wv) 0 0 (fun v M9 => v = none ∧ M9 = res) (fun _ _ => False)) (allR wv) SH 0 0 48 [some (.inr (10, i, 0)), some (.inl (.int c1)), none, some (.inl (.int c3)), some (.inl (.int v4))] [] M) → Z RX3 cX3_turnPins 5 none [] "turnPins" (rmD 2 0 0) (QM SH (allR wv) 0 0 (fun v M9 => v = none ∧ M9 = res) (fun _ _ => False)) (allR wv) SH 0 0 16 [some (.inr (10, i, 0)), some (.inl (.int c1)), none, some (.inl (.int c3)), some (.inl (.int v4))] [] M := by
  intro n
  induction n with
  | zero => intro v4 M h; cases h
  | succ n ih =>
    intro v4 M h hK
    rw [fX3_turnPins_L16] at h
    refine z_iload (i := 4) dX3_turnPins_16 rfl ?_
    refine z_bipush (v := (12 : Int32)) dX3_turnPins_18 kb_12 ?_
    refine z_icmp_ge (tgt := 48) dX3_turnPins_20 rfl (fun hc3 => ?_) (fun hc3 => ?_)
    · have h := it_t h hc3
      exact hK _ _ h
    · have h := it_f h hc3
      refine z_aload_n (i := 0) dX3_turnPins_23 rfl rfl ?_
      refine z_iload_n (i := 1) dX3_turnPins_24 rfl rfl ?_
      refine z_iload (i := 4) dX3_turnPins_25 rfl ?_
      refine z_aload_n (i := 0) dX3_turnPins_27 rfl rfl ?_
      refine z_aload_n (i := 0) dX3_turnPins_28 rfl rfl ?_
      refine z_iload_n (i := 1) dX3_turnPins_29 rfl rfl ?_
      refine z_iload (i := 4) dX3_turnPins_30 rfl ?_
      obtain ⟨q4, hq5, h⟩ := bnd h
      refine z_fVl (sX3_row M i c1 v4 hi hq5) dX3_turnPins_32 ml_X3_41 cd_X3_row (m10 _ hi) rfl rfl rfl rfl rfl rfl ?_
      refine z_iload_n (i := 3) dX3_turnPins_35 rfl rfl ?_
      obtain ⟨q6, hq7, h⟩ := bnd h
      refine z_fVl (sX3_turnedRow M i q4 c3 hi hq7) dX3_turnPins_36 ml_X3_76 cd_X3_turnedRow (m10 _ hi) rfl rfl rfl rfl rfl rfl ?_
      obtain ⟨q8, hq9, h⟩ := bnd h
      refine z_fVv (sX3_setRow M i c1 v4 q6 hi hq9) dX3_turnPins_39 ml_X3_45 cd_X3_setRow (m10 _ hi) rfl rfl rfl rfl rfl rfl ?_
      refine z_iinc (i := 4) (v := (v4 + (1 : Int32))) dX3_turnPins_42 rfl (iinc_k kc_1) (Nat.le_of_ble_eq_true rfl) rfl ?_
      refine z_goto (tgt := 16) dX3_turnPins_45 rfl ?_
      exact ih _ _ h hK
set_option maxRecDepth 20000 in
set_option maxHeartbeats 2000000 in
theorem sX3_turnPins {wv : Wv} (M : Mm) (i : Nat) (x1 : Int32) (x2 : Int32) (hi : i < 12) {res : Mm} (h : fX3_turnPins M i x1 x2 = some res) : TF wv yX3_turnPins cX3_turnPins 5 none 2 [.inr (10, i, 0), .inl (.int x1), .inl (.int x2)] M (none) res := by
  rw [fX3_turnPins] at h
  refine TF.go (n := 2) (ls := [some (.inr (10, i, 0)), some (.inl (.int x1)), some (.inl (.int x2)), none, none]) rfl rfl rfl rfl rfl ?_
  refine z_iload_n (i := 2) dX3_turnPins_0 rfl rfl ?_
  refine z_iconst (v := (1 : Int32)) dX3_turnPins_1 kc_1 ?_
  refine z_aload_n (i := 0) dX3_turnPins_2 rfl rfl ?_
  refine z_getI (x := (M.1 (10, i, 0) 1)) dX3_turnPins_3 fl_X3_15 (m10 _ hi) rfl rfl ?_
  refine z_fSi (sJ9_max_7cf53 M (1 : Int32) (M.1 (10, i, 0) 1)) dX3_turnPins_6 ml_X3_65 cd_J9_max_7cf53 rfl rfl rfl rfl rfl ?_
  obtain ⟨q1, hq2, h⟩ := bnd h
  refine z_fSi (sJ9_floorMod_7cf53 M x2 (fJ9_max_7cf53 M (1 : Int32) (M.1 (10, i, 0) 1)) hq2) dX3_turnPins_9 ml_X3_73 cd_J9_floorMod_7cf53 rfl rfl rfl rfl rfl ?_
  refine z_istore_n (i := 3) dX3_turnPins_12 rfl (Nat.le_of_ble_eq_true rfl) rfl ?_
  refine z_iconst (v := (0 : Int32)) dX3_turnPins_13 kc_0 ?_
  refine z_istore (i := 4) dX3_turnPins_14 (Nat.le_of_ble_eq_true rfl) rfl ?_
  refine z_fgt (i := 2) ?_
  refine sX3_turnPins_L16 i x1 q1 hi NF _ _ h (fun w10 M11 h => ?_)
  cases h
  exact z_vret dX3_turnPins_48 rfl (Nat.le_refl _) (Nat.le_refl _) ⟨rfl, rfl⟩
theorem dX3_movePins_0 : decode cX3_movePins 0 = .ok (.iconst 0, 1) := by decide +kernel
theorem dX3_movePins_1 : decode cX3_movePins 1 = .ok (.istore_n 3, 1) := by decide +kernel
theorem dX3_movePins_2 : decode cX3_movePins 2 = .ok (.iload_n 3, 1) := by decide +kernel
theorem dX3_movePins_3 : decode cX3_movePins 3 = .ok (.bipush 12, 2) := by decide +kernel
theorem dX3_movePins_5 : decode cX3_movePins 5 = .ok (.if_icmp .ge 39, 3) := by decide +kernel
theorem dX3_movePins_8 : decode cX3_movePins 8 = .ok (.iload_n 2, 1) := by decide +kernel
theorem dX3_movePins_9 : decode cX3_movePins 9 = .ok (.ifCond .le 10, 3) := by decide +kernel
theorem dX3_movePins_12 : decode cX3_movePins 12 = .ok (.bipush 11, 2) := by decide +kernel
theorem dX3_movePins_14 : decode cX3_movePins 14 = .ok (.iload_n 3, 1) := by decide +kernel
theorem dX3_movePins_15 : decode cX3_movePins 15 = .ok (.isub, 1) := by decide +kernel
theorem dX3_movePins_16 : decode cX3_movePins 16 = .ok (.goto 4, 3) := by decide +kernel
theorem dX3_movePins_19 : decode cX3_movePins 19 = .ok (.iload_n 3, 1) := by decide +kernel
theorem dX3_movePins_20 : decode cX3_movePins 20 = .ok (.istore 4, 2) := by decide +kernel
theorem dX3_movePins_22 : decode cX3_movePins 22 = .ok (.aload_n 0, 1) := by decide +kernel
theorem dX3_movePins_23 : decode cX3_movePins 23 = .ok (.iload_n 1, 1) := by decide +kernel
theorem dX3_movePins_24 : decode cX3_movePins 24 = .ok (.iload 4, 2) := by decide +kernel
theorem dX3_movePins_26 : decode cX3_movePins 26 = .ok (.aload_n 0, 1) := by decide +kernel
theorem dX3_movePins_27 : decode cX3_movePins 27 = .ok (.iload_n 1, 1) := by decide +kernel
theorem dX3_movePins_28 : decode cX3_movePins 28 = .ok (.iload 4, 2) := by decide +kernel
theorem dX3_movePins_30 : decode cX3_movePins 30 = .ok (.iload_n 2, 1) := by decide +kernel
theorem dX3_movePins_31 : decode cX3_movePins 31 = .ok (.isub, 1) := by decide +kernel
theorem dX3_movePins_32 : decode cX3_movePins 32 = .ok (.invokevirtual 41, 3) := by decide +kernel
theorem dX3_movePins_35 : decode cX3_movePins 35 = .ok (.invokevirtual 45, 3) := by decide +kernel
theorem dX3_movePins_38 : decode cX3_movePins 38 = .ok (.iinc 3 1, 3) := by decide +kernel
theorem dX3_movePins_41 : decode cX3_movePins 41 = .ok (.goto (-39), 3) := by decide +kernel
theorem dX3_movePins_44 : decode cX3_movePins 44 = .ok (.return_, 1) := by decide +kernel
def fX3_movePins_L2 (i : Nat) (c1 : Int32) (c2 : Int32) (K : Int32 → Mm → Option Mm) : Nat → Int32 → Mm → Option Mm
  | 0, _, _ => none
  | n + 1, v3, M => if (12 : Int32) ≤ v3 then K v3 M else if c2 ≤ 0 then ((fX3_row M i c1 (v3 - c2)).bind fun q3 => (fX3_setRow M i c1 v3 q3).bind fun q5 => fX3_movePins_L2 i c1 c2 K n (v3 + (1 : Int32)) q5) else (fX3_row M i c1 (((11 : Int32) - v3) - c2)).bind fun q7 => (fX3_setRow M i c1 ((11 : Int32) - v3) q7).bind fun q9 => fX3_movePins_L2 i c1 c2 K n (v3 + (1 : Int32)) q9
def fX3_movePins (M : Mm) (i : Nat) (x1 : Int32) (x2 : Int32) : Option Mm := fX3_movePins_L2 i x1 x2 (fun w11 M12 => some M12) NF (0 : Int32) M
set_option maxRecDepth 20000 in
set_option maxHeartbeats 2000000 in
theorem sX3_movePins_L2 {wv : Wv} (i : Nat) (c1 : Int32) (c2 : Int32) (hi : i < 12) {res : Mm} {K : Int32 → Mm → Option Mm} : ∀ (n : Nat) (v3 : Int32) (M : Mm), fX3_movePins_L2 i c1 c2 K n v3 M = some res →
    (∀ (v3 : Int32) (M : Mm), K v3 M = some res → Z RX3 cX3_movePins 5 none [] "movePins" (rmD 2 0 0) (QM SH (allR wv) 0 0 (fun v M9 => v = none ∧ M9 = res) (fun _ _ => False)) (allR wv) SH 0 0 44 [some (.inr (10, i, 0)), some (.inl (.int c1)), some (.inl (.int c2)), some (.inl (.int v3)), none] [] M) → Z RX3 cX3_movePins 5 none [] "movePins" (rmD 2 0 0) (QM SH (allR wv) 0 0 (fun v M9 => v = none ∧ M9 = res) (fun _ _ => False)) (allR wv) SH 0 0 2 [some (.inr (10, i, 0)), some (.inl (.int c1)), some (.inl (.int c2)), some (.inl (.int v3)), none] [] M := by
  intro n
  induction n with
  | zero => intro v3 M h; cases h
  | succ n ih =>
    intro v3 M h hK
    rw [fX3_movePins_L2] at h
    refine z_iload_n (i := 3) dX3_movePins_2 rfl rfl ?_
    refine z_bipush (v := (12 : Int32)) dX3_movePins_3 kb_12 ?_
    refine z_icmp_ge (tgt := 44) dX3_movePins_5 rfl (fun hc1 => ?_) (fun hc1 => ?_)
    · have h := it_t h hc1
      exact hK _ _ h
    · have h := it_f h hc1
      refine z_iload_n (i := 2) dX3_movePins_8 rfl rfl ?_
      refine z_if_le (tgt := 19) dX3_movePins_9 rfl (fun hc2 => ?_) (fun hc2 => ?_)
      · have h := it_t h hc2
        refine z_iload_n (i := 3) dX3_movePins_19 rfl rfl ?_
        refine z_istore (i := 4) dX3_movePins_20 (Nat.le_of_ble_eq_true rfl) rfl ?_
        refine z_aload_n (i := 0) dX3_movePins_22 rfl rfl ?_
        refine z_iload_n (i := 1) dX3_movePins_23 rfl rfl ?_
        refine z_iload (i := 4) dX3_movePins_24 rfl ?_
        refine z_aload_n (i := 0) dX3_movePins_26 rfl rfl ?_
        refine z_iload_n (i := 1) dX3_movePins_27 rfl rfl ?_
        refine z_iload (i := 4) dX3_movePins_28 rfl ?_
        refine z_iload_n (i := 2) dX3_movePins_30 rfl rfl ?_
        refine z_isub dX3_movePins_31 ?_
        obtain ⟨q3, hq4, h⟩ := bnd h
        refine z_fVl (sX3_row M i c1 (v3 - c2) hi hq4) dX3_movePins_32 ml_X3_41 cd_X3_row (m10 _ hi) rfl rfl rfl rfl rfl rfl ?_
        obtain ⟨q5, hq6, h⟩ := bnd h
        refine z_fVv (sX3_setRow M i c1 v3 q3 hi hq6) dX3_movePins_35 ml_X3_45 cd_X3_setRow (m10 _ hi) rfl rfl rfl rfl rfl rfl ?_
        refine z_iinc (i := 3) (v := (v3 + (1 : Int32))) dX3_movePins_38 rfl (iinc_k kc_1) (Nat.le_of_ble_eq_true rfl) rfl ?_
        refine z_goto (tgt := 2) dX3_movePins_41 rfl ?_
        refine z_fgt (i := 4) ?_
        exact ih _ _ h hK
      · have h := it_f h hc2
        refine z_bipush (v := (11 : Int32)) dX3_movePins_12 kb_11 ?_
        refine z_iload_n (i := 3) dX3_movePins_14 rfl rfl ?_
        refine z_isub dX3_movePins_15 ?_
        refine z_goto (tgt := 20) dX3_movePins_16 rfl ?_
        refine z_istore (i := 4) dX3_movePins_20 (Nat.le_of_ble_eq_true rfl) rfl ?_
        refine z_aload_n (i := 0) dX3_movePins_22 rfl rfl ?_
        refine z_iload_n (i := 1) dX3_movePins_23 rfl rfl ?_
        refine z_iload (i := 4) dX3_movePins_24 rfl ?_
        refine z_aload_n (i := 0) dX3_movePins_26 rfl rfl ?_
        refine z_iload_n (i := 1) dX3_movePins_27 rfl rfl ?_
        refine z_iload (i := 4) dX3_movePins_28 rfl ?_
        refine z_iload_n (i := 2) dX3_movePins_30 rfl rfl ?_
        refine z_isub dX3_movePins_31 ?_
        obtain ⟨q7, hq8, h⟩ := bnd h
        refine z_fVl (sX3_row M i c1 (((11 : Int32) - v3) - c2) hi hq8) dX3_movePins_32 ml_X3_41 cd_X3_row (m10 _ hi) rfl rfl rfl rfl rfl rfl ?_
        obtain ⟨q9, hq10, h⟩ := bnd h
        refine z_fVv (sX3_setRow M i c1 ((11 : Int32) - v3) q7 hi hq10) dX3_movePins_35 ml_X3_45 cd_X3_setRow (m10 _ hi) rfl rfl rfl rfl rfl rfl ?_
        refine z_iinc (i := 3) (v := (v3 + (1 : Int32))) dX3_movePins_38 rfl (iinc_k kc_1) (Nat.le_of_ble_eq_true rfl) rfl ?_
        refine z_goto (tgt := 2) dX3_movePins_41 rfl ?_
        refine z_fgt (i := 4) ?_
        exact ih _ _ h hK
set_option maxRecDepth 20000 in
set_option maxHeartbeats 2000000 in
theorem sX3_movePins {wv : Wv} (M : Mm) (i : Nat) (x1 : Int32) (x2 : Int32) (hi : i < 12) {res : Mm} (h : fX3_movePins M i x1 x2 = some res) : TF wv yX3_movePins cX3_movePins 5 none 2 [.inr (10, i, 0), .inl (.int x1), .inl (.int x2)] M (none) res := by
  rw [fX3_movePins] at h
  refine TF.go (n := 2) (ls := [some (.inr (10, i, 0)), some (.inl (.int x1)), some (.inl (.int x2)), none, none]) rfl rfl rfl rfl rfl ?_
  refine z_iconst (v := (0 : Int32)) dX3_movePins_0 kc_0 ?_
  refine z_istore_n (i := 3) dX3_movePins_1 rfl (Nat.le_of_ble_eq_true rfl) rfl ?_
  refine sX3_movePins_L2 i x1 x2 hi NF _ _ h (fun w11 M12 h => ?_)
  cases h
  exact z_vret dX3_movePins_44 rfl (Nat.le_refl _) (Nat.le_refl _) ⟨rfl, rfl⟩
theorem dX3_copyPins_0 : decode cX3_copyPins 0 = .ok (.iconst 0, 1) := by decide +kernel
theorem dX3_copyPins_1 : decode cX3_copyPins 1 = .ok (.istore_n 3, 1) := by decide +kernel
theorem dX3_copyPins_2 : decode cX3_copyPins 2 = .ok (.iload_n 3, 1) := by decide +kernel
theorem dX3_copyPins_3 : decode cX3_copyPins 3 = .ok (.bipush 12, 2) := by decide +kernel
theorem dX3_copyPins_5 : decode cX3_copyPins 5 = .ok (.if_icmp .ge 21, 3) := by decide +kernel
theorem dX3_copyPins_8 : decode cX3_copyPins 8 = .ok (.aload_n 0, 1) := by decide +kernel
theorem dX3_copyPins_9 : decode cX3_copyPins 9 = .ok (.iload_n 2, 1) := by decide +kernel
theorem dX3_copyPins_10 : decode cX3_copyPins 10 = .ok (.iload_n 3, 1) := by decide +kernel
theorem dX3_copyPins_11 : decode cX3_copyPins 11 = .ok (.aload_n 0, 1) := by decide +kernel
theorem dX3_copyPins_12 : decode cX3_copyPins 12 = .ok (.iload_n 1, 1) := by decide +kernel
theorem dX3_copyPins_13 : decode cX3_copyPins 13 = .ok (.iload_n 3, 1) := by decide +kernel
theorem dX3_copyPins_14 : decode cX3_copyPins 14 = .ok (.invokevirtual 41, 3) := by decide +kernel
theorem dX3_copyPins_17 : decode cX3_copyPins 17 = .ok (.invokevirtual 45, 3) := by decide +kernel
theorem dX3_copyPins_20 : decode cX3_copyPins 20 = .ok (.iinc 3 1, 3) := by decide +kernel
theorem dX3_copyPins_23 : decode cX3_copyPins 23 = .ok (.goto (-21), 3) := by decide +kernel
theorem dX3_copyPins_26 : decode cX3_copyPins 26 = .ok (.return_, 1) := by decide +kernel
def fX3_copyPins_L2 (i : Nat) (c1 : Int32) (c2 : Int32) (K : Int32 → Mm → Option Mm) : Nat → Int32 → Mm → Option Mm
  | 0, _, _ => none
  | n + 1, v3, M => if (12 : Int32) ≤ v3 then K v3 M else (fX3_row M i c1 v3).bind fun q2 => (fX3_setRow M i c2 v3 q2).bind fun q4 => fX3_copyPins_L2 i c1 c2 K n (v3 + (1 : Int32)) q4
def fX3_copyPins (M : Mm) (i : Nat) (x1 : Int32) (x2 : Int32) : Option Mm := fX3_copyPins_L2 i x1 x2 (fun w6 M7 => some M7) NF (0 : Int32) M
set_option maxRecDepth 20000 in
set_option maxHeartbeats 2000000 in
theorem sX3_copyPins_L2 {wv : Wv} (i : Nat) (c1 : Int32) (c2 : Int32) (hi : i < 12) {res : Mm} {K : Int32 → Mm → Option Mm} : ∀ (n : Nat) (v3 : Int32) (M : Mm), fX3_copyPins_L2 i c1 c2 K n v3 M = some res →
    (∀ (v3 : Int32) (M : Mm), K v3 M = some res → Z RX3 cX3_copyPins 4 none [] "copyPins" (rmD 2 0 0) (QM SH (allR wv) 0 0 (fun v M9 => v = none ∧ M9 = res) (fun _ _ => False)) (allR wv) SH 0 0 26 [some (.inr (10, i, 0)), some (.inl (.int c1)), some (.inl (.int c2)), some (.inl (.int v3))] [] M) → Z RX3 cX3_copyPins 4 none [] "copyPins" (rmD 2 0 0) (QM SH (allR wv) 0 0 (fun v M9 => v = none ∧ M9 = res) (fun _ _ => False)) (allR wv) SH 0 0 2 [some (.inr (10, i, 0)), some (.inl (.int c1)), some (.inl (.int c2)), some (.inl (.int v3))] [] M := by
  intro n
  induction n with
  | zero => intro v3 M h; cases h
  | succ n ih =>
    intro v3 M h hK
    rw [fX3_copyPins_L2] at h
    refine z_iload_n (i := 3) dX3_copyPins_2 rfl rfl ?_
    refine z_bipush (v := (12 : Int32)) dX3_copyPins_3 kb_12 ?_
    refine z_icmp_ge (tgt := 26) dX3_copyPins_5 rfl (fun hc1 => ?_) (fun hc1 => ?_)
    · have h := it_t h hc1
      exact hK _ _ h
    · have h := it_f h hc1
      refine z_aload_n (i := 0) dX3_copyPins_8 rfl rfl ?_
      refine z_iload_n (i := 2) dX3_copyPins_9 rfl rfl ?_
      refine z_iload_n (i := 3) dX3_copyPins_10 rfl rfl ?_
      refine z_aload_n (i := 0) dX3_copyPins_11 rfl rfl ?_
      refine z_iload_n (i := 1) dX3_copyPins_12 rfl rfl ?_
      refine z_iload_n (i := 3) dX3_copyPins_13 rfl rfl ?_
      obtain ⟨q2, hq3, h⟩ := bnd h
      refine z_fVl (sX3_row M i c1 v3 hi hq3) dX3_copyPins_14 ml_X3_41 cd_X3_row (m10 _ hi) rfl rfl rfl rfl rfl rfl ?_
      obtain ⟨q4, hq5, h⟩ := bnd h
      refine z_fVv (sX3_setRow M i c2 v3 q2 hi hq5) dX3_copyPins_17 ml_X3_45 cd_X3_setRow (m10 _ hi) rfl rfl rfl rfl rfl rfl ?_
      refine z_iinc (i := 3) (v := (v3 + (1 : Int32))) dX3_copyPins_20 rfl (iinc_k kc_1) (Nat.le_of_ble_eq_true rfl) rfl ?_
      refine z_goto (tgt := 2) dX3_copyPins_23 rfl ?_
      exact ih _ _ h hK
set_option maxRecDepth 20000 in
set_option maxHeartbeats 2000000 in
theorem sX3_copyPins {wv : Wv} (M : Mm) (i : Nat) (x1 : Int32) (x2 : Int32) (hi : i < 12) {res : Mm} (h : fX3_copyPins M i x1 x2 = some res) : TF wv yX3_copyPins cX3_copyPins 4 none 2 [.inr (10, i, 0), .inl (.int x1), .inl (.int x2)] M (none) res := by
  rw [fX3_copyPins] at h
  refine TF.go (n := 1) (ls := [some (.inr (10, i, 0)), some (.inl (.int x1)), some (.inl (.int x2)), none]) rfl rfl rfl rfl rfl ?_
  refine z_iconst (v := (0 : Int32)) dX3_copyPins_0 kc_0 ?_
  refine z_istore_n (i := 3) dX3_copyPins_1 rfl (Nat.le_of_ble_eq_true rfl) rfl ?_
  refine sX3_copyPins_L2 i x1 x2 hi NF _ _ h (fun w6 M7 h => ?_)
  cases h
  exact z_vret dX3_copyPins_26 rfl (Nat.le_refl _) (Nat.le_refl _) ⟨rfl, rfl⟩
theorem dX7_kindOf_0 : decode cX7_kindOf 0 = .ok (.iload_n 0, 1) := by decide +kernel
theorem dX7_kindOf_1 : decode cX7_kindOf 1 = .ok (.bipush 32, 2) := by decide +kernel
theorem dX7_kindOf_3 : decode cX7_kindOf 3 = .ok (.if_icmp .eq 9, 3) := by decide +kernel
theorem dX7_kindOf_6 : decode cX7_kindOf 6 = .ok (.iload_n 0, 1) := by decide +kernel
theorem dX7_kindOf_7 : decode cX7_kindOf 7 = .ok (.bipush 10, 2) := by decide +kernel
theorem dX7_kindOf_9 : decode cX7_kindOf 9 = .ok (.if_icmp .ne 5, 3) := by decide +kernel
theorem dX7_kindOf_12 : decode cX7_kindOf 12 = .ok (.iconst 4, 1) := by decide +kernel
theorem dX7_kindOf_13 : decode cX7_kindOf 13 = .ok (.ireturn, 1) := by decide +kernel
theorem dX7_kindOf_14 : decode cX7_kindOf 14 = .ok (.iload_n 0, 1) := by decide +kernel
theorem dX7_kindOf_15 : decode cX7_kindOf 15 = .ok (.bipush 97, 2) := by decide +kernel
theorem dX7_kindOf_17 : decode cX7_kindOf 17 = .ok (.if_icmp .lt 11, 3) := by decide +kernel
theorem dX7_kindOf_20 : decode cX7_kindOf 20 = .ok (.iload_n 0, 1) := by decide +kernel
theorem dX7_kindOf_21 : decode cX7_kindOf 21 = .ok (.bipush 122, 2) := by decide +kernel
theorem dX7_kindOf_23 : decode cX7_kindOf 23 = .ok (.if_icmp .gt 5, 3) := by decide +kernel
theorem dX7_kindOf_26 : decode cX7_kindOf 26 = .ok (.iconst 1, 1) := by decide +kernel
theorem dX7_kindOf_27 : decode cX7_kindOf 27 = .ok (.ireturn, 1) := by decide +kernel
theorem dX7_kindOf_28 : decode cX7_kindOf 28 = .ok (.iload_n 0, 1) := by decide +kernel
theorem dX7_kindOf_29 : decode cX7_kindOf 29 = .ok (.bipush 48, 2) := by decide +kernel
theorem dX7_kindOf_31 : decode cX7_kindOf 31 = .ok (.if_icmp .lt 13, 3) := by decide +kernel
theorem dX7_kindOf_34 : decode cX7_kindOf 34 = .ok (.iload_n 0, 1) := by decide +kernel
theorem dX7_kindOf_35 : decode cX7_kindOf 35 = .ok (.bipush 57, 2) := by decide +kernel
theorem dX7_kindOf_37 : decode cX7_kindOf 37 = .ok (.if_icmp .gt 7, 3) := by decide +kernel
theorem dX7_kindOf_40 : decode cX7_kindOf 40 = .ok (.iconst 2, 1) := by decide +kernel
theorem dX7_kindOf_41 : decode cX7_kindOf 41 = .ok (.goto 4, 3) := by decide +kernel
theorem dX7_kindOf_44 : decode cX7_kindOf 44 = .ok (.iconst 3, 1) := by decide +kernel
theorem dX7_kindOf_45 : decode cX7_kindOf 45 = .ok (.ireturn, 1) := by decide +kernel
def fX7_kindOf (M : Mm) (x1 : Int32) : Int32 := if x1 = (32 : Int32) then (4 : Int32) else if x1 = (10 : Int32) then (4 : Int32) else if x1 < (97 : Int32) then (if x1 < (48 : Int32) then (3 : Int32) else if (57 : Int32) < x1 then (3 : Int32) else (2 : Int32)) else if (122 : Int32) < x1 then (if x1 < (48 : Int32) then (3 : Int32) else if (57 : Int32) < x1 then (3 : Int32) else (2 : Int32)) else (1 : Int32)
set_option maxRecDepth 20000 in
set_option maxHeartbeats 2000000 in
theorem tX7_kindOf {wv : Wv} (M : Mm) (x1 : Int32) {res : Int32} (h : fX7_kindOf M x1 = res) : TF wv yX7_kindOf cX7_kindOf 1 (some .int) 0 [.inl (.int x1)] M (some (.int res)) M := by
  rw [fX7_kindOf] at h
  refine TF.go (n := 0) (ls := [some (.inl (.int x1))]) rfl rfl rfl rfl rfl ?_
  refine z_iload_n (i := 0) dX7_kindOf_0 rfl rfl ?_
  refine z_bipush (v := (32 : Int32)) dX7_kindOf_1 kb_32 ?_
  refine z_icmp_eq (tgt := 12) dX7_kindOf_3 rfl (fun hc1 => ?_) (fun hc1 => ?_)
  · have h := it_t h hc1
    refine z_iconst (v := (4 : Int32)) dX7_kindOf_12 kc_4 ?_
    subst h
    exact z_iret dX7_kindOf_13 rfl rfl (Nat.le_refl _) (Nat.le_refl _) ⟨rfl, rfl⟩
  · have h := it_f h hc1
    refine z_iload_n (i := 0) dX7_kindOf_6 rfl rfl ?_
    refine z_bipush (v := (10 : Int32)) dX7_kindOf_7 kb_10 ?_
    refine z_icmp_ne (tgt := 14) dX7_kindOf_9 rfl (fun hc2 => ?_) (fun hc2 => ?_)
    · have h := it_f h hc2
      refine z_iload_n (i := 0) dX7_kindOf_14 rfl rfl ?_
      refine z_bipush (v := (97 : Int32)) dX7_kindOf_15 kb_97 ?_
      refine z_icmp_lt (tgt := 28) dX7_kindOf_17 rfl (fun hc3 => ?_) (fun hc3 => ?_)
      · have h := it_t h hc3
        refine z_iload_n (i := 0) dX7_kindOf_28 rfl rfl ?_
        refine z_bipush (v := (48 : Int32)) dX7_kindOf_29 kb_48 ?_
        refine z_icmp_lt (tgt := 44) dX7_kindOf_31 rfl (fun hc4 => ?_) (fun hc4 => ?_)
        · have h := it_t h hc4
          refine z_iconst (v := (3 : Int32)) dX7_kindOf_44 kc_3 ?_
          subst h
          exact z_iret dX7_kindOf_45 rfl rfl (Nat.le_refl _) (Nat.le_refl _) ⟨rfl, rfl⟩
        · have h := it_f h hc4
          refine z_iload_n (i := 0) dX7_kindOf_34 rfl rfl ?_
          refine z_bipush (v := (57 : Int32)) dX7_kindOf_35 kb_57 ?_
          refine z_icmp_gt (tgt := 44) dX7_kindOf_37 rfl (fun hc5 => ?_) (fun hc5 => ?_)
          · have h := it_t h hc5
            refine z_iconst (v := (3 : Int32)) dX7_kindOf_44 kc_3 ?_
            subst h
            exact z_iret dX7_kindOf_45 rfl rfl (Nat.le_refl _) (Nat.le_refl _) ⟨rfl, rfl⟩
          · have h := it_f h hc5
            refine z_iconst (v := (2 : Int32)) dX7_kindOf_40 kc_2 ?_
            refine z_goto (tgt := 45) dX7_kindOf_41 rfl ?_
            subst h
            exact z_iret dX7_kindOf_45 rfl rfl (Nat.le_refl _) (Nat.le_refl _) ⟨rfl, rfl⟩
      · have h := it_f h hc3
        refine z_iload_n (i := 0) dX7_kindOf_20 rfl rfl ?_
        refine z_bipush (v := (122 : Int32)) dX7_kindOf_21 kb_122 ?_
        refine z_icmp_gt (tgt := 28) dX7_kindOf_23 rfl (fun hc6 => ?_) (fun hc6 => ?_)
        · have h := it_t h hc6
          refine z_iload_n (i := 0) dX7_kindOf_28 rfl rfl ?_
          refine z_bipush (v := (48 : Int32)) dX7_kindOf_29 kb_48 ?_
          refine z_icmp_lt (tgt := 44) dX7_kindOf_31 rfl (fun hc7 => ?_) (fun hc7 => ?_)
          · have h := it_t h hc7
            refine z_iconst (v := (3 : Int32)) dX7_kindOf_44 kc_3 ?_
            subst h
            exact z_iret dX7_kindOf_45 rfl rfl (Nat.le_refl _) (Nat.le_refl _) ⟨rfl, rfl⟩
          · have h := it_f h hc7
            refine z_iload_n (i := 0) dX7_kindOf_34 rfl rfl ?_
            refine z_bipush (v := (57 : Int32)) dX7_kindOf_35 kb_57 ?_
            refine z_icmp_gt (tgt := 44) dX7_kindOf_37 rfl (fun hc8 => ?_) (fun hc8 => ?_)
            · have h := it_t h hc8
              refine z_iconst (v := (3 : Int32)) dX7_kindOf_44 kc_3 ?_
              subst h
              exact z_iret dX7_kindOf_45 rfl rfl (Nat.le_refl _) (Nat.le_refl _) ⟨rfl, rfl⟩
            · have h := it_f h hc8
              refine z_iconst (v := (2 : Int32)) dX7_kindOf_40 kc_2 ?_
              refine z_goto (tgt := 45) dX7_kindOf_41 rfl ?_
              subst h
              exact z_iret dX7_kindOf_45 rfl rfl (Nat.le_refl _) (Nat.le_refl _) ⟨rfl, rfl⟩
        · have h := it_f h hc6
          refine z_iconst (v := (1 : Int32)) dX7_kindOf_26 kc_1 ?_
          subst h
          exact z_iret dX7_kindOf_27 rfl rfl (Nat.le_refl _) (Nat.le_refl _) ⟨rfl, rfl⟩
    · have h := it_t h hc2
      refine z_iconst (v := (4 : Int32)) dX7_kindOf_12 kc_4 ?_
      subst h
      exact z_iret dX7_kindOf_13 rfl rfl (Nat.le_refl _) (Nat.le_refl _) ⟨rfl, rfl⟩
theorem sX7_kindOf {wv : Wv} (M : Mm) (x1 : Int32) : TF wv yX7_kindOf cX7_kindOf 1 (some .int) 0 [.inl (.int x1)] M (some (.int (fX7_kindOf M x1))) M := tX7_kindOf M x1  rfl
theorem dX7_putToken_0 : decode cX7_putToken 0 = .ok (.aload_n 0, 1) := by decide +kernel
theorem dX7_putToken_1 : decode cX7_putToken 1 = .ok (.getfield 35, 3) := by decide +kernel
theorem dX7_putToken_4 : decode cX7_putToken 4 = .ok (.ifCond .lt 65, 3) := by decide +kernel
theorem dX7_putToken_7 : decode cX7_putToken 7 = .ok (.aload_n 0, 1) := by decide +kernel
theorem dX7_putToken_8 : decode cX7_putToken 8 = .ok (.getfield 35, 3) := by decide +kernel
theorem dX7_putToken_11 : decode cX7_putToken 11 = .ok (.aload_n 0, 1) := by decide +kernel
theorem dX7_putToken_12 : decode cX7_putToken 12 = .ok (.getfield 9, 3) := by decide +kernel
theorem dX7_putToken_15 : decode cX7_putToken 15 = .ok (.arraylength, 1) := by decide +kernel
theorem dX7_putToken_16 : decode cX7_putToken 16 = .ok (.if_icmp .ge 53, 3) := by decide +kernel
theorem dX7_putToken_19 : decode cX7_putToken 19 = .ok (.aload_n 0, 1) := by decide +kernel
theorem dX7_putToken_20 : decode cX7_putToken 20 = .ok (.getfield 9, 3) := by decide +kernel
theorem dX7_putToken_23 : decode cX7_putToken 23 = .ok (.aload_n 0, 1) := by decide +kernel
theorem dX7_putToken_24 : decode cX7_putToken 24 = .ok (.getfield 35, 3) := by decide +kernel
theorem dX7_putToken_27 : decode cX7_putToken 27 = .ok (.iload_n 1, 1) := by decide +kernel
theorem dX7_putToken_28 : decode cX7_putToken 28 = .ok (.iastore, 1) := by decide +kernel
theorem dX7_putToken_29 : decode cX7_putToken 29 = .ok (.aload_n 0, 1) := by decide +kernel
theorem dX7_putToken_30 : decode cX7_putToken 30 = .ok (.getfield 15, 3) := by decide +kernel
theorem dX7_putToken_33 : decode cX7_putToken 33 = .ok (.aload_n 0, 1) := by decide +kernel
theorem dX7_putToken_34 : decode cX7_putToken 34 = .ok (.getfield 35, 3) := by decide +kernel
theorem dX7_putToken_37 : decode cX7_putToken 37 = .ok (.iload_n 2, 1) := by decide +kernel
theorem dX7_putToken_38 : decode cX7_putToken 38 = .ok (.iastore, 1) := by decide +kernel
theorem dX7_putToken_39 : decode cX7_putToken 39 = .ok (.aload_n 0, 1) := by decide +kernel
theorem dX7_putToken_40 : decode cX7_putToken 40 = .ok (.getfield 18, 3) := by decide +kernel
theorem dX7_putToken_43 : decode cX7_putToken 43 = .ok (.aload_n 0, 1) := by decide +kernel
theorem dX7_putToken_44 : decode cX7_putToken 44 = .ok (.getfield 35, 3) := by decide +kernel
theorem dX7_putToken_47 : decode cX7_putToken 47 = .ok (.iload_n 2, 1) := by decide +kernel
theorem dX7_putToken_48 : decode cX7_putToken 48 = .ok (.iastore, 1) := by decide +kernel
theorem dX7_putToken_49 : decode cX7_putToken 49 = .ok (.aload_n 0, 1) := by decide +kernel
theorem dX7_putToken_50 : decode cX7_putToken 50 = .ok (.getfield 21, 3) := by decide +kernel
theorem dX7_putToken_53 : decode cX7_putToken 53 = .ok (.aload_n 0, 1) := by decide +kernel
theorem dX7_putToken_54 : decode cX7_putToken 54 = .ok (.getfield 35, 3) := by decide +kernel
theorem dX7_putToken_57 : decode cX7_putToken 57 = .ok (.iconst 0, 1) := by decide +kernel
theorem dX7_putToken_58 : decode cX7_putToken 58 = .ok (.iastore, 1) := by decide +kernel
theorem dX7_putToken_59 : decode cX7_putToken 59 = .ok (.aload_n 0, 1) := by decide +kernel
theorem dX7_putToken_60 : decode cX7_putToken 60 = .ok (.dup, 1) := by decide +kernel
theorem dX7_putToken_61 : decode cX7_putToken 61 = .ok (.getfield 35, 3) := by decide +kernel
theorem dX7_putToken_64 : decode cX7_putToken 64 = .ok (.iconst 1, 1) := by decide +kernel
theorem dX7_putToken_65 : decode cX7_putToken 65 = .ok (.iadd, 1) := by decide +kernel
theorem dX7_putToken_66 : decode cX7_putToken 66 = .ok (.putfield 35, 3) := by decide +kernel
theorem dX7_putToken_69 : decode cX7_putToken 69 = .ok (.return_, 1) := by decide +kernel
def fX7_putToken (M : Mm) (x1 : Int32) (x2 : Int32) : Option Mm := if (M.1 (3, 0, 0) 5) < 0 then some M else if (801 : Int32) ≤ (M.1 (3, 0, 0) 5) then some M else if (M.1 (3, 0, 0) 5) < 0 ∨ 801 ≤ (M.1 (3, 0, 0) 5).toNatClampNeg then none else if (M.1 (3, 0, 0) 5) < 0 ∨ 801 ≤ (M.1 (3, 0, 0) 5).toNatClampNeg then none else if (M.1 (3, 0, 0) 5) < 0 ∨ 801 ≤ (M.1 (3, 0, 0) 5).toNatClampNeg then none else if (M.1 (3, 0, 0) 5) < 0 ∨ 801 ≤ (M.1 (3, 0, 0) 5).toNatClampNeg then none else some (putI (putI (putI (putI (putI M (4, 0, 0) (M.1 (3, 0, 0) 5).toNatClampNeg x1) (4, 1, 0) (M.1 (3, 0, 0) 5).toNatClampNeg x2) (4, 2, 0) (M.1 (3, 0, 0) 5).toNatClampNeg x2) (4, 3, 0) (M.1 (3, 0, 0) 5).toNatClampNeg (0 : Int32)) (3, 0, 0) 5 ((M.1 (3, 0, 0) 5) + (1 : Int32)))
set_option maxRecDepth 20000 in
set_option maxHeartbeats 2000000 in
theorem sX7_putToken {wv : Wv} (M : Mm) (x1 : Int32) (x2 : Int32) {res : Mm} (h : fX7_putToken M x1 x2 = some res) : TF wv yX7_putToken cX7_putToken 3 none 0 [.inr (3, 0, 0), .inl (.int x1), .inl (.int x2)] M (none) res := by
  rw [fX7_putToken] at h
  refine TF.go (n := 0) (ls := [some (.inr (3, 0, 0)), some (.inl (.int x1)), some (.inl (.int x2))]) rfl rfl rfl rfl rfl ?_
  refine z_aload_n (i := 0) dX7_putToken_0 rfl rfl ?_
  refine z_getI (x := (M.1 (3, 0, 0) 5)) dX7_putToken_1 fl_X7_35 mk3 rfl rfl ?_
  refine z_if_lt (tgt := 69) dX7_putToken_4 rfl (fun hc1 => ?_) (fun hc1 => ?_)
  · have h := it_t h hc1
    cases h
    exact z_vret dX7_putToken_69 rfl (Nat.le_refl _) (Nat.le_refl _) ⟨rfl, rfl⟩
  · have h := it_f h hc1
    refine z_aload_n (i := 0) dX7_putToken_7 rfl rfl ?_
    refine z_getI (x := (M.1 (3, 0, 0) 5)) dX7_putToken_8 fl_X7_35 mk3 rfl rfl ?_
    refine z_aload_n (i := 0) dX7_putToken_11 rfl rfl ?_
    refine z_getR (r' := (4, 0, 0)) dX7_putToken_12 fl_X7_9 mk3 rfl rfl ?_
    refine z_alen (v := (801 : Int32)) dX7_putToken_15 (m4 _ (Nat.le_of_ble_eq_true rfl)) rfl (Nat.le_of_ble_eq_true rfl) (by decide) ?_
    refine z_icmp_ge (tgt := 69) dX7_putToken_16 rfl (fun hc2 => ?_) (fun hc2 => ?_)
    · have h := it_t h hc2
      cases h
      exact z_vret dX7_putToken_69 rfl (Nat.le_refl _) (Nat.le_refl _) ⟨rfl, rfl⟩
    · have h := it_f h hc2
      refine z_aload_n (i := 0) dX7_putToken_19 rfl rfl ?_
      refine z_getR (r' := (4, 0, 0)) dX7_putToken_20 fl_X7_9 mk3 rfl rfl ?_
      refine z_aload_n (i := 0) dX7_putToken_23 rfl rfl ?_
      refine z_getI (x := (M.1 (3, 0, 0) 5)) dX7_putToken_24 fl_X7_35 mk3 rfl rfl ?_
      refine z_iload_n (i := 1) dX7_putToken_27 rfl rfl ?_
      obtain ⟨hc3, h⟩ := chk h
      refine z_iast (j := (M.1 (3, 0, 0) 5).toNatClampNeg) allR_nd dX7_putToken_28 (m4 _ (Nat.le_of_ble_eq_true rfl)) rfl hc3 rfl ?_
      refine z_aload_n (i := 0) dX7_putToken_29 rfl rfl ?_
      refine z_getR (r' := (4, 1, 0)) dX7_putToken_30 fl_X7_15 mk3 rfl rfl ?_
      refine z_aload_n (i := 0) dX7_putToken_33 rfl rfl ?_
      refine z_getI (x := (M.1 (3, 0, 0) 5)) dX7_putToken_34 fl_X7_35 mk3 rfl rfl ?_
      refine z_iload_n (i := 2) dX7_putToken_37 rfl rfl ?_
      obtain ⟨hc4, h⟩ := chk h
      refine z_iast (j := (M.1 (3, 0, 0) 5).toNatClampNeg) allR_nd dX7_putToken_38 (m4 _ (Nat.le_of_ble_eq_true rfl)) rfl hc4 rfl ?_
      refine z_aload_n (i := 0) dX7_putToken_39 rfl rfl ?_
      refine z_getR (r' := (4, 2, 0)) dX7_putToken_40 fl_X7_18 mk3 rfl rfl ?_
      refine z_aload_n (i := 0) dX7_putToken_43 rfl rfl ?_
      refine z_getI (x := (M.1 (3, 0, 0) 5)) dX7_putToken_44 fl_X7_35 mk3 rfl rfl ?_
      refine z_iload_n (i := 2) dX7_putToken_47 rfl rfl ?_
      obtain ⟨hc5, h⟩ := chk h
      refine z_iast (j := (M.1 (3, 0, 0) 5).toNatClampNeg) allR_nd dX7_putToken_48 (m4 _ (Nat.le_of_ble_eq_true rfl)) rfl hc5 rfl ?_
      refine z_aload_n (i := 0) dX7_putToken_49 rfl rfl ?_
      refine z_getR (r' := (4, 3, 0)) dX7_putToken_50 fl_X7_21 mk3 rfl rfl ?_
      refine z_aload_n (i := 0) dX7_putToken_53 rfl rfl ?_
      refine z_getI (x := (M.1 (3, 0, 0) 5)) dX7_putToken_54 fl_X7_35 mk3 rfl rfl ?_
      refine z_iconst (v := (0 : Int32)) dX7_putToken_57 kc_0 ?_
      obtain ⟨hc6, h⟩ := chk h
      refine z_iast (j := (M.1 (3, 0, 0) 5).toNatClampNeg) allR_nd dX7_putToken_58 (m4 _ (Nat.le_of_ble_eq_true rfl)) rfl hc6 rfl ?_
      refine z_aload_n (i := 0) dX7_putToken_59 rfl rfl ?_
      refine z_dup dX7_putToken_60 rfl ?_
      refine z_getI (x := (M.1 (3, 0, 0) 5)) dX7_putToken_61 fl_X7_35 mk3 rfl rfl ?_
      refine z_iconst (v := (1 : Int32)) dX7_putToken_64 kc_1 ?_
      refine z_iadd dX7_putToken_65 ?_
      refine z_putI allR_nd dX7_putToken_66 fl_X7_35 mk3 rfl rfl ?_
      cases h
      exact z_vret dX7_putToken_69 rfl (Nat.le_refl _) (Nat.le_refl _) ⟨rfl, rfl⟩
theorem dX7_lengthenToken_0 : decode cX7_lengthenToken 0 = .ok (.aload_n 0, 1) := by decide +kernel
theorem dX7_lengthenToken_1 : decode cX7_lengthenToken 1 = .ok (.getfield 35, 3) := by decide +kernel
theorem dX7_lengthenToken_4 : decode cX7_lengthenToken 4 = .ok (.iconst 1, 1) := by decide +kernel
theorem dX7_lengthenToken_5 : decode cX7_lengthenToken 5 = .ok (.isub, 1) := by decide +kernel
theorem dX7_lengthenToken_6 : decode cX7_lengthenToken 6 = .ok (.istore_n 2, 1) := by decide +kernel
theorem dX7_lengthenToken_7 : decode cX7_lengthenToken 7 = .ok (.iload_n 2, 1) := by decide +kernel
theorem dX7_lengthenToken_8 : decode cX7_lengthenToken 8 = .ok (.ifCond .lt 12, 3) := by decide +kernel
theorem dX7_lengthenToken_11 : decode cX7_lengthenToken 11 = .ok (.iload_n 2, 1) := by decide +kernel
theorem dX7_lengthenToken_12 : decode cX7_lengthenToken 12 = .ok (.aload_n 0, 1) := by decide +kernel
theorem dX7_lengthenToken_13 : decode cX7_lengthenToken 13 = .ok (.getfield 9, 3) := by decide +kernel
theorem dX7_lengthenToken_16 : decode cX7_lengthenToken 16 = .ok (.arraylength, 1) := by decide +kernel
theorem dX7_lengthenToken_17 : decode cX7_lengthenToken 17 = .ok (.if_icmp .lt 4, 3) := by decide +kernel
theorem dX7_lengthenToken_20 : decode cX7_lengthenToken 20 = .ok (.return_, 1) := by decide +kernel
theorem dX7_lengthenToken_21 : decode cX7_lengthenToken 21 = .ok (.aload_n 0, 1) := by decide +kernel
theorem dX7_lengthenToken_22 : decode cX7_lengthenToken 22 = .ok (.getfield 18, 3) := by decide +kernel
theorem dX7_lengthenToken_25 : decode cX7_lengthenToken 25 = .ok (.iload_n 2, 1) := by decide +kernel
theorem dX7_lengthenToken_26 : decode cX7_lengthenToken 26 = .ok (.iload_n 1, 1) := by decide +kernel
theorem dX7_lengthenToken_27 : decode cX7_lengthenToken 27 = .ok (.iconst 1, 1) := by decide +kernel
theorem dX7_lengthenToken_28 : decode cX7_lengthenToken 28 = .ok (.iadd, 1) := by decide +kernel
theorem dX7_lengthenToken_29 : decode cX7_lengthenToken 29 = .ok (.iastore, 1) := by decide +kernel
theorem dX7_lengthenToken_30 : decode cX7_lengthenToken 30 = .ok (.aload_n 0, 1) := by decide +kernel
theorem dX7_lengthenToken_31 : decode cX7_lengthenToken 31 = .ok (.getfield 9, 3) := by decide +kernel
theorem dX7_lengthenToken_34 : decode cX7_lengthenToken 34 = .ok (.iload_n 2, 1) := by decide +kernel
theorem dX7_lengthenToken_35 : decode cX7_lengthenToken 35 = .ok (.iaload, 1) := by decide +kernel
theorem dX7_lengthenToken_36 : decode cX7_lengthenToken 36 = .ok (.iconst 2, 1) := by decide +kernel
theorem dX7_lengthenToken_37 : decode cX7_lengthenToken 37 = .ok (.if_icmp .ne 35, 3) := by decide +kernel
theorem dX7_lengthenToken_40 : decode cX7_lengthenToken 40 = .ok (.aload_n 0, 1) := by decide +kernel
theorem dX7_lengthenToken_41 : decode cX7_lengthenToken 41 = .ok (.getfield 21, 3) := by decide +kernel
theorem dX7_lengthenToken_44 : decode cX7_lengthenToken 44 = .ok (.iload_n 2, 1) := by decide +kernel
theorem dX7_lengthenToken_45 : decode cX7_lengthenToken 45 = .ok (.ldc 61, 2) := by decide +kernel
theorem dX7_lengthenToken_47 : decode cX7_lengthenToken 47 = .ok (.aload_n 0, 1) := by decide +kernel
theorem dX7_lengthenToken_48 : decode cX7_lengthenToken 48 = .ok (.getfield 21, 3) := by decide +kernel
theorem dX7_lengthenToken_51 : decode cX7_lengthenToken 51 = .ok (.iload_n 2, 1) := by decide +kernel
theorem dX7_lengthenToken_52 : decode cX7_lengthenToken 52 = .ok (.iaload, 1) := by decide +kernel
theorem dX7_lengthenToken_53 : decode cX7_lengthenToken 53 = .ok (.bipush 10, 2) := by decide +kernel
theorem dX7_lengthenToken_55 : decode cX7_lengthenToken 55 = .ok (.imul, 1) := by decide +kernel
theorem dX7_lengthenToken_56 : decode cX7_lengthenToken 56 = .ok (.aload_n 0, 1) := by decide +kernel
theorem dX7_lengthenToken_57 : decode cX7_lengthenToken 57 = .ok (.getfield 24, 3) := by decide +kernel
theorem dX7_lengthenToken_60 : decode cX7_lengthenToken 60 = .ok (.iload_n 1, 1) := by decide +kernel
theorem dX7_lengthenToken_61 : decode cX7_lengthenToken 61 = .ok (.invokevirtual 46, 3) := by decide +kernel
theorem dX7_lengthenToken_64 : decode cX7_lengthenToken 64 = .ok (.iadd, 1) := by decide +kernel
theorem dX7_lengthenToken_65 : decode cX7_lengthenToken 65 = .ok (.bipush 48, 2) := by decide +kernel
theorem dX7_lengthenToken_67 : decode cX7_lengthenToken 67 = .ok (.isub, 1) := by decide +kernel
theorem dX7_lengthenToken_68 : decode cX7_lengthenToken 68 = .ok (.invokestatic 62, 3) := by decide +kernel
theorem dX7_lengthenToken_71 : decode cX7_lengthenToken 71 = .ok (.iastore, 1) := by decide +kernel
theorem dX7_lengthenToken_72 : decode cX7_lengthenToken 72 = .ok (.return_, 1) := by decide +kernel
def fX7_lengthenToken (M : Mm) (x1 : Int32) : Option Mm := if ((M.1 (3, 0, 0) 5) - (1 : Int32)) < 0 then some M else if ((M.1 (3, 0, 0) 5) - (1 : Int32)) < (801 : Int32) then (if ((M.1 (3, 0, 0) 5) - (1 : Int32)) < 0 ∨ 801 ≤ ((M.1 (3, 0, 0) 5) - (1 : Int32)).toNatClampNeg then none else if ((M.1 (3, 0, 0) 5) - (1 : Int32)) < 0 ∨ 801 ≤ ((M.1 (3, 0, 0) 5) - (1 : Int32)).toNatClampNeg then none else if (M.1 (4, 0, 0) ((M.1 (3, 0, 0) 5) - (1 : Int32)).toNatClampNeg) = (2 : Int32) then (if ((M.1 (3, 0, 0) 5) - (1 : Int32)) < 0 ∨ 801 ≤ ((M.1 (3, 0, 0) 5) - (1 : Int32)).toNatClampNeg then none else (fX1_at (putI M (4, 2, 0) ((M.1 (3, 0, 0) 5) - (1 : Int32)).toNatClampNeg (x1 + (1 : Int32))) 0 x1).bind fun q7 => if ((M.1 (3, 0, 0) 5) - (1 : Int32)) < 0 ∨ 801 ≤ ((M.1 (3, 0, 0) 5) - (1 : Int32)).toNatClampNeg then none else some (putI (putI M (4, 2, 0) ((M.1 (3, 0, 0) 5) - (1 : Int32)).toNatClampNeg (x1 + (1 : Int32))) (4, 3, 0) ((M.1 (3, 0, 0) 5) - (1 : Int32)).toNatClampNeg (fJ9_min_7cf53 (putI M (4, 2, 0) ((M.1 (3, 0, 0) 5) - (1 : Int32)).toNatClampNeg (x1 + (1 : Int32))) (1000000 : Int32) ((((M.1 (4, 3, 0) ((M.1 (3, 0, 0) 5) - (1 : Int32)).toNatClampNeg) * (10 : Int32)) + q7) - (48 : Int32))))) else some (putI M (4, 2, 0) ((M.1 (3, 0, 0) 5) - (1 : Int32)).toNatClampNeg (x1 + (1 : Int32)))) else some M
set_option maxRecDepth 20000 in
set_option maxHeartbeats 2000000 in
theorem sX7_lengthenToken {wv : Wv} (M : Mm) (x1 : Int32) {res : Mm} (h : fX7_lengthenToken M x1 = some res) : TF wv yX7_lengthenToken cX7_lengthenToken 3 none 1 [.inr (3, 0, 0), .inl (.int x1)] M (none) res := by
  rw [fX7_lengthenToken] at h
  refine TF.go (n := 1) (ls := [some (.inr (3, 0, 0)), some (.inl (.int x1)), none]) rfl rfl rfl rfl rfl ?_
  refine z_aload_n (i := 0) dX7_lengthenToken_0 rfl rfl ?_
  refine z_getI (x := (M.1 (3, 0, 0) 5)) dX7_lengthenToken_1 fl_X7_35 mk3 rfl rfl ?_
  refine z_iconst (v := (1 : Int32)) dX7_lengthenToken_4 kc_1 ?_
  refine z_isub dX7_lengthenToken_5 ?_
  refine z_istore_n (i := 2) dX7_lengthenToken_6 rfl (Nat.le_of_ble_eq_true rfl) rfl ?_
  refine z_iload_n (i := 2) dX7_lengthenToken_7 rfl rfl ?_
  refine z_if_lt (tgt := 20) dX7_lengthenToken_8 rfl (fun hc1 => ?_) (fun hc1 => ?_)
  · have h := it_t h hc1
    cases h
    exact z_vret dX7_lengthenToken_20 rfl (Nat.le_refl _) (Nat.le_refl _) ⟨rfl, rfl⟩
  · have h := it_f h hc1
    refine z_iload_n (i := 2) dX7_lengthenToken_11 rfl rfl ?_
    refine z_aload_n (i := 0) dX7_lengthenToken_12 rfl rfl ?_
    refine z_getR (r' := (4, 0, 0)) dX7_lengthenToken_13 fl_X7_9 mk3 rfl rfl ?_
    refine z_alen (v := (801 : Int32)) dX7_lengthenToken_16 (m4 _ (Nat.le_of_ble_eq_true rfl)) rfl (Nat.le_of_ble_eq_true rfl) (by decide) ?_
    refine z_icmp_lt (tgt := 21) dX7_lengthenToken_17 rfl (fun hc2 => ?_) (fun hc2 => ?_)
    · have h := it_t h hc2
      refine z_aload_n (i := 0) dX7_lengthenToken_21 rfl rfl ?_
      refine z_getR (r' := (4, 2, 0)) dX7_lengthenToken_22 fl_X7_18 mk3 rfl rfl ?_
      refine z_iload_n (i := 2) dX7_lengthenToken_25 rfl rfl ?_
      refine z_iload_n (i := 1) dX7_lengthenToken_26 rfl rfl ?_
      refine z_iconst (v := (1 : Int32)) dX7_lengthenToken_27 kc_1 ?_
      refine z_iadd dX7_lengthenToken_28 ?_
      obtain ⟨hc3, h⟩ := chk h
      refine z_iast (j := ((M.1 (3, 0, 0) 5) - (1 : Int32)).toNatClampNeg) allR_nd dX7_lengthenToken_29 (m4 _ (Nat.le_of_ble_eq_true rfl)) rfl hc3 rfl ?_
      refine z_aload_n (i := 0) dX7_lengthenToken_30 rfl rfl ?_
      refine z_getR (r' := (4, 0, 0)) dX7_lengthenToken_31 fl_X7_9 mk3 rfl rfl ?_
      refine z_iload_n (i := 2) dX7_lengthenToken_34 rfl rfl ?_
      obtain ⟨hc4, h⟩ := chk h
      refine z_iald (x := (M.1 (4, 0, 0) ((M.1 (3, 0, 0) 5) - (1 : Int32)).toNatClampNeg)) dX7_lengthenToken_35 (m4 _ (Nat.le_of_ble_eq_true rfl)) rfl hc4 (by simp [putI, putL]) ?_
      refine z_iconst (v := (2 : Int32)) dX7_lengthenToken_36 kc_2 ?_
      refine z_icmp_ne (tgt := 72) dX7_lengthenToken_37 rfl (fun hc5 => ?_) (fun hc5 => ?_)
      · have h := it_f h hc5
        cases h
        exact z_vret dX7_lengthenToken_72 rfl (Nat.le_refl _) (Nat.le_refl _) ⟨rfl, rfl⟩
      · have h := it_t h hc5
        refine z_aload_n (i := 0) dX7_lengthenToken_40 rfl rfl ?_
        refine z_getR (r' := (4, 3, 0)) dX7_lengthenToken_41 fl_X7_21 mk3 rfl rfl ?_
        refine z_iload_n (i := 2) dX7_lengthenToken_44 rfl rfl ?_
        refine z_ldc (v := (1000000 : Int32)) dX7_lengthenToken_45 (al_mem 359 (by decide +kernel) rfl) ?_
        refine z_aload_n (i := 0) dX7_lengthenToken_47 rfl rfl ?_
        refine z_getR (r' := (4, 3, 0)) dX7_lengthenToken_48 fl_X7_21 mk3 rfl rfl ?_
        refine z_iload_n (i := 2) dX7_lengthenToken_51 rfl rfl ?_
        obtain ⟨hc6, h⟩ := chk h
        refine z_iald (x := (M.1 (4, 3, 0) ((M.1 (3, 0, 0) 5) - (1 : Int32)).toNatClampNeg)) dX7_lengthenToken_52 (m4 _ (Nat.le_of_ble_eq_true rfl)) rfl hc6 (by simp [putI, putL]) ?_
        refine z_bipush (v := (10 : Int32)) dX7_lengthenToken_53 kb_10 ?_
        refine z_imul dX7_lengthenToken_55 ?_
        refine z_aload_n (i := 0) dX7_lengthenToken_56 rfl rfl ?_
        refine z_getR (r' := (1, 0, 0)) dX7_lengthenToken_57 fl_X7_24 mk3 rfl rfl ?_
        refine z_iload_n (i := 1) dX7_lengthenToken_60 rfl rfl ?_
        obtain ⟨q7, hq8, h⟩ := bnd h
        refine z_fVi (sX1_at (putI M (4, 2, 0) ((M.1 (3, 0, 0) 5) - (1 : Int32)).toNatClampNeg (x1 + (1 : Int32))) 0 x1 (Nat.le_of_ble_eq_true rfl) hq8) dX7_lengthenToken_61 ml_X7_46 cd_X1_at (m1 _ (Nat.le_of_ble_eq_true rfl)) rfl rfl rfl rfl rfl rfl ?_
        refine z_iadd dX7_lengthenToken_64 ?_
        refine z_bipush (v := (48 : Int32)) dX7_lengthenToken_65 kb_48 ?_
        refine z_isub dX7_lengthenToken_67 ?_
        refine z_fSi (sJ9_min_7cf53 (putI M (4, 2, 0) ((M.1 (3, 0, 0) 5) - (1 : Int32)).toNatClampNeg (x1 + (1 : Int32))) (1000000 : Int32) ((((M.1 (4, 3, 0) ((M.1 (3, 0, 0) 5) - (1 : Int32)).toNatClampNeg) * (10 : Int32)) + q7) - (48 : Int32))) dX7_lengthenToken_68 ml_X7_62 cd_J9_min_7cf53 rfl rfl rfl rfl rfl ?_
        obtain ⟨hc9, h⟩ := chk h
        refine z_iast (j := ((M.1 (3, 0, 0) 5) - (1 : Int32)).toNatClampNeg) allR_nd dX7_lengthenToken_71 (m4 _ (Nat.le_of_ble_eq_true rfl)) rfl hc9 rfl ?_
        cases h
        exact z_vret dX7_lengthenToken_72 rfl (Nat.le_refl _) (Nat.le_refl _) ⟨rfl, rfl⟩
    · have h := it_f h hc2
      cases h
      exact z_vret dX7_lengthenToken_20 rfl (Nat.le_refl _) (Nat.le_refl _) ⟨rfl, rfl⟩
