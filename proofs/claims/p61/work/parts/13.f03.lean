theorem dJ13_bitCount_95d88_0 : decode cJ13_bitCount_95d88 0 = .ok (.lload_n 0, 1) := by decide +kernel
theorem dJ13_bitCount_95d88_1 : decode cJ13_bitCount_95d88 1 = .ok (.lload_n 0, 1) := by decide +kernel
theorem dJ13_bitCount_95d88_2 : decode cJ13_bitCount_95d88 2 = .ok (.iconst 1, 1) := by decide +kernel
theorem dJ13_bitCount_95d88_3 : decode cJ13_bitCount_95d88 3 = .ok (.lushr, 1) := by decide +kernel
theorem dJ13_bitCount_95d88_4 : decode cJ13_bitCount_95d88 4 = .ok (.ldc2_w 314, 3) := by decide +kernel
theorem dJ13_bitCount_95d88_7 : decode cJ13_bitCount_95d88 7 = .ok (.land, 1) := by decide +kernel
theorem dJ13_bitCount_95d88_8 : decode cJ13_bitCount_95d88 8 = .ok (.lsub, 1) := by decide +kernel
theorem dJ13_bitCount_95d88_9 : decode cJ13_bitCount_95d88 9 = .ok (.lstore_n 0, 1) := by decide +kernel
theorem dJ13_bitCount_95d88_10 : decode cJ13_bitCount_95d88 10 = .ok (.lload_n 0, 1) := by decide +kernel
theorem dJ13_bitCount_95d88_11 : decode cJ13_bitCount_95d88 11 = .ok (.ldc2_w 316, 3) := by decide +kernel
theorem dJ13_bitCount_95d88_14 : decode cJ13_bitCount_95d88 14 = .ok (.land, 1) := by decide +kernel
theorem dJ13_bitCount_95d88_15 : decode cJ13_bitCount_95d88 15 = .ok (.lload_n 0, 1) := by decide +kernel
theorem dJ13_bitCount_95d88_16 : decode cJ13_bitCount_95d88 16 = .ok (.iconst 2, 1) := by decide +kernel
theorem dJ13_bitCount_95d88_17 : decode cJ13_bitCount_95d88 17 = .ok (.lushr, 1) := by decide +kernel
theorem dJ13_bitCount_95d88_18 : decode cJ13_bitCount_95d88 18 = .ok (.ldc2_w 316, 3) := by decide +kernel
theorem dJ13_bitCount_95d88_21 : decode cJ13_bitCount_95d88 21 = .ok (.land, 1) := by decide +kernel
theorem dJ13_bitCount_95d88_22 : decode cJ13_bitCount_95d88 22 = .ok (.ladd, 1) := by decide +kernel
theorem dJ13_bitCount_95d88_23 : decode cJ13_bitCount_95d88 23 = .ok (.lstore_n 0, 1) := by decide +kernel
theorem dJ13_bitCount_95d88_24 : decode cJ13_bitCount_95d88 24 = .ok (.lload_n 0, 1) := by decide +kernel
theorem dJ13_bitCount_95d88_25 : decode cJ13_bitCount_95d88 25 = .ok (.lload_n 0, 1) := by decide +kernel
theorem dJ13_bitCount_95d88_26 : decode cJ13_bitCount_95d88 26 = .ok (.iconst 4, 1) := by decide +kernel
theorem dJ13_bitCount_95d88_27 : decode cJ13_bitCount_95d88 27 = .ok (.lushr, 1) := by decide +kernel
theorem dJ13_bitCount_95d88_28 : decode cJ13_bitCount_95d88 28 = .ok (.ladd, 1) := by decide +kernel
theorem dJ13_bitCount_95d88_29 : decode cJ13_bitCount_95d88 29 = .ok (.ldc2_w 318, 3) := by decide +kernel
theorem dJ13_bitCount_95d88_32 : decode cJ13_bitCount_95d88 32 = .ok (.land, 1) := by decide +kernel
theorem dJ13_bitCount_95d88_33 : decode cJ13_bitCount_95d88 33 = .ok (.lstore_n 0, 1) := by decide +kernel
theorem dJ13_bitCount_95d88_34 : decode cJ13_bitCount_95d88 34 = .ok (.lload_n 0, 1) := by decide +kernel
theorem dJ13_bitCount_95d88_35 : decode cJ13_bitCount_95d88 35 = .ok (.lload_n 0, 1) := by decide +kernel
theorem dJ13_bitCount_95d88_36 : decode cJ13_bitCount_95d88 36 = .ok (.bipush 8, 2) := by decide +kernel
theorem dJ13_bitCount_95d88_38 : decode cJ13_bitCount_95d88 38 = .ok (.lushr, 1) := by decide +kernel
theorem dJ13_bitCount_95d88_39 : decode cJ13_bitCount_95d88 39 = .ok (.ladd, 1) := by decide +kernel
theorem dJ13_bitCount_95d88_40 : decode cJ13_bitCount_95d88 40 = .ok (.lstore_n 0, 1) := by decide +kernel
theorem dJ13_bitCount_95d88_41 : decode cJ13_bitCount_95d88 41 = .ok (.lload_n 0, 1) := by decide +kernel
theorem dJ13_bitCount_95d88_42 : decode cJ13_bitCount_95d88 42 = .ok (.lload_n 0, 1) := by decide +kernel
theorem dJ13_bitCount_95d88_43 : decode cJ13_bitCount_95d88 43 = .ok (.bipush 16, 2) := by decide +kernel
theorem dJ13_bitCount_95d88_45 : decode cJ13_bitCount_95d88 45 = .ok (.lushr, 1) := by decide +kernel
theorem dJ13_bitCount_95d88_46 : decode cJ13_bitCount_95d88 46 = .ok (.ladd, 1) := by decide +kernel
theorem dJ13_bitCount_95d88_47 : decode cJ13_bitCount_95d88 47 = .ok (.lstore_n 0, 1) := by decide +kernel
theorem dJ13_bitCount_95d88_48 : decode cJ13_bitCount_95d88 48 = .ok (.lload_n 0, 1) := by decide +kernel
theorem dJ13_bitCount_95d88_49 : decode cJ13_bitCount_95d88 49 = .ok (.lload_n 0, 1) := by decide +kernel
theorem dJ13_bitCount_95d88_50 : decode cJ13_bitCount_95d88 50 = .ok (.bipush 32, 2) := by decide +kernel
theorem dJ13_bitCount_95d88_52 : decode cJ13_bitCount_95d88 52 = .ok (.lushr, 1) := by decide +kernel
theorem dJ13_bitCount_95d88_53 : decode cJ13_bitCount_95d88 53 = .ok (.ladd, 1) := by decide +kernel
theorem dJ13_bitCount_95d88_54 : decode cJ13_bitCount_95d88 54 = .ok (.lstore_n 0, 1) := by decide +kernel
theorem dJ13_bitCount_95d88_55 : decode cJ13_bitCount_95d88 55 = .ok (.lload_n 0, 1) := by decide +kernel
theorem dJ13_bitCount_95d88_56 : decode cJ13_bitCount_95d88 56 = .ok (.l2i, 1) := by decide +kernel
theorem dJ13_bitCount_95d88_57 : decode cJ13_bitCount_95d88 57 = .ok (.bipush 127, 2) := by decide +kernel
theorem dJ13_bitCount_95d88_59 : decode cJ13_bitCount_95d88 59 = .ok (.iand, 1) := by decide +kernel
theorem dJ13_bitCount_95d88_60 : decode cJ13_bitCount_95d88 60 = .ok (.ireturn, 1) := by decide +kernel
def fJ13_bitCount_95d88 (M : Mm) (x1 : Int64) : Int32 := (((((((((x1 - (((x1.toUInt64 >>> ((1 : Int32).toInt64.toUInt64 &&& Int64.toUInt64 63)).toInt64) &&& (6148914691236517205 : Int64))) &&& (3689348814741910323 : Int64)) + ((((x1 - (((x1.toUInt64 >>> ((1 : Int32).toInt64.toUInt64 &&& Int64.toUInt64 63)).toInt64) &&& (6148914691236517205 : Int64))).toUInt64 >>> ((2 : Int32).toInt64.toUInt64 &&& Int64.toUInt64 63)).toInt64) &&& (3689348814741910323 : Int64))) + (((((x1 - (((x1.toUInt64 >>> ((1 : Int32).toInt64.toUInt64 &&& Int64.toUInt64 63)).toInt64) &&& (6148914691236517205 : Int64))) &&& (3689348814741910323 : Int64)) + ((((x1 - (((x1.toUInt64 >>> ((1 : Int32).toInt64.toUInt64 &&& Int64.toUInt64 63)).toInt64) &&& (6148914691236517205 : Int64))).toUInt64 >>> ((2 : Int32).toInt64.toUInt64 &&& Int64.toUInt64 63)).toInt64) &&& (3689348814741910323 : Int64))).toUInt64 >>> ((4 : Int32).toInt64.toUInt64 &&& Int64.toUInt64 63)).toInt64)) &&& (1085102592571150095 : Int64)) + (((((((x1 - (((x1.toUInt64 >>> ((1 : Int32).toInt64.toUInt64 &&& Int64.toUInt64 63)).toInt64) &&& (6148914691236517205 : Int64))) &&& (3689348814741910323 : Int64)) + ((((x1 - (((x1.toUInt64 >>> ((1 : Int32).toInt64.toUInt64 &&& Int64.toUInt64 63)).toInt64) &&& (6148914691236517205 : Int64))).toUInt64 >>> ((2 : Int32).toInt64.toUInt64 &&& Int64.toUInt64 63)).toInt64) &&& (3689348814741910323 : Int64))) + (((((x1 - (((x1.toUInt64 >>> ((1 : Int32).toInt64.toUInt64 &&& Int64.toUInt64 63)).toInt64) &&& (6148914691236517205 : Int64))) &&& (3689348814741910323 : Int64)) + ((((x1 - (((x1.toUInt64 >>> ((1 : Int32).toInt64.toUInt64 &&& Int64.toUInt64 63)).toInt64) &&& (6148914691236517205 : Int64))).toUInt64 >>> ((2 : Int32).toInt64.toUInt64 &&& Int64.toUInt64 63)).toInt64) &&& (3689348814741910323 : Int64))).toUInt64 >>> ((4 : Int32).toInt64.toUInt64 &&& Int64.toUInt64 63)).toInt64)) &&& (1085102592571150095 : Int64)).toUInt64 >>> ((8 : Int32).toInt64.toUInt64 &&& Int64.toUInt64 63)).toInt64)) + ((((((((x1 - (((x1.toUInt64 >>> ((1 : Int32).toInt64.toUInt64 &&& Int64.toUInt64 63)).toInt64) &&& (6148914691236517205 : Int64))) &&& (3689348814741910323 : Int64)) + ((((x1 - (((x1.toUInt64 >>> ((1 : Int32).toInt64.toUInt64 &&& Int64.toUInt64 63)).toInt64) &&& (6148914691236517205 : Int64))).toUInt64 >>> ((2 : Int32).toInt64.toUInt64 &&& Int64.toUInt64 63)).toInt64) &&& (3689348814741910323 : Int64))) + (((((x1 - (((x1.toUInt64 >>> ((1 : Int32).toInt64.toUInt64 &&& Int64.toUInt64 63)).toInt64) &&& (6148914691236517205 : Int64))) &&& (3689348814741910323 : Int64)) + ((((x1 - (((x1.toUInt64 >>> ((1 : Int32).toInt64.toUInt64 &&& Int64.toUInt64 63)).toInt64) &&& (6148914691236517205 : Int64))).toUInt64 >>> ((2 : Int32).toInt64.toUInt64 &&& Int64.toUInt64 63)).toInt64) &&& (3689348814741910323 : Int64))).toUInt64 >>> ((4 : Int32).toInt64.toUInt64 &&& Int64.toUInt64 63)).toInt64)) &&& (1085102592571150095 : Int64)) + (((((((x1 - (((x1.toUInt64 >>> ((1 : Int32).toInt64.toUInt64 &&& Int64.toUInt64 63)).toInt64) &&& (6148914691236517205 : Int64))) &&& (3689348814741910323 : Int64)) + ((((x1 - (((x1.toUInt64 >>> ((1 : Int32).toInt64.toUInt64 &&& Int64.toUInt64 63)).toInt64) &&& (6148914691236517205 : Int64))).toUInt64 >>> ((2 : Int32).toInt64.toUInt64 &&& Int64.toUInt64 63)).toInt64) &&& (3689348814741910323 : Int64))) + (((((x1 - (((x1.toUInt64 >>> ((1 : Int32).toInt64.toUInt64 &&& Int64.toUInt64 63)).toInt64) &&& (6148914691236517205 : Int64))) &&& (3689348814741910323 : Int64)) + ((((x1 - (((x1.toUInt64 >>> ((1 : Int32).toInt64.toUInt64 &&& Int64.toUInt64 63)).toInt64) &&& (6148914691236517205 : Int64))).toUInt64 >>> ((2 : Int32).toInt64.toUInt64 &&& Int64.toUInt64 63)).toInt64) &&& (3689348814741910323 : Int64))).toUInt64 >>> ((4 : Int32).toInt64.toUInt64 &&& Int64.toUInt64 63)).toInt64)) &&& (1085102592571150095 : Int64)).toUInt64 >>> ((8 : Int32).toInt64.toUInt64 &&& Int64.toUInt64 63)).toInt64)).toUInt64 >>> ((16 : Int32).toInt64.toUInt64 &&& Int64.toUInt64 63)).toInt64)) + (((((((((x1 - (((x1.toUInt64 >>> ((1 : Int32).toInt64.toUInt64 &&& Int64.toUInt64 63)).toInt64) &&& (6148914691236517205 : Int64))) &&& (3689348814741910323 : Int64)) + ((((x1 - (((x1.toUInt64 >>> ((1 : Int32).toInt64.toUInt64 &&& Int64.toUInt64 63)).toInt64) &&& (6148914691236517205 : Int64))).toUInt64 >>> ((2 : Int32).toInt64.toUInt64 &&& Int64.toUInt64 63)).toInt64) &&& (3689348814741910323 : Int64))) + (((((x1 - (((x1.toUInt64 >>> ((1 : Int32).toInt64.toUInt64 &&& Int64.toUInt64 63)).toInt64) &&& (6148914691236517205 : Int64))) &&& (3689348814741910323 : Int64)) + ((((x1 - (((x1.toUInt64 >>> ((1 : Int32).toInt64.toUInt64 &&& Int64.toUInt64 63)).toInt64) &&& (6148914691236517205 : Int64))).toUInt64 >>> ((2 : Int32).toInt64.toUInt64 &&& Int64.toUInt64 63)).toInt64) &&& (3689348814741910323 : Int64))).toUInt64 >>> ((4 : Int32).toInt64.toUInt64 &&& Int64.toUInt64 63)).toInt64)) &&& (1085102592571150095 : Int64)) + (((((((x1 - (((x1.toUInt64 >>> ((1 : Int32).toInt64.toUInt64 &&& Int64.toUInt64 63)).toInt64) &&& (6148914691236517205 : Int64))) &&& (3689348814741910323 : Int64)) + ((((x1 - (((x1.toUInt64 >>> ((1 : Int32).toInt64.toUInt64 &&& Int64.toUInt64 63)).toInt64) &&& (6148914691236517205 : Int64))).toUInt64 >>> ((2 : Int32).toInt64.toUInt64 &&& Int64.toUInt64 63)).toInt64) &&& (3689348814741910323 : Int64))) + (((((x1 - (((x1.toUInt64 >>> ((1 : Int32).toInt64.toUInt64 &&& Int64.toUInt64 63)).toInt64) &&& (6148914691236517205 : Int64))) &&& (3689348814741910323 : Int64)) + ((((x1 - (((x1.toUInt64 >>> ((1 : Int32).toInt64.toUInt64 &&& Int64.toUInt64 63)).toInt64) &&& (6148914691236517205 : Int64))).toUInt64 >>> ((2 : Int32).toInt64.toUInt64 &&& Int64.toUInt64 63)).toInt64) &&& (3689348814741910323 : Int64))).toUInt64 >>> ((4 : Int32).toInt64.toUInt64 &&& Int64.toUInt64 63)).toInt64)) &&& (1085102592571150095 : Int64)).toUInt64 >>> ((8 : Int32).toInt64.toUInt64 &&& Int64.toUInt64 63)).toInt64)) + ((((((((x1 - (((x1.toUInt64 >>> ((1 : Int32).toInt64.toUInt64 &&& Int64.toUInt64 63)).toInt64) &&& (6148914691236517205 : Int64))) &&& (3689348814741910323 : Int64)) + ((((x1 - (((x1.toUInt64 >>> ((1 : Int32).toInt64.toUInt64 &&& Int64.toUInt64 63)).toInt64) &&& (6148914691236517205 : Int64))).toUInt64 >>> ((2 : Int32).toInt64.toUInt64 &&& Int64.toUInt64 63)).toInt64) &&& (3689348814741910323 : Int64))) + (((((x1 - (((x1.toUInt64 >>> ((1 : Int32).toInt64.toUInt64 &&& Int64.toUInt64 63)).toInt64) &&& (6148914691236517205 : Int64))) &&& (3689348814741910323 : Int64)) + ((((x1 - (((x1.toUInt64 >>> ((1 : Int32).toInt64.toUInt64 &&& Int64.toUInt64 63)).toInt64) &&& (6148914691236517205 : Int64))).toUInt64 >>> ((2 : Int32).toInt64.toUInt64 &&& Int64.toUInt64 63)).toInt64) &&& (3689348814741910323 : Int64))).toUInt64 >>> ((4 : Int32).toInt64.toUInt64 &&& Int64.toUInt64 63)).toInt64)) &&& (1085102592571150095 : Int64)) + (((((((x1 - (((x1.toUInt64 >>> ((1 : Int32).toInt64.toUInt64 &&& Int64.toUInt64 63)).toInt64) &&& (6148914691236517205 : Int64))) &&& (3689348814741910323 : Int64)) + ((((x1 - (((x1.toUInt64 >>> ((1 : Int32).toInt64.toUInt64 &&& Int64.toUInt64 63)).toInt64) &&& (6148914691236517205 : Int64))).toUInt64 >>> ((2 : Int32).toInt64.toUInt64 &&& Int64.toUInt64 63)).toInt64) &&& (3689348814741910323 : Int64))) + (((((x1 - (((x1.toUInt64 >>> ((1 : Int32).toInt64.toUInt64 &&& Int64.toUInt64 63)).toInt64) &&& (6148914691236517205 : Int64))) &&& (3689348814741910323 : Int64)) + ((((x1 - (((x1.toUInt64 >>> ((1 : Int32).toInt64.toUInt64 &&& Int64.toUInt64 63)).toInt64) &&& (6148914691236517205 : Int64))).toUInt64 >>> ((2 : Int32).toInt64.toUInt64 &&& Int64.toUInt64 63)).toInt64) &&& (3689348814741910323 : Int64))).toUInt64 >>> ((4 : Int32).toInt64.toUInt64 &&& Int64.toUInt64 63)).toInt64)) &&& (1085102592571150095 : Int64)).toUInt64 >>> ((8 : Int32).toInt64.toUInt64 &&& Int64.toUInt64 63)).toInt64)).toUInt64 >>> ((16 : Int32).toInt64.toUInt64 &&& Int64.toUInt64 63)).toInt64)).toUInt64 >>> ((32 : Int32).toInt64.toUInt64 &&& Int64.toUInt64 63)).toInt64)).toInt32 &&& (127 : Int32))
set_option maxRecDepth 20000 in
set_option maxHeartbeats 2000000 in
theorem tJ13_bitCount_95d88 {wv : Wv} (M : Mm) (x1 : Int64) {res : Int32} (h : fJ13_bitCount_95d88 M x1 = res) : TF wv yJ13_bitCount_95d88 cJ13_bitCount_95d88 2 (some .int) 0 [.inl (.long x1)] M (some (.int res)) M := by
  rw [fJ13_bitCount_95d88] at h
  refine TF.go (n := 0) (ls := [some (.inl (.long x1)), none]) rfl rfl rfl rfl rfl ?_
  refine z_lload_n (i := 0) dJ13_bitCount_95d88_0 rfl rfl ?_
  refine z_lload_n (i := 0) dJ13_bitCount_95d88_1 rfl rfl ?_
  refine z_iconst (v := (1 : Int32)) dJ13_bitCount_95d88_2 kc_1 ?_
  refine z_lushr dJ13_bitCount_95d88_3 ?_
  refine z_ldc2 (v := (6148914691236517205 : Int64)) dJ13_bitCount_95d88_4 (al_mem 1232 (by decide +kernel) rfl) ?_
  refine z_land dJ13_bitCount_95d88_7 ?_
  refine z_lsub dJ13_bitCount_95d88_8 ?_
  refine z_lstore_n (i := 0) dJ13_bitCount_95d88_9 rfl (Nat.le_of_ble_eq_true rfl) rfl ?_
  refine z_lload_n (i := 0) dJ13_bitCount_95d88_10 rfl rfl ?_
  refine z_ldc2 (v := (3689348814741910323 : Int64)) dJ13_bitCount_95d88_11 (al_mem 1233 (by decide +kernel) rfl) ?_
  refine z_land dJ13_bitCount_95d88_14 ?_
  refine z_lload_n (i := 0) dJ13_bitCount_95d88_15 rfl rfl ?_
  refine z_iconst (v := (2 : Int32)) dJ13_bitCount_95d88_16 kc_2 ?_
  refine z_lushr dJ13_bitCount_95d88_17 ?_
  refine z_ldc2 (v := (3689348814741910323 : Int64)) dJ13_bitCount_95d88_18 (al_mem 1233 (by decide +kernel) rfl) ?_
  refine z_land dJ13_bitCount_95d88_21 ?_
  refine z_ladd dJ13_bitCount_95d88_22 ?_
  refine z_lstore_n (i := 0) dJ13_bitCount_95d88_23 rfl (Nat.le_of_ble_eq_true rfl) rfl ?_
  refine z_lload_n (i := 0) dJ13_bitCount_95d88_24 rfl rfl ?_
  refine z_lload_n (i := 0) dJ13_bitCount_95d88_25 rfl rfl ?_
  refine z_iconst (v := (4 : Int32)) dJ13_bitCount_95d88_26 kc_4 ?_
  refine z_lushr dJ13_bitCount_95d88_27 ?_
  refine z_ladd dJ13_bitCount_95d88_28 ?_
  refine z_ldc2 (v := (1085102592571150095 : Int64)) dJ13_bitCount_95d88_29 (al_mem 1234 (by decide +kernel) rfl) ?_
  refine z_land dJ13_bitCount_95d88_32 ?_
  refine z_lstore_n (i := 0) dJ13_bitCount_95d88_33 rfl (Nat.le_of_ble_eq_true rfl) rfl ?_
  refine z_lload_n (i := 0) dJ13_bitCount_95d88_34 rfl rfl ?_
  refine z_lload_n (i := 0) dJ13_bitCount_95d88_35 rfl rfl ?_
  refine z_bipush (v := (8 : Int32)) dJ13_bitCount_95d88_36 kb_8 ?_
  refine z_lushr dJ13_bitCount_95d88_38 ?_
  refine z_ladd dJ13_bitCount_95d88_39 ?_
  refine z_lstore_n (i := 0) dJ13_bitCount_95d88_40 rfl (Nat.le_of_ble_eq_true rfl) rfl ?_
  refine z_lload_n (i := 0) dJ13_bitCount_95d88_41 rfl rfl ?_
  refine z_lload_n (i := 0) dJ13_bitCount_95d88_42 rfl rfl ?_
  refine z_bipush (v := (16 : Int32)) dJ13_bitCount_95d88_43 kb_16 ?_
  refine z_lushr dJ13_bitCount_95d88_45 ?_
  refine z_ladd dJ13_bitCount_95d88_46 ?_
  refine z_lstore_n (i := 0) dJ13_bitCount_95d88_47 rfl (Nat.le_of_ble_eq_true rfl) rfl ?_
  refine z_lload_n (i := 0) dJ13_bitCount_95d88_48 rfl rfl ?_
  refine z_lload_n (i := 0) dJ13_bitCount_95d88_49 rfl rfl ?_
  refine z_bipush (v := (32 : Int32)) dJ13_bitCount_95d88_50 kb_32 ?_
  refine z_lushr dJ13_bitCount_95d88_52 ?_
  refine z_ladd dJ13_bitCount_95d88_53 ?_
  refine z_lstore_n (i := 0) dJ13_bitCount_95d88_54 rfl (Nat.le_of_ble_eq_true rfl) rfl ?_
  refine z_lload_n (i := 0) dJ13_bitCount_95d88_55 rfl rfl ?_
  refine z_l2i dJ13_bitCount_95d88_56 ?_
  refine z_bipush (v := (127 : Int32)) dJ13_bitCount_95d88_57 kb_127 ?_
  refine z_iand dJ13_bitCount_95d88_59 ?_
  subst h
  exact z_iret dJ13_bitCount_95d88_60 rfl rfl (Nat.le_refl _) (Nat.le_refl _) ⟨rfl, rfl⟩
theorem sJ13_bitCount_95d88 {wv : Wv} (M : Mm) (x1 : Int64) : TF wv yJ13_bitCount_95d88 cJ13_bitCount_95d88 2 (some .int) 0 [.inl (.long x1)] M (some (.int (fJ13_bitCount_95d88 M x1))) M := tJ13_bitCount_95d88 M x1  rfl
theorem dX8_pitchNow_0 : decode cX8_pitchNow 0 = .ok (.aload_n 0, 1) := by decide +kernel
theorem dX8_pitchNow_1 : decode cX8_pitchNow 1 = .ok (.getfield 9, 3) := by decide +kernel
theorem dX8_pitchNow_4 : decode cX8_pitchNow 4 = .ok (.aload_n 0, 1) := by decide +kernel
theorem dX8_pitchNow_5 : decode cX8_pitchNow 5 = .ok (.getfield 24, 3) := by decide +kernel
theorem dX8_pitchNow_8 : decode cX8_pitchNow 8 = .ok (.iadd, 1) := by decide +kernel
theorem dX8_pitchNow_9 : decode cX8_pitchNow 9 = .ok (.ireturn, 1) := by decide +kernel
def fX8_pitchNow (M : Mm) (i : Nat) (t : Nat) : Int32 := ((M.1 (13, i, t) 0) + (M.1 (13, i, t) 1))
set_option maxRecDepth 20000 in
set_option maxHeartbeats 2000000 in
theorem tX8_pitchNow {wv : Wv} (M : Mm) (i : Nat) (t : Nat) (hi : i < 12) (ht : t < 12) {res : Int32} (h : fX8_pitchNow M i t = res) : TF wv yX8_pitchNow cX8_pitchNow 1 (some .int) 0 [.inr (13, i, t)] M (some (.int res)) M := by
  rw [fX8_pitchNow] at h
  refine TF.go (n := 0) (ls := [some (.inr (13, i, t))]) rfl rfl rfl rfl rfl ?_
  refine z_aload_n (i := 0) dX8_pitchNow_0 rfl rfl ?_
  refine z_getI (x := (M.1 (13, i, t) 0)) dX8_pitchNow_1 fl_X8_9 (m13 _ hi _ ht) rfl rfl ?_
  refine z_aload_n (i := 0) dX8_pitchNow_4 rfl rfl ?_
  refine z_getI (x := (M.1 (13, i, t) 1)) dX8_pitchNow_5 fl_X8_24 (m13 _ hi _ ht) rfl rfl ?_
  refine z_iadd dX8_pitchNow_8 ?_
  subst h
  exact z_iret dX8_pitchNow_9 rfl rfl (Nat.le_refl _) (Nat.le_refl _) ⟨rfl, rfl⟩
theorem sX8_pitchNow {wv : Wv} (M : Mm) (i : Nat) (t : Nat) (hi : i < 12) (ht : t < 12) : TF wv yX8_pitchNow cX8_pitchNow 1 (some .int) 0 [.inr (13, i, t)] M (some (.int (fX8_pitchNow M i t))) M := tX8_pitchNow M i t hi ht rfl
theorem dX0_pitchSum_0 : decode cX0_pitchSum 0 = .ok (.iconst 0, 1) := by decide +kernel
theorem dX0_pitchSum_1 : decode cX0_pitchSum 1 = .ok (.istore_n 2, 1) := by decide +kernel
theorem dX0_pitchSum_2 : decode cX0_pitchSum 2 = .ok (.iconst 0, 1) := by decide +kernel
theorem dX0_pitchSum_3 : decode cX0_pitchSum 3 = .ok (.istore_n 3, 1) := by decide +kernel
theorem dX0_pitchSum_4 : decode cX0_pitchSum 4 = .ok (.iload_n 3, 1) := by decide +kernel
theorem dX0_pitchSum_5 : decode cX0_pitchSum 5 = .ok (.aload_n 0, 1) := by decide +kernel
theorem dX0_pitchSum_6 : decode cX0_pitchSum 6 = .ok (.getfield 29, 3) := by decide +kernel
theorem dX0_pitchSum_9 : decode cX0_pitchSum 9 = .ok (.if_icmp .ge 40, 3) := by decide +kernel
theorem dX0_pitchSum_12 : decode cX0_pitchSum 12 = .ok (.iload_n 3, 1) := by decide +kernel
theorem dX0_pitchSum_13 : decode cX0_pitchSum 13 = .ok (.bipush 12, 2) := by decide +kernel
theorem dX0_pitchSum_15 : decode cX0_pitchSum 15 = .ok (.if_icmp .ge 34, 3) := by decide +kernel
theorem dX0_pitchSum_18 : decode cX0_pitchSum 18 = .ok (.iload_n 2, 1) := by decide +kernel
theorem dX0_pitchSum_19 : decode cX0_pitchSum 19 = .ok (.aload_n 0, 1) := by decide +kernel
theorem dX0_pitchSum_20 : decode cX0_pitchSum 20 = .ok (.getfield 12, 3) := by decide +kernel
theorem dX0_pitchSum_23 : decode cX0_pitchSum 23 = .ok (.iload_n 1, 1) := by decide +kernel
theorem dX0_pitchSum_24 : decode cX0_pitchSum 24 = .ok (.iload_n 3, 1) := by decide +kernel
theorem dX0_pitchSum_25 : decode cX0_pitchSum 25 = .ok (.invokevirtual 91, 3) := by decide +kernel
theorem dX0_pitchSum_28 : decode cX0_pitchSum 28 = .ok (.invokestatic 144, 3) := by decide +kernel
theorem dX0_pitchSum_31 : decode cX0_pitchSum 31 = .ok (.aload_n 0, 1) := by decide +kernel
theorem dX0_pitchSum_32 : decode cX0_pitchSum 32 = .ok (.getfield 20, 3) := by decide +kernel
theorem dX0_pitchSum_35 : decode cX0_pitchSum 35 = .ok (.iload_n 3, 1) := by decide +kernel
theorem dX0_pitchSum_36 : decode cX0_pitchSum 36 = .ok (.aaload, 1) := by decide +kernel
theorem dX0_pitchSum_37 : decode cX0_pitchSum 37 = .ok (.invokevirtual 150, 3) := by decide +kernel
theorem dX0_pitchSum_40 : decode cX0_pitchSum 40 = .ok (.imul, 1) := by decide +kernel
theorem dX0_pitchSum_41 : decode cX0_pitchSum 41 = .ok (.iadd, 1) := by decide +kernel
theorem dX0_pitchSum_42 : decode cX0_pitchSum 42 = .ok (.istore_n 2, 1) := by decide +kernel
theorem dX0_pitchSum_43 : decode cX0_pitchSum 43 = .ok (.iinc 3 1, 3) := by decide +kernel
theorem dX0_pitchSum_46 : decode cX0_pitchSum 46 = .ok (.goto (-42), 3) := by decide +kernel
theorem dX0_pitchSum_49 : decode cX0_pitchSum 49 = .ok (.iload_n 2, 1) := by decide +kernel
theorem dX0_pitchSum_50 : decode cX0_pitchSum 50 = .ok (.ireturn, 1) := by decide +kernel
def fX0_pitchSum_L4 (M : Mm) (i : Nat) (c1 : Int32) (K : Int32 → Int32 → Option Int32) : Nat → Int32 → Int32 → Option Int32
  | 0, _, _ => none
  | n + 1, v2, v3 => if (M.1 (9, i, 0) 2) ≤ v3 then K v2 v3 else if (12 : Int32) ≤ v3 then K v2 v3 else (fX3_row M i c1 v3).bind fun q3 => if v3 < 0 ∨ 12 ≤ v3.toNatClampNeg then none else fX0_pitchSum_L4 M i c1 K n (v2 + ((fJ13_bitCount_95d88 M q3) * (fX8_pitchNow M i v3.toNatClampNeg))) (v3 + (1 : Int32))
def fX0_pitchSum (M : Mm) (i : Nat) (x1 : Int32) : Option Int32 := fX0_pitchSum_L4 M i x1 (fun w6 w7 => some w6) NF (0 : Int32) (0 : Int32)
set_option maxRecDepth 20000 in
set_option maxHeartbeats 2000000 in
theorem sX0_pitchSum_L4 {wv : Wv} (M : Mm) (i : Nat) (c1 : Int32) (hi : i < 12) {res : Int32} {K : Int32 → Int32 → Option Int32} : ∀ (n : Nat) (v2 : Int32) (v3 : Int32), fX0_pitchSum_L4 M i c1 K n v2 v3 = some res →
    (∀ (v2 : Int32) (v3 : Int32), K v2 v3 = some res → Z RX0 cX0_pitchSum 4 (some .int) [] "pitchSum" (rmD 2 0 0) (QM SH (allR wv) 0 0 (fun v M9 => v = some (.int res) ∧ M9 = M) (fun _ _ => False)) (allR wv) SH 0 0 49 [some (.inr (9, i, 0)), some (.inl (.int c1)), some (.inl (.int v2)), some (.inl (.int v3))] [] M) → Z RX0 cX0_pitchSum 4 (some .int) [] "pitchSum" (rmD 2 0 0) (QM SH (allR wv) 0 0 (fun v M9 => v = some (.int res) ∧ M9 = M) (fun _ _ => False)) (allR wv) SH 0 0 4 [some (.inr (9, i, 0)), some (.inl (.int c1)), some (.inl (.int v2)), some (.inl (.int v3))] [] M := by
  intro n
  induction n with
  | zero => intro v2 v3 h; cases h
  | succ n ih =>
    intro v2 v3 h hK
    rw [fX0_pitchSum_L4] at h
    refine z_iload_n (i := 3) dX0_pitchSum_4 rfl rfl ?_
    refine z_aload_n (i := 0) dX0_pitchSum_5 rfl rfl ?_
    refine z_getI (x := (M.1 (9, i, 0) 2)) dX0_pitchSum_6 fl_X0_29 (m9 _ hi) rfl rfl ?_
    refine z_icmp_ge (tgt := 49) dX0_pitchSum_9 rfl (fun hc1 => ?_) (fun hc1 => ?_)
    · have h := it_t h hc1
      exact hK _ _ h
    · have h := it_f h hc1
      refine z_iload_n (i := 3) dX0_pitchSum_12 rfl rfl ?_
      refine z_bipush (v := (12 : Int32)) dX0_pitchSum_13 kb_12 ?_
      refine z_icmp_ge (tgt := 49) dX0_pitchSum_15 rfl (fun hc2 => ?_) (fun hc2 => ?_)
      · have h := it_t h hc2
        exact hK _ _ h
      · have h := it_f h hc2
        refine z_iload_n (i := 2) dX0_pitchSum_18 rfl rfl ?_
        refine z_aload_n (i := 0) dX0_pitchSum_19 rfl rfl ?_
        refine z_getR (r' := (10, i, 0)) dX0_pitchSum_20 fl_X0_12 (m9 _ hi) rfl rfl ?_
        refine z_iload_n (i := 1) dX0_pitchSum_23 rfl rfl ?_
        refine z_iload_n (i := 3) dX0_pitchSum_24 rfl rfl ?_
        obtain ⟨q3, hq4, h⟩ := bnd h
        refine z_fVl (sX3_row M i c1 v3 hi hq4) dX0_pitchSum_25 ml_X0_91 cd_X3_row (m10 _ hi) rfl rfl rfl rfl rfl rfl ?_
        refine z_fSi (sJ13_bitCount_95d88 M q3) dX0_pitchSum_28 ml_X0_144 cd_J13_bitCount_95d88 rfl rfl rfl rfl rfl ?_
        refine z_aload_n (i := 0) dX0_pitchSum_31 rfl rfl ?_
        refine z_getR (r' := (12, i, 0)) dX0_pitchSum_32 fl_X0_20 (m9 _ hi) rfl rfl ?_
        refine z_iload_n (i := 3) dX0_pitchSum_35 rfl rfl ?_
        obtain ⟨hc5, h⟩ := chk h
        refine z_aald (t := 0) (r' := (13, i, v3.toNatClampNeg)) dX0_pitchSum_36 (m12 _ hi) rfl (Nat.le_of_ble_eq_true rfl) hc5 rfl ?_
        refine z_fVi (sX8_pitchNow M i v3.toNatClampNeg hi (ltN hc5)) dX0_pitchSum_37 ml_X0_150 cd_X8_pitchNow (m13 _ hi _ (ltN hc5)) rfl rfl rfl rfl rfl rfl ?_
        refine z_imul dX0_pitchSum_40 ?_
        refine z_iadd dX0_pitchSum_41 ?_
        refine z_istore_n (i := 2) dX0_pitchSum_42 rfl (Nat.le_of_ble_eq_true rfl) rfl ?_
        refine z_iinc (i := 3) (v := (v3 + (1 : Int32))) dX0_pitchSum_43 rfl (iinc_k kc_1) (Nat.le_of_ble_eq_true rfl) rfl ?_
        refine z_goto (tgt := 4) dX0_pitchSum_46 rfl ?_
        exact ih _ _ h hK
set_option maxRecDepth 20000 in
set_option maxHeartbeats 2000000 in
theorem sX0_pitchSum {wv : Wv} (M : Mm) (i : Nat) (x1 : Int32) (hi : i < 12) {res : Int32} (h : fX0_pitchSum M i x1 = some res) : TF wv yX0_pitchSum cX0_pitchSum 4 (some .int) 2 [.inr (9, i, 0), .inl (.int x1)] M (some (.int res)) M := by
  rw [fX0_pitchSum] at h
  refine TF.go (n := 2) (ls := [some (.inr (9, i, 0)), some (.inl (.int x1)), none, none]) rfl rfl rfl rfl rfl ?_
  refine z_iconst (v := (0 : Int32)) dX0_pitchSum_0 kc_0 ?_
  refine z_istore_n (i := 2) dX0_pitchSum_1 rfl (Nat.le_of_ble_eq_true rfl) rfl ?_
  refine z_iconst (v := (0 : Int32)) dX0_pitchSum_2 kc_0 ?_
  refine z_istore_n (i := 3) dX0_pitchSum_3 rfl (Nat.le_of_ble_eq_true rfl) rfl ?_
  refine sX0_pitchSum_L4 M i x1 hi NF _ _ h (fun w6 w7 h => ?_)
  refine z_iload_n (i := 2) dX0_pitchSum_49 rfl rfl ?_
  cases h
  exact z_iret dX0_pitchSum_50 rfl rfl (Nat.le_refl _) (Nat.le_refl _) ⟨rfl, rfl⟩
theorem dJ9_abs_0f7a4_0 : decode cJ9_abs_0f7a4 0 = .ok (.iload_n 0, 1) := by decide +kernel
theorem dJ9_abs_0f7a4_1 : decode cJ9_abs_0f7a4 1 = .ok (.ifCond .ge 8, 3) := by decide +kernel
theorem dJ9_abs_0f7a4_4 : decode cJ9_abs_0f7a4 4 = .ok (.iload_n 0, 1) := by decide +kernel
theorem dJ9_abs_0f7a4_5 : decode cJ9_abs_0f7a4 5 = .ok (.ineg, 1) := by decide +kernel
theorem dJ9_abs_0f7a4_6 : decode cJ9_abs_0f7a4 6 = .ok (.goto 4, 3) := by decide +kernel
theorem dJ9_abs_0f7a4_9 : decode cJ9_abs_0f7a4 9 = .ok (.iload_n 0, 1) := by decide +kernel
theorem dJ9_abs_0f7a4_10 : decode cJ9_abs_0f7a4 10 = .ok (.ireturn, 1) := by decide +kernel
def fJ9_abs_0f7a4 (M : Mm) (x1 : Int32) : Int32 := if 0 ≤ x1 then x1 else (-x1)
set_option maxRecDepth 20000 in
set_option maxHeartbeats 2000000 in
theorem tJ9_abs_0f7a4 {wv : Wv} (M : Mm) (x1 : Int32) {res : Int32} (h : fJ9_abs_0f7a4 M x1 = res) : TF wv yJ9_abs_0f7a4 cJ9_abs_0f7a4 1 (some .int) 0 [.inl (.int x1)] M (some (.int res)) M := by
  rw [fJ9_abs_0f7a4] at h
  refine TF.go (n := 0) (ls := [some (.inl (.int x1))]) (by decide +kernel) rfl rfl rfl rfl ?_
  refine z_iload_n (i := 0) dJ9_abs_0f7a4_0 rfl rfl ?_
  refine z_if_ge (tgt := 9) dJ9_abs_0f7a4_1 rfl (fun hc1 => ?_) (fun hc1 => ?_)
  · have h := it_t h hc1
    refine z_iload_n (i := 0) dJ9_abs_0f7a4_9 rfl rfl ?_
    subst h
    exact z_iret dJ9_abs_0f7a4_10 rfl rfl (Nat.le_refl _) (Nat.le_refl _) ⟨rfl, rfl⟩
  · have h := it_f h hc1
    refine z_iload_n (i := 0) dJ9_abs_0f7a4_4 rfl rfl ?_
    refine z_ineg dJ9_abs_0f7a4_5 ?_
    refine z_goto (tgt := 10) dJ9_abs_0f7a4_6 rfl ?_
    subst h
    exact z_iret dJ9_abs_0f7a4_10 rfl rfl (Nat.le_refl _) (Nat.le_refl _) ⟨rfl, rfl⟩
theorem sJ9_abs_0f7a4 {wv : Wv} (M : Mm) (x1 : Int32) : TF wv yJ9_abs_0f7a4 cJ9_abs_0f7a4 1 (some .int) 0 [.inl (.int x1)] M (some (.int (fJ9_abs_0f7a4 M x1))) M := tJ9_abs_0f7a4 M x1  rfl
theorem dX0_unexplainedWear_0 : decode cX0_unexplainedWear 0 = .ok (.aload_n 0, 1) := by decide +kernel
theorem dX0_unexplainedWear_1 : decode cX0_unexplainedWear 1 = .ok (.getfield 51, 3) := by decide +kernel
theorem dX0_unexplainedWear_4 : decode cX0_unexplainedWear 4 = .ok (.istore_n 1, 1) := by decide +kernel
theorem dX0_unexplainedWear_5 : decode cX0_unexplainedWear 5 = .ok (.iconst 0, 1) := by decide +kernel
theorem dX0_unexplainedWear_6 : decode cX0_unexplainedWear 6 = .ok (.istore_n 2, 1) := by decide +kernel
theorem dX0_unexplainedWear_7 : decode cX0_unexplainedWear 7 = .ok (.iload_n 2, 1) := by decide +kernel
theorem dX0_unexplainedWear_8 : decode cX0_unexplainedWear 8 = .ok (.aload_n 0, 1) := by decide +kernel
theorem dX0_unexplainedWear_9 : decode cX0_unexplainedWear 9 = .ok (.getfield 29, 3) := by decide +kernel
theorem dX0_unexplainedWear_12 : decode cX0_unexplainedWear 12 = .ok (.if_icmp .ge 27, 3) := by decide +kernel
theorem dX0_unexplainedWear_15 : decode cX0_unexplainedWear 15 = .ok (.iload_n 2, 1) := by decide +kernel
theorem dX0_unexplainedWear_16 : decode cX0_unexplainedWear 16 = .ok (.bipush 12, 2) := by decide +kernel
theorem dX0_unexplainedWear_18 : decode cX0_unexplainedWear 18 = .ok (.if_icmp .ge 21, 3) := by decide +kernel
theorem dX0_unexplainedWear_21 : decode cX0_unexplainedWear 21 = .ok (.iload_n 1, 1) := by decide +kernel
theorem dX0_unexplainedWear_22 : decode cX0_unexplainedWear 22 = .ok (.aload_n 0, 1) := by decide +kernel
theorem dX0_unexplainedWear_23 : decode cX0_unexplainedWear 23 = .ok (.getfield 20, 3) := by decide +kernel
theorem dX0_unexplainedWear_26 : decode cX0_unexplainedWear 26 = .ok (.iload_n 2, 1) := by decide +kernel
theorem dX0_unexplainedWear_27 : decode cX0_unexplainedWear 27 = .ok (.aaload, 1) := by decide +kernel
theorem dX0_unexplainedWear_28 : decode cX0_unexplainedWear 28 = .ok (.getfield 105, 3) := by decide +kernel
theorem dX0_unexplainedWear_31 : decode cX0_unexplainedWear 31 = .ok (.iadd, 1) := by decide +kernel
theorem dX0_unexplainedWear_32 : decode cX0_unexplainedWear 32 = .ok (.istore_n 1, 1) := by decide +kernel
theorem dX0_unexplainedWear_33 : decode cX0_unexplainedWear 33 = .ok (.iinc 2 1, 3) := by decide +kernel
theorem dX0_unexplainedWear_36 : decode cX0_unexplainedWear 36 = .ok (.goto (-29), 3) := by decide +kernel
theorem dX0_unexplainedWear_39 : decode cX0_unexplainedWear 39 = .ok (.iload_n 1, 1) := by decide +kernel
theorem dX0_unexplainedWear_40 : decode cX0_unexplainedWear 40 = .ok (.aload_n 0, 1) := by decide +kernel
theorem dX0_unexplainedWear_41 : decode cX0_unexplainedWear 41 = .ok (.getfield 39, 3) := by decide +kernel
theorem dX0_unexplainedWear_44 : decode cX0_unexplainedWear 44 = .ok (.iconst 1, 1) := by decide +kernel
theorem dX0_unexplainedWear_45 : decode cX0_unexplainedWear 45 = .ok (.imul, 1) := by decide +kernel
theorem dX0_unexplainedWear_46 : decode cX0_unexplainedWear 46 = .ok (.aload_n 0, 1) := by decide +kernel
theorem dX0_unexplainedWear_47 : decode cX0_unexplainedWear 47 = .ok (.getfield 42, 3) := by decide +kernel
theorem dX0_unexplainedWear_50 : decode cX0_unexplainedWear 50 = .ok (.iconst 5, 1) := by decide +kernel
theorem dX0_unexplainedWear_51 : decode cX0_unexplainedWear 51 = .ok (.imul, 1) := by decide +kernel
theorem dX0_unexplainedWear_52 : decode cX0_unexplainedWear 52 = .ok (.iadd, 1) := by decide +kernel
theorem dX0_unexplainedWear_53 : decode cX0_unexplainedWear 53 = .ok (.aload_n 0, 1) := by decide +kernel
theorem dX0_unexplainedWear_54 : decode cX0_unexplainedWear 54 = .ok (.getfield 48, 3) := by decide +kernel
theorem dX0_unexplainedWear_57 : decode cX0_unexplainedWear 57 = .ok (.iconst 3, 1) := by decide +kernel
theorem dX0_unexplainedWear_58 : decode cX0_unexplainedWear 58 = .ok (.imul, 1) := by decide +kernel
theorem dX0_unexplainedWear_59 : decode cX0_unexplainedWear 59 = .ok (.iadd, 1) := by decide +kernel
theorem dX0_unexplainedWear_60 : decode cX0_unexplainedWear 60 = .ok (.isub, 1) := by decide +kernel
theorem dX0_unexplainedWear_61 : decode cX0_unexplainedWear 61 = .ok (.invokestatic 154, 3) := by decide +kernel
theorem dX0_unexplainedWear_64 : decode cX0_unexplainedWear 64 = .ok (.ireturn, 1) := by decide +kernel
def fX0_unexplainedWear_L7 (M : Mm) (i : Nat) (K : Int32 → Int32 → Option Int32) : Nat → Int32 → Int32 → Option Int32
  | 0, _, _ => none
  | n + 1, v1, v2 => if (M.1 (9, i, 0) 2) ≤ v2 then K v1 v2 else if (12 : Int32) ≤ v2 then K v1 v2 else if v2 < 0 ∨ 12 ≤ v2.toNatClampNeg then none else fX0_unexplainedWear_L7 M i K n (v1 + (M.1 (13, i, v2.toNatClampNeg) 4)) (v2 + (1 : Int32))
def fX0_unexplainedWear (M : Mm) (i : Nat) : Option Int32 := fX0_unexplainedWear_L7 M i (fun w4 w5 => some (fJ9_abs_0f7a4 M (w4 - ((((M.1 (9, i, 0) 5) * (1 : Int32)) + ((M.1 (9, i, 0) 6) * (5 : Int32))) + ((M.1 (9, i, 0) 8) * (3 : Int32)))))) NF (M.1 (9, i, 0) 9) (0 : Int32)
set_option maxRecDepth 20000 in
set_option maxHeartbeats 2000000 in
theorem sX0_unexplainedWear_L7 {wv : Wv} (M : Mm) (i : Nat) (hi : i < 12) {res : Int32} {K : Int32 → Int32 → Option Int32} : ∀ (n : Nat) (v1 : Int32) (v2 : Int32), fX0_unexplainedWear_L7 M i K n v1 v2 = some res →
    (∀ (v1 : Int32) (v2 : Int32), K v1 v2 = some res → Z RX0 cX0_unexplainedWear 3 (some .int) [] "unexplainedWear" (rmD 1 0 0) (QM SH (allR wv) 0 0 (fun v M9 => v = some (.int res) ∧ M9 = M) (fun _ _ => False)) (allR wv) SH 0 0 39 [some (.inr (9, i, 0)), some (.inl (.int v1)), some (.inl (.int v2))] [] M) → Z RX0 cX0_unexplainedWear 3 (some .int) [] "unexplainedWear" (rmD 1 0 0) (QM SH (allR wv) 0 0 (fun v M9 => v = some (.int res) ∧ M9 = M) (fun _ _ => False)) (allR wv) SH 0 0 7 [some (.inr (9, i, 0)), some (.inl (.int v1)), some (.inl (.int v2))] [] M := by
  intro n
  induction n with
  | zero => intro v1 v2 h; cases h
  | succ n ih =>
    intro v1 v2 h hK
    rw [fX0_unexplainedWear_L7] at h
    refine z_iload_n (i := 2) dX0_unexplainedWear_7 rfl rfl ?_
    refine z_aload_n (i := 0) dX0_unexplainedWear_8 rfl rfl ?_
    refine z_getI (x := (M.1 (9, i, 0) 2)) dX0_unexplainedWear_9 fl_X0_29 (m9 _ hi) rfl rfl ?_
    refine z_icmp_ge (tgt := 39) dX0_unexplainedWear_12 rfl (fun hc1 => ?_) (fun hc1 => ?_)
    · have h := it_t h hc1
      exact hK _ _ h
    · have h := it_f h hc1
      refine z_iload_n (i := 2) dX0_unexplainedWear_15 rfl rfl ?_
      refine z_bipush (v := (12 : Int32)) dX0_unexplainedWear_16 kb_12 ?_
      refine z_icmp_ge (tgt := 39) dX0_unexplainedWear_18 rfl (fun hc2 => ?_) (fun hc2 => ?_)
      · have h := it_t h hc2
        exact hK _ _ h
      · have h := it_f h hc2
        refine z_iload_n (i := 1) dX0_unexplainedWear_21 rfl rfl ?_
        refine z_aload_n (i := 0) dX0_unexplainedWear_22 rfl rfl ?_
        refine z_getR (r' := (12, i, 0)) dX0_unexplainedWear_23 fl_X0_20 (m9 _ hi) rfl rfl ?_
        refine z_iload_n (i := 2) dX0_unexplainedWear_26 rfl rfl ?_
        obtain ⟨hc3, h⟩ := chk h
        refine z_aald (t := 0) (r' := (13, i, v2.toNatClampNeg)) dX0_unexplainedWear_27 (m12 _ hi) rfl (Nat.le_of_ble_eq_true rfl) hc3 rfl ?_
        refine z_getI (x := (M.1 (13, i, v2.toNatClampNeg) 4)) dX0_unexplainedWear_28 fl_X0_105 (m13 _ hi _ (ltN hc3)) rfl rfl ?_
        refine z_iadd dX0_unexplainedWear_31 ?_
        refine z_istore_n (i := 1) dX0_unexplainedWear_32 rfl (Nat.le_of_ble_eq_true rfl) rfl ?_
        refine z_iinc (i := 2) (v := (v2 + (1 : Int32))) dX0_unexplainedWear_33 rfl (iinc_k kc_1) (Nat.le_of_ble_eq_true rfl) rfl ?_
        refine z_goto (tgt := 7) dX0_unexplainedWear_36 rfl ?_
        exact ih _ _ h hK
set_option maxRecDepth 20000 in
set_option maxHeartbeats 2000000 in
theorem sX0_unexplainedWear {wv : Wv} (M : Mm) (i : Nat) (hi : i < 12) {res : Int32} (h : fX0_unexplainedWear M i = some res) : TF wv yX0_unexplainedWear cX0_unexplainedWear 3 (some .int) 1 [.inr (9, i, 0)] M (some (.int res)) M := by
  rw [fX0_unexplainedWear] at h
  refine TF.go (n := 2) (ls := [some (.inr (9, i, 0)), none, none]) rfl rfl rfl rfl rfl ?_
  refine z_aload_n (i := 0) dX0_unexplainedWear_0 rfl rfl ?_
  refine z_getI (x := (M.1 (9, i, 0) 9)) dX0_unexplainedWear_1 fl_X0_51 (m9 _ hi) rfl rfl ?_
  refine z_istore_n (i := 1) dX0_unexplainedWear_4 rfl (Nat.le_of_ble_eq_true rfl) rfl ?_
  refine z_iconst (v := (0 : Int32)) dX0_unexplainedWear_5 kc_0 ?_
  refine z_istore_n (i := 2) dX0_unexplainedWear_6 rfl (Nat.le_of_ble_eq_true rfl) rfl ?_
  refine sX0_unexplainedWear_L7 M i hi NF _ _ h (fun w4 w5 h => ?_)
  refine z_iload_n (i := 1) dX0_unexplainedWear_39 rfl rfl ?_
  refine z_aload_n (i := 0) dX0_unexplainedWear_40 rfl rfl ?_
  refine z_getI (x := (M.1 (9, i, 0) 5)) dX0_unexplainedWear_41 fl_X0_39 (m9 _ hi) rfl rfl ?_
  refine z_iconst (v := (1 : Int32)) dX0_unexplainedWear_44 kc_1 ?_
  refine z_imul dX0_unexplainedWear_45 ?_
  refine z_aload_n (i := 0) dX0_unexplainedWear_46 rfl rfl ?_
  refine z_getI (x := (M.1 (9, i, 0) 6)) dX0_unexplainedWear_47 fl_X0_42 (m9 _ hi) rfl rfl ?_
  refine z_iconst (v := (5 : Int32)) dX0_unexplainedWear_50 kc_5 ?_
  refine z_imul dX0_unexplainedWear_51 ?_
  refine z_iadd dX0_unexplainedWear_52 ?_
  refine z_aload_n (i := 0) dX0_unexplainedWear_53 rfl rfl ?_
  refine z_getI (x := (M.1 (9, i, 0) 8)) dX0_unexplainedWear_54 fl_X0_48 (m9 _ hi) rfl rfl ?_
  refine z_iconst (v := (3 : Int32)) dX0_unexplainedWear_57 kc_3 ?_
  refine z_imul dX0_unexplainedWear_58 ?_
  refine z_iadd dX0_unexplainedWear_59 ?_
  refine z_isub dX0_unexplainedWear_60 ?_
  refine z_fSi (sJ9_abs_0f7a4 M (w4 - ((((M.1 (9, i, 0) 5) * (1 : Int32)) + ((M.1 (9, i, 0) 6) * (5 : Int32))) + ((M.1 (9, i, 0) 8) * (3 : Int32))))) dX0_unexplainedWear_61 ml_X0_154 cd_J9_abs_0f7a4 rfl rfl rfl rfl rfl ?_
  cases h
  exact z_iret dX0_unexplainedWear_64 rfl rfl (Nat.le_refl _) (Nat.le_refl _) ⟨rfl, rfl⟩
theorem dX0_brokenTooEarly_0 : decode cX0_brokenTooEarly 0 = .ok (.iconst 0, 1) := by decide +kernel
theorem dX0_brokenTooEarly_1 : decode cX0_brokenTooEarly 1 = .ok (.istore_n 1, 1) := by decide +kernel
theorem dX0_brokenTooEarly_2 : decode cX0_brokenTooEarly 2 = .ok (.iconst 0, 1) := by decide +kernel
theorem dX0_brokenTooEarly_3 : decode cX0_brokenTooEarly 3 = .ok (.istore_n 2, 1) := by decide +kernel
theorem dX0_brokenTooEarly_4 : decode cX0_brokenTooEarly 4 = .ok (.iload_n 2, 1) := by decide +kernel
theorem dX0_brokenTooEarly_5 : decode cX0_brokenTooEarly 5 = .ok (.aload_n 0, 1) := by decide +kernel
theorem dX0_brokenTooEarly_6 : decode cX0_brokenTooEarly 6 = .ok (.getfield 29, 3) := by decide +kernel
theorem dX0_brokenTooEarly_9 : decode cX0_brokenTooEarly 9 = .ok (.if_icmp .ge 51, 3) := by decide +kernel
theorem dX0_brokenTooEarly_12 : decode cX0_brokenTooEarly 12 = .ok (.iload_n 2, 1) := by decide +kernel
theorem dX0_brokenTooEarly_13 : decode cX0_brokenTooEarly 13 = .ok (.bipush 12, 2) := by decide +kernel
theorem dX0_brokenTooEarly_15 : decode cX0_brokenTooEarly 15 = .ok (.if_icmp .ge 45, 3) := by decide +kernel
theorem dX0_brokenTooEarly_18 : decode cX0_brokenTooEarly 18 = .ok (.aload_n 0, 1) := by decide +kernel
theorem dX0_brokenTooEarly_19 : decode cX0_brokenTooEarly 19 = .ok (.getfield 20, 3) := by decide +kernel
theorem dX0_brokenTooEarly_22 : decode cX0_brokenTooEarly 22 = .ok (.iload_n 2, 1) := by decide +kernel
theorem dX0_brokenTooEarly_23 : decode cX0_brokenTooEarly 23 = .ok (.aaload, 1) := by decide +kernel
theorem dX0_brokenTooEarly_24 : decode cX0_brokenTooEarly 24 = .ok (.invokevirtual 101, 3) := by decide +kernel
theorem dX0_brokenTooEarly_27 : decode cX0_brokenTooEarly 27 = .ok (.ifCond .eq 27, 3) := by decide +kernel
theorem dX0_brokenTooEarly_30 : decode cX0_brokenTooEarly 30 = .ok (.aload_n 0, 1) := by decide +kernel
theorem dX0_brokenTooEarly_31 : decode cX0_brokenTooEarly 31 = .ok (.getfield 20, 3) := by decide +kernel
theorem dX0_brokenTooEarly_34 : decode cX0_brokenTooEarly 34 = .ok (.iload_n 2, 1) := by decide +kernel
theorem dX0_brokenTooEarly_35 : decode cX0_brokenTooEarly 35 = .ok (.aaload, 1) := by decide +kernel
theorem dX0_brokenTooEarly_36 : decode cX0_brokenTooEarly 36 = .ok (.getfield 105, 3) := by decide +kernel
theorem dX0_brokenTooEarly_39 : decode cX0_brokenTooEarly 39 = .ok (.aload_n 0, 1) := by decide +kernel
theorem dX0_brokenTooEarly_40 : decode cX0_brokenTooEarly 40 = .ok (.getfield 20, 3) := by decide +kernel
theorem dX0_brokenTooEarly_43 : decode cX0_brokenTooEarly 43 = .ok (.iload_n 2, 1) := by decide +kernel
theorem dX0_brokenTooEarly_44 : decode cX0_brokenTooEarly 44 = .ok (.aaload, 1) := by decide +kernel
theorem dX0_brokenTooEarly_45 : decode cX0_brokenTooEarly 45 = .ok (.getfield 157, 3) := by decide +kernel
theorem dX0_brokenTooEarly_48 : decode cX0_brokenTooEarly 48 = .ok (.if_icmp .ge 6, 3) := by decide +kernel
theorem dX0_brokenTooEarly_51 : decode cX0_brokenTooEarly 51 = .ok (.iinc 1 1, 3) := by decide +kernel
theorem dX0_brokenTooEarly_54 : decode cX0_brokenTooEarly 54 = .ok (.iinc 2 1, 3) := by decide +kernel
theorem dX0_brokenTooEarly_57 : decode cX0_brokenTooEarly 57 = .ok (.goto (-53), 3) := by decide +kernel
theorem dX0_brokenTooEarly_60 : decode cX0_brokenTooEarly 60 = .ok (.iload_n 1, 1) := by decide +kernel
theorem dX0_brokenTooEarly_61 : decode cX0_brokenTooEarly 61 = .ok (.ireturn, 1) := by decide +kernel
def fX0_brokenTooEarly_L4 (M : Mm) (i : Nat) (K : Int32 → Int32 → Option Int32) : Nat → Int32 → Int32 → Option Int32
  | 0, _, _ => none
  | n + 1, v1, v2 => if (M.1 (9, i, 0) 2) ≤ v2 then K v1 v2 else if (12 : Int32) ≤ v2 then K v1 v2 else if v2 < 0 ∨ 12 ≤ v2.toNatClampNeg then none else if (fX8_brokenNow M i v2.toNatClampNeg) = 0 then fX0_brokenTooEarly_L4 M i K n v1 (v2 + (1 : Int32)) else if v2 < 0 ∨ 12 ≤ v2.toNatClampNeg then none else if v2 < 0 ∨ 12 ≤ v2.toNatClampNeg then none else if (M.1 (13, i, v2.toNatClampNeg) 3) ≤ (M.1 (13, i, v2.toNatClampNeg) 4) then fX0_brokenTooEarly_L4 M i K n v1 (v2 + (1 : Int32)) else fX0_brokenTooEarly_L4 M i K n (v1 + (1 : Int32)) (v2 + (1 : Int32))
def fX0_brokenTooEarly (M : Mm) (i : Nat) : Option Int32 := fX0_brokenTooEarly_L4 M i (fun w8 w9 => some w8) NF (0 : Int32) (0 : Int32)
set_option maxRecDepth 20000 in
set_option maxHeartbeats 2000000 in
theorem sX0_brokenTooEarly_L4 {wv : Wv} (M : Mm) (i : Nat) (hi : i < 12) {res : Int32} {K : Int32 → Int32 → Option Int32} : ∀ (n : Nat) (v1 : Int32) (v2 : Int32), fX0_brokenTooEarly_L4 M i K n v1 v2 = some res →
    (∀ (v1 : Int32) (v2 : Int32), K v1 v2 = some res → Z RX0 cX0_brokenTooEarly 3 (some .int) [] "brokenTooEarly" (rmD 1 0 0) (QM SH (allR wv) 0 0 (fun v M9 => v = some (.int res) ∧ M9 = M) (fun _ _ => False)) (allR wv) SH 0 0 60 [some (.inr (9, i, 0)), some (.inl (.int v1)), some (.inl (.int v2))] [] M) → Z RX0 cX0_brokenTooEarly 3 (some .int) [] "brokenTooEarly" (rmD 1 0 0) (QM SH (allR wv) 0 0 (fun v M9 => v = some (.int res) ∧ M9 = M) (fun _ _ => False)) (allR wv) SH 0 0 4 [some (.inr (9, i, 0)), some (.inl (.int v1)), some (.inl (.int v2))] [] M := by
  intro n
  induction n with
  | zero => intro v1 v2 h; cases h
  | succ n ih =>
    intro v1 v2 h hK
    rw [fX0_brokenTooEarly_L4] at h
    refine z_iload_n (i := 2) dX0_brokenTooEarly_4 rfl rfl ?_
    refine z_aload_n (i := 0) dX0_brokenTooEarly_5 rfl rfl ?_
    refine z_getI (x := (M.1 (9, i, 0) 2)) dX0_brokenTooEarly_6 fl_X0_29 (m9 _ hi) rfl rfl ?_
    refine z_icmp_ge (tgt := 60) dX0_brokenTooEarly_9 rfl (fun hc1 => ?_) (fun hc1 => ?_)
    · have h := it_t h hc1
      exact hK _ _ h
    · have h := it_f h hc1
      refine z_iload_n (i := 2) dX0_brokenTooEarly_12 rfl rfl ?_
      refine z_bipush (v := (12 : Int32)) dX0_brokenTooEarly_13 kb_12 ?_
      refine z_icmp_ge (tgt := 60) dX0_brokenTooEarly_15 rfl (fun hc2 => ?_) (fun hc2 => ?_)
      · have h := it_t h hc2
        exact hK _ _ h
      · have h := it_f h hc2
        refine z_aload_n (i := 0) dX0_brokenTooEarly_18 rfl rfl ?_
        refine z_getR (r' := (12, i, 0)) dX0_brokenTooEarly_19 fl_X0_20 (m9 _ hi) rfl rfl ?_
        refine z_iload_n (i := 2) dX0_brokenTooEarly_22 rfl rfl ?_
        obtain ⟨hc3, h⟩ := chk h
        refine z_aald (t := 0) (r' := (13, i, v2.toNatClampNeg)) dX0_brokenTooEarly_23 (m12 _ hi) rfl (Nat.le_of_ble_eq_true rfl) hc3 rfl ?_
        refine z_fVi (sX8_brokenNow M i v2.toNatClampNeg hi (ltN hc3)) dX0_brokenTooEarly_24 ml_X0_101 cd_X8_brokenNow (m13 _ hi _ (ltN hc3)) rfl rfl rfl rfl rfl rfl ?_
        refine z_if_eq (tgt := 54) dX0_brokenTooEarly_27 rfl (fun hc4 => ?_) (fun hc4 => ?_)
        · have h := it_t h hc4
          refine z_iinc (i := 2) (v := (v2 + (1 : Int32))) dX0_brokenTooEarly_54 rfl (iinc_k kc_1) (Nat.le_of_ble_eq_true rfl) rfl ?_
          refine z_goto (tgt := 4) dX0_brokenTooEarly_57 rfl ?_
          exact ih _ _ h hK
        · have h := it_f h hc4
          refine z_aload_n (i := 0) dX0_brokenTooEarly_30 rfl rfl ?_
          refine z_getR (r' := (12, i, 0)) dX0_brokenTooEarly_31 fl_X0_20 (m9 _ hi) rfl rfl ?_
          refine z_iload_n (i := 2) dX0_brokenTooEarly_34 rfl rfl ?_
          obtain ⟨hc5, h⟩ := chk h
          refine z_aald (t := 0) (r' := (13, i, v2.toNatClampNeg)) dX0_brokenTooEarly_35 (m12 _ hi) rfl (Nat.le_of_ble_eq_true rfl) hc5 rfl ?_
          refine z_getI (x := (M.1 (13, i, v2.toNatClampNeg) 4)) dX0_brokenTooEarly_36 fl_X0_105 (m13 _ hi _ (ltN hc5)) rfl rfl ?_
          refine z_aload_n (i := 0) dX0_brokenTooEarly_39 rfl rfl ?_
          refine z_getR (r' := (12, i, 0)) dX0_brokenTooEarly_40 fl_X0_20 (m9 _ hi) rfl rfl ?_
          refine z_iload_n (i := 2) dX0_brokenTooEarly_43 rfl rfl ?_
          obtain ⟨hc6, h⟩ := chk h
          refine z_aald (t := 0) (r' := (13, i, v2.toNatClampNeg)) dX0_brokenTooEarly_44 (m12 _ hi) rfl (Nat.le_of_ble_eq_true rfl) hc6 rfl ?_
          refine z_getI (x := (M.1 (13, i, v2.toNatClampNeg) 3)) dX0_brokenTooEarly_45 fl_X0_157 (m13 _ hi _ (ltN hc6)) rfl rfl ?_
          refine z_icmp_ge (tgt := 54) dX0_brokenTooEarly_48 rfl (fun hc7 => ?_) (fun hc7 => ?_)
          · have h := it_t h hc7
            refine z_iinc (i := 2) (v := (v2 + (1 : Int32))) dX0_brokenTooEarly_54 rfl (iinc_k kc_1) (Nat.le_of_ble_eq_true rfl) rfl ?_
            refine z_goto (tgt := 4) dX0_brokenTooEarly_57 rfl ?_
            exact ih _ _ h hK
          · have h := it_f h hc7
            refine z_iinc (i := 1) (v := (v1 + (1 : Int32))) dX0_brokenTooEarly_51 rfl (iinc_k kc_1) (Nat.le_of_ble_eq_true rfl) rfl ?_
            refine z_iinc (i := 2) (v := (v2 + (1 : Int32))) dX0_brokenTooEarly_54 rfl (iinc_k kc_1) (Nat.le_of_ble_eq_true rfl) rfl ?_
            refine z_goto (tgt := 4) dX0_brokenTooEarly_57 rfl ?_
            exact ih _ _ h hK
set_option maxRecDepth 20000 in
set_option maxHeartbeats 2000000 in
theorem sX0_brokenTooEarly {wv : Wv} (M : Mm) (i : Nat) (hi : i < 12) {res : Int32} (h : fX0_brokenTooEarly M i = some res) : TF wv yX0_brokenTooEarly cX0_brokenTooEarly 3 (some .int) 1 [.inr (9, i, 0)] M (some (.int res)) M := by
  rw [fX0_brokenTooEarly] at h
  refine TF.go (n := 2) (ls := [some (.inr (9, i, 0)), none, none]) rfl rfl rfl rfl rfl ?_
  refine z_iconst (v := (0 : Int32)) dX0_brokenTooEarly_0 kc_0 ?_
  refine z_istore_n (i := 1) dX0_brokenTooEarly_1 rfl (Nat.le_of_ble_eq_true rfl) rfl ?_
  refine z_iconst (v := (0 : Int32)) dX0_brokenTooEarly_2 kc_0 ?_
  refine z_istore_n (i := 2) dX0_brokenTooEarly_3 rfl (Nat.le_of_ble_eq_true rfl) rfl ?_
  refine sX0_brokenTooEarly_L4 M i hi NF _ _ h (fun w8 w9 h => ?_)
  refine z_iload_n (i := 1) dX0_brokenTooEarly_60 rfl rfl ?_
  cases h
  exact z_iret dX0_brokenTooEarly_61 rfl rfl (Nat.le_refl _) (Nat.le_refl _) ⟨rfl, rfl⟩
theorem dX1_put_0 : decode cX1_put 0 = .ok (.aload_n 0, 1) := by decide +kernel
theorem dX1_put_1 : decode cX1_put 1 = .ok (.getfield 21, 3) := by decide +kernel
theorem dX1_put_4 : decode cX1_put 4 = .ok (.ifCond .lt 35, 3) := by decide +kernel
theorem dX1_put_7 : decode cX1_put 7 = .ok (.aload_n 0, 1) := by decide +kernel
theorem dX1_put_8 : decode cX1_put 8 = .ok (.getfield 21, 3) := by decide +kernel
theorem dX1_put_11 : decode cX1_put 11 = .ok (.aload_n 0, 1) := by decide +kernel
theorem dX1_put_12 : decode cX1_put 12 = .ok (.getfield 15, 3) := by decide +kernel
theorem dX1_put_15 : decode cX1_put 15 = .ok (.arraylength, 1) := by decide +kernel
theorem dX1_put_16 : decode cX1_put 16 = .ok (.if_icmp .ge 23, 3) := by decide +kernel
theorem dX1_put_19 : decode cX1_put 19 = .ok (.aload_n 0, 1) := by decide +kernel
theorem dX1_put_20 : decode cX1_put 20 = .ok (.getfield 15, 3) := by decide +kernel
theorem dX1_put_23 : decode cX1_put 23 = .ok (.aload_n 0, 1) := by decide +kernel
theorem dX1_put_24 : decode cX1_put 24 = .ok (.getfield 21, 3) := by decide +kernel
theorem dX1_put_27 : decode cX1_put 27 = .ok (.iload_n 1, 1) := by decide +kernel
theorem dX1_put_28 : decode cX1_put 28 = .ok (.iastore, 1) := by decide +kernel
theorem dX1_put_29 : decode cX1_put 29 = .ok (.aload_n 0, 1) := by decide +kernel
theorem dX1_put_30 : decode cX1_put 30 = .ok (.dup, 1) := by decide +kernel
theorem dX1_put_31 : decode cX1_put 31 = .ok (.getfield 21, 3) := by decide +kernel
theorem dX1_put_34 : decode cX1_put 34 = .ok (.iconst 1, 1) := by decide +kernel
theorem dX1_put_35 : decode cX1_put 35 = .ok (.iadd, 1) := by decide +kernel
theorem dX1_put_36 : decode cX1_put 36 = .ok (.putfield 21, 3) := by decide +kernel
theorem dX1_put_39 : decode cX1_put 39 = .ok (.return_, 1) := by decide +kernel
def fX1_put (M : Mm) (i : Nat) (x1 : Int32) : Option Mm := if (M.1 (1, i, 0) 1) < 0 then some M else if (Int32.ofNat (bl i)) ≤ (M.1 (1, i, 0) 1) then some M else if (M.1 (1, i, 0) 1) < 0 ∨ (bl i) ≤ (M.1 (1, i, 0) 1).toNatClampNeg then none else some (putI (putI M (2, i, 0) (M.1 (1, i, 0) 1).toNatClampNeg x1) (1, i, 0) 1 ((M.1 (1, i, 0) 1) + (1 : Int32)))
set_option maxRecDepth 20000 in
set_option maxHeartbeats 2000000 in
theorem sX1_put {wv : Wv} (M : Mm) (i : Nat) (x1 : Int32) (hi : i < 2) {res : Mm} (h : fX1_put M i x1 = some res) : TF wv yX1_put cX1_put 2 none 0 [.inr (1, i, 0), .inl (.int x1)] M (none) res := by
  rw [fX1_put] at h
  refine TF.go (n := 0) (ls := [some (.inr (1, i, 0)), some (.inl (.int x1))]) rfl rfl rfl rfl rfl ?_
  refine z_aload_n (i := 0) dX1_put_0 rfl rfl ?_
  refine z_getI (x := (M.1 (1, i, 0) 1)) dX1_put_1 fl_X1_21 (m1 _ hi) rfl rfl ?_
  refine z_if_lt (tgt := 39) dX1_put_4 rfl (fun hc1 => ?_) (fun hc1 => ?_)
  · have h := it_t h hc1
    cases h
    exact z_vret dX1_put_39 rfl (Nat.le_refl _) (Nat.le_refl _) ⟨rfl, rfl⟩
  · have h := it_f h hc1
    refine z_aload_n (i := 0) dX1_put_7 rfl rfl ?_
    refine z_getI (x := (M.1 (1, i, 0) 1)) dX1_put_8 fl_X1_21 (m1 _ hi) rfl rfl ?_
    refine z_aload_n (i := 0) dX1_put_11 rfl rfl ?_
    refine z_getR (r' := (2, i, 0)) dX1_put_12 fl_X1_15 (m1 _ hi) rfl rfl ?_
    refine z_alen (v := (Int32.ofNat (bl i))) dX1_put_15 (m2 _ hi) rfl (Nat.le_of_ble_eq_true rfl) rfl ?_
    refine z_icmp_ge (tgt := 39) dX1_put_16 rfl (fun hc2 => ?_) (fun hc2 => ?_)
    · have h := it_t h hc2
      cases h
      exact z_vret dX1_put_39 rfl (Nat.le_refl _) (Nat.le_refl _) ⟨rfl, rfl⟩
    · have h := it_f h hc2
      refine z_aload_n (i := 0) dX1_put_19 rfl rfl ?_
      refine z_getR (r' := (2, i, 0)) dX1_put_20 fl_X1_15 (m1 _ hi) rfl rfl ?_
      refine z_aload_n (i := 0) dX1_put_23 rfl rfl ?_
      refine z_getI (x := (M.1 (1, i, 0) 1)) dX1_put_24 fl_X1_21 (m1 _ hi) rfl rfl ?_
      refine z_iload_n (i := 1) dX1_put_27 rfl rfl ?_
      obtain ⟨hc3, h⟩ := chk h
      refine z_iast (j := (M.1 (1, i, 0) 1).toNatClampNeg) allR_nd dX1_put_28 (m2 _ hi) rfl hc3 rfl ?_
      refine z_aload_n (i := 0) dX1_put_29 rfl rfl ?_
      refine z_dup dX1_put_30 rfl ?_
      refine z_getI (x := (M.1 (1, i, 0) 1)) dX1_put_31 fl_X1_21 (m1 _ hi) rfl rfl ?_
      refine z_iconst (v := (1 : Int32)) dX1_put_34 kc_1 ?_
      refine z_iadd dX1_put_35 ?_
      refine z_putI allR_nd dX1_put_36 fl_X1_21 (m1 _ hi) rfl rfl ?_
      cases h
      exact z_vret dX1_put_39 rfl (Nat.le_refl _) (Nat.le_refl _) ⟨rfl, rfl⟩
theorem dX1_putNumber_0 : decode cX1_putNumber 0 = .ok (.iload_n 1, 1) := by decide +kernel
theorem dX1_putNumber_1 : decode cX1_putNumber 1 = .ok (.ifCond .ge 8, 3) := by decide +kernel
theorem dX1_putNumber_4 : decode cX1_putNumber 4 = .ok (.iload_n 1, 1) := by decide +kernel
theorem dX1_putNumber_5 : decode cX1_putNumber 5 = .ok (.ineg, 1) := by decide +kernel
theorem dX1_putNumber_6 : decode cX1_putNumber 6 = .ok (.goto 4, 3) := by decide +kernel
theorem dX1_putNumber_9 : decode cX1_putNumber 9 = .ok (.iload_n 1, 1) := by decide +kernel
theorem dX1_putNumber_10 : decode cX1_putNumber 10 = .ok (.istore_n 2, 1) := by decide +kernel
theorem dX1_putNumber_11 : decode cX1_putNumber 11 = .ok (.iload_n 1, 1) := by decide +kernel
theorem dX1_putNumber_12 : decode cX1_putNumber 12 = .ok (.ifCond .ge 9, 3) := by decide +kernel
theorem dX1_putNumber_15 : decode cX1_putNumber 15 = .ok (.aload_n 0, 1) := by decide +kernel
theorem dX1_putNumber_16 : decode cX1_putNumber 16 = .ok (.bipush 45, 2) := by decide +kernel
theorem dX1_putNumber_18 : decode cX1_putNumber 18 = .ok (.invokevirtual 25, 3) := by decide +kernel
theorem dX1_putNumber_21 : decode cX1_putNumber 21 = .ok (.iload_n 2, 1) := by decide +kernel
theorem dX1_putNumber_22 : decode cX1_putNumber 22 = .ok (.bipush 10, 2) := by decide +kernel
theorem dX1_putNumber_24 : decode cX1_putNumber 24 = .ok (.if_icmp .lt 14, 3) := by decide +kernel
theorem dX1_putNumber_27 : decode cX1_putNumber 27 = .ok (.aload_n 0, 1) := by decide +kernel
theorem dX1_putNumber_28 : decode cX1_putNumber 28 = .ok (.bipush 48, 2) := by decide +kernel
theorem dX1_putNumber_30 : decode cX1_putNumber 30 = .ok (.iload_n 2, 1) := by decide +kernel
theorem dX1_putNumber_31 : decode cX1_putNumber 31 = .ok (.bipush 10, 2) := by decide +kernel
theorem dX1_putNumber_33 : decode cX1_putNumber 33 = .ok (.idiv, 1) := by decide +kernel
theorem dX1_putNumber_34 : decode cX1_putNumber 34 = .ok (.iadd, 1) := by decide +kernel
theorem dX1_putNumber_35 : decode cX1_putNumber 35 = .ok (.invokevirtual 25, 3) := by decide +kernel
theorem dX1_putNumber_38 : decode cX1_putNumber 38 = .ok (.aload_n 0, 1) := by decide +kernel
theorem dX1_putNumber_39 : decode cX1_putNumber 39 = .ok (.bipush 48, 2) := by decide +kernel
theorem dX1_putNumber_41 : decode cX1_putNumber 41 = .ok (.iload_n 2, 1) := by decide +kernel
theorem dX1_putNumber_42 : decode cX1_putNumber 42 = .ok (.bipush 10, 2) := by decide +kernel
theorem dX1_putNumber_44 : decode cX1_putNumber 44 = .ok (.irem, 1) := by decide +kernel
theorem dX1_putNumber_45 : decode cX1_putNumber 45 = .ok (.iadd, 1) := by decide +kernel
theorem dX1_putNumber_46 : decode cX1_putNumber 46 = .ok (.invokevirtual 25, 3) := by decide +kernel
theorem dX1_putNumber_49 : decode cX1_putNumber 49 = .ok (.return_, 1) := by decide +kernel
def fX1_putNumber (M : Mm) (i : Nat) (x1 : Int32) : Option Mm := if 0 ≤ x1 then (if 0 ≤ x1 then (if x1 < (10 : Int32) then ((fX1_put M i ((48 : Int32) + (x1 - x1 / (10 : Int32) * (10 : Int32)))).bind fun q4 => some q4) else (fX1_put M i ((48 : Int32) + (x1 / (10 : Int32)))).bind fun q6 => (fX1_put q6 i ((48 : Int32) + (x1 - x1 / (10 : Int32) * (10 : Int32)))).bind fun q8 => some q8) else (fX1_put M i (45 : Int32)).bind fun q10 => if x1 < (10 : Int32) then ((fX1_put q10 i ((48 : Int32) + (x1 - x1 / (10 : Int32) * (10 : Int32)))).bind fun q13 => some q13) else (fX1_put q10 i ((48 : Int32) + (x1 / (10 : Int32)))).bind fun q15 => (fX1_put q15 i ((48 : Int32) + (x1 - x1 / (10 : Int32) * (10 : Int32)))).bind fun q17 => some q17) else if 0 ≤ x1 then (if (-x1) < (10 : Int32) then ((fX1_put M i ((48 : Int32) + ((-x1) - (-x1) / (10 : Int32) * (10 : Int32)))).bind fun q21 => some q21) else (fX1_put M i ((48 : Int32) + ((-x1) / (10 : Int32)))).bind fun q23 => (fX1_put q23 i ((48 : Int32) + ((-x1) - (-x1) / (10 : Int32) * (10 : Int32)))).bind fun q25 => some q25) else (fX1_put M i (45 : Int32)).bind fun q27 => if (-x1) < (10 : Int32) then ((fX1_put q27 i ((48 : Int32) + ((-x1) - (-x1) / (10 : Int32) * (10 : Int32)))).bind fun q30 => some q30) else (fX1_put q27 i ((48 : Int32) + ((-x1) / (10 : Int32)))).bind fun q32 => (fX1_put q32 i ((48 : Int32) + ((-x1) - (-x1) / (10 : Int32) * (10 : Int32)))).bind fun q34 => some q34
set_option maxRecDepth 20000 in
set_option maxHeartbeats 2000000 in
theorem sX1_putNumber {wv : Wv} (M : Mm) (i : Nat) (x1 : Int32) (hi : i < 2) {res : Mm} (h : fX1_putNumber M i x1 = some res) : TF wv yX1_putNumber cX1_putNumber 3 none 1 [.inr (1, i, 0), .inl (.int x1)] M (none) res := by
  rw [fX1_putNumber] at h
  refine TF.go (n := 1) (ls := [some (.inr (1, i, 0)), some (.inl (.int x1)), none]) rfl rfl rfl rfl rfl ?_
  refine z_iload_n (i := 1) dX1_putNumber_0 rfl rfl ?_
  refine z_if_ge (tgt := 9) dX1_putNumber_1 rfl (fun hc1 => ?_) (fun hc1 => ?_)
  · have h := it_t h hc1
    refine z_iload_n (i := 1) dX1_putNumber_9 rfl rfl ?_
    refine z_istore_n (i := 2) dX1_putNumber_10 rfl (Nat.le_of_ble_eq_true rfl) rfl ?_
    refine z_iload_n (i := 1) dX1_putNumber_11 rfl rfl ?_
    refine z_if_ge (tgt := 21) dX1_putNumber_12 rfl (fun hc2 => ?_) (fun hc2 => ?_)
    · have h := it_t h hc2
      refine z_iload_n (i := 2) dX1_putNumber_21 rfl rfl ?_
      refine z_bipush (v := (10 : Int32)) dX1_putNumber_22 kb_10 ?_
      refine z_icmp_lt (tgt := 38) dX1_putNumber_24 rfl (fun hc3 => ?_) (fun hc3 => ?_)
      · have h := it_t h hc3
        refine z_aload_n (i := 0) dX1_putNumber_38 rfl rfl ?_
        refine z_bipush (v := (48 : Int32)) dX1_putNumber_39 kb_48 ?_
        refine z_iload_n (i := 2) dX1_putNumber_41 rfl rfl ?_
        refine z_bipush (v := (10 : Int32)) dX1_putNumber_42 kb_10 ?_
        refine z_irem dX1_putNumber_44 (by decide) ?_
        refine z_iadd dX1_putNumber_45 ?_
        obtain ⟨q4, hq5, h⟩ := bnd h
        refine z_fVv (sX1_put M i ((48 : Int32) + (x1 - x1 / (10 : Int32) * (10 : Int32))) hi hq5) dX1_putNumber_46 ml_X1_25 cd_X1_put (m1 _ hi) rfl rfl rfl rfl rfl rfl ?_
        cases h
        exact z_vret dX1_putNumber_49 rfl (Nat.le_refl _) (Nat.le_refl _) ⟨rfl, rfl⟩
      · have h := it_f h hc3
        refine z_aload_n (i := 0) dX1_putNumber_27 rfl rfl ?_
        refine z_bipush (v := (48 : Int32)) dX1_putNumber_28 kb_48 ?_
        refine z_iload_n (i := 2) dX1_putNumber_30 rfl rfl ?_
        refine z_bipush (v := (10 : Int32)) dX1_putNumber_31 kb_10 ?_
        refine z_idiv dX1_putNumber_33 (by decide) ?_
        refine z_iadd dX1_putNumber_34 ?_
        obtain ⟨q6, hq7, h⟩ := bnd h
        refine z_fVv (sX1_put M i ((48 : Int32) + (x1 / (10 : Int32))) hi hq7) dX1_putNumber_35 ml_X1_25 cd_X1_put (m1 _ hi) rfl rfl rfl rfl rfl rfl ?_
        refine z_aload_n (i := 0) dX1_putNumber_38 rfl rfl ?_
        refine z_bipush (v := (48 : Int32)) dX1_putNumber_39 kb_48 ?_
        refine z_iload_n (i := 2) dX1_putNumber_41 rfl rfl ?_
        refine z_bipush (v := (10 : Int32)) dX1_putNumber_42 kb_10 ?_
        refine z_irem dX1_putNumber_44 (by decide) ?_
        refine z_iadd dX1_putNumber_45 ?_
        obtain ⟨q8, hq9, h⟩ := bnd h
        refine z_fVv (sX1_put q6 i ((48 : Int32) + (x1 - x1 / (10 : Int32) * (10 : Int32))) hi hq9) dX1_putNumber_46 ml_X1_25 cd_X1_put (m1 _ hi) rfl rfl rfl rfl rfl rfl ?_
        cases h
        exact z_vret dX1_putNumber_49 rfl (Nat.le_refl _) (Nat.le_refl _) ⟨rfl, rfl⟩
    · have h := it_f h hc2
      refine z_aload_n (i := 0) dX1_putNumber_15 rfl rfl ?_
      refine z_bipush (v := (45 : Int32)) dX1_putNumber_16 kb_45 ?_
      obtain ⟨q10, hq11, h⟩ := bnd h
      refine z_fVv (sX1_put M i (45 : Int32) hi hq11) dX1_putNumber_18 ml_X1_25 cd_X1_put (m1 _ hi) rfl rfl rfl rfl rfl rfl ?_
      refine z_iload_n (i := 2) dX1_putNumber_21 rfl rfl ?_
      refine z_bipush (v := (10 : Int32)) dX1_putNumber_22 kb_10 ?_
      refine z_icmp_lt (tgt := 38) dX1_putNumber_24 rfl (fun hc12 => ?_) (fun hc12 => ?_)
      · have h := it_t h hc12
        refine z_aload_n (i := 0) dX1_putNumber_38 rfl rfl ?_
        refine z_bipush (v := (48 : Int32)) dX1_putNumber_39 kb_48 ?_
        refine z_iload_n (i := 2) dX1_putNumber_41 rfl rfl ?_
        refine z_bipush (v := (10 : Int32)) dX1_putNumber_42 kb_10 ?_
        refine z_irem dX1_putNumber_44 (by decide) ?_
        refine z_iadd dX1_putNumber_45 ?_
        obtain ⟨q13, hq14, h⟩ := bnd h
        refine z_fVv (sX1_put q10 i ((48 : Int32) + (x1 - x1 / (10 : Int32) * (10 : Int32))) hi hq14) dX1_putNumber_46 ml_X1_25 cd_X1_put (m1 _ hi) rfl rfl rfl rfl rfl rfl ?_
        cases h
        exact z_vret dX1_putNumber_49 rfl (Nat.le_refl _) (Nat.le_refl _) ⟨rfl, rfl⟩
      · have h := it_f h hc12
        refine z_aload_n (i := 0) dX1_putNumber_27 rfl rfl ?_
        refine z_bipush (v := (48 : Int32)) dX1_putNumber_28 kb_48 ?_
        refine z_iload_n (i := 2) dX1_putNumber_30 rfl rfl ?_
        refine z_bipush (v := (10 : Int32)) dX1_putNumber_31 kb_10 ?_
        refine z_idiv dX1_putNumber_33 (by decide) ?_
        refine z_iadd dX1_putNumber_34 ?_
        obtain ⟨q15, hq16, h⟩ := bnd h
        refine z_fVv (sX1_put q10 i ((48 : Int32) + (x1 / (10 : Int32))) hi hq16) dX1_putNumber_35 ml_X1_25 cd_X1_put (m1 _ hi) rfl rfl rfl rfl rfl rfl ?_
        refine z_aload_n (i := 0) dX1_putNumber_38 rfl rfl ?_
        refine z_bipush (v := (48 : Int32)) dX1_putNumber_39 kb_48 ?_
        refine z_iload_n (i := 2) dX1_putNumber_41 rfl rfl ?_
        refine z_bipush (v := (10 : Int32)) dX1_putNumber_42 kb_10 ?_
        refine z_irem dX1_putNumber_44 (by decide) ?_
        refine z_iadd dX1_putNumber_45 ?_
        obtain ⟨q17, hq18, h⟩ := bnd h
        refine z_fVv (sX1_put q15 i ((48 : Int32) + (x1 - x1 / (10 : Int32) * (10 : Int32))) hi hq18) dX1_putNumber_46 ml_X1_25 cd_X1_put (m1 _ hi) rfl rfl rfl rfl rfl rfl ?_
        cases h
        exact z_vret dX1_putNumber_49 rfl (Nat.le_refl _) (Nat.le_refl _) ⟨rfl, rfl⟩
  · have h := it_f h hc1
    refine z_iload_n (i := 1) dX1_putNumber_4 rfl rfl ?_
    refine z_ineg dX1_putNumber_5 ?_
    refine z_goto (tgt := 10) dX1_putNumber_6 rfl ?_
    refine z_istore_n (i := 2) dX1_putNumber_10 rfl (Nat.le_of_ble_eq_true rfl) rfl ?_
    refine z_iload_n (i := 1) dX1_putNumber_11 rfl rfl ?_
    refine z_if_ge (tgt := 21) dX1_putNumber_12 rfl (fun hc19 => ?_) (fun hc19 => ?_)
    · have h := it_t h hc19
      refine z_iload_n (i := 2) dX1_putNumber_21 rfl rfl ?_
      refine z_bipush (v := (10 : Int32)) dX1_putNumber_22 kb_10 ?_
      refine z_icmp_lt (tgt := 38) dX1_putNumber_24 rfl (fun hc20 => ?_) (fun hc20 => ?_)
      · have h := it_t h hc20
        refine z_aload_n (i := 0) dX1_putNumber_38 rfl rfl ?_
        refine z_bipush (v := (48 : Int32)) dX1_putNumber_39 kb_48 ?_
        refine z_iload_n (i := 2) dX1_putNumber_41 rfl rfl ?_
        refine z_bipush (v := (10 : Int32)) dX1_putNumber_42 kb_10 ?_
        refine z_irem dX1_putNumber_44 (by decide) ?_
        refine z_iadd dX1_putNumber_45 ?_
        obtain ⟨q21, hq22, h⟩ := bnd h
        refine z_fVv (sX1_put M i ((48 : Int32) + ((-x1) - (-x1) / (10 : Int32) * (10 : Int32))) hi hq22) dX1_putNumber_46 ml_X1_25 cd_X1_put (m1 _ hi) rfl rfl rfl rfl rfl rfl ?_
        cases h
        exact z_vret dX1_putNumber_49 rfl (Nat.le_refl _) (Nat.le_refl _) ⟨rfl, rfl⟩
      · have h := it_f h hc20
        refine z_aload_n (i := 0) dX1_putNumber_27 rfl rfl ?_
        refine z_bipush (v := (48 : Int32)) dX1_putNumber_28 kb_48 ?_
        refine z_iload_n (i := 2) dX1_putNumber_30 rfl rfl ?_
        refine z_bipush (v := (10 : Int32)) dX1_putNumber_31 kb_10 ?_
        refine z_idiv dX1_putNumber_33 (by decide) ?_
        refine z_iadd dX1_putNumber_34 ?_
        obtain ⟨q23, hq24, h⟩ := bnd h
        refine z_fVv (sX1_put M i ((48 : Int32) + ((-x1) / (10 : Int32))) hi hq24) dX1_putNumber_35 ml_X1_25 cd_X1_put (m1 _ hi) rfl rfl rfl rfl rfl rfl ?_
        refine z_aload_n (i := 0) dX1_putNumber_38 rfl rfl ?_
        refine z_bipush (v := (48 : Int32)) dX1_putNumber_39 kb_48 ?_
        refine z_iload_n (i := 2) dX1_putNumber_41 rfl rfl ?_
        refine z_bipush (v := (10 : Int32)) dX1_putNumber_42 kb_10 ?_
        refine z_irem dX1_putNumber_44 (by decide) ?_
        refine z_iadd dX1_putNumber_45 ?_
        obtain ⟨q25, hq26, h⟩ := bnd h
        refine z_fVv (sX1_put q23 i ((48 : Int32) + ((-x1) - (-x1) / (10 : Int32) * (10 : Int32))) hi hq26) dX1_putNumber_46 ml_X1_25 cd_X1_put (m1 _ hi) rfl rfl rfl rfl rfl rfl ?_
        cases h
        exact z_vret dX1_putNumber_49 rfl (Nat.le_refl _) (Nat.le_refl _) ⟨rfl, rfl⟩
    · have h := it_f h hc19
      refine z_aload_n (i := 0) dX1_putNumber_15 rfl rfl ?_
      refine z_bipush (v := (45 : Int32)) dX1_putNumber_16 kb_45 ?_
      obtain ⟨q27, hq28, h⟩ := bnd h
      refine z_fVv (sX1_put M i (45 : Int32) hi hq28) dX1_putNumber_18 ml_X1_25 cd_X1_put (m1 _ hi) rfl rfl rfl rfl rfl rfl ?_
      refine z_iload_n (i := 2) dX1_putNumber_21 rfl rfl ?_
      refine z_bipush (v := (10 : Int32)) dX1_putNumber_22 kb_10 ?_
      refine z_icmp_lt (tgt := 38) dX1_putNumber_24 rfl (fun hc29 => ?_) (fun hc29 => ?_)
      · have h := it_t h hc29
        refine z_aload_n (i := 0) dX1_putNumber_38 rfl rfl ?_
        refine z_bipush (v := (48 : Int32)) dX1_putNumber_39 kb_48 ?_
        refine z_iload_n (i := 2) dX1_putNumber_41 rfl rfl ?_
        refine z_bipush (v := (10 : Int32)) dX1_putNumber_42 kb_10 ?_
        refine z_irem dX1_putNumber_44 (by decide) ?_
        refine z_iadd dX1_putNumber_45 ?_
        obtain ⟨q30, hq31, h⟩ := bnd h
        refine z_fVv (sX1_put q27 i ((48 : Int32) + ((-x1) - (-x1) / (10 : Int32) * (10 : Int32))) hi hq31) dX1_putNumber_46 ml_X1_25 cd_X1_put (m1 _ hi) rfl rfl rfl rfl rfl rfl ?_
        cases h
        exact z_vret dX1_putNumber_49 rfl (Nat.le_refl _) (Nat.le_refl _) ⟨rfl, rfl⟩
      · have h := it_f h hc29
        refine z_aload_n (i := 0) dX1_putNumber_27 rfl rfl ?_
        refine z_bipush (v := (48 : Int32)) dX1_putNumber_28 kb_48 ?_
        refine z_iload_n (i := 2) dX1_putNumber_30 rfl rfl ?_
        refine z_bipush (v := (10 : Int32)) dX1_putNumber_31 kb_10 ?_
        refine z_idiv dX1_putNumber_33 (by decide) ?_
        refine z_iadd dX1_putNumber_34 ?_
        obtain ⟨q32, hq33, h⟩ := bnd h
        refine z_fVv (sX1_put q27 i ((48 : Int32) + ((-x1) / (10 : Int32))) hi hq33) dX1_putNumber_35 ml_X1_25 cd_X1_put (m1 _ hi) rfl rfl rfl rfl rfl rfl ?_
        refine z_aload_n (i := 0) dX1_putNumber_38 rfl rfl ?_
        refine z_bipush (v := (48 : Int32)) dX1_putNumber_39 kb_48 ?_
        refine z_iload_n (i := 2) dX1_putNumber_41 rfl rfl ?_
        refine z_bipush (v := (10 : Int32)) dX1_putNumber_42 kb_10 ?_
        refine z_irem dX1_putNumber_44 (by decide) ?_
        refine z_iadd dX1_putNumber_45 ?_
        obtain ⟨q34, hq35, h⟩ := bnd h
        refine z_fVv (sX1_put q32 i ((48 : Int32) + ((-x1) - (-x1) / (10 : Int32) * (10 : Int32))) hi hq35) dX1_putNumber_46 ml_X1_25 cd_X1_put (m1 _ hi) rfl rfl rfl rfl rfl rfl ?_
        cases h
        exact z_vret dX1_putNumber_49 rfl (Nat.le_refl _) (Nat.le_refl _) ⟨rfl, rfl⟩
