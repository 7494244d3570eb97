theorem dX10_soundingPitch_0 : decode cX10_soundingPitch 0 = .ok (.aload_n 0, 1) := by decide +kernel
theorem dX10_soundingPitch_1 : decode cX10_soundingPitch 1 = .ok (.iload_n 1, 1) := by decide +kernel
theorem dX10_soundingPitch_2 : decode cX10_soundingPitch 2 = .ok (.invokevirtual 315, 3) := by decide +kernel
theorem dX10_soundingPitch_5 : decode cX10_soundingPitch 5 = .ok (.ifCond .eq 19, 3) := by decide +kernel
theorem dX10_soundingPitch_8 : decode cX10_soundingPitch 8 = .ok (.aload_n 0, 1) := by decide +kernel
theorem dX10_soundingPitch_9 : decode cX10_soundingPitch 9 = .ok (.iload_n 1, 1) := by decide +kernel
theorem dX10_soundingPitch_10 : decode cX10_soundingPitch 10 = .ok (.iconst 0, 1) := by decide +kernel
theorem dX10_soundingPitch_11 : decode cX10_soundingPitch 11 = .ok (.invokevirtual 90, 3) := by decide +kernel
theorem dX10_soundingPitch_14 : decode cX10_soundingPitch 14 = .ok (.aload_n 0, 1) := by decide +kernel
theorem dX10_soundingPitch_15 : decode cX10_soundingPitch 15 = .ok (.iload_n 1, 1) := by decide +kernel
theorem dX10_soundingPitch_16 : decode cX10_soundingPitch 16 = .ok (.iconst 1, 1) := by decide +kernel
theorem dX10_soundingPitch_17 : decode cX10_soundingPitch 17 = .ok (.invokevirtual 90, 3) := by decide +kernel
theorem dX10_soundingPitch_20 : decode cX10_soundingPitch 20 = .ok (.iadd, 1) := by decide +kernel
theorem dX10_soundingPitch_21 : decode cX10_soundingPitch 21 = .ok (.goto 4, 3) := by decide +kernel
theorem dX10_soundingPitch_24 : decode cX10_soundingPitch 24 = .ok (.iconst 0, 1) := by decide +kernel
theorem dX10_soundingPitch_25 : decode cX10_soundingPitch 25 = .ok (.ireturn, 1) := by decide +kernel
def fX10_soundingPitch (M : Mm) (x1 : Int32) : Option (Int32 × Mm) := (fX10_findsTooth M x1).bind fun q1 => if q1.1 = 0 then some ((0 : Int32), q1.2) else (fX10_of q1.2 x1 (0 : Int32)).bind fun q4 => (fX10_of q1.2 x1 (1 : Int32)).bind fun q6 => some ((q4 + q6), q1.2)
set_option maxRecDepth 20000 in
set_option maxHeartbeats 2000000 in
theorem sX10_soundingPitch {wv : Nat} (M : Mm) (x1 : Int32) {res : (Int32 × Mm)} (h : fX10_soundingPitch M x1 = some res) : TF (wv + 1) yX10_soundingPitch cX10_soundingPitch 2 (some .int) 3 [.inr (18, 0, 0), .inl (.int x1)] M (some (.int res.1)) res.2 := by
  rw [fX10_soundingPitch] at h
  refine TF.go (n := 0) (ls := [some (.inr (18, 0, 0)), some (.inl (.int x1))]) rfl rfl rfl rfl rfl ?_
  refine z_aload_n (i := 0) dX10_soundingPitch_0 rfl rfl ?_
  refine z_iload_n (i := 1) dX10_soundingPitch_1 rfl rfl ?_
  obtain ⟨q1, hq2, h⟩ := bnd h
  refine z_fVi (sX10_findsTooth M x1 hq2) dX10_soundingPitch_2 ml_X10_315 cd_X10_findsTooth mk18 rfl rfl rfl rfl rfl rfl ?_
  refine z_if_eq (tgt := 24) dX10_soundingPitch_5 rfl (fun hc3 => ?_) (fun hc3 => ?_)
  · have h := it_t h hc3
    refine z_iconst (v := (0 : Int32)) dX10_soundingPitch_24 kc_0 ?_
    cases h
    exact z_iret dX10_soundingPitch_25 rfl rfl (Nat.le_refl _) (Nat.le_refl _) ⟨rfl, rfl⟩
  · have h := it_f h hc3
    refine z_aload_n (i := 0) dX10_soundingPitch_8 rfl rfl ?_
    refine z_iload_n (i := 1) dX10_soundingPitch_9 rfl rfl ?_
    refine z_iconst (v := (0 : Int32)) dX10_soundingPitch_10 kc_0 ?_
    obtain ⟨q4, hq5, h⟩ := bnd h
    refine z_fVi (sX10_of q1.2 x1 (0 : Int32) hq5) dX10_soundingPitch_11 ml_X10_90 cd_X10_of mk18 rfl rfl rfl rfl rfl rfl ?_
    refine z_aload_n (i := 0) dX10_soundingPitch_14 rfl rfl ?_
    refine z_iload_n (i := 1) dX10_soundingPitch_15 rfl rfl ?_
    refine z_iconst (v := (1 : Int32)) dX10_soundingPitch_16 kc_1 ?_
    obtain ⟨q6, hq7, h⟩ := bnd h
    refine z_fVi (sX10_of q1.2 x1 (1 : Int32) hq7) dX10_soundingPitch_17 ml_X10_90 cd_X10_of mk18 rfl rfl rfl rfl rfl rfl ?_
    refine z_iadd dX10_soundingPitch_20 ?_
    refine z_goto (tgt := 25) dX10_soundingPitch_21 rfl ?_
    cases h
    exact z_iret dX10_soundingPitch_25 rfl rfl (Nat.le_refl _) (Nat.le_refl _) ⟨rfl, rfl⟩
theorem dX10_bendOf_0 : decode cX10_bendOf 0 = .ok (.aload_n 0, 1) := by decide +kernel
theorem dX10_bendOf_1 : decode cX10_bendOf 1 = .ok (.iload_n 1, 1) := by decide +kernel
theorem dX10_bendOf_2 : decode cX10_bendOf 2 = .ok (.invokevirtual 315, 3) := by decide +kernel
theorem dX10_bendOf_5 : decode cX10_bendOf 5 = .ok (.ifCond .eq 12, 3) := by decide +kernel
theorem dX10_bendOf_8 : decode cX10_bendOf 8 = .ok (.aload_n 0, 1) := by decide +kernel
theorem dX10_bendOf_9 : decode cX10_bendOf 9 = .ok (.iload_n 1, 1) := by decide +kernel
theorem dX10_bendOf_10 : decode cX10_bendOf 10 = .ok (.iconst 1, 1) := by decide +kernel
theorem dX10_bendOf_11 : decode cX10_bendOf 11 = .ok (.invokevirtual 90, 3) := by decide +kernel
theorem dX10_bendOf_14 : decode cX10_bendOf 14 = .ok (.goto 4, 3) := by decide +kernel
theorem dX10_bendOf_17 : decode cX10_bendOf 17 = .ok (.iconst 0, 1) := by decide +kernel
theorem dX10_bendOf_18 : decode cX10_bendOf 18 = .ok (.ireturn, 1) := by decide +kernel
def fX10_bendOf (M : Mm) (x1 : Int32) : Option (Int32 × Mm) := (fX10_findsTooth M x1).bind fun q1 => if q1.1 = 0 then some ((0 : Int32), q1.2) else (fX10_of q1.2 x1 (1 : Int32)).bind fun q4 => some (q4, q1.2)
set_option maxRecDepth 20000 in
set_option maxHeartbeats 2000000 in
theorem sX10_bendOf {wv : Nat} (M : Mm) (x1 : Int32) {res : (Int32 × Mm)} (h : fX10_bendOf M x1 = some res) : TF (wv + 1) yX10_bendOf cX10_bendOf 2 (some .int) 3 [.inr (18, 0, 0), .inl (.int x1)] M (some (.int res.1)) res.2 := by
  rw [fX10_bendOf] at h
  refine TF.go (n := 0) (ls := [some (.inr (18, 0, 0)), some (.inl (.int x1))]) rfl rfl rfl rfl rfl ?_
  refine z_aload_n (i := 0) dX10_bendOf_0 rfl rfl ?_
  refine z_iload_n (i := 1) dX10_bendOf_1 rfl rfl ?_
  obtain ⟨q1, hq2, h⟩ := bnd h
  refine z_fVi (sX10_findsTooth M x1 hq2) dX10_bendOf_2 ml_X10_315 cd_X10_findsTooth mk18 rfl rfl rfl rfl rfl rfl ?_
  refine z_if_eq (tgt := 17) dX10_bendOf_5 rfl (fun hc3 => ?_) (fun hc3 => ?_)
  · have h := it_t h hc3
    refine z_iconst (v := (0 : Int32)) dX10_bendOf_17 kc_0 ?_
    cases h
    exact z_iret dX10_bendOf_18 rfl rfl (Nat.le_refl _) (Nat.le_refl _) ⟨rfl, rfl⟩
  · have h := it_f h hc3
    refine z_aload_n (i := 0) dX10_bendOf_8 rfl rfl ?_
    refine z_iload_n (i := 1) dX10_bendOf_9 rfl rfl ?_
    refine z_iconst (v := (1 : Int32)) dX10_bendOf_10 kc_1 ?_
    obtain ⟨q4, hq5, h⟩ := bnd h
    refine z_fVi (sX10_of q1.2 x1 (1 : Int32) hq5) dX10_bendOf_11 ml_X10_90 cd_X10_of mk18 rfl rfl rfl rfl rfl rfl ?_
    refine z_goto (tgt := 18) dX10_bendOf_14 rfl ?_
    cases h
    exact z_iret dX10_bendOf_18 rfl rfl (Nat.le_refl _) (Nat.le_refl _) ⟨rfl, rfl⟩
theorem dX10_gap_0 : decode cX10_gap 0 = .ok (.aload_n 0, 1) := by decide +kernel
theorem dX10_gap_1 : decode cX10_gap 1 = .ok (.iload_n 1, 1) := by decide +kernel
theorem dX10_gap_2 : decode cX10_gap 2 = .ok (.invokevirtual 315, 3) := by decide +kernel
theorem dX10_gap_5 : decode cX10_gap 5 = .ok (.ifCond .eq 12, 3) := by decide +kernel
theorem dX10_gap_8 : decode cX10_gap 8 = .ok (.aload_n 0, 1) := by decide +kernel
theorem dX10_gap_9 : decode cX10_gap 9 = .ok (.iload_n 1, 1) := by decide +kernel
theorem dX10_gap_10 : decode cX10_gap 10 = .ok (.iconst 2, 1) := by decide +kernel
theorem dX10_gap_11 : decode cX10_gap 11 = .ok (.invokevirtual 90, 3) := by decide +kernel
theorem dX10_gap_14 : decode cX10_gap 14 = .ok (.goto 4, 3) := by decide +kernel
theorem dX10_gap_17 : decode cX10_gap 17 = .ok (.iconst 0, 1) := by decide +kernel
theorem dX10_gap_18 : decode cX10_gap 18 = .ok (.ireturn, 1) := by decide +kernel
def fX10_gap (M : Mm) (x1 : Int32) : Option (Int32 × Mm) := (fX10_findsTooth M x1).bind fun q1 => if q1.1 = 0 then some ((0 : Int32), q1.2) else (fX10_of q1.2 x1 (2 : Int32)).bind fun q4 => some (q4, q1.2)
set_option maxRecDepth 20000 in
set_option maxHeartbeats 2000000 in
theorem sX10_gap {wv : Nat} (M : Mm) (x1 : Int32) {res : (Int32 × Mm)} (h : fX10_gap M x1 = some res) : TF (wv + 1) yX10_gap cX10_gap 2 (some .int) 3 [.inr (18, 0, 0), .inl (.int x1)] M (some (.int res.1)) res.2 := by
  rw [fX10_gap] at h
  refine TF.go (n := 0) (ls := [some (.inr (18, 0, 0)), some (.inl (.int x1))]) rfl rfl rfl rfl rfl ?_
  refine z_aload_n (i := 0) dX10_gap_0 rfl rfl ?_
  refine z_iload_n (i := 1) dX10_gap_1 rfl rfl ?_
  obtain ⟨q1, hq2, h⟩ := bnd h
  refine z_fVi (sX10_findsTooth M x1 hq2) dX10_gap_2 ml_X10_315 cd_X10_findsTooth mk18 rfl rfl rfl rfl rfl rfl ?_
  refine z_if_eq (tgt := 17) dX10_gap_5 rfl (fun hc3 => ?_) (fun hc3 => ?_)
  · have h := it_t h hc3
    refine z_iconst (v := (0 : Int32)) dX10_gap_17 kc_0 ?_
    cases h
    exact z_iret dX10_gap_18 rfl rfl (Nat.le_refl _) (Nat.le_refl _) ⟨rfl, rfl⟩
  · have h := it_f h hc3
    refine z_aload_n (i := 0) dX10_gap_8 rfl rfl ?_
    refine z_iload_n (i := 1) dX10_gap_9 rfl rfl ?_
    refine z_iconst (v := (2 : Int32)) dX10_gap_10 kc_2 ?_
    obtain ⟨q4, hq5, h⟩ := bnd h
    refine z_fVi (sX10_of q1.2 x1 (2 : Int32) hq5) dX10_gap_11 ml_X10_90 cd_X10_of mk18 rfl rfl rfl rfl rfl rfl ?_
    refine z_goto (tgt := 18) dX10_gap_14 rfl ?_
    cases h
    exact z_iret dX10_gap_18 rfl rfl (Nat.le_refl _) (Nat.le_refl _) ⟨rfl, rfl⟩
theorem dX10_wear_0 : decode cX10_wear 0 = .ok (.aload_n 0, 1) := by decide +kernel
theorem dX10_wear_1 : decode cX10_wear 1 = .ok (.iload_n 1, 1) := by decide +kernel
theorem dX10_wear_2 : decode cX10_wear 2 = .ok (.invokevirtual 315, 3) := by decide +kernel
theorem dX10_wear_5 : decode cX10_wear 5 = .ok (.ifCond .eq 12, 3) := by decide +kernel
theorem dX10_wear_8 : decode cX10_wear 8 = .ok (.aload_n 0, 1) := by decide +kernel
theorem dX10_wear_9 : decode cX10_wear 9 = .ok (.iload_n 1, 1) := by decide +kernel
theorem dX10_wear_10 : decode cX10_wear 10 = .ok (.iconst 4, 1) := by decide +kernel
theorem dX10_wear_11 : decode cX10_wear 11 = .ok (.invokevirtual 90, 3) := by decide +kernel
theorem dX10_wear_14 : decode cX10_wear 14 = .ok (.goto 4, 3) := by decide +kernel
theorem dX10_wear_17 : decode cX10_wear 17 = .ok (.iconst 0, 1) := by decide +kernel
theorem dX10_wear_18 : decode cX10_wear 18 = .ok (.ireturn, 1) := by decide +kernel
def fX10_wear (M : Mm) (x1 : Int32) : Option (Int32 × Mm) := (fX10_findsTooth M x1).bind fun q1 => if q1.1 = 0 then some ((0 : Int32), q1.2) else (fX10_of q1.2 x1 (4 : Int32)).bind fun q4 => some (q4, q1.2)
set_option maxRecDepth 20000 in
set_option maxHeartbeats 2000000 in
theorem sX10_wear {wv : Nat} (M : Mm) (x1 : Int32) {res : (Int32 × Mm)} (h : fX10_wear M x1 = some res) : TF (wv + 1) yX10_wear cX10_wear 2 (some .int) 3 [.inr (18, 0, 0), .inl (.int x1)] M (some (.int res.1)) res.2 := by
  rw [fX10_wear] at h
  refine TF.go (n := 0) (ls := [some (.inr (18, 0, 0)), some (.inl (.int x1))]) rfl rfl rfl rfl rfl ?_
  refine z_aload_n (i := 0) dX10_wear_0 rfl rfl ?_
  refine z_iload_n (i := 1) dX10_wear_1 rfl rfl ?_
  obtain ⟨q1, hq2, h⟩ := bnd h
  refine z_fVi (sX10_findsTooth M x1 hq2) dX10_wear_2 ml_X10_315 cd_X10_findsTooth mk18 rfl rfl rfl rfl rfl rfl ?_
  refine z_if_eq (tgt := 17) dX10_wear_5 rfl (fun hc3 => ?_) (fun hc3 => ?_)
  · have h := it_t h hc3
    refine z_iconst (v := (0 : Int32)) dX10_wear_17 kc_0 ?_
    cases h
    exact z_iret dX10_wear_18 rfl rfl (Nat.le_refl _) (Nat.le_refl _) ⟨rfl, rfl⟩
  · have h := it_f h hc3
    refine z_aload_n (i := 0) dX10_wear_8 rfl rfl ?_
    refine z_iload_n (i := 1) dX10_wear_9 rfl rfl ?_
    refine z_iconst (v := (4 : Int32)) dX10_wear_10 kc_4 ?_
    obtain ⟨q4, hq5, h⟩ := bnd h
    refine z_fVi (sX10_of q1.2 x1 (4 : Int32) hq5) dX10_wear_11 ml_X10_90 cd_X10_of mk18 rfl rfl rfl rfl rfl rfl ?_
    refine z_goto (tgt := 18) dX10_wear_14 rfl ?_
    cases h
    exact z_iret dX10_wear_18 rfl rfl (Nat.le_refl _) (Nat.le_refl _) ⟨rfl, rfl⟩
theorem dX10_silence_0 : decode cX10_silence 0 = .ok (.aload_n 0, 1) := by decide +kernel
theorem dX10_silence_1 : decode cX10_silence 1 = .ok (.iload_n 1, 1) := by decide +kernel
theorem dX10_silence_2 : decode cX10_silence 2 = .ok (.invokevirtual 315, 3) := by decide +kernel
theorem dX10_silence_5 : decode cX10_silence 5 = .ok (.ifCond .eq 12, 3) := by decide +kernel
theorem dX10_silence_8 : decode cX10_silence 8 = .ok (.aload_n 0, 1) := by decide +kernel
theorem dX10_silence_9 : decode cX10_silence 9 = .ok (.iload_n 1, 1) := by decide +kernel
theorem dX10_silence_10 : decode cX10_silence 10 = .ok (.iconst 5, 1) := by decide +kernel
theorem dX10_silence_11 : decode cX10_silence 11 = .ok (.invokevirtual 90, 3) := by decide +kernel
theorem dX10_silence_14 : decode cX10_silence 14 = .ok (.goto 4, 3) := by decide +kernel
theorem dX10_silence_17 : decode cX10_silence 17 = .ok (.iconst 0, 1) := by decide +kernel
theorem dX10_silence_18 : decode cX10_silence 18 = .ok (.ireturn, 1) := by decide +kernel
def fX10_silence (M : Mm) (x1 : Int32) : Option (Int32 × Mm) := (fX10_findsTooth M x1).bind fun q1 => if q1.1 = 0 then some ((0 : Int32), q1.2) else (fX10_of q1.2 x1 (5 : Int32)).bind fun q4 => some (q4, q1.2)
set_option maxRecDepth 20000 in
set_option maxHeartbeats 2000000 in
theorem sX10_silence {wv : Nat} (M : Mm) (x1 : Int32) {res : (Int32 × Mm)} (h : fX10_silence M x1 = some res) : TF (wv + 1) yX10_silence cX10_silence 2 (some .int) 3 [.inr (18, 0, 0), .inl (.int x1)] M (some (.int res.1)) res.2 := by
  rw [fX10_silence] at h
  refine TF.go (n := 0) (ls := [some (.inr (18, 0, 0)), some (.inl (.int x1))]) rfl rfl rfl rfl rfl ?_
  refine z_aload_n (i := 0) dX10_silence_0 rfl rfl ?_
  refine z_iload_n (i := 1) dX10_silence_1 rfl rfl ?_
  obtain ⟨q1, hq2, h⟩ := bnd h
  refine z_fVi (sX10_findsTooth M x1 hq2) dX10_silence_2 ml_X10_315 cd_X10_findsTooth mk18 rfl rfl rfl rfl rfl rfl ?_
  refine z_if_eq (tgt := 17) dX10_silence_5 rfl (fun hc3 => ?_) (fun hc3 => ?_)
  · have h := it_t h hc3
    refine z_iconst (v := (0 : Int32)) dX10_silence_17 kc_0 ?_
    cases h
    exact z_iret dX10_silence_18 rfl rfl (Nat.le_refl _) (Nat.le_refl _) ⟨rfl, rfl⟩
  · have h := it_f h hc3
    refine z_aload_n (i := 0) dX10_silence_8 rfl rfl ?_
    refine z_iload_n (i := 1) dX10_silence_9 rfl rfl ?_
    refine z_iconst (v := (5 : Int32)) dX10_silence_10 kc_5 ?_
    obtain ⟨q4, hq5, h⟩ := bnd h
    refine z_fVi (sX10_of q1.2 x1 (5 : Int32) hq5) dX10_silence_11 ml_X10_90 cd_X10_of mk18 rfl rfl rfl rfl rfl rfl ?_
    refine z_goto (tgt := 18) dX10_silence_14 rfl ?_
    cases h
    exact z_iret dX10_silence_18 rfl rfl (Nat.le_refl _) (Nat.le_refl _) ⟨rfl, rfl⟩
theorem dX10_isBroken_0 : decode cX10_isBroken 0 = .ok (.aload_n 0, 1) := by decide +kernel
theorem dX10_isBroken_1 : decode cX10_isBroken 1 = .ok (.iload_n 1, 1) := by decide +kernel
theorem dX10_isBroken_2 : decode cX10_isBroken 2 = .ok (.invokevirtual 315, 3) := by decide +kernel
theorem dX10_isBroken_5 : decode cX10_isBroken 5 = .ok (.ifCond .eq 15, 3) := by decide +kernel
theorem dX10_isBroken_8 : decode cX10_isBroken 8 = .ok (.aload_n 0, 1) := by decide +kernel
theorem dX10_isBroken_9 : decode cX10_isBroken 9 = .ok (.iload_n 1, 1) := by decide +kernel
theorem dX10_isBroken_10 : decode cX10_isBroken 10 = .ok (.invokevirtual 100, 3) := by decide +kernel
theorem dX10_isBroken_13 : decode cX10_isBroken 13 = .ok (.ifCond .eq 7, 3) := by decide +kernel
theorem dX10_isBroken_16 : decode cX10_isBroken 16 = .ok (.iconst 1, 1) := by decide +kernel
theorem dX10_isBroken_17 : decode cX10_isBroken 17 = .ok (.goto 4, 3) := by decide +kernel
theorem dX10_isBroken_20 : decode cX10_isBroken 20 = .ok (.iconst 0, 1) := by decide +kernel
theorem dX10_isBroken_21 : decode cX10_isBroken 21 = .ok (.ireturn, 1) := by decide +kernel
def fX10_isBroken (M : Mm) (x1 : Int32) : Option (Int32 × Mm) := (fX10_findsTooth M x1).bind fun q1 => if q1.1 = 0 then some ((0 : Int32), q1.2) else (fX10_isBad q1.2 x1).bind fun q4 => if q4 = 0 then some ((0 : Int32), q1.2) else some ((1 : Int32), q1.2)
set_option maxRecDepth 20000 in
set_option maxHeartbeats 2000000 in
theorem sX10_isBroken {wv : Nat} (M : Mm) (x1 : Int32) {res : (Int32 × Mm)} (h : fX10_isBroken M x1 = some res) : TF (wv + 1) yX10_isBroken cX10_isBroken 2 (some .boolean) 3 [.inr (18, 0, 0), .inl (.int x1)] M (some (.int res.1)) res.2 := by
  rw [fX10_isBroken] at h
  refine TF.go (n := 0) (ls := [some (.inr (18, 0, 0)), some (.inl (.int x1))]) rfl rfl rfl rfl rfl ?_
  refine z_aload_n (i := 0) dX10_isBroken_0 rfl rfl ?_
  refine z_iload_n (i := 1) dX10_isBroken_1 rfl rfl ?_
  obtain ⟨q1, hq2, h⟩ := bnd h
  refine z_fVi (sX10_findsTooth M x1 hq2) dX10_isBroken_2 ml_X10_315 cd_X10_findsTooth mk18 rfl rfl rfl rfl rfl rfl ?_
  refine z_if_eq (tgt := 20) dX10_isBroken_5 rfl (fun hc3 => ?_) (fun hc3 => ?_)
  · have h := it_t h hc3
    refine z_iconst (v := (0 : Int32)) dX10_isBroken_20 kc_0 ?_
    cases h
    exact z_iret dX10_isBroken_21 rfl rfl (Nat.le_refl _) (Nat.le_refl _) ⟨rfl, rfl⟩
  · have h := it_f h hc3
    refine z_aload_n (i := 0) dX10_isBroken_8 rfl rfl ?_
    refine z_iload_n (i := 1) dX10_isBroken_9 rfl rfl ?_
    obtain ⟨q4, hq5, h⟩ := bnd h
    refine z_fVi (sX10_isBad q1.2 x1 hq5) dX10_isBroken_10 ml_X10_100 cd_X10_isBad mk18 rfl rfl rfl rfl rfl rfl ?_
    refine z_if_eq (tgt := 20) dX10_isBroken_13 rfl (fun hc6 => ?_) (fun hc6 => ?_)
    · have h := it_t h hc6
      refine z_iconst (v := (0 : Int32)) dX10_isBroken_20 kc_0 ?_
      cases h
      exact z_iret dX10_isBroken_21 rfl rfl (Nat.le_refl _) (Nat.le_refl _) ⟨rfl, rfl⟩
    · have h := it_f h hc6
      refine z_iconst (v := (1 : Int32)) dX10_isBroken_16 kc_1 ?_
      refine z_goto (tgt := 21) dX10_isBroken_17 rfl ?_
      cases h
      exact z_iret dX10_isBroken_21 rfl rfl (Nat.le_refl _) (Nat.le_refl _) ⟨rfl, rfl⟩
theorem dX10_nextSound_0 : decode cX10_nextSound 0 = .ok (.aload_n 0, 1) := by decide +kernel
theorem dX10_nextSound_1 : decode cX10_nextSound 1 = .ok (.iload_n 1, 1) := by decide +kernel
theorem dX10_nextSound_2 : decode cX10_nextSound 2 = .ok (.invokevirtual 315, 3) := by decide +kernel
theorem dX10_nextSound_5 : decode cX10_nextSound 5 = .ok (.ifCond .eq 11, 3) := by decide +kernel
theorem dX10_nextSound_8 : decode cX10_nextSound 8 = .ok (.aload_n 0, 1) := by decide +kernel
theorem dX10_nextSound_9 : decode cX10_nextSound 9 = .ok (.iload_n 1, 1) := by decide +kernel
theorem dX10_nextSound_10 : decode cX10_nextSound 10 = .ok (.invokevirtual 104, 3) := by decide +kernel
theorem dX10_nextSound_13 : decode cX10_nextSound 13 = .ok (.goto 4, 3) := by decide +kernel
theorem dX10_nextSound_16 : decode cX10_nextSound 16 = .ok (.iconst 0, 1) := by decide +kernel
theorem dX10_nextSound_17 : decode cX10_nextSound 17 = .ok (.ireturn, 1) := by decide +kernel
def fX10_nextSound (M : Mm) (x1 : Int32) : Option (Int32 × Mm) := (fX10_findsTooth M x1).bind fun q1 => if q1.1 = 0 then some ((0 : Int32), q1.2) else (fX10_sound q1.2 x1).bind fun q4 => some (q4, q1.2)
set_option maxRecDepth 20000 in
set_option maxHeartbeats 2000000 in
theorem sX10_nextSound {wv : Nat} (M : Mm) (x1 : Int32) {res : (Int32 × Mm)} (h : fX10_nextSound M x1 = some res) : TF (wv + 1) yX10_nextSound cX10_nextSound 2 (some .int) 3 [.inr (18, 0, 0), .inl (.int x1)] M (some (.int res.1)) res.2 := by
  rw [fX10_nextSound] at h
  refine TF.go (n := 0) (ls := [some (.inr (18, 0, 0)), some (.inl (.int x1))]) rfl rfl rfl rfl rfl ?_
  refine z_aload_n (i := 0) dX10_nextSound_0 rfl rfl ?_
  refine z_iload_n (i := 1) dX10_nextSound_1 rfl rfl ?_
  obtain ⟨q1, hq2, h⟩ := bnd h
  refine z_fVi (sX10_findsTooth M x1 hq2) dX10_nextSound_2 ml_X10_315 cd_X10_findsTooth mk18 rfl rfl rfl rfl rfl rfl ?_
  refine z_if_eq (tgt := 16) dX10_nextSound_5 rfl (fun hc3 => ?_) (fun hc3 => ?_)
  · have h := it_t h hc3
    refine z_iconst (v := (0 : Int32)) dX10_nextSound_16 kc_0 ?_
    cases h
    exact z_iret dX10_nextSound_17 rfl rfl (Nat.le_refl _) (Nat.le_refl _) ⟨rfl, rfl⟩
  · have h := it_f h hc3
    refine z_aload_n (i := 0) dX10_nextSound_8 rfl rfl ?_
    refine z_iload_n (i := 1) dX10_nextSound_9 rfl rfl ?_
    obtain ⟨q4, hq5, h⟩ := bnd h
    refine z_fVi (sX10_sound q1.2 x1 hq5) dX10_nextSound_10 ml_X10_104 cd_X10_sound mk18 rfl rfl rfl rfl rfl rfl ?_
    refine z_goto (tgt := 17) dX10_nextSound_13 rfl ?_
    cases h
    exact z_iret dX10_nextSound_17 rfl rfl (Nat.le_refl _) (Nat.le_refl _) ⟨rfl, rfl⟩
theorem dX10_turnsLeft_0 : decode cX10_turnsLeft 0 = .ok (.aload_n 0, 1) := by decide +kernel
theorem dX10_turnsLeft_1 : decode cX10_turnsLeft 1 = .ok (.iconst 1, 1) := by decide +kernel
theorem dX10_turnsLeft_2 : decode cX10_turnsLeft 2 = .ok (.invokevirtual 297, 3) := by decide +kernel
theorem dX10_turnsLeft_5 : decode cX10_turnsLeft 5 = .ok (.ireturn, 1) := by decide +kernel
def fX10_turnsLeft (M : Mm) : Option (Int32 × Mm) := (fX10_tells M (1 : Int32)).bind fun q1 => some (q1.1, q1.2)
set_option maxRecDepth 20000 in
set_option maxHeartbeats 2000000 in
theorem sX10_turnsLeft {wv : Nat} (M : Mm) {res : (Int32 × Mm)} (h : fX10_turnsLeft M  = some res) : TF (wv + 1) yX10_turnsLeft cX10_turnsLeft 1 (some .int) 1 [.inr (18, 0, 0)] M (some (.int res.1)) res.2 := by
  rw [fX10_turnsLeft] at h
  refine TF.go (n := 0) (ls := [some (.inr (18, 0, 0))]) rfl rfl rfl rfl rfl ?_
  refine z_aload_n (i := 0) dX10_turnsLeft_0 rfl rfl ?_
  refine z_iconst (v := (1 : Int32)) dX10_turnsLeft_1 kc_1 ?_
  obtain ⟨q1, hq2, h⟩ := bnd h
  refine z_fVi (sX10_tells M (1 : Int32) hq2) dX10_turnsLeft_2 ml_X10_297 cd_X10_tells mk18 rfl rfl rfl rfl rfl rfl ?_
  cases h
  exact z_iret dX10_turnsLeft_5 rfl rfl (Nat.le_refl _) (Nat.le_refl _) ⟨rfl, rfl⟩
theorem dX10_vane_0 : decode cX10_vane 0 = .ok (.aload_n 0, 1) := by decide +kernel
theorem dX10_vane_1 : decode cX10_vane 1 = .ok (.iconst 2, 1) := by decide +kernel
theorem dX10_vane_2 : decode cX10_vane 2 = .ok (.invokevirtual 297, 3) := by decide +kernel
theorem dX10_vane_5 : decode cX10_vane 5 = .ok (.ireturn, 1) := by decide +kernel
def fX10_vane (M : Mm) : Option (Int32 × Mm) := (fX10_tells M (2 : Int32)).bind fun q1 => some (q1.1, q1.2)
set_option maxRecDepth 20000 in
set_option maxHeartbeats 2000000 in
theorem sX10_vane {wv : Nat} (M : Mm) {res : (Int32 × Mm)} (h : fX10_vane M  = some res) : TF (wv + 1) yX10_vane cX10_vane 1 (some .int) 1 [.inr (18, 0, 0)] M (some (.int res.1)) res.2 := by
  rw [fX10_vane] at h
  refine TF.go (n := 0) (ls := [some (.inr (18, 0, 0))]) rfl rfl rfl rfl rfl ?_
  refine z_aload_n (i := 0) dX10_vane_0 rfl rfl ?_
  refine z_iconst (v := (2 : Int32)) dX10_vane_1 kc_2 ?_
  obtain ⟨q1, hq2, h⟩ := bnd h
  refine z_fVi (sX10_tells M (2 : Int32) hq2) dX10_vane_2 ml_X10_297 cd_X10_tells mk18 rfl rfl rfl rfl rfl rfl ?_
  cases h
  exact z_iret dX10_vane_5 rfl rfl (Nat.le_refl _) (Nat.le_refl _) ⟨rfl, rfl⟩
theorem dX10_speed_0 : decode cX10_speed 0 = .ok (.bipush 60, 2) := by decide +kernel
theorem dX10_speed_2 : decode cX10_speed 2 = .ok (.iconst 4, 1) := by decide +kernel
theorem dX10_speed_3 : decode cX10_speed 3 = .ok (.aload_n 0, 1) := by decide +kernel
theorem dX10_speed_4 : decode cX10_speed 4 = .ok (.getfield 7, 3) := by decide +kernel
theorem dX10_speed_7 : decode cX10_speed 7 = .ok (.iconst 1, 1) := by decide +kernel
theorem dX10_speed_8 : decode cX10_speed 8 = .ok (.iaload, 1) := by decide +kernel
theorem dX10_speed_9 : decode cX10_speed 9 = .ok (.imul, 1) := by decide +kernel
theorem dX10_speed_10 : decode cX10_speed 10 = .ok (.iadd, 1) := by decide +kernel
theorem dX10_speed_11 : decode cX10_speed 11 = .ok (.bipush 100, 2) := by decide +kernel
theorem dX10_speed_13 : decode cX10_speed 13 = .ok (.aload_n 0, 1) := by decide +kernel
theorem dX10_speed_14 : decode cX10_speed 14 = .ok (.getfield 7, 3) := by decide +kernel
theorem dX10_speed_17 : decode cX10_speed 17 = .ok (.iconst 2, 1) := by decide +kernel
theorem dX10_speed_18 : decode cX10_speed 18 = .ok (.iaload, 1) := by decide +kernel
theorem dX10_speed_19 : decode cX10_speed 19 = .ok (.isub, 1) := by decide +kernel
theorem dX10_speed_20 : decode cX10_speed 20 = .ok (.imul, 1) := by decide +kernel
theorem dX10_speed_21 : decode cX10_speed 21 = .ok (.bipush 100, 2) := by decide +kernel
theorem dX10_speed_23 : decode cX10_speed 23 = .ok (.idiv, 1) := by decide +kernel
theorem dX10_speed_24 : decode cX10_speed 24 = .ok (.ireturn, 1) := by decide +kernel
def fX10_speed (M : Mm) : Int32 := ((((60 : Int32) + ((4 : Int32) * (M.1 (19, 0, 0) 1))) * ((100 : Int32) - (M.1 (19, 0, 0) 2))) / (100 : Int32))
set_option maxRecDepth 20000 in
set_option maxHeartbeats 2000000 in
theorem tX10_speed {wv : Nat} (M : Mm) {res : Int32} (h : fX10_speed M  = res) : TF (wv + 1) yX10_speed cX10_speed 1 (some .int) 0 [.inr (18, 0, 0)] M (some (.int res)) M := by
  rw [fX10_speed] at h
  refine TF.go (n := 0) (ls := [some (.inr (18, 0, 0))]) rfl rfl rfl rfl rfl ?_
  refine z_bipush (v := (60 : Int32)) dX10_speed_0 kb_60 ?_
  refine z_iconst (v := (4 : Int32)) dX10_speed_2 kc_4 ?_
  refine z_aload_n (i := 0) dX10_speed_3 rfl rfl ?_
  refine z_getR (r' := (19, 0, 0)) dX10_speed_4 fl_X10_7 mk18 rfl rfl ?_
  refine z_iconst (v := (1 : Int32)) dX10_speed_7 kc_1 ?_
  refine z_iald (x := (M.1 (19, 0, 0) 1)) dX10_speed_8 (m19 _ (Nat.le_of_ble_eq_true rfl)) rfl (by decide) rfl ?_
  refine z_imul dX10_speed_9 ?_
  refine z_iadd dX10_speed_10 ?_
  refine z_bipush (v := (100 : Int32)) dX10_speed_11 kb_100 ?_
  refine z_aload_n (i := 0) dX10_speed_13 rfl rfl ?_
  refine z_getR (r' := (19, 0, 0)) dX10_speed_14 fl_X10_7 mk18 rfl rfl ?_
  refine z_iconst (v := (2 : Int32)) dX10_speed_17 kc_2 ?_
  refine z_iald (x := (M.1 (19, 0, 0) 2)) dX10_speed_18 (m19 _ (Nat.le_of_ble_eq_true rfl)) rfl (by decide) rfl ?_
  refine z_isub dX10_speed_19 ?_
  refine z_imul dX10_speed_20 ?_
  refine z_bipush (v := (100 : Int32)) dX10_speed_21 kb_100 ?_
  refine z_idiv dX10_speed_23 (by decide) ?_
  subst h
  exact z_iret dX10_speed_24 rfl rfl (Nat.le_refl _) (Nat.le_refl _) ⟨rfl, rfl⟩
theorem sX10_speed {wv : Nat} (M : Mm) : TF (wv + 1) yX10_speed cX10_speed 1 (some .int) 0 [.inr (18, 0, 0)] M (some (.int (fX10_speed M ))) M := tX10_speed M   rfl
theorem dX10_tempo_0 : decode cX10_tempo 0 = .ok (.aload_n 0, 1) := by decide +kernel
theorem dX10_tempo_1 : decode cX10_tempo 1 = .ok (.iconst 0, 1) := by decide +kernel
theorem dX10_tempo_2 : decode cX10_tempo 2 = .ok (.putfield 79, 3) := by decide +kernel
theorem dX10_tempo_5 : decode cX10_tempo 5 = .ok (.aload_n 0, 1) := by decide +kernel
theorem dX10_tempo_6 : decode cX10_tempo 6 = .ok (.invokevirtual 318, 3) := by decide +kernel
theorem dX10_tempo_9 : decode cX10_tempo 9 = .ok (.ireturn, 1) := by decide +kernel
def fX10_tempo (M : Mm) : Option (Int32 × Mm) := some ((fX10_speed (putI M (18, 0, 0) 8 (0 : Int32))), (putI M (18, 0, 0) 8 (0 : Int32)))
set_option maxRecDepth 20000 in
set_option maxHeartbeats 2000000 in
theorem sX10_tempo {wv : Nat} (M : Mm) {res : (Int32 × Mm)} (h : fX10_tempo M  = some res) : TF (wv + 1) yX10_tempo cX10_tempo 1 (some .int) 1 [.inr (18, 0, 0)] M (some (.int res.1)) res.2 := by
  rw [fX10_tempo] at h
  refine TF.go (n := 0) (ls := [some (.inr (18, 0, 0))]) rfl rfl rfl rfl rfl ?_
  refine z_aload_n (i := 0) dX10_tempo_0 rfl rfl ?_
  refine z_iconst (v := (0 : Int32)) dX10_tempo_1 kc_0 ?_
  refine z_putI allR_nd dX10_tempo_2 fl_X10_79 mk18 rfl rfl ?_
  refine z_aload_n (i := 0) dX10_tempo_5 rfl rfl ?_
  refine z_fVi (sX10_speed (putI M (18, 0, 0) 8 (0 : Int32))) dX10_tempo_6 ml_X10_318 cd_X10_speed mk18 rfl rfl rfl rfl rfl rfl ?_
  cases h
  exact z_iret dX10_tempo_9 rfl rfl (Nat.le_refl _) (Nat.le_refl _) ⟨rfl, rfl⟩
theorem dX10_secondsPerStep_0 : decode cX10_secondsPerStep 0 = .ok (.aload_n 0, 1) := by decide +kernel
theorem dX10_secondsPerStep_1 : decode cX10_secondsPerStep 1 = .ok (.iconst 0, 1) := by decide +kernel
theorem dX10_secondsPerStep_2 : decode cX10_secondsPerStep 2 = .ok (.putfield 79, 3) := by decide +kernel
theorem dX10_secondsPerStep_5 : decode cX10_secondsPerStep 5 = .ok (.ldc2_w 321, 3) := by decide +kernel
theorem dX10_secondsPerStep_8 : decode cX10_secondsPerStep 8 = .ok (.aload_n 0, 1) := by decide +kernel
theorem dX10_secondsPerStep_9 : decode cX10_secondsPerStep 9 = .ok (.invokevirtual 318, 3) := by decide +kernel
theorem dX10_secondsPerStep_12 : decode cX10_secondsPerStep 12 = .ok (.i2d, 1) := by decide +kernel
theorem dX10_secondsPerStep_13 : decode cX10_secondsPerStep 13 = .ok (.ddiv, 1) := by decide +kernel
theorem dX10_secondsPerStep_14 : decode cX10_secondsPerStep 14 = .ok (.dreturn, 1) := by decide +kernel
def fX10_secondsPerStep (M : Mm) : Option (UInt64 × Mm) := if (FP.ddiv (4633641066610819072 : UInt64) (FP.i2d (fX10_speed (putI M (18, 0, 0) 8 (0 : Int32))))) &&& 0x7fffffffffffffff ≤ 0x7ff0000000000000 then some ((FP.ddiv (4633641066610819072 : UInt64) (FP.i2d (fX10_speed (putI M (18, 0, 0) 8 (0 : Int32))))), (putI M (18, 0, 0) 8 (0 : Int32))) else none
set_option maxRecDepth 20000 in
set_option maxHeartbeats 2000000 in
theorem sX10_secondsPerStep {wv : Nat} (M : Mm) {res : (UInt64 × Mm)} (h : fX10_secondsPerStep M  = some res) : TF (wv + 1) yX10_secondsPerStep cX10_secondsPerStep 1 (some .double) 1 [.inr (18, 0, 0)] M (some (.double res.1)) res.2 := by
  rw [fX10_secondsPerStep] at h
  refine TF.go (n := 0) (ls := [some (.inr (18, 0, 0))]) rfl rfl rfl rfl rfl ?_
  refine z_aload_n (i := 0) dX10_secondsPerStep_0 rfl rfl ?_
  refine z_iconst (v := (0 : Int32)) dX10_secondsPerStep_1 kc_0 ?_
  refine z_putI allR_nd dX10_secondsPerStep_2 fl_X10_79 mk18 rfl rfl ?_
  refine z_ldc2d (v := (4633641066610819072 : UInt64)) dX10_secondsPerStep_5 (al_mem 1837 (by decide +kernel) rfl) ?_
  refine z_aload_n (i := 0) dX10_secondsPerStep_8 rfl rfl ?_
  refine z_fVi (sX10_speed (putI M (18, 0, 0) 8 (0 : Int32))) dX10_secondsPerStep_9 ml_X10_318 cd_X10_speed mk18 rfl rfl rfl rfl rfl rfl ?_
  refine z_i2d dX10_secondsPerStep_12 ?_
  obtain ⟨hc1, h⟩ := chk2 h
  refine z_ddiv dX10_secondsPerStep_13 hc1 ?_
  cases h
  exact z_dret dX10_secondsPerStep_14 rfl (Nat.le_refl _) (Nat.le_refl _) ⟨rfl, rfl⟩
theorem dX10_secondsPerStepBits_0 : decode cX10_secondsPerStepBits 0 = .ok (.aload_n 0, 1) := by decide +kernel
theorem dX10_secondsPerStepBits_1 : decode cX10_secondsPerStepBits 1 = .ok (.iconst 0, 1) := by decide +kernel
theorem dX10_secondsPerStepBits_2 : decode cX10_secondsPerStepBits 2 = .ok (.putfield 79, 3) := by decide +kernel
theorem dX10_secondsPerStepBits_5 : decode cX10_secondsPerStepBits 5 = .ok (.ldc2_w 321, 3) := by decide +kernel
theorem dX10_secondsPerStepBits_8 : decode cX10_secondsPerStepBits 8 = .ok (.aload_n 0, 1) := by decide +kernel
theorem dX10_secondsPerStepBits_9 : decode cX10_secondsPerStepBits 9 = .ok (.invokevirtual 318, 3) := by decide +kernel
theorem dX10_secondsPerStepBits_12 : decode cX10_secondsPerStepBits 12 = .ok (.i2d, 1) := by decide +kernel
theorem dX10_secondsPerStepBits_13 : decode cX10_secondsPerStepBits 13 = .ok (.ddiv, 1) := by decide +kernel
theorem dX10_secondsPerStepBits_14 : decode cX10_secondsPerStepBits 14 = .ok (.invokestatic 323, 3) := by decide +kernel
theorem dX10_secondsPerStepBits_17 : decode cX10_secondsPerStepBits 17 = .ok (.lreturn, 1) := by decide +kernel
def fX10_secondsPerStepBits (M : Mm) : Option (Int64 × Mm) := if (FP.ddiv (4633641066610819072 : UInt64) (FP.i2d (fX10_speed (putI M (18, 0, 0) 8 (0 : Int32))))) &&& 0x7fffffffffffffff ≤ 0x7ff0000000000000 then some ((dbits (FP.ddiv (4633641066610819072 : UInt64) (FP.i2d (fX10_speed (putI M (18, 0, 0) 8 (0 : Int32)))))), (putI M (18, 0, 0) 8 (0 : Int32))) else none
set_option maxRecDepth 20000 in
set_option maxHeartbeats 2000000 in
theorem sX10_secondsPerStepBits {wv : Nat} (M : Mm) {res : (Int64 × Mm)} (h : fX10_secondsPerStepBits M  = some res) : TF (wv + 1) yX10_secondsPerStepBits cX10_secondsPerStepBits 1 (some .long) 3 [.inr (18, 0, 0)] M (some (.long res.1)) res.2 := by
  rw [fX10_secondsPerStepBits] at h
  refine TF.go (n := 0) (ls := [some (.inr (18, 0, 0))]) rfl rfl rfl rfl rfl ?_
  refine z_aload_n (i := 0) dX10_secondsPerStepBits_0 rfl rfl ?_
  refine z_iconst (v := (0 : Int32)) dX10_secondsPerStepBits_1 kc_0 ?_
  refine z_putI allR_nd dX10_secondsPerStepBits_2 fl_X10_79 mk18 rfl rfl ?_
  refine z_ldc2d (v := (4633641066610819072 : UInt64)) dX10_secondsPerStepBits_5 (al_mem 1837 (by decide +kernel) rfl) ?_
  refine z_aload_n (i := 0) dX10_secondsPerStepBits_8 rfl rfl ?_
  refine z_fVi (sX10_speed (putI M (18, 0, 0) 8 (0 : Int32))) dX10_secondsPerStepBits_9 ml_X10_318 cd_X10_speed mk18 rfl rfl rfl rfl rfl rfl ?_
  refine z_i2d dX10_secondsPerStepBits_12 ?_
  obtain ⟨hc1, h⟩ := chk2 h
  refine z_ddiv dX10_secondsPerStepBits_13 hc1 ?_
  refine z_fSl (S_dbits (putI M (18, 0, 0) 8 (0 : Int32)) (FP.ddiv (4633641066610819072 : UInt64) (FP.i2d (fX10_speed (putI M (18, 0, 0) 8 (0 : Int32)))))) dX10_secondsPerStepBits_14 ml_X10_323 cd_Jxe99ae_doubleToLongBits_ccdee rfl rfl rfl rfl rfl ?_
  cases h
  exact z_lret dX10_secondsPerStepBits_17 rfl (Nat.le_refl _) (Nat.le_refl _) ⟨rfl, rfl⟩
theorem dX10_noteCount_0 : decode cX10_noteCount 0 = .ok (.aload_n 0, 1) := by decide +kernel
theorem dX10_noteCount_1 : decode cX10_noteCount 1 = .ok (.bipush 6, 2) := by decide +kernel
theorem dX10_noteCount_3 : decode cX10_noteCount 3 = .ok (.invokevirtual 297, 3) := by decide +kernel
theorem dX10_noteCount_6 : decode cX10_noteCount 6 = .ok (.ireturn, 1) := by decide +kernel
def fX10_noteCount (M : Mm) : Option (Int32 × Mm) := (fX10_tells M (6 : Int32)).bind fun q1 => some (q1.1, q1.2)
set_option maxRecDepth 20000 in
set_option maxHeartbeats 2000000 in
theorem sX10_noteCount {wv : Nat} (M : Mm) {res : (Int32 × Mm)} (h : fX10_noteCount M  = some res) : TF (wv + 1) yX10_noteCount cX10_noteCount 1 (some .int) 1 [.inr (18, 0, 0)] M (some (.int res.1)) res.2 := by
  rw [fX10_noteCount] at h
  refine TF.go (n := 0) (ls := [some (.inr (18, 0, 0))]) rfl rfl rfl rfl rfl ?_
  refine z_aload_n (i := 0) dX10_noteCount_0 rfl rfl ?_
  refine z_bipush (v := (6 : Int32)) dX10_noteCount_1 kb_6 ?_
  obtain ⟨q1, hq2, h⟩ := bnd h
  refine z_fVi (sX10_tells M (6 : Int32) hq2) dX10_noteCount_3 ml_X10_297 cd_X10_tells mk18 rfl rfl rfl rfl rfl rfl ?_
  cases h
  exact z_iret dX10_noteCount_6 rfl rfl (Nat.le_refl _) (Nat.le_refl _) ⟨rfl, rfl⟩
theorem dX10_squeakCount_0 : decode cX10_squeakCount 0 = .ok (.aload_n 0, 1) := by decide +kernel
theorem dX10_squeakCount_1 : decode cX10_squeakCount 1 = .ok (.bipush 7, 2) := by decide +kernel
theorem dX10_squeakCount_3 : decode cX10_squeakCount 3 = .ok (.invokevirtual 297, 3) := by decide +kernel
theorem dX10_squeakCount_6 : decode cX10_squeakCount 6 = .ok (.ireturn, 1) := by decide +kernel
def fX10_squeakCount (M : Mm) : Option (Int32 × Mm) := (fX10_tells M (7 : Int32)).bind fun q1 => some (q1.1, q1.2)
set_option maxRecDepth 20000 in
set_option maxHeartbeats 2000000 in
theorem sX10_squeakCount {wv : Nat} (M : Mm) {res : (Int32 × Mm)} (h : fX10_squeakCount M  = some res) : TF (wv + 1) yX10_squeakCount cX10_squeakCount 1 (some .int) 1 [.inr (18, 0, 0)] M (some (.int res.1)) res.2 := by
  rw [fX10_squeakCount] at h
  refine TF.go (n := 0) (ls := [some (.inr (18, 0, 0))]) rfl rfl rfl rfl rfl ?_
  refine z_aload_n (i := 0) dX10_squeakCount_0 rfl rfl ?_
  refine z_bipush (v := (7 : Int32)) dX10_squeakCount_1 kb_7 ?_
  obtain ⟨q1, hq2, h⟩ := bnd h
  refine z_fVi (sX10_tells M (7 : Int32) hq2) dX10_squeakCount_3 ml_X10_297 cd_X10_tells mk18 rfl rfl rfl rfl rfl rfl ?_
  cases h
  exact z_iret dX10_squeakCount_6 rfl rfl (Nat.le_refl _) (Nat.le_refl _) ⟨rfl, rfl⟩
theorem dX10_stepsPlayed_0 : decode cX10_stepsPlayed 0 = .ok (.aload_n 0, 1) := by decide +kernel
theorem dX10_stepsPlayed_1 : decode cX10_stepsPlayed 1 = .ok (.bipush 8, 2) := by decide +kernel
theorem dX10_stepsPlayed_3 : decode cX10_stepsPlayed 3 = .ok (.invokevirtual 297, 3) := by decide +kernel
theorem dX10_stepsPlayed_6 : decode cX10_stepsPlayed 6 = .ok (.ireturn, 1) := by decide +kernel
def fX10_stepsPlayed (M : Mm) : Option (Int32 × Mm) := (fX10_tells M (8 : Int32)).bind fun q1 => some (q1.1, q1.2)
set_option maxRecDepth 20000 in
set_option maxHeartbeats 2000000 in
theorem sX10_stepsPlayed {wv : Nat} (M : Mm) {res : (Int32 × Mm)} (h : fX10_stepsPlayed M  = some res) : TF (wv + 1) yX10_stepsPlayed cX10_stepsPlayed 1 (some .int) 1 [.inr (18, 0, 0)] M (some (.int res.1)) res.2 := by
  rw [fX10_stepsPlayed] at h
  refine TF.go (n := 0) (ls := [some (.inr (18, 0, 0))]) rfl rfl rfl rfl rfl ?_
  refine z_aload_n (i := 0) dX10_stepsPlayed_0 rfl rfl ?_
  refine z_bipush (v := (8 : Int32)) dX10_stepsPlayed_1 kb_8 ?_
  obtain ⟨q1, hq2, h⟩ := bnd h
  refine z_fVi (sX10_tells M (8 : Int32) hq2) dX10_stepsPlayed_3 ml_X10_297 cd_X10_tells mk18 rfl rfl rfl rfl rfl rfl ?_
  cases h
  exact z_iret dX10_stepsPlayed_6 rfl rfl (Nat.le_refl _) (Nat.le_refl _) ⟨rfl, rfl⟩
theorem dX10_brokenTeeth_0 : decode cX10_brokenTeeth 0 = .ok (.aload_n 0, 1) := by decide +kernel
theorem dX10_brokenTeeth_1 : decode cX10_brokenTeeth 1 = .ok (.iconst 0, 1) := by decide +kernel
theorem dX10_brokenTeeth_2 : decode cX10_brokenTeeth 2 = .ok (.putfield 79, 3) := by decide +kernel
theorem dX10_brokenTeeth_5 : decode cX10_brokenTeeth 5 = .ok (.iconst 0, 1) := by decide +kernel
theorem dX10_brokenTeeth_6 : decode cX10_brokenTeeth 6 = .ok (.istore_n 1, 1) := by decide +kernel
theorem dX10_brokenTeeth_7 : decode cX10_brokenTeeth 7 = .ok (.iconst 0, 1) := by decide +kernel
theorem dX10_brokenTeeth_8 : decode cX10_brokenTeeth 8 = .ok (.istore_n 2, 1) := by decide +kernel
theorem dX10_brokenTeeth_9 : decode cX10_brokenTeeth 9 = .ok (.iload_n 2, 1) := by decide +kernel
theorem dX10_brokenTeeth_10 : decode cX10_brokenTeeth 10 = .ok (.aload_n 0, 1) := by decide +kernel
theorem dX10_brokenTeeth_11 : decode cX10_brokenTeeth 11 = .ok (.getfield 7, 3) := by decide +kernel
theorem dX10_brokenTeeth_14 : decode cX10_brokenTeeth 14 = .ok (.iconst 3, 1) := by decide +kernel
theorem dX10_brokenTeeth_15 : decode cX10_brokenTeeth 15 = .ok (.iaload, 1) := by decide +kernel
theorem dX10_brokenTeeth_16 : decode cX10_brokenTeeth 16 = .ok (.if_icmp .ge 20, 3) := by decide +kernel
theorem dX10_brokenTeeth_19 : decode cX10_brokenTeeth 19 = .ok (.aload_n 0, 1) := by decide +kernel
theorem dX10_brokenTeeth_20 : decode cX10_brokenTeeth 20 = .ok (.iload_n 2, 1) := by decide +kernel
theorem dX10_brokenTeeth_21 : decode cX10_brokenTeeth 21 = .ok (.invokevirtual 100, 3) := by decide +kernel
theorem dX10_brokenTeeth_24 : decode cX10_brokenTeeth 24 = .ok (.ifCond .eq 6, 3) := by decide +kernel
theorem dX10_brokenTeeth_27 : decode cX10_brokenTeeth 27 = .ok (.iinc 1 1, 3) := by decide +kernel
theorem dX10_brokenTeeth_30 : decode cX10_brokenTeeth 30 = .ok (.iinc 2 1, 3) := by decide +kernel
theorem dX10_brokenTeeth_33 : decode cX10_brokenTeeth 33 = .ok (.goto (-24), 3) := by decide +kernel
theorem dX10_brokenTeeth_36 : decode cX10_brokenTeeth 36 = .ok (.iload_n 1, 1) := by decide +kernel
theorem dX10_brokenTeeth_37 : decode cX10_brokenTeeth 37 = .ok (.ireturn, 1) := by decide +kernel
def fX10_brokenTeeth_L9 (M : Mm) (K : Int32 → Int32 → Option (Int32 × Mm)) : Nat → Int32 → Int32 → Option (Int32 × Mm)
  | 0, _, _ => none
  | n + 1, v1, v2 => if (M.1 (19, 0, 0) 3) ≤ v2 then K v1 v2 else (fX10_isBad M v2).bind fun q2 => if q2 = 0 then fX10_brokenTeeth_L9 M K n v1 (v2 + (1 : Int32)) else fX10_brokenTeeth_L9 M K n (v1 + (1 : Int32)) (v2 + (1 : Int32))
def fX10_brokenTeeth (M : Mm) : Option (Int32 × Mm) := fX10_brokenTeeth_L9 (putI M (18, 0, 0) 8 (0 : Int32)) (fun w5 w6 => some (w5, (putI M (18, 0, 0) 8 (0 : Int32)))) NF (0 : Int32) (0 : Int32)
set_option maxRecDepth 20000 in
set_option maxHeartbeats 2000000 in
theorem sX10_brokenTeeth_L9 {wv : Nat} (M : Mm) {res : (Int32 × Mm)} {K : Int32 → Int32 → Option (Int32 × Mm)} : ∀ (n : Nat) (v1 : Int32) (v2 : Int32), fX10_brokenTeeth_L9 M K n v1 v2 = some res →
    (∀ (v1 : Int32) (v2 : Int32), K v1 v2 = some res → Z RX10 cX10_brokenTeeth 3 (some .int) [] "brokenTeeth" (rmD 2 0 0) (QM SH (allR (wv + 1)) 0 0 (fun v M9 => v = some (.int res.1) ∧ M9 = res.2) (fun _ _ => False)) (allR (wv + 1)) SH 0 0 36 [some (.inr (18, 0, 0)), some (.inl (.int v1)), some (.inl (.int v2))] [] M) → Z RX10 cX10_brokenTeeth 3 (some .int) [] "brokenTeeth" (rmD 2 0 0) (QM SH (allR (wv + 1)) 0 0 (fun v M9 => v = some (.int res.1) ∧ M9 = res.2) (fun _ _ => False)) (allR (wv + 1)) SH 0 0 9 [some (.inr (18, 0, 0)), some (.inl (.int v1)), some (.inl (.int v2))] [] M := by
  intro n
  induction n with
  | zero => intro v1 v2 h; cases h
  | succ n ih =>
    intro v1 v2 h hK
    rw [fX10_brokenTeeth_L9] at h
    refine z_iload_n (i := 2) dX10_brokenTeeth_9 rfl rfl ?_
    refine z_aload_n (i := 0) dX10_brokenTeeth_10 rfl rfl ?_
    refine z_getR (r' := (19, 0, 0)) dX10_brokenTeeth_11 fl_X10_7 mk18 rfl rfl ?_
    refine z_iconst (v := (3 : Int32)) dX10_brokenTeeth_14 kc_3 ?_
    refine z_iald (x := (M.1 (19, 0, 0) 3)) dX10_brokenTeeth_15 (m19 _ (Nat.le_of_ble_eq_true rfl)) rfl (by decide) rfl ?_
    refine z_icmp_ge (tgt := 36) dX10_brokenTeeth_16 rfl (fun hc1 => ?_) (fun hc1 => ?_)
    · have h := it_t h hc1
      exact hK _ _ h
    · have h := it_f h hc1
      refine z_aload_n (i := 0) dX10_brokenTeeth_19 rfl rfl ?_
      refine z_iload_n (i := 2) dX10_brokenTeeth_20 rfl rfl ?_
      obtain ⟨q2, hq3, h⟩ := bnd h
      refine z_fVi (sX10_isBad M v2 hq3) dX10_brokenTeeth_21 ml_X10_100 cd_X10_isBad mk18 rfl rfl rfl rfl rfl rfl ?_
      refine z_if_eq (tgt := 30) dX10_brokenTeeth_24 rfl (fun hc4 => ?_) (fun hc4 => ?_)
      · have h := it_t h hc4
        refine z_iinc (i := 2) (v := (v2 + (1 : Int32))) dX10_brokenTeeth_30 rfl (iinc_k kc_1) (Nat.le_of_ble_eq_true rfl) rfl ?_
        refine z_goto (tgt := 9) dX10_brokenTeeth_33 rfl ?_
        exact ih _ _ h hK
      · have h := it_f h hc4
        refine z_iinc (i := 1) (v := (v1 + (1 : Int32))) dX10_brokenTeeth_27 rfl (iinc_k kc_1) (Nat.le_of_ble_eq_true rfl) rfl ?_
        refine z_iinc (i := 2) (v := (v2 + (1 : Int32))) dX10_brokenTeeth_30 rfl (iinc_k kc_1) (Nat.le_of_ble_eq_true rfl) rfl ?_
        refine z_goto (tgt := 9) dX10_brokenTeeth_33 rfl ?_
        exact ih _ _ h hK
set_option maxRecDepth 20000 in
set_option maxHeartbeats 2000000 in
theorem sX10_brokenTeeth {wv : Nat} (M : Mm) {res : (Int32 × Mm)} (h : fX10_brokenTeeth M  = some res) : TF (wv + 1) yX10_brokenTeeth cX10_brokenTeeth 3 (some .int) 2 [.inr (18, 0, 0)] M (some (.int res.1)) res.2 := by
  rw [fX10_brokenTeeth] at h
  refine TF.go (n := 2) (ls := [some (.inr (18, 0, 0)), none, none]) rfl rfl rfl rfl rfl ?_
  refine z_aload_n (i := 0) dX10_brokenTeeth_0 rfl rfl ?_
  refine z_iconst (v := (0 : Int32)) dX10_brokenTeeth_1 kc_0 ?_
  refine z_putI allR_nd dX10_brokenTeeth_2 fl_X10_79 mk18 rfl rfl ?_
  refine z_iconst (v := (0 : Int32)) dX10_brokenTeeth_5 kc_0 ?_
  refine z_istore_n (i := 1) dX10_brokenTeeth_6 rfl (Nat.le_of_ble_eq_true rfl) rfl ?_
  refine z_iconst (v := (0 : Int32)) dX10_brokenTeeth_7 kc_0 ?_
  refine z_istore_n (i := 2) dX10_brokenTeeth_8 rfl (Nat.le_of_ble_eq_true rfl) rfl ?_
  refine sX10_brokenTeeth_L9 (putI M (18, 0, 0) 8 (0 : Int32)) NF _ _ h (fun w5 w6 h => ?_)
  refine z_iload_n (i := 1) dX10_brokenTeeth_36 rfl rfl ?_
  cases h
  exact z_iret dX10_brokenTeeth_37 rfl rfl (Nat.le_refl _) (Nat.le_refl _) ⟨rfl, rfl⟩
theorem dX10_meanPitch_0 : decode cX10_meanPitch 0 = .ok (.aload_n 0, 1) := by decide +kernel
theorem dX10_meanPitch_1 : decode cX10_meanPitch 1 = .ok (.iload_n 1, 1) := by decide +kernel
theorem dX10_meanPitch_2 : decode cX10_meanPitch 2 = .ok (.invokevirtual 303, 3) := by decide +kernel
theorem dX10_meanPitch_5 : decode cX10_meanPitch 5 = .ok (.ifCond .ne 5, 3) := by decide +kernel
theorem dX10_meanPitch_8 : decode cX10_meanPitch 8 = .ok (.dconst 0, 1) := by decide +kernel
theorem dX10_meanPitch_9 : decode cX10_meanPitch 9 = .ok (.dreturn, 1) := by decide +kernel
theorem dX10_meanPitch_10 : decode cX10_meanPitch 10 = .ok (.iconst 0, 1) := by decide +kernel
theorem dX10_meanPitch_11 : decode cX10_meanPitch 11 = .ok (.istore_n 2, 1) := by decide +kernel
theorem dX10_meanPitch_12 : decode cX10_meanPitch 12 = .ok (.iconst 0, 1) := by decide +kernel
theorem dX10_meanPitch_13 : decode cX10_meanPitch 13 = .ok (.istore_n 3, 1) := by decide +kernel
theorem dX10_meanPitch_14 : decode cX10_meanPitch 14 = .ok (.iload_n 3, 1) := by decide +kernel
theorem dX10_meanPitch_15 : decode cX10_meanPitch 15 = .ok (.aload_n 0, 1) := by decide +kernel
theorem dX10_meanPitch_16 : decode cX10_meanPitch 16 = .ok (.getfield 7, 3) := by decide +kernel
theorem dX10_meanPitch_19 : decode cX10_meanPitch 19 = .ok (.iconst 0, 1) := by decide +kernel
theorem dX10_meanPitch_20 : decode cX10_meanPitch 20 = .ok (.iaload, 1) := by decide +kernel
theorem dX10_meanPitch_21 : decode cX10_meanPitch 21 = .ok (.if_icmp .ge 58, 3) := by decide +kernel
theorem dX10_meanPitch_24 : decode cX10_meanPitch 24 = .ok (.iconst 0, 1) := by decide +kernel
theorem dX10_meanPitch_25 : decode cX10_meanPitch 25 = .ok (.istore 4, 2) := by decide +kernel
theorem dX10_meanPitch_27 : decode cX10_meanPitch 27 = .ok (.iload 4, 2) := by decide +kernel
theorem dX10_meanPitch_29 : decode cX10_meanPitch 29 = .ok (.aload_n 0, 1) := by decide +kernel
theorem dX10_meanPitch_30 : decode cX10_meanPitch 30 = .ok (.getfield 7, 3) := by decide +kernel
theorem dX10_meanPitch_33 : decode cX10_meanPitch 33 = .ok (.iconst 3, 1) := by decide +kernel
theorem dX10_meanPitch_34 : decode cX10_meanPitch 34 = .ok (.iaload, 1) := by decide +kernel
theorem dX10_meanPitch_35 : decode cX10_meanPitch 35 = .ok (.if_icmp .ge 38, 3) := by decide +kernel
theorem dX10_meanPitch_38 : decode cX10_meanPitch 38 = .ok (.aload_n 0, 1) := by decide +kernel
theorem dX10_meanPitch_39 : decode cX10_meanPitch 39 = .ok (.iload_n 1, 1) := by decide +kernel
theorem dX10_meanPitch_40 : decode cX10_meanPitch 40 = .ok (.iload 4, 2) := by decide +kernel
theorem dX10_meanPitch_42 : decode cX10_meanPitch 42 = .ok (.iload_n 3, 1) := by decide +kernel
theorem dX10_meanPitch_43 : decode cX10_meanPitch 43 = .ok (.invokevirtual 93, 3) := by decide +kernel
theorem dX10_meanPitch_46 : decode cX10_meanPitch 46 = .ok (.ifCond .eq 21, 3) := by decide +kernel
theorem dX10_meanPitch_49 : decode cX10_meanPitch 49 = .ok (.iload_n 2, 1) := by decide +kernel
theorem dX10_meanPitch_50 : decode cX10_meanPitch 50 = .ok (.aload_n 0, 1) := by decide +kernel
theorem dX10_meanPitch_51 : decode cX10_meanPitch 51 = .ok (.iload 4, 2) := by decide +kernel
theorem dX10_meanPitch_53 : decode cX10_meanPitch 53 = .ok (.iconst 0, 1) := by decide +kernel
theorem dX10_meanPitch_54 : decode cX10_meanPitch 54 = .ok (.invokevirtual 90, 3) := by decide +kernel
theorem dX10_meanPitch_57 : decode cX10_meanPitch 57 = .ok (.aload_n 0, 1) := by decide +kernel
theorem dX10_meanPitch_58 : decode cX10_meanPitch 58 = .ok (.iload 4, 2) := by decide +kernel
theorem dX10_meanPitch_60 : decode cX10_meanPitch 60 = .ok (.iconst 1, 1) := by decide +kernel
theorem dX10_meanPitch_61 : decode cX10_meanPitch 61 = .ok (.invokevirtual 90, 3) := by decide +kernel
theorem dX10_meanPitch_64 : decode cX10_meanPitch 64 = .ok (.iadd, 1) := by decide +kernel
theorem dX10_meanPitch_65 : decode cX10_meanPitch 65 = .ok (.iadd, 1) := by decide +kernel
theorem dX10_meanPitch_66 : decode cX10_meanPitch 66 = .ok (.istore_n 2, 1) := by decide +kernel
theorem dX10_meanPitch_67 : decode cX10_meanPitch 67 = .ok (.iinc 4 1, 3) := by decide +kernel
theorem dX10_meanPitch_70 : decode cX10_meanPitch 70 = .ok (.goto (-43), 3) := by decide +kernel
theorem dX10_meanPitch_73 : decode cX10_meanPitch 73 = .ok (.iinc 3 1, 3) := by decide +kernel
theorem dX10_meanPitch_76 : decode cX10_meanPitch 76 = .ok (.goto (-62), 3) := by decide +kernel
theorem dX10_meanPitch_79 : decode cX10_meanPitch 79 = .ok (.aload_n 0, 1) := by decide +kernel
theorem dX10_meanPitch_80 : decode cX10_meanPitch 80 = .ok (.iload_n 1, 1) := by decide +kernel
theorem dX10_meanPitch_81 : decode cX10_meanPitch 81 = .ok (.invokevirtual 306, 3) := by decide +kernel
theorem dX10_meanPitch_84 : decode cX10_meanPitch 84 = .ok (.ifCond .ne 7, 3) := by decide +kernel
theorem dX10_meanPitch_87 : decode cX10_meanPitch 87 = .ok (.dconst 0, 1) := by decide +kernel
theorem dX10_meanPitch_88 : decode cX10_meanPitch 88 = .ok (.goto 12, 3) := by decide +kernel
theorem dX10_meanPitch_91 : decode cX10_meanPitch 91 = .ok (.iload_n 2, 1) := by decide +kernel
theorem dX10_meanPitch_92 : decode cX10_meanPitch 92 = .ok (.i2d, 1) := by decide +kernel
theorem dX10_meanPitch_93 : decode cX10_meanPitch 93 = .ok (.aload_n 0, 1) := by decide +kernel
theorem dX10_meanPitch_94 : decode cX10_meanPitch 94 = .ok (.iload_n 1, 1) := by decide +kernel
theorem dX10_meanPitch_95 : decode cX10_meanPitch 95 = .ok (.invokevirtual 306, 3) := by decide +kernel
theorem dX10_meanPitch_98 : decode cX10_meanPitch 98 = .ok (.i2d, 1) := by decide +kernel
theorem dX10_meanPitch_99 : decode cX10_meanPitch 99 = .ok (.ddiv, 1) := by decide +kernel
theorem dX10_meanPitch_100 : decode cX10_meanPitch 100 = .ok (.dreturn, 1) := by decide +kernel
def fX10_meanPitch_L27 (M : Mm) (c1 : Int32) (c3 : Int32) (K : Int32 → Int32 → Option (UInt64 × Mm)) : Nat → Int32 → Int32 → Option (UInt64 × Mm)
  | 0, _, _ => none
  | n + 1, v2, v4 => if (M.1 (19, 0, 0) 3) ≤ v4 then K v2 v4 else (fX10_has M c1 v4 c3).bind fun q6 => if q6 = 0 then fX10_meanPitch_L27 M c1 c3 K n v2 (v4 + (1 : Int32)) else (fX10_of M v4 (0 : Int32)).bind fun q9 => (fX10_of M v4 (1 : Int32)).bind fun q11 => fX10_meanPitch_L27 M c1 c3 K n (v2 + (q9 + q11)) (v4 + (1 : Int32))
def fX10_meanPitch_L14 (M : Mm) (c1 : Int32) (K : Int32 → Int32 → Option (UInt64 × Mm)) : Nat → Int32 → Int32 → Option (UInt64 × Mm)
  | 0, _, _ => none
  | n + 1, v2, v3 => if (M.1 (19, 0, 0) 0) ≤ v3 then K v2 v3 else fX10_meanPitch_L27 M c1 v3 (fun w13 w14 => fX10_meanPitch_L14 M c1 K n w13 (v3 + (1 : Int32))) NF v2 (0 : Int32)
def fX10_meanPitch (M : Mm) (x1 : Int32) : Option (UInt64 × Mm) := (fX10_findsTune M x1).bind fun q1 => if q1.1 = 0 then some (FP.dconst0, q1.2) else fX10_meanPitch_L14 q1.2 x1 (fun w15 w16 => (fX10_pins q1.2 x1).bind fun q17 => if q17 = 0 then some (FP.dconst0, q1.2) else (fX10_pins q1.2 x1).bind fun q20 => if (FP.ddiv (FP.i2d w15) (FP.i2d q20)) &&& 0x7fffffffffffffff ≤ 0x7ff0000000000000 then some ((FP.ddiv (FP.i2d w15) (FP.i2d q20)), q1.2) else none) NF (0 : Int32) (0 : Int32)
set_option maxRecDepth 20000 in
set_option maxHeartbeats 2000000 in
theorem sX10_meanPitch_L27 {wv : Nat} (M : Mm) (c1 : Int32) (c3 : Int32) {res : (UInt64 × Mm)} {K : Int32 → Int32 → Option (UInt64 × Mm)} : ∀ (n : Nat) (v2 : Int32) (v4 : Int32), fX10_meanPitch_L27 M c1 c3 K n v2 v4 = some res →
    (∀ (v2 : Int32) (v4 : Int32), K v2 v4 = some res → Z RX10 cX10_meanPitch 5 (some .double) [] "meanPitch" (rmD 3 0 0) (QM SH (allR (wv + 1)) 0 0 (fun v M9 => v = some (.double res.1) ∧ M9 = res.2) (fun _ _ => False)) (allR (wv + 1)) SH 0 0 73 [some (.inr (18, 0, 0)), some (.inl (.int c1)), some (.inl (.int v2)), some (.inl (.int c3)), some (.inl (.int v4))] [] M) → Z RX10 cX10_meanPitch 5 (some .double) [] "meanPitch" (rmD 3 0 0) (QM SH (allR (wv + 1)) 0 0 (fun v M9 => v = some (.double res.1) ∧ M9 = res.2) (fun _ _ => False)) (allR (wv + 1)) SH 0 0 27 [some (.inr (18, 0, 0)), some (.inl (.int c1)), some (.inl (.int v2)), some (.inl (.int c3)), some (.inl (.int v4))] [] M := by
  intro n
  induction n with
  | zero => intro v2 v4 h; cases h
  | succ n ih =>
    intro v2 v4 h hK
    rw [fX10_meanPitch_L27] at h
    refine z_iload (i := 4) dX10_meanPitch_27 rfl ?_
    refine z_aload_n (i := 0) dX10_meanPitch_29 rfl rfl ?_
    refine z_getR (r' := (19, 0, 0)) dX10_meanPitch_30 fl_X10_7 mk18 rfl rfl ?_
    refine z_iconst (v := (3 : Int32)) dX10_meanPitch_33 kc_3 ?_
    refine z_iald (x := (M.1 (19, 0, 0) 3)) dX10_meanPitch_34 (m19 _ (Nat.le_of_ble_eq_true rfl)) rfl (by decide) rfl ?_
    refine z_icmp_ge (tgt := 73) dX10_meanPitch_35 rfl (fun hc5 => ?_) (fun hc5 => ?_)
    · have h := it_t h hc5
      exact hK _ _ h
    · have h := it_f h hc5
      refine z_aload_n (i := 0) dX10_meanPitch_38 rfl rfl ?_
      refine z_iload_n (i := 1) dX10_meanPitch_39 rfl rfl ?_
      refine z_iload (i := 4) dX10_meanPitch_40 rfl ?_
      refine z_iload_n (i := 3) dX10_meanPitch_42 rfl rfl ?_
      obtain ⟨q6, hq7, h⟩ := bnd h
      refine z_fVi (sX10_has M c1 v4 c3 hq7) dX10_meanPitch_43 ml_X10_93 cd_X10_has mk18 rfl rfl rfl rfl rfl rfl ?_
      refine z_if_eq (tgt := 67) dX10_meanPitch_46 rfl (fun hc8 => ?_) (fun hc8 => ?_)
      · have h := it_t h hc8
        refine z_iinc (i := 4) (v := (v4 + (1 : Int32))) dX10_meanPitch_67 rfl (iinc_k kc_1) (Nat.le_of_ble_eq_true rfl) rfl ?_
        refine z_goto (tgt := 27) dX10_meanPitch_70 rfl ?_
        exact ih _ _ h hK
      · have h := it_f h hc8
        refine z_iload_n (i := 2) dX10_meanPitch_49 rfl rfl ?_
        refine z_aload_n (i := 0) dX10_meanPitch_50 rfl rfl ?_
        refine z_iload (i := 4) dX10_meanPitch_51 rfl ?_
        refine z_iconst (v := (0 : Int32)) dX10_meanPitch_53 kc_0 ?_
        obtain ⟨q9, hq10, h⟩ := bnd h
        refine z_fVi (sX10_of M v4 (0 : Int32) hq10) dX10_meanPitch_54 ml_X10_90 cd_X10_of mk18 rfl rfl rfl rfl rfl rfl ?_
        refine z_aload_n (i := 0) dX10_meanPitch_57 rfl rfl ?_
        refine z_iload (i := 4) dX10_meanPitch_58 rfl ?_
        refine z_iconst (v := (1 : Int32)) dX10_meanPitch_60 kc_1 ?_
        obtain ⟨q11, hq12, h⟩ := bnd h
        refine z_fVi (sX10_of M v4 (1 : Int32) hq12) dX10_meanPitch_61 ml_X10_90 cd_X10_of mk18 rfl rfl rfl rfl rfl rfl ?_
        refine z_iadd dX10_meanPitch_64 ?_
        refine z_iadd dX10_meanPitch_65 ?_
        refine z_istore_n (i := 2) dX10_meanPitch_66 rfl (Nat.le_of_ble_eq_true rfl) rfl ?_
        refine z_iinc (i := 4) (v := (v4 + (1 : Int32))) dX10_meanPitch_67 rfl (iinc_k kc_1) (Nat.le_of_ble_eq_true rfl) rfl ?_
        refine z_goto (tgt := 27) dX10_meanPitch_70 rfl ?_
        exact ih _ _ h hK
set_option maxRecDepth 20000 in
set_option maxHeartbeats 2000000 in
theorem sX10_meanPitch_L14 {wv : Nat} (M : Mm) (c1 : Int32) {res : (UInt64 × Mm)} {K : Int32 → Int32 → Option (UInt64 × Mm)} : ∀ (n : Nat) (v2 : Int32) (v3 : Int32), fX10_meanPitch_L14 M c1 K n v2 v3 = some res →
    (∀ (v2 : Int32) (v3 : Int32), K v2 v3 = some res → Z RX10 cX10_meanPitch 5 (some .double) [] "meanPitch" (rmD 3 0 0) (QM SH (allR (wv + 1)) 0 0 (fun v M9 => v = some (.double res.1) ∧ M9 = res.2) (fun _ _ => False)) (allR (wv + 1)) SH 0 0 79 [some (.inr (18, 0, 0)), some (.inl (.int c1)), some (.inl (.int v2)), some (.inl (.int v3)), none] [] M) → Z RX10 cX10_meanPitch 5 (some .double) [] "meanPitch" (rmD 3 0 0) (QM SH (allR (wv + 1)) 0 0 (fun v M9 => v = some (.double res.1) ∧ M9 = res.2) (fun _ _ => False)) (allR (wv + 1)) SH 0 0 14 [some (.inr (18, 0, 0)), some (.inl (.int c1)), some (.inl (.int v2)), some (.inl (.int v3)), none] [] M := by
  intro n
  induction n with
  | zero => intro v2 v3 h; cases h
  | succ n ih =>
    intro v2 v3 h hK
    rw [fX10_meanPitch_L14] at h
    refine z_iload_n (i := 3) dX10_meanPitch_14 rfl rfl ?_
    refine z_aload_n (i := 0) dX10_meanPitch_15 rfl rfl ?_
    refine z_getR (r' := (19, 0, 0)) dX10_meanPitch_16 fl_X10_7 mk18 rfl rfl ?_
    refine z_iconst (v := (0 : Int32)) dX10_meanPitch_19 kc_0 ?_
    refine z_iald (x := (M.1 (19, 0, 0) 0)) dX10_meanPitch_20 (m19 _ (Nat.le_of_ble_eq_true rfl)) rfl (by decide) rfl ?_
    refine z_icmp_ge (tgt := 79) dX10_meanPitch_21 rfl (fun hc4 => ?_) (fun hc4 => ?_)
    · have h := it_t h hc4
      exact hK _ _ h
    · have h := it_f h hc4
      refine z_iconst (v := (0 : Int32)) dX10_meanPitch_24 kc_0 ?_
      refine z_istore (i := 4) dX10_meanPitch_25 (Nat.le_of_ble_eq_true rfl) rfl ?_
      refine sX10_meanPitch_L27 M c1 v3 NF _ _ h (fun w13 w14 h => ?_)
      refine z_iinc (i := 3) (v := (v3 + (1 : Int32))) dX10_meanPitch_73 rfl (iinc_k kc_1) (Nat.le_of_ble_eq_true rfl) rfl ?_
      refine z_goto (tgt := 14) dX10_meanPitch_76 rfl ?_
      refine z_fgt (i := 4) ?_
      exact ih _ _ h hK
set_option maxRecDepth 20000 in
set_option maxHeartbeats 2000000 in
theorem sX10_meanPitch {wv : Nat} (M : Mm) (x1 : Int32) {res : (UInt64 × Mm)} (h : fX10_meanPitch M x1 = some res) : TF (wv + 1) yX10_meanPitch cX10_meanPitch 5 (some .double) 3 [.inr (18, 0, 0), .inl (.int x1)] M (some (.double res.1)) res.2 := by
  rw [fX10_meanPitch] at h
  refine TF.go (n := 3) (ls := [some (.inr (18, 0, 0)), some (.inl (.int x1)), none, none, none]) rfl rfl rfl rfl rfl ?_
  refine z_aload_n (i := 0) dX10_meanPitch_0 rfl rfl ?_
  refine z_iload_n (i := 1) dX10_meanPitch_1 rfl rfl ?_
  obtain ⟨q1, hq2, h⟩ := bnd h
  refine z_fVi (sX10_findsTune M x1 hq2) dX10_meanPitch_2 ml_X10_303 cd_X10_findsTune mk18 rfl rfl rfl rfl rfl rfl ?_
  refine z_if_ne (tgt := 10) dX10_meanPitch_5 rfl (fun hc3 => ?_) (fun hc3 => ?_)
  · have h := it_f h hc3
    refine z_iconst (v := (0 : Int32)) dX10_meanPitch_10 kc_0 ?_
    refine z_istore_n (i := 2) dX10_meanPitch_11 rfl (Nat.le_of_ble_eq_true rfl) rfl ?_
    refine z_iconst (v := (0 : Int32)) dX10_meanPitch_12 kc_0 ?_
    refine z_istore_n (i := 3) dX10_meanPitch_13 rfl (Nat.le_of_ble_eq_true rfl) rfl ?_
    refine sX10_meanPitch_L14 q1.2 x1 NF _ _ h (fun w15 w16 h => ?_)
    refine z_aload_n (i := 0) dX10_meanPitch_79 rfl rfl ?_
    refine z_iload_n (i := 1) dX10_meanPitch_80 rfl rfl ?_
    obtain ⟨q17, hq18, h⟩ := bnd h
    refine z_fVi (sX10_pins q1.2 x1 hq18) dX10_meanPitch_81 ml_X10_306 cd_X10_pins mk18 rfl rfl rfl rfl rfl rfl ?_
    refine z_if_ne (tgt := 91) dX10_meanPitch_84 rfl (fun hc19 => ?_) (fun hc19 => ?_)
    · have h := it_f h hc19
      refine z_iload_n (i := 2) dX10_meanPitch_91 rfl rfl ?_
      refine z_i2d dX10_meanPitch_92 ?_
      refine z_aload_n (i := 0) dX10_meanPitch_93 rfl rfl ?_
      refine z_iload_n (i := 1) dX10_meanPitch_94 rfl rfl ?_
      obtain ⟨q20, hq21, h⟩ := bnd h
      refine z_fVi (sX10_pins q1.2 x1 hq21) dX10_meanPitch_95 ml_X10_306 cd_X10_pins mk18 rfl rfl rfl rfl rfl rfl ?_
      refine z_i2d dX10_meanPitch_98 ?_
      obtain ⟨hc22, h⟩ := chk2 h
      refine z_ddiv dX10_meanPitch_99 hc22 ?_
      cases h
      exact z_dret dX10_meanPitch_100 rfl (Nat.le_refl _) (Nat.le_refl _) ⟨rfl, rfl⟩
    · have h := it_t h hc19
      refine z_dconst0 dX10_meanPitch_87 ?_
      refine z_goto (tgt := 100) dX10_meanPitch_88 rfl ?_
      cases h
      exact z_dret dX10_meanPitch_100 rfl (Nat.le_refl _) (Nat.le_refl _) ⟨rfl, rfl⟩
  · have h := it_t h hc3
    refine z_dconst0 dX10_meanPitch_8 ?_
    cases h
    exact z_dret dX10_meanPitch_9 rfl (Nat.le_refl _) (Nat.le_refl _) ⟨rfl, rfl⟩
theorem dX10_density_0 : decode cX10_density 0 = .ok (.aload_n 0, 1) := by decide +kernel
theorem dX10_density_1 : decode cX10_density 1 = .ok (.iload_n 1, 1) := by decide +kernel
theorem dX10_density_2 : decode cX10_density 2 = .ok (.invokevirtual 303, 3) := by decide +kernel
theorem dX10_density_5 : decode cX10_density 5 = .ok (.ifCond .eq 27, 3) := by decide +kernel
theorem dX10_density_8 : decode cX10_density 8 = .ok (.aload_n 0, 1) := by decide +kernel
theorem dX10_density_9 : decode cX10_density 9 = .ok (.iload_n 1, 1) := by decide +kernel
theorem dX10_density_10 : decode cX10_density 10 = .ok (.invokevirtual 306, 3) := by decide +kernel
theorem dX10_density_13 : decode cX10_density 13 = .ok (.i2f, 1) := by decide +kernel
theorem dX10_density_14 : decode cX10_density 14 = .ok (.aload_n 0, 1) := by decide +kernel
theorem dX10_density_15 : decode cX10_density 15 = .ok (.getfield 7, 3) := by decide +kernel
theorem dX10_density_18 : decode cX10_density 18 = .ok (.iconst 0, 1) := by decide +kernel
theorem dX10_density_19 : decode cX10_density 19 = .ok (.iaload, 1) := by decide +kernel
theorem dX10_density_20 : decode cX10_density 20 = .ok (.aload_n 0, 1) := by decide +kernel
theorem dX10_density_21 : decode cX10_density 21 = .ok (.getfield 7, 3) := by decide +kernel
theorem dX10_density_24 : decode cX10_density 24 = .ok (.iconst 3, 1) := by decide +kernel
theorem dX10_density_25 : decode cX10_density 25 = .ok (.iaload, 1) := by decide +kernel
theorem dX10_density_26 : decode cX10_density 26 = .ok (.imul, 1) := by decide +kernel
theorem dX10_density_27 : decode cX10_density 27 = .ok (.i2f, 1) := by decide +kernel
theorem dX10_density_28 : decode cX10_density 28 = .ok (.fdiv, 1) := by decide +kernel
theorem dX10_density_29 : decode cX10_density 29 = .ok (.goto 4, 3) := by decide +kernel
theorem dX10_density_32 : decode cX10_density 32 = .ok (.fconst 0, 1) := by decide +kernel
theorem dX10_density_33 : decode cX10_density 33 = .ok (.freturn, 1) := by decide +kernel
def fX10_density (M : Mm) (x1 : Int32) : Option (UInt32 × Mm) := (fX10_findsTune M x1).bind fun q1 => if q1.1 = 0 then some (FP.fconst0, q1.2) else (fX10_pins q1.2 x1).bind fun q4 => if (FP.fdiv (FP.i2f q4) (FP.i2f ((q1.2.1 (19, 0, 0) 0) * (q1.2.1 (19, 0, 0) 3)))) &&& 0x7fffffff ≤ 0x7f800000 then some ((FP.fdiv (FP.i2f q4) (FP.i2f ((q1.2.1 (19, 0, 0) 0) * (q1.2.1 (19, 0, 0) 3)))), q1.2) else none
set_option maxRecDepth 20000 in
set_option maxHeartbeats 2000000 in
theorem sX10_density {wv : Nat} (M : Mm) (x1 : Int32) {res : (UInt32 × Mm)} (h : fX10_density M x1 = some res) : TF (wv + 1) yX10_density cX10_density 2 (some .float) 3 [.inr (18, 0, 0), .inl (.int x1)] M (some (.float res.1)) res.2 := by
  rw [fX10_density] at h
  refine TF.go (n := 0) (ls := [some (.inr (18, 0, 0)), some (.inl (.int x1))]) rfl rfl rfl rfl rfl ?_
  refine z_aload_n (i := 0) dX10_density_0 rfl rfl ?_
  refine z_iload_n (i := 1) dX10_density_1 rfl rfl ?_
  obtain ⟨q1, hq2, h⟩ := bnd h
  refine z_fVi (sX10_findsTune M x1 hq2) dX10_density_2 ml_X10_303 cd_X10_findsTune mk18 rfl rfl rfl rfl rfl rfl ?_
  refine z_if_eq (tgt := 32) dX10_density_5 rfl (fun hc3 => ?_) (fun hc3 => ?_)
  · have h := it_t h hc3
    refine z_fconst0 dX10_density_32 ?_
    cases h
    exact z_fret dX10_density_33 rfl (Nat.le_refl _) (Nat.le_refl _) ⟨rfl, rfl⟩
  · have h := it_f h hc3
    refine z_aload_n (i := 0) dX10_density_8 rfl rfl ?_
    refine z_iload_n (i := 1) dX10_density_9 rfl rfl ?_
    obtain ⟨q4, hq5, h⟩ := bnd h
    refine z_fVi (sX10_pins q1.2 x1 hq5) dX10_density_10 ml_X10_306 cd_X10_pins mk18 rfl rfl rfl rfl rfl rfl ?_
    refine z_i2f dX10_density_13 ?_
    refine z_aload_n (i := 0) dX10_density_14 rfl rfl ?_
    refine z_getR (r' := (19, 0, 0)) dX10_density_15 fl_X10_7 mk18 rfl rfl ?_
    refine z_iconst (v := (0 : Int32)) dX10_density_18 kc_0 ?_
    refine z_iald (x := (q1.2.1 (19, 0, 0) 0)) dX10_density_19 (m19 _ (Nat.le_of_ble_eq_true rfl)) rfl (by decide) rfl ?_
    refine z_aload_n (i := 0) dX10_density_20 rfl rfl ?_
    refine z_getR (r' := (19, 0, 0)) dX10_density_21 fl_X10_7 mk18 rfl rfl ?_
    refine z_iconst (v := (3 : Int32)) dX10_density_24 kc_3 ?_
    refine z_iald (x := (q1.2.1 (19, 0, 0) 3)) dX10_density_25 (m19 _ (Nat.le_of_ble_eq_true rfl)) rfl (by decide) rfl ?_
    refine z_imul dX10_density_26 ?_
    refine z_i2f dX10_density_27 ?_
    obtain ⟨hc6, h⟩ := chk2 h
    refine z_fdiv dX10_density_28 hc6 ?_
    refine z_goto (tgt := 33) dX10_density_29 rfl ?_
    cases h
    exact z_fret dX10_density_33 rfl (Nat.le_refl _) (Nat.le_refl _) ⟨rfl, rfl⟩
