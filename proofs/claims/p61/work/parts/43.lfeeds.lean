theorem dL_feeds_0 : decode cL_feeds 0 = .ok (.iconst 0, 1) := by decide +kernel
theorem dL_feeds_1 : decode cL_feeds 1 = .ok (.istore_n 2, 1) := by decide +kernel
theorem dL_feeds_2 : decode cL_feeds 2 = .ok (.iconst 0, 1) := by decide +kernel
theorem dL_feeds_3 : decode cL_feeds 3 = .ok (.istore_n 3, 1) := by decide +kernel
theorem dL_feeds_4 : decode cL_feeds 4 = .ok (.iload_n 3, 1) := by decide +kernel
theorem dL_feeds_5 : decode cL_feeds 5 = .ok (.aload_n 1, 1) := by decide +kernel
theorem dL_feeds_6 : decode cL_feeds 6 = .ok (.invokevirtual 15, 3) := by decide +kernel
theorem dL_feeds_9 : decode cL_feeds 9 = .ok (.if_icmp .ge 50, 3) := by decide +kernel
theorem dL_feeds_12 : decode cL_feeds 12 = .ok (.aload_n 0, 1) := by decide +kernel
theorem dL_feeds_13 : decode cL_feeds 13 = .ok (.aload_n 1, 1) := by decide +kernel
theorem dL_feeds_14 : decode cL_feeds 14 = .ok (.iload_n 3, 1) := by decide +kernel
theorem dL_feeds_15 : decode cL_feeds 15 = .ok (.invokestatic 25, 3) := by decide +kernel
theorem dL_feeds_18 : decode cL_feeds 18 = .ok (.aload_n 1, 1) := by decide +kernel
theorem dL_feeds_19 : decode cL_feeds 19 = .ok (.iload_n 3, 1) := by decide +kernel
theorem dL_feeds_20 : decode cL_feeds 20 = .ok (.iconst 4, 1) := by decide +kernel
theorem dL_feeds_21 : decode cL_feeds 21 = .ok (.iadd, 1) := by decide +kernel
theorem dL_feeds_22 : decode cL_feeds 22 = .ok (.invokestatic 25, 3) := by decide +kernel
theorem dL_feeds_25 : decode cL_feeds 25 = .ok (.aload_n 1, 1) := by decide +kernel
theorem dL_feeds_26 : decode cL_feeds 26 = .ok (.iload_n 3, 1) := by decide +kernel
theorem dL_feeds_27 : decode cL_feeds 27 = .ok (.bipush 8, 2) := by decide +kernel
theorem dL_feeds_29 : decode cL_feeds 29 = .ok (.iadd, 1) := by decide +kernel
theorem dL_feeds_30 : decode cL_feeds 30 = .ok (.invokestatic 25, 3) := by decide +kernel
theorem dL_feeds_33 : decode cL_feeds 33 = .ok (.aload_n 1, 1) := by decide +kernel
theorem dL_feeds_34 : decode cL_feeds 34 = .ok (.iload_n 3, 1) := by decide +kernel
theorem dL_feeds_35 : decode cL_feeds 35 = .ok (.bipush 12, 2) := by decide +kernel
theorem dL_feeds_37 : decode cL_feeds 37 = .ok (.iadd, 1) := by decide +kernel
theorem dL_feeds_38 : decode cL_feeds 38 = .ok (.invokestatic 25, 3) := by decide +kernel
theorem dL_feeds_41 : decode cL_feeds 41 = .ok (.aload_n 1, 1) := by decide +kernel
theorem dL_feeds_42 : decode cL_feeds 42 = .ok (.iload_n 3, 1) := by decide +kernel
theorem dL_feeds_43 : decode cL_feeds 43 = .ok (.bipush 16, 2) := by decide +kernel
theorem dL_feeds_45 : decode cL_feeds 45 = .ok (.iadd, 1) := by decide +kernel
theorem dL_feeds_46 : decode cL_feeds 46 = .ok (.invokestatic 25, 3) := by decide +kernel
theorem dL_feeds_49 : decode cL_feeds 49 = .ok (.invokevirtual 29, 3) := by decide +kernel
theorem dL_feeds_52 : decode cL_feeds 52 = .ok (.istore_n 2, 1) := by decide +kernel
theorem dL_feeds_53 : decode cL_feeds 53 = .ok (.iinc 3 20, 3) := by decide +kernel
theorem dL_feeds_56 : decode cL_feeds 56 = .ok (.goto (-52), 3) := by decide +kernel
theorem dL_feeds_59 : decode cL_feeds 59 = .ok (.iload_n 2, 1) := by decide +kernel
theorem dL_feeds_60 : decode cL_feeds 60 = .ok (.aload_n 1, 1) := by decide +kernel
theorem dL_feeds_61 : decode cL_feeds 61 = .ok (.invokevirtual 15, 3) := by decide +kernel
theorem dL_feeds_64 : decode cL_feeds 64 = .ok (.if_icmp .ne 7, 3) := by decide +kernel
theorem dL_feeds_67 : decode cL_feeds 67 = .ok (.iconst 1, 1) := by decide +kernel
theorem dL_feeds_68 : decode cL_feeds 68 = .ok (.goto 4, 3) := by decide +kernel
theorem dL_feeds_71 : decode cL_feeds 71 = .ok (.iconst 0, 1) := by decide +kernel
theorem dL_feeds_72 : decode cL_feeds 72 = .ok (.ireturn, 1) := by decide +kernel
def fL_feeds_L4 (z : Nat) (K : Int32 → Int32 → Mm → Option (Int32 × Mm)) : Nat → Int32 → Int32 → Mm → Option (Int32 × Mm)
  | 0, _, _, _ => none
  | n + 1, v2, v3, M => (fJ0_length_8abf5M M z).bind fun q1 => if q1 ≤ v3 then K v2 v3 M else (fL_four M z v3).bind fun q4 => (fL_four q4.2 z (v3 + (4 : Int32))).bind fun q6 => (fL_four q6.2 z (v3 + (8 : Int32))).bind fun q8 => (fL_four q8.2 z (v3 + (12 : Int32))).bind fun q10 => (fL_four q10.2 z (v3 + (16 : Int32))).bind fun q12 => (fX9_append q12.2 q4.1 q6.1 q8.1 q10.1 q12.1).bind fun q14 => fL_feeds_L4 z K n q14.1 (v3 + (20 : Int32)) q14.2
def fL_feeds (M : Mm) (z : Nat) : Option (Int32 × Mm) := fL_feeds_L4 z (fun w16 w17 M18 => (fJ0_length_8abf5M M18 z).bind fun q19 => if w16 = q19 then some ((1 : Int32), M18) else some ((0 : Int32), M18)) NF (0 : Int32) (0 : Int32) M
set_option maxRecDepth 20000 in
set_option maxHeartbeats 4000000 in
theorem sL_feeds_L4 {w0 wv : Wv} (z : Nat) (hw : SubW w0 wv) (stz : StI wv z) {res : (Int32 × Mm)} {K : Int32 → Int32 → Mm → Option (Int32 × Mm)} {CB SB : Nat} (hcb : CB ≤ 0) (hsb : SB ≤ 0) : ∀ (n : Nat) (v2 : Int32) (v3 : Int32) (M : Mm) (c s : Nat), c + n * 0 ≤ CB → s + n * 0 ≤ SB → fL_feeds_L4 z K n v2 v3 M = some res →
    (∀ (v2 : Int32) (v3 : Int32) (M : Mm) (c s : Nat), c ≤ CB → s ≤ SB → K v2 v3 M = some res → Z RL cL_feeds 4 (some .boolean) [] "feeds" (rmD 8 0 0) (QM SH (allR w0) 0 0 (fun v M9 => v = some (.int res.1) ∧ M9 = res.2) (fun _ _ => False)) (allR wv) SH c s 59 [some (.inr (0, 0, 0)), some (.inr (28, z, 0)), some (.inl (.int v2)), some (.inl (.int v3))] [] M) → Z RL cL_feeds 4 (some .boolean) [] "feeds" (rmD 8 0 0) (QM SH (allR w0) 0 0 (fun v M9 => v = some (.int res.1) ∧ M9 = res.2) (fun _ _ => False)) (allR wv) SH c s 4 [some (.inr (0, 0, 0)), some (.inr (28, z, 0)), some (.inl (.int v2)), some (.inl (.int v3))] [] M := by
  intro n
  induction n with
  | zero => intro v2 v3 M c s _ _ h; cases h
  | succ n ih =>
    intro v2 v3 M c s hc hs h hK
    rw [fL_feeds_L4] at h
    refine z_iload_n (i := 3) dL_feeds_4 rfl rfl ?_
    refine z_aload_n (i := 1) dL_feeds_5 rfl rfl ?_
    obtain ⟨q1, hq2, h⟩ := bnd h
    refine z_fVi (sJ0_length_8abf5M M z stz hq2) dL_feeds_6 ml_L_15 cd_J0_length_8abf5 stz.1 rfl rfl rfl (rmk_r (by decide) (by decide) (by omega) (by omega)) rfl rfl ?_
    refine z_icmp_ge (tgt := 59) dL_feeds_9 rfl (fun hc3 => ?_) (fun hc3 => ?_)
    · have h := it_t h hc3
      exact hK _ _ _ _ _ (by omega) (by omega) h
    · have h := it_f h hc3
      refine z_aload_n (i := 0) dL_feeds_12 rfl rfl ?_
      refine z_aload_n (i := 1) dL_feeds_13 rfl rfl ?_
      refine z_iload_n (i := 3) dL_feeds_14 rfl rfl ?_
      obtain ⟨q4, hq5, h⟩ := bnd h
      refine z_gSi (sL_four  M z v3 stz hq5) dL_feeds_15 ml_L_25 cd_L_four rfl rfl (rq_o (by decide) (by decide) (by omega) (by omega)) rfl rfl ?_
      refine z_aload_n (i := 1) dL_feeds_18 rfl rfl ?_
      refine z_iload_n (i := 3) dL_feeds_19 rfl rfl ?_
      refine z_iconst (v := (4 : Int32)) dL_feeds_20 kc_4 ?_
      refine z_iadd dL_feeds_21 ?_
      obtain ⟨q6, hq7, h⟩ := bnd h
      refine z_gSi (sL_four  q4.2 z (v3 + (4 : Int32)) stz hq7) dL_feeds_22 ml_L_25 cd_L_four rfl rfl (rq_o (by decide) (by decide) (by omega) (by omega)) rfl rfl ?_
      refine z_aload_n (i := 1) dL_feeds_25 rfl rfl ?_
      refine z_iload_n (i := 3) dL_feeds_26 rfl rfl ?_
      refine z_bipush (v := (8 : Int32)) dL_feeds_27 kb_8 ?_
      refine z_iadd dL_feeds_29 ?_
      obtain ⟨q8, hq9, h⟩ := bnd h
      refine z_gSi (sL_four  q6.2 z (v3 + (8 : Int32)) stz hq9) dL_feeds_30 ml_L_25 cd_L_four rfl rfl (rq_o (by decide) (by decide) (by omega) (by omega)) rfl rfl ?_
      refine z_aload_n (i := 1) dL_feeds_33 rfl rfl ?_
      refine z_iload_n (i := 3) dL_feeds_34 rfl rfl ?_
      refine z_bipush (v := (12 : Int32)) dL_feeds_35 kb_12 ?_
      refine z_iadd dL_feeds_37 ?_
      obtain ⟨q10, hq11, h⟩ := bnd h
      refine z_gSi (sL_four  q8.2 z (v3 + (12 : Int32)) stz hq11) dL_feeds_38 ml_L_25 cd_L_four rfl rfl (rq_o (by decide) (by decide) (by omega) (by omega)) rfl rfl ?_
      refine z_aload_n (i := 1) dL_feeds_41 rfl rfl ?_
      refine z_iload_n (i := 3) dL_feeds_42 rfl rfl ?_
      refine z_bipush (v := (16 : Int32)) dL_feeds_43 kb_16 ?_
      refine z_iadd dL_feeds_45 ?_
      obtain ⟨q12, hq13, h⟩ := bnd h
      refine z_gSi (sL_four  q10.2 z (v3 + (16 : Int32)) stz hq13) dL_feeds_46 ml_L_25 cd_L_four rfl rfl (rq_o (by decide) (by decide) (by omega) (by omega)) rfl rfl ?_
      obtain ⟨q14, hq15, h⟩ := bnd h
      refine z_fVi (sX9_append q12.2 q4.1 q6.1 q8.1 q10.1 q12.1 hq15) dL_feeds_49 ml_L_29 cd_X9_append mk0 rfl rfl rfl (rmk_r (by decide) (by decide) (by omega) (by omega)) rfl rfl ?_
      refine z_istore_n (i := 2) dL_feeds_52 rfl (Nat.le_of_ble_eq_true rfl) rfl ?_
      refine z_iinc (i := 3) (v := (v3 + (20 : Int32))) dL_feeds_53 rfl (iinc_k kc_20) (Nat.le_of_ble_eq_true rfl) rfl ?_
      refine z_goto (tgt := 4) dL_feeds_56 rfl ?_
      exact ih _ _ _ _ _ (by omega) (by omega) h hK
set_option maxRecDepth 20000 in
set_option maxHeartbeats 4000000 in
theorem sL_feeds {wv : Wv} (M : Mm) (z : Nat) (hz : StI wv z) {res : (Int32 × Mm)} (h : fL_feeds M z = some res) : TC wv yL_feeds cL_feeds 4 (some .boolean) 8 0 0 [.inr (0, 0, 0), .inr (28, z, 0)] M (some (.int res.1)) res.2 := by
  rw [fL_feeds] at h
  refine TC.go (n := 2) (ls := [some (.inr (0, 0, 0)), some (.inr (28, z, 0)), none, none]) (by decide +kernel) rfl rfl rfl rfl ?_
  refine z_iconst (v := (0 : Int32)) dL_feeds_0 kc_0 ?_
  refine z_istore_n (i := 2) dL_feeds_1 rfl (Nat.le_of_ble_eq_true rfl) rfl ?_
  refine z_iconst (v := (0 : Int32)) dL_feeds_2 kc_0 ?_
  refine z_istore_n (i := 3) dL_feeds_3 rfl (Nat.le_of_ble_eq_true rfl) rfl ?_
  refine sL_feeds_L4 z swR hz (CB := 0 + 0) (SB := 0 + 0) (by omega) (by omega) NF _ _ _ _ _ (by simp only [Nat.mul_zero]; omega) (by simp only [Nat.mul_zero]; omega) h (fun w16 w17 M18 c8 s8 hc8 hs8 h => z_wid hc8 hs8 ?_)
  refine z_iload_n (i := 2) dL_feeds_59 rfl rfl ?_
  refine z_aload_n (i := 1) dL_feeds_60 rfl rfl ?_
  obtain ⟨q19, hq20, h⟩ := bnd h
  refine z_fVi (sJ0_length_8abf5M M18 z hz hq20) dL_feeds_61 ml_L_15 cd_J0_length_8abf5 hz.1 rfl rfl rfl (rmk_r (by decide) (by decide) (by omega) (by omega)) rfl rfl ?_
  refine z_icmp_ne (tgt := 71) dL_feeds_64 rfl (fun hc21 => ?_) (fun hc21 => ?_)
  · have h := it_f h hc21
    refine z_iconst (v := (0 : Int32)) dL_feeds_71 kc_0 ?_
    cases h
    exact z_iret dL_feeds_72 rfl rfl (by omega) (by omega) ⟨rfl, rfl⟩
  · have h := it_t h hc21
    refine z_iconst (v := (1 : Int32)) dL_feeds_67 kc_1 ?_
    refine z_goto (tgt := 72) dL_feeds_68 rfl ?_
    cases h
    exact z_iret dL_feeds_72 rfl rfl (by omega) (by omega) ⟨rfl, rfl⟩
