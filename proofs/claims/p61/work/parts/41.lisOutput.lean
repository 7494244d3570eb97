theorem dL_isOutput_0 : decode cL_isOutput 0 = .ok (.iload_n 1, 1) := by decide +kernel
theorem dL_isOutput_1 : decode cL_isOutput 1 = .ok (.aload_n 2, 1) := by decide +kernel
theorem dL_isOutput_2 : decode cL_isOutput 2 = .ok (.invokevirtual 15, 3) := by decide +kernel
theorem dL_isOutput_5 : decode cL_isOutput 5 = .ok (.if_icmp .eq 5, 3) := by decide +kernel
theorem dL_isOutput_8 : decode cL_isOutput 8 = .ok (.iconst 0, 1) := by decide +kernel
theorem dL_isOutput_9 : decode cL_isOutput 9 = .ok (.ireturn, 1) := by decide +kernel
theorem dL_isOutput_10 : decode cL_isOutput 10 = .ok (.iconst 0, 1) := by decide +kernel
theorem dL_isOutput_11 : decode cL_isOutput 11 = .ok (.istore_n 3, 1) := by decide +kernel
theorem dL_isOutput_12 : decode cL_isOutput 12 = .ok (.iload_n 3, 1) := by decide +kernel
theorem dL_isOutput_13 : decode cL_isOutput 13 = .ok (.iload_n 1, 1) := by decide +kernel
theorem dL_isOutput_14 : decode cL_isOutput 14 = .ok (.if_icmp .gt 33, 3) := by decide +kernel
theorem dL_isOutput_17 : decode cL_isOutput 17 = .ok (.aload_n 0, 1) := by decide +kernel
theorem dL_isOutput_18 : decode cL_isOutput 18 = .ok (.iload_n 3, 1) := by decide +kernel
theorem dL_isOutput_19 : decode cL_isOutput 19 = .ok (.invokevirtual 35, 3) := by decide +kernel
theorem dL_isOutput_22 : decode cL_isOutput 22 = .ok (.iload_n 3, 1) := by decide +kernel
theorem dL_isOutput_23 : decode cL_isOutput 23 = .ok (.iload_n 1, 1) := by decide +kernel
theorem dL_isOutput_24 : decode cL_isOutput 24 = .ok (.if_icmp .ne 7, 3) := by decide +kernel
theorem dL_isOutput_27 : decode cL_isOutput 27 = .ok (.iconst (-1), 1) := by decide +kernel
theorem dL_isOutput_28 : decode cL_isOutput 28 = .ok (.goto 8, 3) := by decide +kernel
theorem dL_isOutput_31 : decode cL_isOutput 31 = .ok (.aload_n 2, 1) := by decide +kernel
theorem dL_isOutput_32 : decode cL_isOutput 32 = .ok (.iload_n 3, 1) := by decide +kernel
theorem dL_isOutput_33 : decode cL_isOutput 33 = .ok (.invokevirtual 21, 3) := by decide +kernel
theorem dL_isOutput_36 : decode cL_isOutput 36 = .ok (.if_icmp .eq 5, 3) := by decide +kernel
theorem dL_isOutput_39 : decode cL_isOutput 39 = .ok (.iconst 0, 1) := by decide +kernel
theorem dL_isOutput_40 : decode cL_isOutput 40 = .ok (.ireturn, 1) := by decide +kernel
theorem dL_isOutput_41 : decode cL_isOutput 41 = .ok (.iinc 3 1, 3) := by decide +kernel
theorem dL_isOutput_44 : decode cL_isOutput 44 = .ok (.goto (-32), 3) := by decide +kernel
theorem dL_isOutput_47 : decode cL_isOutput 47 = .ok (.iconst 1, 1) := by decide +kernel
theorem dL_isOutput_48 : decode cL_isOutput 48 = .ok (.ireturn, 1) := by decide +kernel
def fL_isOutput_L12 (z : Nat) (c1 : Int32) (K : Int32 → Mm → Option (Int32 × Mm)) : Nat → Int32 → Mm → Option (Int32 × Mm)
  | 0, _, _ => none
  | n + 1, v3, M => if c1 < v3 then K v3 M else (fX9_outputByte M v3).bind fun q5 => if v3 = c1 then (if q5 = (-1 : Int32) then fL_isOutput_L12 z c1 K n (v3 + (1 : Int32)) M else some ((0 : Int32), M)) else (fJ0_charAt_5068eM M z v3).bind fun q8 => if q5 = q8 then fL_isOutput_L12 z c1 K n (v3 + (1 : Int32)) M else some ((0 : Int32), M)
def fL_isOutput (M : Mm) (x2 : Int32) (z : Nat) : Option (Int32 × Mm) := (fJ0_length_8abf5M M z).bind fun q1 => if x2 = q1 then (fL_isOutput_L12 z x2 (fun w12 M13 => some ((1 : Int32), M13)) NF (0 : Int32) M) else some ((0 : Int32), M)
set_option maxRecDepth 20000 in
set_option maxHeartbeats 4000000 in
theorem sL_isOutput_L12 {w0 wv : Wv} (z : Nat) (c1 : Int32) (hw : SubW w0 wv) (stz : StI wv z) {res : (Int32 × Mm)} {K : Int32 → Mm → Option (Int32 × Mm)} {CB SB : Nat} (hcb : CB ≤ 0) (hsb : SB ≤ 0) : ∀ (n : Nat) (v3 : Int32) (M : Mm) (c s : Nat), c + n * 0 ≤ CB → s + n * 0 ≤ SB → fL_isOutput_L12 z c1 K n v3 M = some res →
    (∀ (v3 : Int32) (M : Mm) (c s : Nat), c ≤ CB → s ≤ SB → K v3 M = some res → Z RL cL_isOutput 4 (some .boolean) [] "isOutput" (rmD 7 0 0) (QM SH (allR w0) 0 0 (fun v M9 => v = some (.int res.1) ∧ M9 = res.2) (fun _ _ => False)) (allR wv) SH c s 47 [some (.inr (0, 0, 0)), some (.inl (.int c1)), some (.inr (28, z, 0)), some (.inl (.int v3))] [] M) → Z RL cL_isOutput 4 (some .boolean) [] "isOutput" (rmD 7 0 0) (QM SH (allR w0) 0 0 (fun v M9 => v = some (.int res.1) ∧ M9 = res.2) (fun _ _ => False)) (allR wv) SH c s 12 [some (.inr (0, 0, 0)), some (.inl (.int c1)), some (.inr (28, z, 0)), some (.inl (.int v3))] [] M := by
  intro n
  induction n with
  | zero => intro v3 M c s _ _ h; cases h
  | succ n ih =>
    intro v3 M c s hc hs h hK
    rw [fL_isOutput_L12] at h
    refine z_iload_n (i := 3) dL_isOutput_12 rfl rfl ?_
    refine z_iload_n (i := 1) dL_isOutput_13 rfl rfl ?_
    refine z_icmp_gt (tgt := 47) dL_isOutput_14 rfl (fun hc4 => ?_) (fun hc4 => ?_)
    · have h := it_t h hc4
      exact hK _ _ _ _ (by omega) (by omega) h
    · have h := it_f h hc4
      refine z_aload_n (i := 0) dL_isOutput_17 rfl rfl ?_
      refine z_iload_n (i := 3) dL_isOutput_18 rfl rfl ?_
      obtain ⟨q5, hq6, h⟩ := bnd h
      refine z_fVi (sX9_outputByte M v3 hq6) dL_isOutput_19 ml_L_35 cd_X9_outputByte mk0 rfl rfl rfl (rmk_r (by decide) (by decide) (by omega) (by omega)) rfl rfl ?_
      refine z_iload_n (i := 3) dL_isOutput_22 rfl rfl ?_
      refine z_iload_n (i := 1) dL_isOutput_23 rfl rfl ?_
      refine z_icmp_ne (tgt := 31) dL_isOutput_24 rfl (fun hc7 => ?_) (fun hc7 => ?_)
      · have h := it_f h hc7
        refine z_aload_n (i := 2) dL_isOutput_31 rfl rfl ?_
        refine z_iload_n (i := 3) dL_isOutput_32 rfl rfl ?_
        obtain ⟨q8, hq9, h⟩ := bnd h
        refine z_fVi (sJ0_charAt_5068eM M z v3 stz hq9) dL_isOutput_33 ml_L_21 cd_J0_charAt_5068e stz.1 rfl rfl rfl (rmk_r (by decide) (by decide) (by omega) (by omega)) rfl rfl ?_
        refine z_icmp_eq (tgt := 41) dL_isOutput_36 rfl (fun hc10 => ?_) (fun hc10 => ?_)
        · have h := it_t h hc10
          refine z_iinc (i := 3) (v := (v3 + (1 : Int32))) dL_isOutput_41 rfl (iinc_k kc_1) (Nat.le_of_ble_eq_true rfl) rfl ?_
          refine z_goto (tgt := 12) dL_isOutput_44 rfl ?_
          exact ih _ _ _ _ (by omega) (by omega) h hK
        · have h := it_f h hc10
          refine z_iconst (v := (0 : Int32)) dL_isOutput_39 kc_0 ?_
          cases h
          refine z_sub hw ?_
          exact z_iret dL_isOutput_40 rfl rfl (by omega) (by omega) ⟨rfl, rfl⟩
      · have h := it_t h hc7
        refine z_iconst (v := (-1 : Int32)) dL_isOutput_27 kc_m1 ?_
        refine z_goto (tgt := 36) dL_isOutput_28 rfl ?_
        refine z_icmp_eq (tgt := 41) dL_isOutput_36 rfl (fun hc11 => ?_) (fun hc11 => ?_)
        · have h := it_t h hc11
          refine z_iinc (i := 3) (v := (v3 + (1 : Int32))) dL_isOutput_41 rfl (iinc_k kc_1) (Nat.le_of_ble_eq_true rfl) rfl ?_
          refine z_goto (tgt := 12) dL_isOutput_44 rfl ?_
          exact ih _ _ _ _ (by omega) (by omega) h hK
        · have h := it_f h hc11
          refine z_iconst (v := (0 : Int32)) dL_isOutput_39 kc_0 ?_
          cases h
          refine z_sub hw ?_
          exact z_iret dL_isOutput_40 rfl rfl (by omega) (by omega) ⟨rfl, rfl⟩
set_option maxRecDepth 20000 in
set_option maxHeartbeats 4000000 in
theorem sL_isOutput {wv : Wv} (M : Mm) (x2 : Int32) (z : Nat) (hz : StI wv z) {res : (Int32 × Mm)} (h : fL_isOutput M x2 z = some res) : TC wv yL_isOutput cL_isOutput 4 (some .boolean) 7 0 0 [.inr (0, 0, 0), .inl (.int x2), .inr (28, z, 0)] M (some (.int res.1)) res.2 := by
  rw [fL_isOutput] at h
  refine TC.go (n := 1) (ls := [some (.inr (0, 0, 0)), some (.inl (.int x2)), some (.inr (28, z, 0)), none]) (by decide +kernel) rfl rfl rfl rfl ?_
  refine z_iload_n (i := 1) dL_isOutput_0 rfl rfl ?_
  refine z_aload_n (i := 2) dL_isOutput_1 rfl rfl ?_
  obtain ⟨q1, hq2, h⟩ := bnd h
  refine z_fVi (sJ0_length_8abf5M M z hz hq2) dL_isOutput_2 ml_L_15 cd_J0_length_8abf5 hz.1 rfl rfl rfl (rmk_r (by decide) (by decide) (by omega) (by omega)) rfl rfl ?_
  refine z_icmp_eq (tgt := 10) dL_isOutput_5 rfl (fun hc3 => ?_) (fun hc3 => ?_)
  · have h := it_t h hc3
    refine z_iconst (v := (0 : Int32)) dL_isOutput_10 kc_0 ?_
    refine z_istore_n (i := 3) dL_isOutput_11 rfl (Nat.le_of_ble_eq_true rfl) rfl ?_
    refine sL_isOutput_L12 z x2 swR hz (CB := 0 + 0) (SB := 0 + 0) (by omega) (by omega) NF _ _ _ _ (by simp only [Nat.mul_zero]; omega) (by simp only [Nat.mul_zero]; omega) h (fun w12 M13 c8 s8 hc8 hs8 h => z_wid hc8 hs8 ?_)
    refine z_iconst (v := (1 : Int32)) dL_isOutput_47 kc_1 ?_
    cases h
    exact z_iret dL_isOutput_48 rfl rfl (by omega) (by omega) ⟨rfl, rfl⟩
  · have h := it_f h hc3
    refine z_iconst (v := (0 : Int32)) dL_isOutput_8 kc_0 ?_
    cases h
    exact z_iret dL_isOutput_9 rfl rfl (by omega) (by omega) ⟨rfl, rfl⟩
