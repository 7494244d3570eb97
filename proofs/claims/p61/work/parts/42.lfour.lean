theorem dL_four_0 : decode cL_four 0 = .ok (.iconst 0, 1) := by decide +kernel
theorem dL_four_1 : decode cL_four 1 = .ok (.istore_n 2, 1) := by decide +kernel
theorem dL_four_2 : decode cL_four 2 = .ok (.iload_n 1, 1) := by decide +kernel
theorem dL_four_3 : decode cL_four 3 = .ok (.istore_n 3, 1) := by decide +kernel
theorem dL_four_4 : decode cL_four 4 = .ok (.iload_n 3, 1) := by decide +kernel
theorem dL_four_5 : decode cL_four 5 = .ok (.iload_n 1, 1) := by decide +kernel
theorem dL_four_6 : decode cL_four 6 = .ok (.iconst 4, 1) := by decide +kernel
theorem dL_four_7 : decode cL_four 7 = .ok (.iadd, 1) := by decide +kernel
theorem dL_four_8 : decode cL_four 8 = .ok (.if_icmp .ge 32, 3) := by decide +kernel
theorem dL_four_11 : decode cL_four 11 = .ok (.iload_n 2, 1) := by decide +kernel
theorem dL_four_12 : decode cL_four 12 = .ok (.bipush 8, 2) := by decide +kernel
theorem dL_four_14 : decode cL_four 14 = .ok (.ishl, 1) := by decide +kernel
theorem dL_four_15 : decode cL_four 15 = .ok (.iload_n 3, 1) := by decide +kernel
theorem dL_four_16 : decode cL_four 16 = .ok (.aload_n 0, 1) := by decide +kernel
theorem dL_four_17 : decode cL_four 17 = .ok (.invokevirtual 15, 3) := by decide +kernel
theorem dL_four_20 : decode cL_four 20 = .ok (.if_icmp .ge 11, 3) := by decide +kernel
theorem dL_four_23 : decode cL_four 23 = .ok (.aload_n 0, 1) := by decide +kernel
theorem dL_four_24 : decode cL_four 24 = .ok (.iload_n 3, 1) := by decide +kernel
theorem dL_four_25 : decode cL_four 25 = .ok (.invokevirtual 21, 3) := by decide +kernel
theorem dL_four_28 : decode cL_four 28 = .ok (.goto 4, 3) := by decide +kernel
theorem dL_four_31 : decode cL_four 31 = .ok (.iconst 0, 1) := by decide +kernel
theorem dL_four_32 : decode cL_four 32 = .ok (.ior, 1) := by decide +kernel
theorem dL_four_33 : decode cL_four 33 = .ok (.istore_n 2, 1) := by decide +kernel
theorem dL_four_34 : decode cL_four 34 = .ok (.iinc 3 1, 3) := by decide +kernel
theorem dL_four_37 : decode cL_four 37 = .ok (.goto (-33), 3) := by decide +kernel
theorem dL_four_40 : decode cL_four 40 = .ok (.iload_n 2, 1) := by decide +kernel
theorem dL_four_41 : decode cL_four 41 = .ok (.ireturn, 1) := by decide +kernel
def fL_four_L4 (z : Nat) (c1 : Int32) (K : Int32 → Int32 → Mm → Option (Int32 × Mm)) : Nat → Int32 → Int32 → Mm → Option (Int32 × Mm)
  | 0, _, _, _ => none
  | n + 1, v2, v3, M => if (c1 + (4 : Int32)) ≤ v3 then K v2 v3 M else (fJ0_length_8abf5M M z).bind fun q2 => if q2 ≤ v3 then fL_four_L4 z c1 K n ((v2 <<< ((8 : Int32) &&& 31)) ||| (0 : Int32)) (v3 + (1 : Int32)) M else (fJ0_charAt_5068eM M z v3).bind fun q5 => fL_four_L4 z c1 K n ((v2 <<< ((8 : Int32) &&& 31)) ||| q5) (v3 + (1 : Int32)) M
def fL_four (M : Mm) (z : Nat) (x2 : Int32) : Option (Int32 × Mm) := fL_four_L4 z x2 (fun w7 w8 M9 => some (w7, M9)) NF (0 : Int32) x2 M
set_option maxRecDepth 20000 in
set_option maxHeartbeats 4000000 in
theorem sL_four_L4 {w0 wv : Wv} (z : Nat) (c1 : Int32) (hw : SubW w0 wv) (stz : StI wv z) {res : (Int32 × Mm)} {K : Int32 → Int32 → Mm → Option (Int32 × Mm)} {CB SB : Nat} (hcb : CB ≤ 0) (hsb : SB ≤ 0) : ∀ (n : Nat) (v2 : Int32) (v3 : Int32) (M : Mm) (c s : Nat), c + n * 0 ≤ CB → s + n * 0 ≤ SB → fL_four_L4 z c1 K n v2 v3 M = some res →
    (∀ (v2 : Int32) (v3 : Int32) (M : Mm) (c s : Nat), c ≤ CB → s ≤ SB → K v2 v3 M = some res → Z RL cL_four 4 (some .int) [] "four" (rmD 7 0 0) (QM SH (allR w0) 0 0 (fun v M9 => v = some (.int res.1) ∧ M9 = res.2) (fun _ _ => False)) (allR wv) SH c s 40 [some (.inr (28, z, 0)), some (.inl (.int c1)), some (.inl (.int v2)), some (.inl (.int v3))] [] M) → Z RL cL_four 4 (some .int) [] "four" (rmD 7 0 0) (QM SH (allR w0) 0 0 (fun v M9 => v = some (.int res.1) ∧ M9 = res.2) (fun _ _ => False)) (allR wv) SH c s 4 [some (.inr (28, z, 0)), some (.inl (.int c1)), some (.inl (.int v2)), some (.inl (.int v3))] [] M := by
  intro n
  induction n with
  | zero => intro v2 v3 M c s _ _ h; cases h
  | succ n ih =>
    intro v2 v3 M c s hc hs h hK
    rw [fL_four_L4] at h
    refine z_iload_n (i := 3) dL_four_4 rfl rfl ?_
    refine z_iload_n (i := 1) dL_four_5 rfl rfl ?_
    refine z_iconst (v := (4 : Int32)) dL_four_6 kc_4 ?_
    refine z_iadd dL_four_7 ?_
    refine z_icmp_ge (tgt := 40) dL_four_8 rfl (fun hc1 => ?_) (fun hc1 => ?_)
    · have h := it_t h hc1
      exact hK _ _ _ _ _ (by omega) (by omega) h
    · have h := it_f h hc1
      refine z_iload_n (i := 2) dL_four_11 rfl rfl ?_
      refine z_bipush (v := (8 : Int32)) dL_four_12 kb_8 ?_
      refine z_ishl dL_four_14 ?_
      refine z_iload_n (i := 3) dL_four_15 rfl rfl ?_
      refine z_aload_n (i := 0) dL_four_16 rfl rfl ?_
      obtain ⟨q2, hq3, h⟩ := bnd h
      refine z_fVi (sJ0_length_8abf5M M z stz hq3) dL_four_17 ml_L_15 cd_J0_length_8abf5 stz.1 rfl rfl rfl (rmk_r (by decide) (by decide) (by omega) (by omega)) rfl rfl ?_
      refine z_icmp_ge (tgt := 31) dL_four_20 rfl (fun hc4 => ?_) (fun hc4 => ?_)
      · have h := it_t h hc4
        refine z_iconst (v := (0 : Int32)) dL_four_31 kc_0 ?_
        refine z_ior dL_four_32 ?_
        refine z_istore_n (i := 2) dL_four_33 rfl (Nat.le_of_ble_eq_true rfl) rfl ?_
        refine z_iinc (i := 3) (v := (v3 + (1 : Int32))) dL_four_34 rfl (iinc_k kc_1) (Nat.le_of_ble_eq_true rfl) rfl ?_
        refine z_goto (tgt := 4) dL_four_37 rfl ?_
        exact ih _ _ _ _ _ (by omega) (by omega) h hK
      · have h := it_f h hc4
        refine z_aload_n (i := 0) dL_four_23 rfl rfl ?_
        refine z_iload_n (i := 3) dL_four_24 rfl rfl ?_
        obtain ⟨q5, hq6, h⟩ := bnd h
        refine z_fVi (sJ0_charAt_5068eM M z v3 stz hq6) dL_four_25 ml_L_21 cd_J0_charAt_5068e stz.1 rfl rfl rfl (rmk_r (by decide) (by decide) (by omega) (by omega)) rfl rfl ?_
        refine z_goto (tgt := 32) dL_four_28 rfl ?_
        refine z_ior dL_four_32 ?_
        refine z_istore_n (i := 2) dL_four_33 rfl (Nat.le_of_ble_eq_true rfl) rfl ?_
        refine z_iinc (i := 3) (v := (v3 + (1 : Int32))) dL_four_34 rfl (iinc_k kc_1) (Nat.le_of_ble_eq_true rfl) rfl ?_
        refine z_goto (tgt := 4) dL_four_37 rfl ?_
        exact ih _ _ _ _ _ (by omega) (by omega) h hK
set_option maxRecDepth 20000 in
set_option maxHeartbeats 4000000 in
theorem sL_four {wv : Wv} (M : Mm) (z : Nat) (x2 : Int32) (hz : StI wv z) {res : (Int32 × Mm)} (h : fL_four M z x2 = some res) : TC wv yL_four cL_four 4 (some .int) 7 0 0 [.inr (28, z, 0), .inl (.int x2)] M (some (.int res.1)) res.2 := by
  rw [fL_four] at h
  refine TC.go (n := 2) (ls := [some (.inr (28, z, 0)), some (.inl (.int x2)), none, none]) (by decide +kernel) rfl rfl rfl rfl ?_
  refine z_iconst (v := (0 : Int32)) dL_four_0 kc_0 ?_
  refine z_istore_n (i := 2) dL_four_1 rfl (Nat.le_of_ble_eq_true rfl) rfl ?_
  refine z_iload_n (i := 1) dL_four_2 rfl rfl ?_
  refine z_istore_n (i := 3) dL_four_3 rfl (Nat.le_of_ble_eq_true rfl) rfl ?_
  refine sL_four_L4 z x2 swR hz (CB := 0 + 0) (SB := 0 + 0) (by omega) (by omega) NF _ _ _ _ _ (by simp only [Nat.mul_zero]; omega) (by simp only [Nat.mul_zero]; omega) h (fun w7 w8 M9 c8 s8 hc8 hs8 h => z_wid hc8 hs8 ?_)
  refine z_iload_n (i := 2) dL_four_40 rfl rfl ?_
  cases h
  exact z_iret dL_four_41 rfl rfl (by omega) (by omega) ⟨rfl, rfl⟩
