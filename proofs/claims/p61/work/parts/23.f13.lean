theorem dX10_plays_0 : decode cX10_plays 0 = .ok (.iconst 0, 1) := by decide +kernel
theorem dX10_plays_1 : decode cX10_plays 1 = .ok (.istore_n 2, 1) := by decide +kernel
theorem dX10_plays_2 : decode cX10_plays 2 = .ok (.iload_n 2, 1) := by decide +kernel
theorem dX10_plays_3 : decode cX10_plays 3 = .ok (.iload_n 1, 1) := by decide +kernel
theorem dX10_plays_4 : decode cX10_plays 4 = .ok (.if_icmp .ge 16, 3) := by decide +kernel
theorem dX10_plays_7 : decode cX10_plays 7 = .ok (.aload_n 0, 1) := by decide +kernel
theorem dX10_plays_8 : decode cX10_plays 8 = .ok (.invokevirtual 95, 3) := by decide +kernel
theorem dX10_plays_11 : decode cX10_plays 11 = .ok (.ifCond .eq 9, 3) := by decide +kernel
theorem dX10_plays_14 : decode cX10_plays 14 = .ok (.iinc 2 1, 3) := by decide +kernel
theorem dX10_plays_17 : decode cX10_plays 17 = .ok (.goto (-15), 3) := by decide +kernel
theorem dX10_plays_20 : decode cX10_plays 20 = .ok (.iload_n 2, 1) := by decide +kernel
theorem dX10_plays_21 : decode cX10_plays 21 = .ok (.ireturn, 1) := by decide +kernel
def fX10_plays_L2 (k : Nat) (c1 : Int32) (K : Int32 → Mm → Option (Int32 × Mm)) : Nat → Int32 → Mm → Option (Int32 × Mm)
  | 0, _, _ => none
  | n + 1, v2, M => if c1 ≤ v2 then K v2 M else (fX10_step M k).bind fun q2 => if q2.1 = 0 then K v2 q2.2 else fX10_plays_L2 k c1 K n (v2 + (1 : Int32)) q2.2
def fX10_plays (M : Mm) (k : Nat) (x1 : Int32) : Option (Int32 × Mm) := fX10_plays_L2 k x1 (fun w5 M6 => some (w5, M6)) NF (0 : Int32) M
set_option maxRecDepth 20000 in
set_option maxHeartbeats 2000000 in
theorem sX10_plays_L2 {wv : Wv} (k : Nat) (c1 : Int32) (hk : OwI wv k) {res : (Int32 × Mm)} {K : Int32 → Mm → Option (Int32 × Mm)} : ∀ (n : Nat) (v2 : Int32) (M : Mm), fX10_plays_L2 k c1 K n v2 M = some res →
    (∀ (v2 : Int32) (M : Mm), K v2 M = some res → Z RX10 cX10_plays 3 (some .int) [] "plays" (rmD 4 0 0) (QM SH (allR wv) 0 0 (fun v M9 => v = some (.int res.1) ∧ M9 = res.2) (fun _ _ => False)) (allR wv) SH 0 0 20 [some (.inr (18, k, 0)), some (.inl (.int c1)), some (.inl (.int v2))] [] M) → Z RX10 cX10_plays 3 (some .int) [] "plays" (rmD 4 0 0) (QM SH (allR wv) 0 0 (fun v M9 => v = some (.int res.1) ∧ M9 = res.2) (fun _ _ => False)) (allR wv) SH 0 0 2 [some (.inr (18, k, 0)), some (.inl (.int c1)), some (.inl (.int v2))] [] M := by
  intro n
  induction n with
  | zero => intro v2 M h; cases h
  | succ n ih =>
    intro v2 M h hK
    rw [fX10_plays_L2] at h
    refine z_iload_n (i := 2) dX10_plays_2 rfl rfl ?_
    refine z_iload_n (i := 1) dX10_plays_3 rfl rfl ?_
    refine z_icmp_ge (tgt := 20) dX10_plays_4 rfl (fun hc1 => ?_) (fun hc1 => ?_)
    · have h := it_t h hc1
      exact hK _ _ h
    · have h := it_f h hc1
      refine z_aload_n (i := 0) dX10_plays_7 rfl rfl ?_
      obtain ⟨q2, hq3, h⟩ := bnd h
      refine z_fVi (sX10_step M k hk hq3) dX10_plays_8 ml_X10_95 cd_X10_step hk.1 rfl rfl rfl rfl rfl rfl ?_
      refine z_if_eq (tgt := 20) dX10_plays_11 rfl (fun hc4 => ?_) (fun hc4 => ?_)
      · have h := it_t h hc4
        exact hK _ _ h
      · have h := it_f h hc4
        refine z_iinc (i := 2) (v := (v2 + (1 : Int32))) dX10_plays_14 rfl (iinc_k kc_1) (Nat.le_of_ble_eq_true rfl) rfl ?_
        refine z_goto (tgt := 2) dX10_plays_17 rfl ?_
        exact ih _ _ h hK
set_option maxRecDepth 20000 in
set_option maxHeartbeats 2000000 in
theorem sX10_plays {wv : Wv} (M : Mm) (k : Nat) (x1 : Int32) (hk : OwI wv k) {res : (Int32 × Mm)} (h : fX10_plays M k x1 = some res) : TF wv yX10_plays cX10_plays 3 (some .int) 4 [.inr (18, k, 0), .inl (.int x1)] M (some (.int res.1)) res.2 := by
  rw [fX10_plays] at h
  refine TF.go (n := 1) (ls := [some (.inr (18, k, 0)), some (.inl (.int x1)), none]) rfl rfl rfl rfl rfl ?_
  refine z_iconst (v := (0 : Int32)) dX10_plays_0 kc_0 ?_
  refine z_istore_n (i := 2) dX10_plays_1 rfl (Nat.le_of_ble_eq_true rfl) rfl ?_
  refine sX10_plays_L2 k x1 hk NF _ _ h (fun w5 M6 h => ?_)
  refine z_iload_n (i := 2) dX10_plays_20 rfl rfl ?_
  cases h
  exact z_iret dX10_plays_21 rfl rfl (Nat.le_refl _) (Nat.le_refl _) ⟨rfl, rfl⟩
