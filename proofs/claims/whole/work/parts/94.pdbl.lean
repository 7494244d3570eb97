/-! doubles and floats -/
def AGT {α : Type} (cs : List Nat) (res : α ⊕ Nat) (r : α) (th : Int32) : Prop := match res with
  | .inl x => th = 0 ∧ r = x
  | .inr e => ∃ i, i < 3 ∧ cs[i]? = some e ∧ (∀ j, j < i → cs[j]? ≠ some e) ∧ th = nI (i + 1)
def APIT {α : Type} (cs : List Nat) (ok : α → Prop) (o1 : Option ((α ⊕ Nat) × Mm)) (f2 : Mm → Option (α × Mm)) (M : Mm) : Prop := ∃ res M1, o1 = some (res, M1) ∧ (∀ x, res = .inl x → ok x) ∧ Fr sCl M M1 ∧ ∀ N, Fr sOut M1 N → ∃ r M2, f2 N = some (r, M2) ∧ GL M2 ∧ Fr sRf N M2 ∧ AGT cs res r (M2.1 R8 8)
def API0T {α : Type} (ok : α → Prop) (o1 : Option (α × Mm)) (f2 : Mm → Option (α × Mm)) (M : Mm) : Prop := ∃ v M1 M2, o1 = some (v, M1) ∧ ok v ∧ Fr sCl M M1 ∧ f2 M1 = some (v, M2) ∧ GL M2 ∧ Fr sRf M1 M2
def noN (x : UInt64) : Prop := x &&& 0x7fffffffffffffff ≤ 0x7ff0000000000000
def noF (x : UInt32) : Prop := x &&& 0x7fffffff ≤ 0x7f800000
theorem dv_ok {x y : Int32} (h : y ≠ 0) : FP.ddiv (FP.i2d x) (FP.i2d y) &&& 0x7fffffffffffffff ≤ 0x7ff0000000000000 := Jvm.Free.Fl.ddiv_out (Jvm.Free.Fl.i2d_fin x).noNaN (Jvm.Free.Fl.i2d_fin y) (Jvm.Free.Fl.i2d_nz h)
theorem fv_ok {x y : Int32} (h : y ≠ 0) : FP.fdiv (FP.i2f x) (FP.i2f y) &&& 0x7fffffff ≤ 0x7f800000 := Jvm.Free.Fl.fdiv_out (Jvm.Free.Fl.i2f_fin x).noNaN (Jvm.Free.Fl.i2f_fin y) (Jvm.Free.Fl.i2f_nz h)
def spN (U A : Nat) : Int32 := ((60 + 4 * nI U) * (100 - nI A)) / 100
theorem spN_c : ∀ U, U < 21 → ∀ A, A < 91 → 6 ≤ (spN U A).toNatClampNeg ∧ (spN U A).toNatClampNeg < 141 ∧ spN U A = nI (spN U A).toNatClampNeg := by decide +kernel
theorem sps_ok : ∀ s, s < 141 → 6 ≤ s → FP.ddiv (4633641066610819072 : UInt64) (FP.i2d (nI s)) &&& 0x7fffffffffffffff ≤ 0x7ff0000000000000 := by decide +kernel
def M00 : Mm := (fun _ _ => 0, fun _ _ => 0)
theorem bp_ok : ∀ s, s < 141 → 6 ≤ s → fX9_bitsOfPositive M00 (FP.ddiv (4633641066610819072 : UInt64) (FP.i2d (nI s))) = some (dbits (FP.ddiv (4633641066610819072 : UInt64) (FP.i2d (nI s)))) := by decide +kernel
theorem bp_10 {M M' : Mm} {K : UInt64 → Int64 → Int32 → Option Int64} : ∀ n a b c, fX9_bitsOfPositive_L10 M K n a b c = fX9_bitsOfPositive_L10 M' K n a b c := by
  intro n
  induction n with
  | zero => intro a b c; rfl
  | succ n ih => intro a b c; rw [fX9_bitsOfPositive_L10, fX9_bitsOfPositive_L10, ih]
theorem bp_47 {M M' : Mm} {K : UInt64 → Int64 → Int32 → Option Int64} : ∀ n a b c, fX9_bitsOfPositive_L47 M K n a b c = fX9_bitsOfPositive_L47 M' K n a b c := by
  intro n
  induction n with
  | zero => intro a b c; rfl
  | succ n ih => intro a b c; rw [fX9_bitsOfPositive_L47, fX9_bitsOfPositive_L47, ih]
theorem bp_M (M M' : Mm) (x : UInt64) : fX9_bitsOfPositive M x = fX9_bitsOfPositive M' x := by
  rw [fX9_bitsOfPositive, fX9_bitsOfPositive, bp_10 (M := M) (M' := M')]
  exact congrArg (fun K => fX9_bitsOfPositive_L10 M' K NF x (1023 : Int64) (0 : Int32)) (funext fun a => funext fun b => funext fun c => bp_47 _ _ _ _)
section DBL
variable {M : Mm}
theorem spd_n {g : GF} {P : PF} {S T U A m p : Nat} (HI : Iv g P S T U A m p) (HB : BX M T 0 g P) : fX0_stepsPerMinute M 0 = spN U A := by
  rw [fX0_stepsPerMinute, show M.1 (9, 0, 0) 3 = nI U from (HB.1 1 (vk_s rfl)).trans HI.2.1, show M.1 (9, 0, 0) 4 = nI A from (HB.1 2 (vk_s rfl)).trans HI.2.2.1]
  rfl
theorem spd_r {N : Mm} {g : GF} {P : PF} {S T U A m p : Nat} (HI : Iv g P S T U A m p) (HX : RX (N.1 NW) g P) : fX10_speed N = spN U A := by
  rw [fX10_speed, show N.1 (19, 0, 0) 1 = nI U from (HX.1 1 (by decide)).trans HI.2.1, show N.1 (19, 0, 0) 2 = nI A from (HX.1 2 (by decide)).trans HI.2.2.1]
  rfl
theorem api_secondsPerStep (G : GL M) : API0T noN ((fX9_secondsPerStep M).map fun v => (v, M)) fX10_secondsPerStep M := by
  obtain ⟨g, P, S, T, U, A, m, p, HI, HB, HX⟩ := G.1
  obtain ⟨s1, s2, s3⟩ := spN_c U (by have := HI.2.2.2.2.2.2.2.2.1; omega) A (by have := HI.2.2.2.2.2.2.2.2.2.1; omega)
  have h1 : (1 : Int32) ≤ spN U A := by rw [s3]; exact nI_le (a := 1) (by omega) (by omega)
  have hk := sps_ok _ s2 s1
  rw [← s3] at hk
  refine ⟨FP.ddiv (4633641066610819072 : UInt64) (FP.i2d (spN U A)), M, putI M R8 8 0, ?_, hk, fr_rf, ?_, gl_8 G fr_rf, rf_8⟩
  · rw [fX9_secondsPerStep, spd_n HI HB, if_pos h1, if_pos hk]; rfl
  · rw [fX10_secondsPerStep, spd_r HI (z_X HX), if_pos hk]
theorem api_secondsPerStepBits (G : GL M) : API0T (fun _ => True) ((fX9_secondsPerStepBits M).map fun v => (v, M)) fX10_secondsPerStepBits M := by
  obtain ⟨g, P, S, T, U, A, m, p, HI, HB, HX⟩ := G.1
  obtain ⟨s1, s2, s3⟩ := spN_c U (by have := HI.2.2.2.2.2.2.2.2.1; omega) A (by have := HI.2.2.2.2.2.2.2.2.2.1; omega)
  have h1 : (1 : Int32) ≤ spN U A := by rw [s3]; exact nI_le (a := 1) (by omega) (by omega)
  have hk := sps_ok _ s2 s1
  have hb := bp_ok _ s2 s1
  rw [← s3] at hk hb
  refine ⟨dbits (FP.ddiv (4633641066610819072 : UInt64) (FP.i2d (spN U A))), M, putI M R8 8 0, ?_, trivial, fr_rf, ?_, gl_8 G fr_rf, rf_8⟩
  · rw [fX9_secondsPerStepBits, fX9_secondsPerStep, spd_n HI HB, if_pos h1, if_pos hk, Option.bind_some, bp_M M M00, hb]; rfl
  · rw [fX10_secondsPerStepBits, spd_r HI (z_X HX), if_pos hk]
theorem api_meanPitch (G : GL M) (a : Int32) : APIT [2] noN (fX9_meanPitch M a) (fun N => fX10_meanPitch N a) M := by
  obtain ⟨g, P, S, T, U, A, m0, p, HI, HB, HX⟩ := G.1
  have hT := HI.2.2.2.2.2.2.2.1
  have hS := HI.2.2.2.2.2.2.1
  rcases ix_d a (N := 3) (by decide) with ⟨m, hm, rfl⟩ | ha
  · have hp := pnS_le P S T m
    have hTS : T * S ≤ 12 * 64 := Nat.mul_le_mul hT.2 hS.2
    have hr : ∀ N : Mm, RX (N.1 NW) g P → ∀ {r}, (if nI (pnS P S T m) = 0 then some (FP.dconst0, putI N R8 8 0) else if (FP.ddiv (FP.i2d (sI (fun t => nI (mCt (fun s => P m t s) S) * ptS g t) T)) (FP.i2d (nI (pnS P S T m)))) &&& 0x7fffffffffffffff ≤ 0x7ff0000000000000 then some ((FP.ddiv (FP.i2d (sI (fun t => nI (mCt (fun s => P m t s) S) * ptS g t) T)) (FP.i2d (nI (pnS P S T m)))), putI N R8 8 0) else none) = r → fX10_meanPitch N (nI m) = r := fun N HN {r} h => by
      rw [fX10_meanPitch, ft_ok hm, Option.bind_some, if_neg one_ne]
      refine (rf_mpO (z_X (v := 0) HN) HI hm (K := fun w15 w16 => (fX10_pins (putI N R8 8 0) (nI m)).bind fun q17 => if q17 = 0 then some (FP.dconst0, (putI N R8 8 0)) else (fX10_pins (putI N R8 8 0) (nI m)).bind fun q20 => if (FP.ddiv (FP.i2d w15) (FP.i2d q20)) &&& 0x7fffffffffffffff ≤ 0x7ff0000000000000 then some ((FP.ddiv (FP.i2d w15) (FP.i2d q20)), (putI N R8 8 0)) else none) S 0 NF (by omega) (by unfold NF; omega)).trans ?_
      rw [rf_pins (z_X HN) HI hm, Option.bind_some, Option.bind_some]
      exact h
    by_cases c : pnS P S T m = 0
    · refine ⟨.inl FP.dconst0, M, ?_, fun x hx => ?_, fr_rf, fun N hN => ⟨FP.dconst0, putI N R8 8 0, hr N (rx_o hN HX) (by rw [c, if_pos nI_0]), gl_8 G hN, rf_8, z_8, rfl⟩⟩
      · rw [fX9_meanPitch, tf_ok hm, thr_0, cl_pins HB HI hm, Option.bind_some, c, if_pos nI_0]
      · cases hx; unfold noN; decide
    · have h0 : ¬ nI (pnS P S T m) = 0 := nI_ne0 (by omega) (by omega)
      have hk := dv_ok (x := sI (fun t => nI (mCt (fun s => P m t s) S) * ptS g t) T) h0
      refine ⟨.inl (FP.ddiv (FP.i2d (sI (fun t => nI (mCt (fun s => P m t s) S) * ptS g t) T)) (FP.i2d (nI (pnS P S T m)))), M, ?_, fun x hx => ?_, fr_rf, fun N hN => ⟨FP.ddiv (FP.i2d (sI (fun t => nI (mCt (fun s => P m t s) S) * ptS g t) T)) (FP.i2d (nI (pnS P S T m))), putI N R8 8 0, hr N (rx_o hN HX) (by rw [if_neg h0, if_pos hk]), gl_8 G hN, rf_8, z_8, rfl⟩⟩
      · rw [fX9_meanPitch, tf_ok hm, thr_0, cl_pins HB HI hm, Option.bind_some, if_neg h0, cl_pitchSum HB HI hm, Option.bind_some, if_pos hk]
      · cases hx; exact hk
  · refine ⟨.inr 2, M, by rw [fX9_meanPitch, tf_no ha, thr_1], fun x hx => (by cases hx), fr_rf, fun N hN => ⟨FP.dconst0, putI (putI N R8 8 0) R8 8 1, ?_, gl_88 G hN, rf_88, ?_⟩⟩
    · dsimp only
      rw [fX10_meanPitch, ft_no ha, Option.bind_some, if_pos rfl]
    · rw [z_8]; exact ⟨0, by decide, rfl, fun j hj => absurd hj (Nat.not_lt_zero _), rfl⟩
theorem api_density (G : GL M) (a : Int32) : APIT [2] noF (fX9_density M a) (fun N => fX10_density N a) M := by
  obtain ⟨g, P, S, T, U, A, m0, p, HI, HB, HX⟩ := G.1
  have hT := HI.2.2.2.2.2.2.2.1
  have hS := HI.2.2.2.2.2.2.1
  rcases ix_d a (N := 3) (by decide) with ⟨m, hm, rfl⟩ | ha
  · have hTS : S * T ≤ 64 * 12 := Nat.mul_le_mul hS.2 hT.2
    have hTS1 : 4 * 1 ≤ S * T := Nat.mul_le_mul hS.1 hT.1
    have e1 : nI S * nI T = nI (S * T) := (Int32.ofNat_mul S T).symm
    have h0 : ¬ nI (S * T) = 0 := nI_ne0 (by omega) (by omega)
    have hk := fv_ok (x := nI (pnS P S T m)) h0
    refine ⟨.inl (FP.fdiv (FP.i2f (nI (pnS P S T m))) (FP.i2f (nI (S * T)))), M, ?_, fun x hx => ?_, fr_rf, fun N hN => ⟨FP.fdiv (FP.i2f (nI (pnS P S T m))) (FP.i2f (nI (S * T))), putI N R8 8 0, ?_, gl_8 G hN, rf_8, z_8, rfl⟩⟩
    · rw [fX9_density, tf_ok hm, thr_0, bx_0 HB HI, bx_3 HB HI, e1, if_pos (show (1 : Int32) ≤ nI (S * T) from nI_le (a := 1) (by omega) (by omega)), cl_pins HB HI hm, Option.bind_some, if_pos hk]
    · cases hx; exact hk
    · have HZ := z_X (v := 0) (rx_o hN HX)
      dsimp only
      rw [fX10_density, ft_ok hm, Option.bind_some, if_neg one_ne]
      dsimp only
      rw [rf_pins HZ HI hm, Option.bind_some, rx_0 HZ HI, rx_3 HZ HI, e1, if_pos hk]
  · refine ⟨.inr 2, M, by rw [fX9_density, tf_no ha, thr_1], fun x hx => (by cases hx), fr_rf, fun N hN => ⟨FP.fconst0, putI (putI N R8 8 0) R8 8 1, ?_, gl_88 G hN, rf_88, ?_⟩⟩
    · dsimp only
      rw [fX10_density, ft_no ha, Option.bind_some, if_pos rfl]
    · rw [z_8]; exact ⟨0, by decide, rfl, fun j hj => absurd hj (Nat.not_lt_zero _), rfl⟩
end DBL
