/-! the class's doubles -/
def noN (x : UInt64) : Prop := x &&& 0x7fffffffffffffff ≤ 0x7ff0000000000000
theorem dv_ok {x y : Int32} (h : y ≠ 0) : FP.ddiv (FP.i2d x) (FP.i2d y) &&& 0x7fffffffffffffff ≤ 0x7ff0000000000000 := Jvm.Free.Fl.ddiv_out (Jvm.Free.Fl.i2d_fin x).noNaN (Jvm.Free.Fl.i2d_fin y) (Jvm.Free.Fl.i2d_nz h)
theorem fv_ok {x y : Int32} (h : y ≠ 0) : FP.fdiv (FP.i2f x) (FP.i2f y) &&& 0x7fffffff ≤ 0x7f800000 := Jvm.Free.Fl.fdiv_out (Jvm.Free.Fl.i2f_fin x).noNaN (Jvm.Free.Fl.i2f_fin y) (Jvm.Free.Fl.i2f_nz h)
theorem cmp_self {x : UInt64} (h : x &&& 0x7fffffffffffffff ≤ 0x7ff0000000000000) : Op.cmpValue (FP.dcmp x x) .l = 0 := by
  have h1 := Jvm.Free.Fl.dcmp_of_noNaN64 h
  revert h1
  generalize FP.dcmp x x = o
  intro h1
  match o, h1 with
  | none, h1 => exact absurd h1 (by decide)
  | some .lt, h1 => exact absurd h1 (by decide)
  | some .eq, _ => rfl
  | some .gt, h1 => exact absurd h1 (by decide)
theorem lgc_self (x : Int64) : lg_cmp x x = 0 := by
  unfold lg_cmp
  simp
def spN (U A : Nat) : Int32 := ((60 + 4 * nI U) * (100 - nI A)) / 100
theorem spN_c : ∀ U, U < 21 → ∀ A, A < 91 → 6 ≤ (spN U A).toNatClampNeg ∧ (spN U A).toNatClampNeg < 141 ∧ spN U A = nI (spN U A).toNatClampNeg := by decide +kernel
theorem sps_ok : ∀ s, s < 141 → 6 ≤ s → FP.ddiv (4633641066610819072 : UInt64) (FP.i2d (nI s)) &&& 0x7fffffffffffffff ≤ 0x7ff0000000000000 := by decide +kernel
def M00 : Mm := (fun _ _ => 0, fun _ _ => 0)
theorem bp_ok : ∀ s, s < 141 → 6 ≤ s → fX9_bitsOfPositive M00 (FP.ddiv (4633641066610819072 : UInt64) (FP.i2d (nI s))) = some (dbits (FP.ddiv (4633641066610819072 : UInt64) (FP.i2d (nI s)))) := by decide +kernel
theorem bp_10 {M M' : Mm} {K : UInt64 → Int64 → Int32 → Option Int64} : ∀ n a b c, fX9_bitsOfPositive_L10 M K n a b c = fX9_bitsOfPositive_L10 M' K n a b c := by
  intro n
  induction n with
  | zero => intro a b c; rfl
  | succ n ih => intro a b c; rw [fX9_bitsOfPositive_L10, fX9_bitsOfPositive_L10, ih]
theorem bp_47 {M M' : Mm} {K : UInt64 → Int64 → Int32 → Option Int64} : ∀ n a b c, fX9_bitsOfPositive_L47 M K n a b c = fX9_bitsOfPositive_L47 M' K n a b c := by
  intro n
  induction n with
  | zero => intro a b c; rfl
  | succ n ih => intro a b c; rw [fX9_bitsOfPositive_L47, fX9_bitsOfPositive_L47, ih]
theorem bp_M (M M' : Mm) (x : UInt64) : fX9_bitsOfPositive M x = fX9_bitsOfPositive M' x := by
  rw [fX9_bitsOfPositive, fX9_bitsOfPositive, bp_10 (M := M) (M' := M')]
  exact congrArg (fun K => fX9_bitsOfPositive_L10 M' K NF x (1023 : Int64) (0 : Int32)) (funext fun a => funext fun b => funext fun c => bp_47 _ _ _ _)
section DBL
variable {M : Mm} {S T U A m0 p0 : Nat} {g : GF} {P : PF}
theorem spd_n (HB : BX M T 0 g P) (HI : Iv g P S T U A m0 p0) : fX0_stepsPerMinute M 0 = spN U A := by
  rw [fX0_stepsPerMinute, show M.1 (9, 0, 0) 3 = nI U from (HB.1 1 (vk_s rfl)).trans HI.2.1, show M.1 (9, 0, 0) 4 = nI A from (HB.1 2 (vk_s rfl)).trans HI.2.2.1]
  rfl
theorem sp_no (HI : Iv g P S T U A m0 p0) : FP.ddiv (4633641066610819072 : UInt64) (FP.i2d (spN U A)) &&& 0x7fffffffffffffff ≤ 0x7ff0000000000000 := by
  obtain ⟨s1, s2, s3⟩ := spN_c U (by have := HI.hU; omega) A (by have := HI.hA; omega)
  have hk := sps_ok _ s2 s1
  rw [← s3] at hk
  exact hk
theorem an_tempo (HB : BX M T 0 g P) (HI : Iv g P S T U A m0 p0) : fX9_tempo M = spN U A := spd_n HB HI
theorem an_sps (HB : BX M T 0 g P) (HI : Iv g P S T U A m0 p0) : fX9_secondsPerStep M = some (FP.ddiv (4633641066610819072 : UInt64) (FP.i2d (spN U A))) := by
  obtain ⟨s1, s2, s3⟩ := spN_c U (by have := HI.hU; omega) A (by have := HI.hA; omega)
  have h1 : (1 : Int32) ≤ spN U A := by rw [s3]; exact nI_le (a := 1) (by omega) (by omega)
  rw [fX9_secondsPerStep, spd_n HB HI, if_pos h1, if_pos (sp_no HI)]
theorem an_spb (HB : BX M T 0 g P) (HI : Iv g P S T U A m0 p0) : fX9_secondsPerStepBits M = some (dbits (FP.ddiv (4633641066610819072 : UInt64) (FP.i2d (spN U A)))) := by
  obtain ⟨s1, s2, s3⟩ := spN_c U (by have := HI.hU; omega) A (by have := HI.hA; omega)
  have hb := bp_ok _ s2 s1
  rw [← s3] at hb
  rw [fX9_secondsPerStepBits, an_sps HB HI, Option.bind_some, bp_M M M00, hb]
  rfl
def mpS (g : GF) (P : PF) (S T m : Nat) : Int32 := sI (fun t => nI (mCt (fun s => P m t s) S) * ptS g t) T
theorem an_mean0 {m : Nat} (HB : BX M T 0 g P) (HI : Iv g P S T U A m0 p0) (hm : m < 3) (h0 : nI (pnS P S T m) = 0) : fX9_meanPitch M (nI m) = some (FP.dconst0, M) := by
  rw [fX9_meanPitch, tf_ok hm]
  exact bd rfs_0 (bd (cl_pins HB HI hm) (cy h0 rfl))
theorem an_mean1 {m : Nat} (HB : BX M T 0 g P) (HI : Iv g P S T U A m0 p0) (hm : m < 3) (h0 : ¬ nI (pnS P S T m) = 0) : fX9_meanPitch M (nI m) = some (FP.ddiv (FP.i2d (mpS g P S T m)) (FP.i2d (nI (pnS P S T m))), M) := by
  rw [fX9_meanPitch, tf_ok hm]
  exact bd rfs_0 (bd (cl_pins HB HI hm) (cn h0 (bd (cl_pitchSum HB HI hm) (cy (dv_ok h0) rfl))))
theorem den_no {m : Nat} (HI : Iv g P S T U A m0 p0) : FP.fdiv (FP.i2f (nI (pnS P S T m))) (FP.i2f (nI S * nI T)) &&& 0x7fffffff ≤ 0x7f800000 := by
  have hTS : S * T ≤ 64 * 12 := Nat.mul_le_mul HI.hS.2 HI.hT.2
  have hTS1 : 4 * 1 ≤ S * T := Nat.mul_le_mul HI.hS.1 HI.hT.1
  rw [pk_mul]
  exact fv_ok (nI_ne0 (by omega) (by omega))
theorem an_density {m : Nat} (HB : BX M T 0 g P) (HI : Iv g P S T U A m0 p0) (hm : m < 3) : fX9_density M (nI m) = some (FP.fdiv (FP.i2f (nI (pnS P S T m))) (FP.i2f (nI S * nI T)), M) := by
  have hTS : S * T ≤ 64 * 12 := Nat.mul_le_mul HI.hS.2 HI.hT.2
  have hTS1 : 4 * 1 ≤ S * T := Nat.mul_le_mul HI.hS.1 HI.hT.1
  rw [fX9_density, tf_ok hm]
  rw [rfs_0, Option.bind_some, bx_0 HB HI, bx_3 HB HI]
  exact cy (by rw [pk_mul]; exact nI_le (a := 1) (by omega) (by omega)) (bd (cl_pins HB HI hm) (cy (den_no HI) rfl))
end DBL
