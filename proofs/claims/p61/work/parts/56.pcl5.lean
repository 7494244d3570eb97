/-! the class's box: what it counts -/
def tN (x : Int64) : Nat := x.toBitVec.toNat
theorem tN_lt (x : Int64) : tN x < 18446744073709551616 := x.toBitVec.isLt
theorem tN_sub {x y : Int64} (h : tN y ≤ tN x) : tN (x - y) = tN x - tN y := by
  unfold tN
  rw [Int64.toBitVec_sub, BitVec.toNat_sub_of_le (BitVec.le_def.mpr h)]
theorem tN_add {x y : Int64} (h : tN x + tN y < 18446744073709551616) : tN (x + y) = tN x + tN y := by
  unfold tN at *
  rw [Int64.toBitVec_add, BitVec.toNat_add, Nat.mod_eq_of_lt h]
theorem tN_and (x y : Int64) : tN (x &&& y) = tN x &&& tN y := by
  unfold tN
  rw [Int64.toBitVec_and, BitVec.toNat_and]
theorem tN_shr (x : Int64) {k : Nat} (hk : k < 64) : tN ((x.toUInt64 >>> ((nI k).toInt64.toUInt64 &&& Int64.toUInt64 63)).toInt64) = tN x / 2 ^ k := by
  show ((x.toUInt64 >>> ((nI k).toInt64.toUInt64 &&& Int64.toUInt64 63)).toBitVec).toNat = x.toUInt64.toBitVec.toNat / 2 ^ k
  rw [UInt64.toBitVec_shiftRight]
  show (x.toUInt64.toBitVec >>> (((nI k).toInt64.toUInt64 &&& Int64.toUInt64 63).toBitVec % 64).toNat).toNat = _
  rw [sL_u k hk, BitVec.toNat_ushiftRight, Nat.shiftRight_eq_div_pow]
def bc1 (x : Int64) : Int64 := x - (((x.toUInt64 >>> ((1 : Int32).toInt64.toUInt64 &&& Int64.toUInt64 63)).toInt64) &&& (6148914691236517205 : Int64))
def bc2 (x : Int64) : Int64 := (x &&& (3689348814741910323 : Int64)) + (((x.toUInt64 >>> ((2 : Int32).toInt64.toUInt64 &&& Int64.toUInt64 63)).toInt64) &&& (3689348814741910323 : Int64))
def bc3 (x : Int64) : Int64 := (x + ((x.toUInt64 >>> ((4 : Int32).toInt64.toUInt64 &&& Int64.toUInt64 63)).toInt64)) &&& (1085102592571150095 : Int64)
def bc4 (x : Int64) : Int64 := x + ((x.toUInt64 >>> ((8 : Int32).toInt64.toUInt64 &&& Int64.toUInt64 63)).toInt64)
def bc5 (x : Int64) : Int64 := x + ((x.toUInt64 >>> ((16 : Int32).toInt64.toUInt64 &&& Int64.toUInt64 63)).toInt64)
def bc6 (x : Int64) : Int64 := x + ((x.toUInt64 >>> ((32 : Int32).toInt64.toUInt64 &&& Int64.toUInt64 63)).toInt64)
theorem bc_all (M : Mm) (x : Int64) : fJ13_bitCount_95d88 M x = (bc6 (bc5 (bc4 (bc3 (bc2 (bc1 x)))))).toInt32 &&& 127 := rfl
theorem dm_8 (f : Nat → Nat) (n : Nat) : dm f 8 n = f (n % 256) + 256 * (f (n / 256 % 256) + 256 * (f (n / 256 / 256 % 256) + 256 * (f (n / 256 / 256 / 256 % 256) + 256 * (f (n / 256 / 256 / 256 / 256 % 256) + 256 * (f (n / 256 / 256 / 256 / 256 / 256 % 256) + 256 * (f (n / 256 / 256 / 256 / 256 / 256 / 256 % 256) + 256 * (f (n / 256 / 256 / 256 / 256 / 256 / 256 / 256 % 256) + 256 * 0))))))) := rfl
theorem dm_lt {f : Nat → Nat} {c : Nat} (hc : c ≤ 255) (hf : ∀ d, d < 256 → f d ≤ c) (n : Nat) : dm f 8 n ≤ c * 72340172838076673 := by
  have h0 := hf (n % 256) (Nat.mod_lt _ (by decide))
  have h1 := hf (n / 256 % 256) (Nat.mod_lt _ (by decide))
  have h2 := hf (n / 256 / 256 % 256) (Nat.mod_lt _ (by decide))
  have h3 := hf (n / 256 / 256 / 256 % 256) (Nat.mod_lt _ (by decide))
  have h4 := hf (n / 256 / 256 / 256 / 256 % 256) (Nat.mod_lt _ (by decide))
  have h5 := hf (n / 256 / 256 / 256 / 256 / 256 % 256) (Nat.mod_lt _ (by decide))
  have h6 := hf (n / 256 / 256 / 256 / 256 / 256 / 256 % 256) (Nat.mod_lt _ (by decide))
  have h7 := hf (n / 256 / 256 / 256 / 256 / 256 / 256 / 256 % 256) (Nat.mod_lt _ (by decide))
  rw [dm_8]
  omega
theorem t12_le : ∀ d, d < 256 → t12 d ≤ 68 := by decide +kernel
theorem t1_le : ∀ d, d < 256 → t1 d ≤ 255 := by decide +kernel
theorem cl_bc (M : Mm) (x : Int64) : fJ13_bitCount_95d88 M x = nI (mCt (bL x) 64) := by
  have hN := tN_lt x
  have e1 : tN (bc1 x) = dm t1 8 (tN x) := by
    have c : tN 6148914691236517205 = dg 85 8 := by decide +kernel
    have h1 : tN (((x.toUInt64 >>> ((1 : Int32).toInt64.toUInt64 &&& Int64.toUInt64 63)).toInt64) &&& (6148914691236517205 : Int64)) = (tN x / 2) &&& dg 85 8 := by
      rw [tN_and, c]
      exact congrArg (fun z => z &&& dg 85 8) (tN_shr x (k := 1) (by decide))
    have h2 := bs1 8 (tN x) (by omega)
    unfold bc1
    rw [tN_sub (by rw [h1]; exact h2.2), h1, dm_1 8 (tN x) (by omega)]
  have e2 : tN (bc2 (bc1 x)) = dm t12 8 (tN x) := by
    have c : tN 3689348814741910323 = dg 51 8 := by decide +kernel
    have h1 : tN ((((bc1 x).toUInt64 >>> ((2 : Int32).toInt64.toUInt64 &&& Int64.toUInt64 63)).toInt64) &&& (3689348814741910323 : Int64)) = (tN (bc1 x) / 4) &&& dg 51 8 := by
      rw [tN_and, c]
      exact congrArg (fun z => z &&& dg 51 8) (tN_shr (bc1 x) (k := 2) (by decide))
    have h0 : tN ((bc1 x) &&& 3689348814741910323) = tN (bc1 x) &&& dg 51 8 := by rw [tN_and, c]
    have h3 := dm_2 8 (tN (bc1 x))
    have h4 : dm t2 8 (tN (bc1 x)) = dm t12 8 (tN x) := by
      rw [e1]
      exact dm_c (fun d hd => Nat.lt_succ_of_le (t1_le d hd)) 8 (tN x)
    have h5 := dm_lt (by decide) t12_le (tN x)
    unfold bc2
    rw [tN_add (by rw [h1, h0, h3, h4]; omega), h1, h0, h3, h4]
  have e3 : tN (bc3 (bc2 (bc1 x))) = dm pb8 8 (tN x) := by
    have c : tN 1085102592571150095 = dg 15 8 := by decide +kernel
    have h5 := dm_lt (by decide) t12_le (tN x)
    have h1 : tN (((bc2 (bc1 x)).toUInt64 >>> ((4 : Int32).toInt64.toUInt64 &&& Int64.toUInt64 63)).toInt64) = dm t12 8 (tN x) / 16 := by
      rw [← e2]
      exact tN_shr (bc2 (bc1 x)) (k := 4) (by decide)
    unfold bc3
    rw [tN_and, c, tN_add (by rw [h1, e2]; omega), h1, e2, dm_3]
  have e4 := dm_8 pb8 (tN x)
  rw [← e3] at e4
  obtain ⟨n4, n5, n6, r4, r5, r6, l4, l5, l6, z⟩ := bs_end e4 (pb8_le _ (Nat.mod_lt _ (by decide))) (pb8_le _ (Nat.mod_lt _ (by decide))) (pb8_le _ (Nat.mod_lt _ (by decide))) (pb8_le _ (Nat.mod_lt _ (by decide))) (pb8_le _ (Nat.mod_lt _ (by decide))) (pb8_le _ (Nat.mod_lt _ (by decide))) (pb8_le _ (Nat.mod_lt _ (by decide))) (pb8_le _ (Nat.mod_lt _ (by decide)))
  have f4 : tN (bc4 (bc3 (bc2 (bc1 x)))) = n4 := by
    have h1 : tN (((bc3 (bc2 (bc1 x))).toUInt64 >>> ((8 : Int32).toInt64.toUInt64 &&& Int64.toUInt64 63)).toInt64) = tN (bc3 (bc2 (bc1 x))) / 256 := tN_shr _ (k := 8) (by decide)
    unfold bc4
    rw [tN_add (by rw [h1]; omega), h1, r4]
  have f5 : tN (bc5 (bc4 (bc3 (bc2 (bc1 x))))) = n5 := by
    have h1 : tN (((bc4 (bc3 (bc2 (bc1 x)))).toUInt64 >>> ((16 : Int32).toInt64.toUInt64 &&& Int64.toUInt64 63)).toInt64) = n4 / 65536 := by
      rw [← f4]
      exact tN_shr _ (k := 16) (by decide)
    unfold bc5
    rw [tN_add (by rw [h1, f4]; omega), h1, f4, r5]
  have f6 : tN (bc6 (bc5 (bc4 (bc3 (bc2 (bc1 x)))))) = n6 := by
    have h1 : tN (((bc5 (bc4 (bc3 (bc2 (bc1 x))))).toUInt64 >>> ((32 : Int32).toInt64.toUInt64 &&& Int64.toUInt64 63)).toInt64) = n5 / 4294967296 := by
      rw [← f5]
      exact tN_shr _ (k := 32) (by decide)
    unfold bc6
    rw [tN_add (by rw [h1, f5]; omega), h1, f5, r6]
  have hc : mCt (bL x) 64 = n6 % 128 := by
    rw [z]
    have h8 := ct_8 8 (tN x)
    have hb : (fun s => (tN x).testBit s) = bL x := rfl
    rw [hb] at h8
    rw [show 64 = 8 * 8 from rfl, h8]
    simp only [mSm, Nat.div_div_eq_div_mul]
    simp
  rw [bc_all, pk_and _ 7 (by decide), hc]
  have : ((bc6 (bc5 (bc4 (bc3 (bc2 (bc1 x)))))).toInt32).toBitVec.toNat = n6 % 4294967296 := by
    rw [Int64.toBitVec_toInt32, BitVec.signExtend_eq_setWidth_of_le _ (by decide), BitVec.toNat_setWidth, ← f6]
    rfl
  rw [this, show (2 : Nat) ^ 7 = 128 from rfl, show n6 % 4294967296 % 128 = n6 % 128 by omega]
theorem pn_64 {P : PF} {S T m : Nat} (hS : S ≤ 64) (hT : T ≤ 12) (hP : ∀ m t s, P m t s = true → m < 3 ∧ t < T ∧ s < S) : pnS P 64 12 m = pnS P S T m := by
  unfold pnS
  rw [mSm_z hT (fun t ht => by
    have : (fun s => P m t s) = fun _ => false := by
      funext s
      cases e : P m t s with
      | false => rfl
      | true => have := hP _ _ _ e; omega
    rw [this]
    exact (mCt_z (a := 0) (Nat.zero_le _) (fun _ _ => rfl)))]
  refine mSm_cong fun t _ => mCt_z hS fun s hs => ?_
  cases e : P m t s with
  | false => rfl
  | true => have := hP _ _ _ e; omega
section PD
variable {M : Mm} {T i : Nat} {g : GF} {P : PF}
theorem cl_ct {m t : Nat} (h : BX M T i g P) (hm : m < 3) (ht : t < 12) : mCt (bL (M.2 (11, i, 0) (12 * m + t))) 64 = mCt (fun s => P m t s) 64 := mCt_cong fun s hs => h.2 m hm t ht s hs
theorem cl_pinsL {m : Nat} {K : Int32 → Int32 → Option Int32} (h : BX M T i g P) (hm : m < 3) : ∀ (d t n : Nat), t + d = 12 → d < n → fX3_pinsOf_L4 M i (nI m) K n (nI (mSm (fun t => mCt (fun s => P m t s) 64) t)) (nI t) = K (nI (pnS P 64 12 m)) (nI 12) := by
  intro d
  induction d with
  | zero =>
    intro t n ht hn
    have e : t = 12 := by omega
    subst e
    obtain ⟨n, rfl⟩ : ∃ q, n = q + 1 := ⟨n - 1, by omega⟩
    rw [fX3_pinsOf_L4, if_pos (show (12 : Int32) ≤ nI 12 by decide)]
    rfl
  | succ d ih =>
    intro t n ht hn
    obtain ⟨n, rfl⟩ : ∃ q, n = q + 1 := ⟨n - 1, by omega⟩
    rw [fX3_pinsOf_L4, if_neg (show ¬ (12 : Int32) ≤ nI t from nI_ge (b := 12) (by omega) (by decide)), cl_row hm (by omega), Option.bind_some, cl_bc, cl_ct h hm (by omega), nI_add, ← nI_succ]
    exact ih (t + 1) n (by omega) (by omega)
theorem cl_pins {S U A m0 p m : Nat} (h : BX M T i g P) (hI : Iv g P S T U A m0 p) (hm : m < 3) : fX3_pinsOf M i (nI m) = some (nI (pnS P S T m)) := by
  rw [← pn_64 (m := m) hI.2.2.2.2.2.2.1.2 hI.2.2.2.2.2.2.2.1.2 hI.2.2.2.2.2.2.2.2.2.2.2.2.2]
  exact cl_pinsL (K := fun w4 w5 => some w4) h hm 12 0 NF rfl (by unfold NF; omega)
/-- the set of teeth with pins at a step -/
def chS (P : PF) (m s : Nat) : Nat → Int32
  | 0 => 0
  | n + 1 => if P m n s = true then chS P m s n ||| ((1 : Int32) <<< (nI n &&& 31)) else chS P m s n
theorem chS_b {m s : Nat} : ∀ n, n ≤ 32 → ∀ t, t < 32 → bt (chS P m s n) t = (decide (t < n) && P m t s)
  | 0, _, t, _ => by rw [chS, b_0]; simp
  | n + 1, hn, t, ht => by
    rw [chS]
    have ih := chS_b (m := m) (s := s) n (by omega) t ht
    by_cases e : t = n
    · subst e
      cases hp : P m t s with
      | false => rw [if_neg (by decide), ih, hp]; simp
      | true => rw [if_pos rfl, b_or, ih, hp, b_one t (by omega) ht]; simp
    · have d : decide (t < n + 1) = decide (t < n) := decide_eq_decide.mpr (by omega)
      cases hp : P m n s with
      | false => rw [if_neg (by decide), ih, d]
      | true => rw [if_pos rfl, b_or, ih, b_one n (by omega) ht, decide_eq_false e, d, Bool.or_false]
theorem cl_teethL {m s : Nat} {K : Int32 → Int32 → Option Int32} (h : BX M T i g P) (hm : m < 3) (hs : s < 64) : ∀ (d t n : Nat), t + d = 12 → d < n → fX3_teethAt_L5 M i (nI m) (nI s) K n (chS P m s t) (nI t) = K (chS P m s 12) (nI 12) := by
  intro d
  induction d with
  | zero =>
    intro t n ht hn
    have e : t = 12 := by omega
    subst e
    obtain ⟨n, rfl⟩ : ∃ q, n = q + 1 := ⟨n - 1, by omega⟩
    rw [fX3_teethAt_L5, if_pos (show (12 : Int32) ≤ nI 12 by decide)]
  | succ d ih =>
    intro t n ht hn
    obtain ⟨n, rfl⟩ : ∃ q, n = q + 1 := ⟨n - 1, by omega⟩
    have i1 := ih (t + 1) n (by omega) (by omega)
    rw [fX3_teethAt_L5, if_neg (show ¬ (12 : Int32) ≤ nI t from nI_ge (b := 12) (by omega) (by decide)), cl_hasPin h hm (by omega) hs, Option.bind_some, ← nI_succ]
    rw [chS] at i1
    cases hp : P m t s with
    | false => rw [if_pos (bI_0.mpr rfl)]; rw [hp, if_neg (by decide)] at i1; exact i1
    | true => rw [if_neg (by decide)]; rw [hp, if_pos rfl] at i1; exact i1
theorem cl_teethAt {m s : Nat} (h : BX M T i g P) (hm : m < 3) (hs : s < 64) : fX3_teethAt M i (nI m) (nI s) = some (chS P m s 12) := cl_teethL (K := fun w5 w6 => some w5) h hm hs 12 0 NF rfl (by unfold NF; omega)
end PD

