/-! counting -/
def mCt (p : Nat → Bool) : Nat → Nat
  | 0 => 0
  | n + 1 => mCt p n + (if p n = true then 1 else 0)
def mSm (f : Nat → Nat) : Nat → Nat
  | 0 => 0
  | n + 1 => mSm f n + f n
theorem mCt_cong {p q : Nat → Bool} : ∀ {n : Nat}, (∀ k, k < n → p k = q k) → mCt p n = mCt q n
  | 0, _ => rfl
  | n + 1, h => by rw [mCt, mCt, mCt_cong (fun k hk => h k (by omega)), h n (by omega)]
theorem mSm_cong {p q : Nat → Nat} : ∀ {n : Nat}, (∀ k, k < n → p k = q k) → mSm p n = mSm q n
  | 0, _ => rfl
  | n + 1, h => by rw [mSm, mSm, mSm_cong (fun k hk => h k (by omega)), h n (by omega)]
theorem mCt_le (p : Nat → Bool) : ∀ n, mCt p n ≤ n
  | 0 => Nat.le_refl _
  | n + 1 => by
    have := mCt_le p n
    rw [mCt]
    split <;> omega
theorem mCt_z {p : Nat → Bool} {a : Nat} : ∀ {n : Nat}, a ≤ n → (∀ k, a ≤ k → p k = false) → mCt p n = mCt p a
  | 0, h, _ => by rw [show a = 0 by omega]
  | n + 1, h, hz => by
    by_cases e : a = n + 1
    · rw [e]
    · rw [mCt, hz n (by omega), mCt_z (by omega) hz]; simp
theorem mSm_z {p : Nat → Nat} {a : Nat} : ∀ {n : Nat}, a ≤ n → (∀ k, a ≤ k → p k = 0) → mSm p n = mSm p a
  | 0, h, _ => by rw [show a = 0 by omega]
  | n + 1, h, hz => by
    by_cases e : a = n + 1
    · rw [e]
    · rw [mSm, hz n (by omega), mSm_z (by omega) hz]; simp
theorem mSm_add (f g : Nat → Nat) : ∀ n, mSm (fun k => f k + g k) n = mSm f n + mSm g n
  | 0 => rfl
  | n + 1 => by rw [mSm, mSm, mSm, mSm_add f g n]; omega
theorem mSm_ct (p : Nat → Bool) : ∀ n, mSm (fun k => if p k = true then 1 else 0) n = mCt p n
  | 0 => rfl
  | n + 1 => by rw [mSm, mCt, mSm_ct p n]
theorem mSm_0 : ∀ n, mSm (fun _ => 0) n = 0
  | 0 => rfl
  | n + 1 => by rw [mSm, mSm_0 n]
theorem mSm_le {f : Nat → Nat} {c : Nat} (h : ∀ k, f k ≤ c) : ∀ n, mSm f n ≤ n * c
  | 0 => by rw [Nat.zero_mul]; exact Nat.le_refl _
  | n + 1 => by
    have := mSm_le h n
    have := h n
    rw [mSm, Nat.succ_mul]; omega
theorem mCt_swap (p : Nat → Nat → Bool) (b : Nat) : ∀ a, mSm (fun i => mCt (fun j => p i j) b) a = mSm (fun j => mCt (fun i => p i j) a) b
  | 0 => by
    have : (fun j => mCt (fun i => p i j) 0) = fun _ => 0 := rfl
    rw [this, mSm_0]; rfl
  | a + 1 => by
    rw [mSm, mCt_swap p b a, ← mSm_ct (fun j => p a j) b, ← mSm_add]
    rfl
/-- how many pins a tune has -/
def pnS (P : PF) (S T m : Nat) : Nat := mSm (fun t => mCt (fun s => P m t s) S) T
theorem pnS_le (P : PF) (S T m : Nat) : pnS P S T m ≤ T * S := mSm_le (fun _ => mCt_le _ _) _
/-! the ones of a long -/
def pb8 (d : Nat) : Nat := d % 2 + d / 2 % 2 + d / 4 % 2 + d / 8 % 2 + d / 16 % 2 + d / 32 % 2 + d / 64 % 2 + d / 128 % 2
def dg (c : Nat) : Nat → Nat
  | 0 => 0
  | k + 1 => c + 256 * dg c k
theorem and_split (a b : Nat) : a &&& b = ((a % 256) &&& (b % 256)) + 256 * ((a / 256) &&& (b / 256)) := by
  have h1 : (a &&& b) % 2 ^ 8 = (a % 2 ^ 8) &&& (b % 2 ^ 8) := Nat.and_mod_two_pow
  have h2 : (a &&& b) / 2 ^ 8 = (a / 2 ^ 8) &&& (b / 2 ^ 8) := Nat.and_div_two_pow
  rw [show (2 : Nat) ^ 8 = 256 from rfl] at h1 h2
  rw [← h1, ← h2]
  omega
theorem bk1 : ∀ d, d < 256 → ∀ e, e < 2 → (d / 2 + 128 * e) &&& 85 = (d / 2) &&& 85 := by decide +kernel
theorem bk1l : ∀ d, d < 256 → (d / 2) &&& 85 ≤ d := by decide +kernel
theorem bk2 : ∀ d, d < 256 → ∀ e, e < 4 → (d / 4 + 64 * e) &&& 51 = (d / 4) &&& 51 := by decide +kernel
def t1 (d : Nat) : Nat := d - ((d / 2) &&& 85)
def t2 (d : Nat) : Nat := (d &&& 51) + ((d / 4) &&& 51)
theorem bk12 : ∀ d, d < 256 → t1 d < 256 ∧ t2 (t1 d) < 256 ∧ t2 (t1 d) % 16 ≤ 4 ∧ t2 (t1 d) / 16 ≤ 4 ∧ t2 (t1 d) % 16 + t2 (t1 d) / 16 = pb8 d := by decide +kernel
theorem bk3 : ∀ a, a < 5 → ∀ b, b < 5 → ∀ e, e < 5 → ((16 * b + a) + (b + 16 * e)) &&& 15 = a + b ∧ (16 * b + a) + (b + 16 * e) < 256 := by decide +kernel
theorem bs_and {c d r q k : Nat} (hc : c < 256) : ((d + 256 * r) / q) &&& dg c (k + 1) = ((((d + 256 * r) / q) % 256) &&& c) + 256 * ((((d + 256 * r) / q) / 256) &&& dg c k) := by
  rw [and_split, dg, show (c + 256 * dg c k) % 256 = c by omega, show (c + 256 * dg c k) / 256 = dg c k by omega]
theorem bs1 : ∀ (k n : Nat), n < 256 ^ k → n - ((n / 2) &&& dg 85 k) < 256 ^ k ∧ ((n / 2) &&& dg 85 k) ≤ n
  | 0, n, h => by
    rw [Nat.pow_zero] at h
    rw [show n = 0 by omega]
    decide
  | k + 1, n, h => by
    obtain ⟨d, r, rfl, hd⟩ : ∃ d r, n = d + 256 * r ∧ d < 256 := ⟨n % 256, n / 256, by omega, by omega⟩
    have hr : r < 256 ^ k := by rw [Nat.pow_succ] at h; omega
    have := bs1 k r hr
    rw [bs_and (by decide), show (d + 256 * r) / 2 % 256 = d / 2 + 128 * (r % 2) by omega, show (d + 256 * r) / 2 / 256 = r / 2 by omega, bk1 d hd _ (by omega)]
    have := bk1l d hd
    omega
/-- the digits of base 256, each made anew -/
def dm (f : Nat → Nat) : Nat → Nat → Nat
  | 0, _ => 0
  | k + 1, n => f (n % 256) + 256 * dm f k (n / 256)
theorem dm_1 : ∀ (k n : Nat), n < 256 ^ k → n - ((n / 2) &&& dg 85 k) = dm t1 k n
  | 0, n, h => by
    rw [Nat.pow_zero] at h
    rw [show n = 0 by omega]
    decide
  | k + 1, n, h => by
    obtain ⟨d, r, rfl, hd⟩ : ∃ d r, n = d + 256 * r ∧ d < 256 := ⟨n % 256, n / 256, by omega, by omega⟩
    have hr : r < 256 ^ k := by rw [Nat.pow_succ] at h; omega
    have h1 := bs1 k r hr
    have h2 := bk1l d hd
    rw [dm, show (d + 256 * r) % 256 = d by omega, show (d + 256 * r) / 256 = r by omega, ← dm_1 k r hr, t1, bs_and (by decide), show (d + 256 * r) / 2 % 256 = d / 2 + 128 * (r % 2) by omega, show (d + 256 * r) / 2 / 256 = r / 2 by omega, bk1 d hd _ (by omega)]
    omega
theorem dm_2 : ∀ (k n : Nat), (n &&& dg 51 k) + ((n / 4) &&& dg 51 k) = dm t2 k n
  | 0, n => by simp [dg, dm]
  | k + 1, n => by
    obtain ⟨d, r, rfl, hd⟩ : ∃ d r, n = d + 256 * r ∧ d < 256 := ⟨n % 256, n / 256, by omega, by omega⟩
    have h0 : (d + 256 * r) &&& dg 51 (k + 1) = (d &&& 51) + 256 * (r &&& dg 51 k) := by
      have := bs_and (c := 51) (d := d) (r := r) (q := 1) (k := k) (by decide)
      rw [Nat.div_one, show (d + 256 * r) % 256 = d by omega, show (d + 256 * r) / 256 = r by omega] at this
      exact this
    rw [dm, show (d + 256 * r) % 256 = d by omega, show (d + 256 * r) / 256 = r by omega, ← dm_2 k r, t2, h0, bs_and (by decide), show (d + 256 * r) / 4 % 256 = d / 4 + 64 * (r % 4) by omega, show (d + 256 * r) / 4 / 256 = r / 4 by omega, bk2 d hd _ (by omega)]
    omega
theorem dm_c {f g : Nat → Nat} (hf : ∀ d, d < 256 → f d < 256) : ∀ (k n : Nat), dm g k (dm f k n) = dm (fun d => g (f d)) k n
  | 0, _ => rfl
  | k + 1, n => by
    have := hf (n % 256) (Nat.mod_lt _ (by decide))
    rw [dm, dm, dm, show (f (n % 256) + 256 * dm f k (n / 256)) % 256 = f (n % 256) by omega, show (f (n % 256) + 256 * dm f k (n / 256)) / 256 = dm f k (n / 256) by omega, dm_c hf k]
def t12 (d : Nat) : Nat := t2 (t1 d)
theorem dm_3 : ∀ (k n : Nat), (dm t12 k n + dm t12 k n / 16) &&& dg 15 k = dm pb8 k n
  | 0, n => by simp [dg, dm]
  | k + 1, n => by
    obtain ⟨-, h1, h2, h3, h4⟩ := bk12 (n % 256) (Nat.mod_lt _ (by decide))
    rw [dm, dm, ← dm_3 k (n / 256), ← h4]
    have e0 : t12 (n % 256) = t2 (t1 (n % 256)) := rfl
    have hx : dm t12 k (n / 256) % 16 < 5 := by
      cases k with
      | zero => exact (by decide : 0 % 16 < 5)
      | succ k =>
        obtain ⟨-, i1, i2, i3, -⟩ := bk12 (n / 256 % 256) (Nat.mod_lt _ (by decide))
        have e1 : t12 (n / 256 % 256) = t2 (t1 (n / 256 % 256)) := rfl
        rw [dm]
        omega
    obtain ⟨j1, j2⟩ := bk3 (t12 (n % 256) % 16) (by omega) (t12 (n % 256) / 16) (by omega) (dm t12 k (n / 256) % 16) hx
    generalize dm t12 k (n / 256) = r at *
    generalize t12 (n % 256) = d at *
    rw [and_split, dg, show (15 + 256 * dg 15 k) % 256 = 15 by omega, show (15 + 256 * dg 15 k) / 256 = dg 15 k by omega]
    have e2 : (d + 256 * r + (d + 256 * r) / 16) % 256 = (16 * (d / 16) + d % 16) + (d / 16 + 16 * (r % 16)) := by omega
    have e3 : (d + 256 * r + (d + 256 * r) / 16) / 256 = r + r / 16 := by omega
    rw [e2, e3, j1]
    omega
theorem ct_8 : ∀ (k n : Nat), mCt (fun s => n.testBit s) (8 * k) = mSm (fun j => pb8 (n / 256 ^ j % 256)) k
  | 0, _ => rfl
  | k + 1, n => by
    rw [show 8 * (k + 1) = 8 * k + 1 + 1 + 1 + 1 + 1 + 1 + 1 + 1 by omega]
    simp only [mCt]
    rw [ct_8 k n, mSm]
    have w : ∀ q, (if n.testBit (8 * k + q) = true then 1 else 0) = n / 256 ^ k / 2 ^ q % 2 := fun q => by
      have e : n.testBit (8 * k + q) = decide (n / 256 ^ k / 2 ^ q % 2 = 1) := by
        rw [Nat.testBit_eq_decide_div_mod_eq, Nat.pow_add, Nat.pow_mul, Nat.div_div_eq_div_mul]
      rw [e]
      generalize n / 256 ^ k / 2 ^ q = x
      rcases Nat.mod_two_eq_zero_or_one x with h | h <;> simp [h]
    have w0 := w 0
    rw [Nat.add_zero, Nat.pow_zero, Nat.div_one] at w0
    have w1 := w 1
    have w2 := w 2
    have w3 := w 3
    have w4 := w 4
    have w5 := w 5
    have w6 := w 6
    have w7 := w 7
    rw [show (2 : Nat) ^ 1 = 2 from rfl] at w1
    rw [show (2 : Nat) ^ 2 = 4 from rfl] at w2
    rw [show (2 : Nat) ^ 3 = 8 from rfl] at w3
    rw [show (2 : Nat) ^ 4 = 16 from rfl] at w4
    rw [show (2 : Nat) ^ 5 = 32 from rfl] at w5
    rw [show (2 : Nat) ^ 6 = 64 from rfl] at w6
    rw [show (2 : Nat) ^ 7 = 128 from rfl] at w7
    refine Eq.trans (b := mSm (fun j => pb8 (n / 256 ^ j % 256)) k + (n / 256 ^ k % 2) + (n / 256 ^ k / 2 % 2) + (n / 256 ^ k / 4 % 2) + (n / 256 ^ k / 8 % 2) + (n / 256 ^ k / 16 % 2) + (n / 256 ^ k / 32 % 2) + (n / 256 ^ k / 64 % 2) + (n / 256 ^ k / 128 % 2)) ?_ ?_
    · exact congr (congrArg _ (congr (congrArg _ (congr (congrArg _ (congr (congrArg _ (congr (congrArg _ (congr (congrArg _ (congr (congrArg _ (congrArg _ w0)) w1)) w2)) w3)) w4)) w5)) w6)) w7
    · generalize n / 256 ^ k = z
      unfold pb8
      omega
theorem pb8_le : ∀ d, d < 256 → pb8 d ≤ 8 := by decide +kernel
/-- the last three steps -/
theorem bs_end {n d0 d1 d2 d3 d4 d5 d6 d7 : Nat} (h : n = d0 + 256 * (d1 + 256 * (d2 + 256 * (d3 + 256 * (d4 + 256 * (d5 + 256 * (d6 + 256 * (d7 + 256 * 0)))))))) (h0 : d0 ≤ 8) (h1 : d1 ≤ 8) (h2 : d2 ≤ 8) (h3 : d3 ≤ 8) (h4 : d4 ≤ 8) (h5 : d5 ≤ 8) (h6 : d6 ≤ 8) (h7 : d7 ≤ 8) :
    ∃ n4 n5 n6, n4 = n + n / 256 ∧ n5 = n4 + n4 / 65536 ∧ n6 = n5 + n5 / 4294967296 ∧ n4 < 18446744073709551616 ∧ n5 < 18446744073709551616 ∧ n6 < 18446744073709551616 ∧ n6 % 128 = d0 + d1 + d2 + d3 + d4 + d5 + d6 + d7 := by
  have q1 : n / 256 = d1 + 256 * (d2 + 256 * (d3 + 256 * (d4 + 256 * (d5 + 256 * (d6 + 256 * d7))))) := by omega
  obtain ⟨n4, r4⟩ : ∃ x, x = n + n / 256 := ⟨_, rfl⟩
  obtain ⟨a0, s0⟩ : ∃ x, x = d0 + d1 := ⟨_, rfl⟩
  obtain ⟨a1, s1⟩ : ∃ x, x = d1 + d2 := ⟨_, rfl⟩
  obtain ⟨a2, s2⟩ : ∃ x, x = d2 + d3 := ⟨_, rfl⟩
  obtain ⟨a3, s3⟩ : ∃ x, x = d3 + d4 := ⟨_, rfl⟩
  obtain ⟨a4, s4⟩ : ∃ x, x = d4 + d5 := ⟨_, rfl⟩
  obtain ⟨a5, s5⟩ : ∃ x, x = d5 + d6 := ⟨_, rfl⟩
  obtain ⟨a6, s6⟩ : ∃ x, x = d6 + d7 := ⟨_, rfl⟩
  have f4 : n4 = a0 + 256 * (a1 + 256 * (a2 + 256 * (a3 + 256 * (a4 + 256 * (a5 + 256 * (a6 + 256 * d7)))))) := by omega
  have g0 : a0 ≤ 16 := by omega
  have g1 : a1 ≤ 16 := by omega
  have g2 : a2 ≤ 16 := by omega
  have g3 : a3 ≤ 16 := by omega
  have g4 : a4 ≤ 16 := by omega
  have g5 : a5 ≤ 16 := by omega
  have g6 : a6 ≤ 16 := by omega
  have t0 : d0 + d1 + d2 + d3 + d4 + d5 + d6 + d7 = a0 + a2 + a4 + a6 := by omega
  rw [t0]
  refine ⟨n4, n4 + n4 / 65536, n4 + n4 / 65536 + (n4 + n4 / 65536) / 4294967296, r4, rfl, rfl, by omega, ?_⟩
  clear r4 q1 h s0 s1 s2 s3 s4 s5 s6 t0
  have q2 : n4 / 65536 = a2 + 256 * (a3 + 256 * (a4 + 256 * (a5 + 256 * (a6 + 256 * d7)))) := by omega
  obtain ⟨n5, r5⟩ : ∃ x, x = n4 + n4 / 65536 := ⟨_, rfl⟩
  rw [← r5]
  obtain ⟨b0, u0⟩ : ∃ x, x = a0 + a2 := ⟨_, rfl⟩
  obtain ⟨b1, u1⟩ : ∃ x, x = a1 + a3 := ⟨_, rfl⟩
  obtain ⟨b2, u2⟩ : ∃ x, x = a2 + a4 := ⟨_, rfl⟩
  obtain ⟨b3, u3⟩ : ∃ x, x = a3 + a5 := ⟨_, rfl⟩
  obtain ⟨b4, u4⟩ : ∃ x, x = a4 + a6 := ⟨_, rfl⟩
  obtain ⟨b5, u5⟩ : ∃ x, x = a5 + d7 := ⟨_, rfl⟩
  have f5 : n5 = b0 + 256 * (b1 + 256 * (b2 + 256 * (b3 + 256 * (b4 + 256 * (b5 + 256 * (a6 + 256 * d7)))))) := by omega
  have v0 : b0 ≤ 32 := by omega
  have v1 : b1 ≤ 32 := by omega
  have v2 : b2 ≤ 32 := by omega
  have v3 : b3 ≤ 32 := by omega
  have v4 : b4 ≤ 32 := by omega
  have v5 : b5 ≤ 32 := by omega
  have t1 : a0 + a2 + a4 + a6 = b0 + b4 := by omega
  rw [t1]
  refine ⟨by omega, ?_⟩
  clear r5 q2 f4 u0 u1 u2 u3 u4 u5 t1
  have q3 : n5 / 4294967296 = b4 + 256 * (b5 + 256 * (a6 + 256 * d7)) := by omega
  rw [q3]
  constructor <;> omega

