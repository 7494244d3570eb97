/-! ===== Int32 by its bits: bt x i ===== -/
def bt (x : Int32) (i : Nat) : Bool := x.toBitVec.getLsbD i
theorem b_ext {x y : Int32} (h : ∀ i, i < 32 → bt x i = bt y i) : x = y := Int32.toBitVec_inj.mp (BitVec.eq_of_getLsbD_eq (fun i hi => h i hi))
theorem b_or (x y : Int32) (i : Nat) : bt (x ||| y) i = (bt x i || bt y i) := by unfold bt; rw [Int32.toBitVec_or, BitVec.getLsbD_or]
theorem b_and (x y : Int32) (i : Nat) : bt (x &&& y) i = (bt x i && bt y i) := by unfold bt; rw [Int32.toBitVec_and, BitVec.getLsbD_and]
theorem b_xor (x y : Int32) (i : Nat) : bt (x ^^^ y) i = (bt x i ^^ bt y i) := by unfold bt; rw [Int32.toBitVec_xor, BitVec.getLsbD_xor]
theorem b_big {x : Int32} {i : Nat} (h : 32 ≤ i) : bt x i = false := BitVec.getLsbD_of_ge _ _ h
theorem b_255 (i : Nat) : bt 255 i = decide (i < 8) := by
  rcases Nat.lt_or_ge i 32 with h | h
  · exact (by decide +kernel : ∀ i, i < 32 → bt 255 i = decide (i < 8)) i h
  · rw [b_big h, decide_eq_false (by omega)]
theorem b_65535 (i : Nat) : bt 65535 i = decide (i < 16) := by
  rcases Nat.lt_or_ge i 32 with h | h
  · exact (by decide +kernel : ∀ i, i < 32 → bt 65535 i = decide (i < 16)) i h
  · rw [b_big h, decide_eq_false (by omega)]
theorem b_m1 : ∀ i, i < 32 → bt (-1) i = true := by decide +kernel
theorem b_0 (i : Nat) : bt 0 i = false := BitVec.getLsbD_zero
theorem s_l : ∀ n, n < 32 → ((nI n &&& 31).toBitVec.smod 32).toNat = n := by decide +kernel
theorem s_u : ∀ n, n < 32 → (((nI n).toUInt32 &&& Int32.toUInt32 31).toBitVec % 32).toNat = n := by decide +kernel
theorem b_shl (n : Nat) (hn : n < 32) (x : Int32) {i : Nat} (hi : i < 32) : bt (x <<< (nI n &&& 31)) i = (decide (n ≤ i) && bt x (i - n)) := by
  unfold bt
  rw [Int32.toBitVec_shiftLeft]
  show (x.toBitVec <<< ((nI n &&& 31).toBitVec.smod 32).toNat).getLsbD i = _
  rw [s_l n hn, BitVec.getLsbD_shiftLeft]
  rcases Nat.lt_or_ge i n with h | h
  · simp [h, Nat.not_le.mpr h]
  · simp [hi, h, Nat.not_lt.mpr h]
theorem b_ushr (n : Nat) (hn : n < 32) (x : Int32) (i : Nat) : bt ((x.toUInt32 >>> ((nI n).toUInt32 &&& Int32.toUInt32 31)).toInt32) i = bt x (n + i) := by
  show (x.toUInt32 >>> ((nI n).toUInt32 &&& Int32.toUInt32 31)).toBitVec.getLsbD i = x.toUInt32.toBitVec.getLsbD (n + i)
  rw [UInt32.toBitVec_shiftRight]
  show (x.toUInt32.toBitVec >>> (((nI n).toUInt32 &&& Int32.toUInt32 31).toBitVec % 32).toNat).getLsbD i = _
  rw [s_u n hn, BitVec.getLsbD_ushiftRight]
theorem b_sshr (n : Nat) (hn : n < 32) (x : Int32) {i : Nat} (hi : i < 32) : bt (x >>> (nI n &&& 31)) i = if n + i < 32 then bt x (n + i) else bt x 31 := by
  unfold bt
  rw [Int32.toBitVec_shiftRight]
  show (x.toBitVec.sshiftRight ((nI n &&& 31).toBitVec.smod 32).toNat).getLsbD i = _
  rw [s_l n hn, BitVec.getLsbD_sshiftRight, BitVec.msb_eq_getLsbD_last]
  simp [hi]
theorem b_shl8 (x : Int32) {i : Nat} (hi : i < 32) : bt (x <<< ((8 : Int32) &&& 31)) i = (decide (8 ≤ i) && bt x (i - 8)) := b_shl 8 (by omega) x hi
theorem b_shl16 (x : Int32) {i : Nat} (hi : i < 32) : bt (x <<< ((16 : Int32) &&& 31)) i = (decide (16 ≤ i) && bt x (i - 16)) := b_shl 16 (by omega) x hi
theorem b_shl24 (x : Int32) {i : Nat} (hi : i < 32) : bt (x <<< ((24 : Int32) &&& 31)) i = (decide (24 ≤ i) && bt x (i - 24)) := b_shl 24 (by omega) x hi
theorem b_sshr8 (x : Int32) {i : Nat} (hi : i < 32) : bt (x >>> ((8 : Int32) &&& 31)) i = if 8 + i < 32 then bt x (8 + i) else bt x 31 := b_sshr 8 (by omega) x hi
/-! the pure layer: bits of longs, frames, the picture of a box in the class (BX) and in the reference (RX) -/
def bL (x : Int64) (i : Nat) : Bool := x.toBitVec.getLsbD i
theorem bL_ext {x y : Int64} (h : ∀ i, i < 64 → bL x i = bL y i) : x = y := Int64.toBitVec_inj.mp (BitVec.eq_of_getLsbD_eq (fun i hi => h i hi))
theorem bL_or (x y : Int64) (i : Nat) : bL (x ||| y) i = (bL x i || bL y i) := by unfold bL; rw [Int64.toBitVec_or, BitVec.getLsbD_or]
theorem bL_and (x y : Int64) (i : Nat) : bL (x &&& y) i = (bL x i && bL y i) := by unfold bL; rw [Int64.toBitVec_and, BitVec.getLsbD_and]
theorem bL_xor (x y : Int64) (i : Nat) : bL (x ^^^ y) i = (bL x i ^^ bL y i) := by unfold bL; rw [Int64.toBitVec_xor, BitVec.getLsbD_xor]
theorem bL_big {x : Int64} {i : Nat} (h : 64 ≤ i) : bL x i = false := BitVec.getLsbD_of_ge _ _ h
theorem bL_0 (i : Nat) : bL 0 i = false := BitVec.getLsbD_zero
theorem bL_m1 : ∀ i, i < 64 → bL (-1) i = true := by decide +kernel
theorem bL_1 (i : Nat) : bL 1 i = decide (i = 0) := by
  rcases Nat.lt_or_ge i 64 with h | h
  · exact (by decide +kernel : ∀ i, i < 64 → bL 1 i = decide (i = 0)) i h
  · rw [bL_big h, decide_eq_false (by omega)]
theorem sL_l : ∀ n, n < 64 → (((nI n).toInt64 &&& 63).toBitVec.smod 64).toNat = n := by decide +kernel
theorem sL_u : ∀ n, n < 64 → (((nI n).toInt64.toUInt64 &&& Int64.toUInt64 63).toBitVec % 64).toNat = n := by decide +kernel
theorem bL_shl (n : Nat) (hn : n < 64) (x : Int64) {i : Nat} (hi : i < 64) : bL (x <<< ((nI n).toInt64 &&& 63)) i = (decide (n ≤ i) && bL x (i - n)) := by
  unfold bL
  rw [Int64.toBitVec_shiftLeft]
  show (x.toBitVec <<< (((nI n).toInt64 &&& 63).toBitVec.smod 64).toNat).getLsbD i = _
  rw [sL_l n hn, BitVec.getLsbD_shiftLeft]
  rcases Nat.lt_or_ge i n with h | h
  · simp [h, Nat.not_le.mpr h]
  · simp [hi, h, Nat.not_lt.mpr h]
theorem bL_ushr (n : Nat) (hn : n < 64) (x : Int64) (i : Nat) : bL ((x.toUInt64 >>> ((nI n).toInt64.toUInt64 &&& Int64.toUInt64 63)).toInt64) i = bL x (n + i) := by
  show (x.toUInt64 >>> ((nI n).toInt64.toUInt64 &&& Int64.toUInt64 63)).toBitVec.getLsbD i = x.toUInt64.toBitVec.getLsbD (n + i)
  rw [UInt64.toBitVec_shiftRight]
  show (x.toUInt64.toBitVec >>> (((nI n).toInt64.toUInt64 &&& Int64.toUInt64 63).toBitVec % 64).toNat).getLsbD i = _
  rw [sL_u n hn, BitVec.getLsbD_ushiftRight]
theorem bL_bit (n : Nat) (hn : n < 64) (x : Int64) : ((x.toUInt64 >>> ((nI n).toInt64.toUInt64 &&& Int64.toUInt64 63)).toInt64) &&& 1 = if bL x n = true then 1 else 0 := by
  refine bL_ext fun i hi => ?_
  rw [bL_and, bL_ushr n hn, bL_1]
  by_cases h : i = 0
  · subst h
    rw [Nat.add_zero]
    cases bL x n <;> simp [bL_1, bL_0]
  · rw [decide_eq_false h, Bool.and_false]
    cases bL x n <;> simp [bL_1, bL_0, h]
theorem bL_one (n : Nat) (hn : n < 64) {i : Nat} (hi : i < 64) : bL ((1 : Int64) <<< ((nI n).toInt64 &&& 63)) i = decide (i = n) := by
  rw [bL_shl n hn _ hi, bL_1]
  by_cases h : i = n
  · subst h; simp
  · rw [decide_eq_false h]
    rcases Nat.lt_or_ge i n with h2 | h2
    · rw [decide_eq_false (by omega), Bool.false_and]
    · rw [decide_eq_false (by omega : ¬ i - n = 0), Bool.and_false]
theorem lgc0 (x : Int64) : lg_cmp x 0 = 0 ↔ x = 0 := by
  unfold lg_cmp
  constructor
  · intro h
    split at h
    · cases h
    · split at h
      · assumption
      · cases h
  · rintro rfl
    rfl
theorem b_1 (i : Nat) : bt 1 i = decide (i = 0) := by
  rcases Nat.lt_or_ge i 32 with h | h
  · exact (by decide +kernel : ∀ i, i < 32 → bt 1 i = decide (i = 0)) i h
  · rw [b_big h, decide_eq_false (by omega)]
theorem b_bit (n : Nat) (hn : n < 32) (x : Int32) : (x >>> (nI n &&& 31)) &&& 1 = if bt x n = true then 1 else 0 := by
  refine b_ext fun i hi => ?_
  rw [b_and, b_sshr n hn x hi, b_1]
  by_cases h : i = 0
  · subst h
    rw [Nat.add_zero, if_pos hn]
    cases bt x n <;> simp [b_1, b_0]
  · rw [decide_eq_false h, Bool.and_false]
    cases bt x n <;> simp [b_1, b_0, h]
theorem b_one (n : Nat) (hn : n < 32) {i : Nat} (hi : i < 32) : bt ((1 : Int32) <<< (nI n &&& 31)) i = decide (i = n) := by
  rw [b_shl n hn _ hi, b_1]
  by_cases h : i = n
  · subst h; simp
  · rw [decide_eq_false h]
    rcases Nat.lt_or_ge i n with h2 | h2
    · rw [decide_eq_false (by omega), Bool.false_and]
    · rw [decide_eq_false (by omega : ¬ i - n = 0), Bool.and_false]
/-! frames -/
abbrev NW : Rf := (19, 0, 0)
abbrev R8 : Rf := (18, 0, 0)
abbrev GF : Type := Nat → Int32
abbrev PF : Type := Nat → Nat → Nat → Bool
def Fr (S : Rf → Bool) (M M' : Mm) : Prop := ∀ r, S r = false → M'.1 r = M.1 r ∧ M'.2 r = M.2 r
theorem fr_rf {S : Rf → Bool} {M : Mm} : Fr S M M := fun _ _ => ⟨rfl, rfl⟩
theorem fr_tr {S : Rf → Bool} {M M1 M2 : Mm} (h : Fr S M M1) (h2 : Fr S M1 M2) : Fr S M M2 := fun r hr => ⟨(h2 r hr).1.trans (h r hr).1, (h2 r hr).2.trans (h r hr).2⟩
theorem fr_mono {S S' : Rf → Bool} {M M' : Mm} (hs : ∀ r, S r = true → S' r = true) (h : Fr S M M') : Fr S' M M' := fun r hr => h r (by
  cases e : S r with
  | false => rfl
  | true => rw [hs r e] at hr; cases hr)
theorem fr_putI {S : Rf → Bool} {M : Mm} {r : Rf} {j : Nat} {v : Int32} (hr : S r = true) : Fr S M (putI M r j v) := by
  intro r' h'
  have hne : r' ≠ r := by intro e; rw [e, hr] at h'; cases h'
  exact ⟨putI_ne hne, rfl⟩
theorem fr_putL {S : Rf → Bool} {M : Mm} {r : Rf} {j : Nat} {v : Int64} (hr : S r = true) : Fr S M (putL M r j v) := by
  intro r' h'
  have hne : r' ≠ r := by intro e; rw [e, hr] at h'; cases h'
  exact ⟨rfl, putL_ne hne⟩
theorem fr_pI {S : Rf → Bool} {M M1 : Mm} {r : Rf} {j : Nat} {v : Int32} (h : Fr S M M1) (hr : S r = true) : Fr S M (putI M1 r j v) := fr_tr h (fr_putI hr)
theorem fr_pL {S : Rf → Bool} {M M1 : Mm} {r : Rf} {j : Nat} {v : Int64} (h : Fr S M M1) (hr : S r = true) : Fr S M (putL M1 r j v) := fr_tr h (fr_putL hr)
theorem g_put {M : Mm} {r r' : Rf} {j j' : Nat} {v : Int32} : (putI M r j v).1 r' j' = if r' = r ∧ j' = j then v else M.1 r' j' := by
  by_cases h : r' = r ∧ j' = j
  · rw [if_pos h]; simp [putI, h.1, h.2]
  · rw [if_neg h]
    have : ¬ (r'.1 = r.1 ∧ j' = j ∧ r' = r) := fun c => h ⟨c.2.2, c.2.1⟩
    simp only [putI, if_neg this]
theorem g_putL {M : Mm} {r r' : Rf} {j j' : Nat} {v : Int64} : (putL M r j v).2 r' j' = if r' = r ∧ j' = j then v else M.2 r' j' := by
  by_cases h : r' = r ∧ j' = j
  · rw [if_pos h]; simp [putL, h.1, h.2]
  · rw [if_neg h]
    have : ¬ (r'.1 = r.1 ∧ j' = j ∧ r' = r) := fun c => h ⟨c.2.2, c.2.1⟩
    simp only [putL, if_neg this]
theorem g_row {M : Mm} {r : Rf} {j : Nat} {v : Int32} : (putI M r j v).1 r = upd (M.1 r) j v := by
  funext j'
  rw [g_put, upd]
  simp
theorem g_2 {M : Mm} {r : Rf} {j : Nat} {v : Int32} : (putI M r j v).2 = M.2 := rfl
theorem g_1 {M : Mm} {r : Rf} {j : Nat} {v : Int64} : (putL M r j v).1 = M.1 := rfl
theorem upd_s {f : GF} {k : Nat} {v : Int32} : upd f k v k = v := by simp [upd]
theorem upd_o {f : GF} {k j : Nat} {v : Int32} (h : j ≠ k) : upd f k v j = f j := by simp [upd, h]
/-! where the class keeps the numbers of a box -/
def vk (T k : Nat) : Prop := k < 11 ∨ (16 ≤ k ∧ k < 16 + 6 * T)
def lc (i k : Nat) : Rf × Nat := if 16 ≤ k then ((13, i, (k - 16) / 6), (k - 16) % 6) else match k with
  | 0 => ((10, i, 0), 1) | 1 => ((9, i, 0), 3) | 2 => ((9, i, 0), 4) | 3 => ((9, i, 0), 2) | 4 => ((10, i, 0), 3) | 5 => ((10, i, 0), 2)
  | 6 => ((9, i, 0), 5) | 7 => ((9, i, 0), 6) | 8 => ((9, i, 0), 7) | 9 => ((9, i, 0), 8) | _ => ((9, i, 0), 9)
def lcd (q : Rf × Nat) : Nat := if q.1.1 = 13 then 16 + 6 * q.1.2.2 + q.2 else if q.1.1 = 10 then [0, 0, 5, 4].getD q.2 0 else [0, 0, 3, 1, 2, 6, 7, 8, 9, 10].getD q.2 0
theorem lt11 {k : Nat} (h : k < 11) : k = 0 ∨ k = 1 ∨ k = 2 ∨ k = 3 ∨ k = 4 ∨ k = 5 ∨ k = 6 ∨ k = 7 ∨ k = 8 ∨ k = 9 ∨ k = 10 := by omega
theorem lcd_lc {T i k : Nat} (h : vk T k) : lcd (lc i k) = k := by
  rcases h with h | ⟨h, -⟩
  · rcases lt11 h with rfl | rfl | rfl | rfl | rfl | rfl | rfl | rfl | rfl | rfl | rfl <;> rfl
  · unfold lc
    rw [if_pos h]
    show 16 + 6 * ((k - 16) / 6) + (k - 16) % 6 = k
    omega
theorem lc_t {i t p : Nat} (hp : p < 6) : lc i (16 + 6 * t + p) = ((13, i, t), p) := by
  unfold lc
  rw [if_pos (by omega), show (16 + 6 * t + p - 16) / 6 = t by omega, show (16 + 6 * t + p - 16) % 6 = p by omega]
theorem lc_i {T i k : Nat} (h : vk T k) : (lc i k).1.2.1 = i := by
  rcases h with h | ⟨h, -⟩
  · rcases lt11 h with rfl | rfl | rfl | rfl | rfl | rfl | rfl | rfl | rfl | rfl | rfl <;> rfl
  · unfold lc
    rw [if_pos h]
def sBx (i : Nat) (r : Rf) : Bool := (r.1 == 9 || r.1 == 10 || r.1 == 11 || r.1 == 13) && r.2.1 == i
theorem sBx_1 {a i t : Nat} (h : (a == 9 || a == 10 || a == 11 || a == 13) = true) : sBx i (a, i, t) = true := by simp only [sBx, h, beq_self_eq_true, Bool.and_self]
theorem sBx_0 {a i j t : Nat} (h : (a == 9 || a == 10 || a == 11 || a == 13) = false) : sBx i (a, j, t) = false := by simp only [sBx, h, Bool.false_and]
theorem sBx_ne {a i j t : Nat} (h : j ≠ i) : sBx i (a, j, t) = false := by simp [sBx, h]
theorem lc_s {T i k : Nat} (h : vk T k) : sBx i (lc i k).1 = true := by
  rcases h with h | ⟨h, -⟩
  · rcases lt11 h with rfl | rfl | rfl | rfl | rfl | rfl | rfl | rfl | rfl | rfl | rfl <;> exact sBx_1 rfl
  · unfold lc
    rw [if_pos h]
    exact sBx_1 rfl
/-- box i of the class is (g, P), with T teeth -/
def BX (M : Mm) (T i : Nat) (g : GF) (P : PF) : Prop := (∀ k, vk T k → M.1 (lc i k).1 (lc i k).2 = g k) ∧ ∀ m, m < 3 → ∀ t, t < 12 → ∀ s, s < 64 → bL (M.2 (11, i, 0) (12 * m + t)) s = P m t s
theorem vk_s {T k : Nat} (h : k.blt 11 = true) : vk T k := Or.inl (by simpa using h)
theorem vk_t {T t p : Nat} (ht : t < T) (hp : p < 6) : vk T (16 + 6 * t + p) := Or.inr ⟨by omega, by omega⟩
theorem bx_t {M : Mm} {T i t p : Nat} {g : GF} {P : PF} (h : BX M T i g P) (ht : t < T) (hp : p < 6) : M.1 (13, i, t) p = g (16 + 6 * t + p) := by
  have h1 := h.1 _ (vk_t ht hp)
  rw [lc_t hp] at h1
  exact h1
theorem bx_put {M : Mm} {T i k : Nat} {g : GF} {P : PF} {v : Int32} (hk : vk T k) (h : BX M T i g P) : BX (putI M (lc i k).1 (lc i k).2 v) T i (upd g k v) P := by
  refine ⟨fun k' hk' => ?_, fun m hm t ht s hs => h.2 m hm t ht s hs⟩
  rw [g_put]
  by_cases e : k' = k
  · subst e; rw [if_pos ⟨rfl, rfl⟩, upd_s]
  · rw [if_neg (fun c => e ((lcd_lc hk').symm.trans ((congrArg lcd (Prod.ext c.1 c.2)).trans (lcd_lc hk)))), upd_o e]
    exact h.1 k' hk'
theorem bx_putT {M : Mm} {T i t p : Nat} {g : GF} {P : PF} {v : Int32} (ht : t < T) (hp : p < 6) (h : BX M T i g P) : BX (putI M (13, i, t) p v) T i (upd g (16 + 6 * t + p) v) P := by
  have h1 := bx_put (v := v) (vk_t ht hp) h
  rw [lc_t hp] at h1
  exact h1
theorem bx_row {M : Mm} {T i m t : Nat} {g : GF} {P : PF} {x : Int64} {q : Nat → Bool} (ht : t < 12) (hx : ∀ s, s < 64 → bL x s = q s) (h : BX M T i g P) : BX (putL M (11, i, 0) (12 * m + t) x) T i g (fun m' t' s' => if m' = m ∧ t' = t then q s' else P m' t' s') := by
  refine ⟨h.1, fun m' hm' t' ht' s hs => ?_⟩
  rw [g_putL]
  dsimp only
  by_cases e : m' = m ∧ t' = t
  · obtain ⟨rfl, rfl⟩ := e
    rw [if_pos ⟨rfl, rfl⟩, if_pos ⟨rfl, rfl⟩]
    exact hx s hs
  · rw [if_neg (fun c => e (by omega)), if_neg e]
    exact h.2 m' hm' t' ht' s hs
theorem bx_fr {M M' : Mm} {T i : Nat} {g : GF} {P : PF} {S : Rf → Bool} (hS : ∀ r, sBx i r = true → S r = false) (hF : Fr S M M') (h : BX M T i g P) : BX M' T i g P := by
  refine ⟨fun k hk => ?_, fun m hm t ht s hs => ?_⟩
  · rw [(hF _ (hS _ (lc_s hk))).1]
    exact h.1 k hk
  · rw [(hF _ (hS _ (sBx_1 rfl))).2]
    exact h.2 m hm t ht s hs
theorem bx_P {M : Mm} {T i : Nat} {g : GF} {P P' : PF} (hP : ∀ m t s, m < 3 → t < 12 → s < 64 → P m t s = P' m t s) (h : BX M T i g P) : BX M T i g P' := ⟨h.1, fun m hm t ht s hs => (h.2 m hm t ht s hs).trans (hP m t s hm ht hs)⟩
theorem bx_g {M : Mm} {T i : Nat} {g g' : GF} {P : PF} (hg : ∀ k, vk T k → g k = g' k) (h : BX M T i g P) : BX M T i g' P := ⟨fun k hk => (h.1 k hk).trans (hg k hk), h.2⟩
theorem sBx_dis {i j : Nat} (h : i ≠ j) : ∀ r, sBx i r = true → sBx j r = false := by
  rintro ⟨a, b, c⟩ hr
  simp only [sBx, Bool.and_eq_true, beq_iff_eq] at hr
  exact sBx_ne (by rw [hr.2]; exact h)
/-- the row f of the reference is (g, P) -/
def RX (f : GF) (g : GF) (P : PF) : Prop := (∀ k, k < 88 → f k = g k) ∧ ∀ m, m < 3 → ∀ s, s < 64 → ∀ t, t < 32 → bt (f (88 + 64 * m + s)) t = P m t s
def sNW (r : Rf) : Bool := r == NW
theorem rx_put {f g : GF} {P : PF} {k : Nat} {v : Int32} (hk : k < 88) (h : RX f g P) : RX (upd f k v) (upd g k v) P := by
  refine ⟨fun k' hk' => ?_, fun m hm s hs t ht => ?_⟩
  · by_cases e : k' = k
    · subst e; rw [upd_s, upd_s]
    · rw [upd_o e, upd_o e]; exact h.1 k' hk'
  · rw [upd_o (by omega)]; exact h.2 m hm s hs t ht
theorem rx_set {f g : GF} {P : PF} {m s : Nat} {x : Int32} {q : Nat → Bool} (hs : s < 64) (hx : ∀ t, t < 32 → bt x t = q t) (h : RX f g P) : RX (upd f (88 + 64 * m + s) x) g (fun m' t' s' => if m' = m ∧ s' = s then q t' else P m' t' s') := by
  refine ⟨fun k' hk' => ?_, fun m' hm' s' hs' t' ht' => ?_⟩
  · rw [upd_o (by omega)]; exact h.1 k' hk'
  · dsimp only
    by_cases e : m' = m ∧ s' = s
    · obtain ⟨rfl, rfl⟩ := e
      rw [upd_s, if_pos ⟨rfl, rfl⟩]
      exact hx t' ht'
    · rw [upd_o (by omega), if_neg e]; exact h.2 m' hm' s' hs' t' ht'
theorem rx_P {f g : GF} {P P' : PF} (hP : ∀ m t s, m < 3 → t < 32 → s < 64 → P m t s = P' m t s) (h : RX f g P) : RX f g P' := ⟨h.1, fun m hm s hs t ht => (h.2 m hm s hs t ht).trans (hP m t s hm ht hs)⟩
/-- what holds of a box: steps, teeth, turns, angle, tune, position -/
def Iv (g : GF) (P : PF) (S T U A m p : Nat) : Prop := g 0 = nI S ∧ g 1 = nI U ∧ g 2 = nI A ∧ g 3 = nI T ∧ g 4 = nI m ∧ g 5 = nI p ∧ (4 ≤ S ∧ S ≤ 64) ∧ (1 ≤ T ∧ T ≤ 12) ∧ U ≤ 20 ∧ A ≤ 90 ∧ m < 3 ∧ p < S ∧ (∀ t, t < T → (0 ≤ g (16 + 6 * t) ∧ g (16 + 6 * t) ≤ 60) ∧ (-3 ≤ g (16 + 6 * t + 1) ∧ g (16 + 6 * t + 1) ≤ 3)) ∧ ∀ m t s, P m t s = true → m < 3 ∧ t < T ∧ s < S
def bI (b : Bool) : Int32 := if b = true then 1 else 0
theorem bI_0 {b : Bool} : bI b = 0 ↔ b = false := by cases b <;> simp [bI]
theorem bI_1 {b : Bool} : bI b = 1 ↔ b = true := by cases b <;> simp [bI]
theorem ix12 (m t : Nat) : nI m * 12 + nI t = nI (12 * m + t) := by
  show nI m * nI 12 + nI t = _
  rw [pk_mul, nI_add, Nat.mul_comm]
theorem ix88 (m s : Nat) : (88 + 64 * nI m) + nI s = nI (88 + 64 * m + s) := by
  show (nI 88 + nI 64 * nI m) + nI s = _
  rw [pk_mul, nI_add, nI_add]
theorem ix16 (t p : Nat) : (16 + 6 * nI t) + nI p = nI (16 + 6 * t + p) := by
  show (nI 16 + nI 6 * nI t) + nI p = _
  rw [pk_mul, nI_add, nI_add]
theorem nI_g12 {t : Nat} (h : t < 12) : ¬ (12 : Int32) ≤ nI t := nI_ge (b := 12) h (by decide)

