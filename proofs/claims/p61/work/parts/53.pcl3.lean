/-! the class's box: pins that are put, taken, turned, moved, copied -/
def pAdd (P : PF) (m t s : Nat) : PF := fun m' t' s' => P m' t' s' || decide (m' = m ∧ t' = t ∧ s' = s)
def pDel (P : PF) (m t s : Nat) : PF := fun m' t' s' => P m' t' s' && !decide (m' = m ∧ t' = t ∧ s' = s)
theorem cl_putPin {M : Mm} {T i m t s : Nat} {g : GF} {P : PF} (h : BX M T i g P) (hm : m < 3) (ht : t < 12) (hs : s < 64) : ∃ M', fX3_putPin M i (nI m) (nI t) (nI s) = some M' ∧ BX M' T i g (pAdd P m t s) ∧ Fr (sBx i) M M' := by
  rw [fX3_putPin, cl_row hm ht, Option.bind_some, cl_setRow hm ht, Option.bind_some]
  refine ⟨_, rfl, bx_P (fun m' t' s' _ _ hs' => ?_) (bx_row (q := fun s' => P m t s' || decide (s' = s)) ht (fun s' hs' => ?_) h), fr_putL (sBx_1 rfl)⟩
  · unfold pAdd
    by_cases e : m' = m ∧ t' = t
    · rw [if_pos e, e.1, e.2]; simp
    · rw [if_neg e]
      have : ¬ (m' = m ∧ t' = t ∧ s' = s) := fun c => e ⟨c.1, c.2.1⟩
      simp [this]
  · rw [bL_or, h.2 m hm t ht s' hs', bL_one s hs hs']
theorem cl_takePin {M : Mm} {T i m t s : Nat} {g : GF} {P : PF} (h : BX M T i g P) (hm : m < 3) (ht : t < 12) (hs : s < 64) : ∃ M', fX3_takePin M i (nI m) (nI t) (nI s) = some M' ∧ BX M' T i g (pDel P m t s) ∧ Fr (sBx i) M M' := by
  rw [fX3_takePin, cl_row hm ht, Option.bind_some, cl_setRow hm ht, Option.bind_some]
  refine ⟨_, rfl, bx_P (fun m' t' s' _ _ hs' => ?_) (bx_row (q := fun s' => P m t s' && !decide (s' = s)) ht (fun s' hs' => ?_) h), fr_putL (sBx_1 rfl)⟩
  · unfold pDel
    by_cases e : m' = m ∧ t' = t
    · rw [if_pos e, e.1, e.2]; simp
    · rw [if_neg e]
      have : ¬ (m' = m ∧ t' = t ∧ s' = s) := fun c => e ⟨c.1, c.2.1⟩
      simp [this]
  · rw [bL_and, h.2 m hm t ht s' hs', bL_xor, bL_one s hs hs', bL_m1 s' hs', Bool.xor_true]
/-- tune m's pins become Q -/
def pTune (P : PF) (m : Nat) (Q : Nat → Nat → Bool) : PF := fun m' t' s' => if m' = m then Q t' s' else P m' t' s'
theorem cl_copyPins {T i a b : Nat} {g : GF} {P : PF} (ha : a < 3) (hb : b < 3) (hab : a ≠ b) {K : Int32 → Mm → Option Mm} : ∀ (d t : Nat) (M : Mm) (n : Nat), t + d = 12 → d < n → BX M T i g (pTune P b (fun t' s' => if t' < t then P a t' s' else P b t' s')) →
    ∃ M', BX M' T i g (pTune P b (P a)) ∧ Fr (sBx i) M M' ∧ fX3_copyPins_L2 i (nI a) (nI b) K n (nI t) M = K (nI 12) M' := by
  intro d
  induction d with
  | zero =>
    intro t M n ht hn h
    have e : t = 12 := by omega
    subst e
    obtain ⟨n, rfl⟩ : ∃ q, n = q + 1 := ⟨n - 1, by omega⟩
    refine ⟨M, bx_P (fun m' t' s' _ ht' _ => ?_) h, fr_rf, by rw [fX3_copyPins_L2, if_pos (show (12 : Int32) ≤ nI 12 by decide)]⟩
    unfold pTune
    dsimp only
    rw [if_pos ht']
  | succ d ih =>
    intro t M n ht hn h
    obtain ⟨n, rfl⟩ : ∃ q, n = q + 1 := ⟨n - 1, by omega⟩
    rw [fX3_copyPins_L2, if_neg (show ¬ (12 : Int32) ≤ nI t from nI_ge (b := 12) (by omega) (by decide)), cl_row ha (by omega), Option.bind_some, cl_setRow hb (by omega), Option.bind_some, ← nI_succ]
    obtain ⟨M', a1, a2, a3⟩ := ih (t + 1) (putL M (11, i, 0) (12 * b + t) (M.2 (11, i, 0) (12 * a + t))) n (by omega) (by omega) (bx_P (fun m' t' s' _ _ _ => by
      unfold pTune
      by_cases e1 : m' = b
      · subst e1
        by_cases e2 : t' = t
        · subst e2; simp
        · by_cases e3 : t' < t
          · simp [e2, e3, show t' < t + 1 by omega]
          · simp [e2, e3, show ¬ t' < t + 1 by omega]
      · simp [e1]) (bx_row (q := P a t) (by omega) (fun s hs => by
        rw [h.2 a ha t (by omega) s hs, pTune, if_neg hab]) h))
    exact ⟨M', a1, fr_tr (fr_putL (sBx_1 rfl)) a2, a3⟩
theorem cl_copyTune {M : Mm} {T i a b : Nat} {g : GF} {P : PF} (ha : a < 3) (hb : b < 3) (hab : a ≠ b) (h : BX M T i g P) : ∃ M', fX3_copyPins M i (nI a) (nI b) = some M' ∧ BX M' T i g (pTune P b (P a)) ∧ Fr (sBx i) M M' := by
  obtain ⟨M', a1, a2, a3⟩ := cl_copyPins (P := P) (K := fun w6 M7 => some M7) ha hb hab 12 0 M NF rfl (by unfold NF; omega) (bx_P (fun m' t' s' _ _ _ => by
    unfold pTune
    by_cases e : m' = b
    · subst e; simp
    · rw [if_neg e]) h)
  exact ⟨M', a3, a1, a2⟩
/-- the row of a tooth, turned -/
theorem turn_ix {S f b v : Nat} (hf : f < S) (hb : b < S) (hv : v < S) : (b + S - f) % S = v ↔ b = if v + f < S then v + f else v + f - S := by
  by_cases h : f ≤ b
  · rw [show b + S - f = (b - f) + S by omega, Nat.add_mod_right, Nat.mod_eq_of_lt (by omega)]
    split <;> omega
  · rw [Nat.mod_eq_of_lt (by omega)]
    split <;> omega
theorem cl_turnedL {M : Mm} {i S f : Nat} {row : Int64} (hS0 : M.1 (10, i, 0) 1 = nI S) (hS : S ≤ 64) (hf : f < S) {K : Int64 → Int32 → Option Int64} : ∀ (d v n : Nat) (x : Int64), v + d = S → d < n → (∀ b, b < 64 → bL x b = (decide (b < S) && (decide ((b + S - f) % S < v) && bL row ((b + S - f) % S)))) →
    ∃ x', (∀ b, b < 64 → bL x' b = (decide (b < S) && bL row ((b + S - f) % S))) ∧ fX3_turnedRow_L6 M i row (nI f) K n x (nI v) = K x' (nI S) := by
  intro d
  induction d with
  | zero =>
    intro v n x hv hn h
    have e : v = S := by omega
    subst e
    obtain ⟨n, rfl⟩ : ∃ q, n = q + 1 := ⟨n - 1, by omega⟩
    refine ⟨x, fun b hb => ?_, by rw [fX3_turnedRow_L6, hS0, if_pos (nI_le (Nat.le_refl _) (by omega))]⟩
    rw [h b hb, decide_eq_true (Nat.mod_lt _ (by omega)), Bool.true_and]
  | succ d ih =>
    intro v n x hv hn h
    obtain ⟨n, rfl⟩ : ∃ q, n = q + 1 := ⟨n - 1, by omega⟩
    have key : ∀ tg, tg < S → (∀ b, b < S → ((b + S - f) % S = v ↔ b = tg)) → ∀ b, b < 64 → bL (x ||| ((((row.toUInt64 >>> ((nI v).toInt64.toUInt64 &&& Int64.toUInt64 63)).toInt64) &&& (1 : Int64)) <<< ((nI tg).toInt64 &&& 63))) b = (decide (b < S) && (decide ((b + S - f) % S < v + 1) && bL row ((b + S - f) % S))) := by
      intro tg htg hix b hb
      rw [bL_or, h b hb, bL_bit v (by omega), bL_shl tg (by omega) _ hb]
      by_cases hbS : b < S
      · have hx := hix b hbS
        rw [decide_eq_true hbS]
        generalize (b + S - f) % S = y at *
        by_cases e : b = tg
        · have ey := hx.mpr e
          subst e
          subst ey
          rw [Nat.sub_self]
          cases bL row y <;> simp [bL_0, bL_1]
        · have ny : y ≠ v := fun c => e (hx.mp c)
          have z : (decide (tg ≤ b) && bL (if bL row v = true then (1 : Int64) else 0) (b - tg)) = false := by
            by_cases e2 : tg ≤ b
            · have : b - tg ≠ 0 := by omega
              split <;> simp [bL_0, bL_1, this]
            · simp [e2]
          rw [z, Bool.or_false]
          have : (decide (y < v)) = decide (y < v + 1) := decide_eq_decide.mpr (by omega)
          rw [this]
      · rw [decide_eq_false hbS, Bool.false_and, Bool.false_and, Bool.false_or]
        by_cases e2 : tg ≤ b
        · have : b - tg ≠ 0 := by omega
          split <;> simp [bL_0, bL_1, this]
        · simp [e2]
    rw [fX3_turnedRow_L6, hS0, if_neg (nI_ge (by omega) (by omega)), nI_add, ← nI_succ]
    by_cases c : S ≤ v + f
    · rw [if_pos (nI_le c (by omega)), pk_sub c]
      exact ih (v + 1) n _ (by omega) (by omega) (key (v + f - S) (by omega) (fun b hb => by rw [turn_ix hf hb (by omega), if_neg (by omega)]))
    · rw [if_neg (nI_ge (by omega) (by omega))]
      exact ih (v + 1) n _ (by omega) (by omega) (key (v + f) (by omega) (fun b hb => by rw [turn_ix hf hb (by omega), if_pos (by omega)]))
theorem cl_turnedRow {M : Mm} {i S f : Nat} {row : Int64} (hS0 : M.1 (10, i, 0) 1 = nI S) (hS : S ≤ 64) (hf : f < S) : ∃ x', fX3_turnedRow M i row (nI f) = some x' ∧ ∀ b, b < 64 → bL x' b = (decide (b < S) && bL row ((b + S - f) % S)) := by
  obtain ⟨x', a1, a2⟩ := cl_turnedL (K := fun w3 w4 => some w3) (row := row) hS0 hS hf S 0 NF 0 (by omega) (by unfold NF; omega) (fun b hb => by simp [bL_0])
  exact ⟨x', a2, a1⟩
/-- tune m, turned by f -/
def pTurn (P : PF) (S m f : Nat) : Nat → Nat → Bool := fun t s => decide (s < S) && P m t ((s + S - f) % S)
theorem cl_turnL {T i m f S : Nat} {g : GF} {P : PF} (hm : m < 3) (hf : f < S) (h0 : g 0 = nI S) (hS : S ≤ 64) {K : Int32 → Mm → Option Mm} : ∀ (d t : Nat) (M : Mm) (n : Nat), t + d = 12 → d < n → BX M T i g (pTune P m (fun t' s' => if t' < t then pTurn P S m f t' s' else P m t' s')) →
    ∃ M', BX M' T i g (pTune P m (pTurn P S m f)) ∧ Fr (sBx i) M M' ∧ fX3_turnPins_L16 i (nI m) (nI f) K n (nI t) M = K (nI 12) M' := by
  intro d
  induction d with
  | zero =>
    intro t M n ht hn h
    have e : t = 12 := by omega
    subst e
    obtain ⟨n, rfl⟩ : ∃ q, n = q + 1 := ⟨n - 1, by omega⟩
    refine ⟨M, bx_P (fun m' t' s' _ ht' _ => ?_) h, fr_rf, by rw [fX3_turnPins_L16, if_pos (show (12 : Int32) ≤ nI 12 by decide)]⟩
    unfold pTune
    dsimp only
    rw [if_pos ht']
  | succ d ih =>
    intro t M n ht hn h
    obtain ⟨n, rfl⟩ : ∃ q, n = q + 1 := ⟨n - 1, by omega⟩
    have e0 : M.1 (10, i, 0) 1 = nI S := (h.1 0 (vk_s rfl)).trans h0
    obtain ⟨x', x1, x2⟩ := cl_turnedRow (row := M.2 (11, i, 0) (12 * m + t)) e0 hS hf
    rw [fX3_turnPins_L16, if_neg (show ¬ (12 : Int32) ≤ nI t from nI_ge (b := 12) (by omega) (by decide)), cl_row hm (by omega), Option.bind_some, x1, Option.bind_some, cl_setRow hm (by omega), Option.bind_some, ← nI_succ]
    obtain ⟨M', a1, a2, a3⟩ := ih (t + 1) (putL M (11, i, 0) (12 * m + t) x') n (by omega) (by omega) (bx_P (fun m' t' s' _ _ _ => by
      unfold pTune
      by_cases e1 : m' = m
      · subst e1
        by_cases e2 : t' = t
        · subst e2; simp
        · by_cases e3 : t' < t
          · simp [e2, e3, show t' < t + 1 by omega]
          · simp [e2, e3, show ¬ t' < t + 1 by omega]
      · simp [e1]) (bx_row (q := pTurn P S m f t) (by omega) (fun s hs => by
        rw [x2 s hs, pTurn]
        by_cases hsS : s < S
        · rw [h.2 m hm t (by omega) _ (Nat.lt_of_lt_of_le (Nat.mod_lt _ (by omega)) hS), pTune, if_pos rfl, if_neg (Nat.lt_irrefl t)]
        · rw [decide_eq_false hsS, Bool.false_and, Bool.false_and]) h))
    exact ⟨M', a1, fr_tr (fr_putL (sBx_1 rfl)) a2, a3⟩
theorem cl_turn {M : Mm} {T i m k S : Nat} {g : GF} {P : PF} (hm : m < 3) (hk : k < 64) (h0 : g 0 = nI S) (hS : 0 < S ∧ S ≤ 64) (h : BX M T i g P) : ∃ M', fX3_turnPins M i (nI m) (nI k) = some M' ∧ BX M' T i g (pTune P m (pTurn P S m (k % S))) ∧ Fr (sBx i) M M' := by
  have e0 : M.1 (10, i, 0) 1 = nI S := (h.1 0 (vk_s rfl)).trans h0
  have e1 : fJ9_max_7cf53 M 1 (nI S) = nI S := by
    rw [fJ9_max_7cf53]
    by_cases c : (1 : Int32) < nI S
    · rw [if_pos c]
    · rw [if_neg c]
      have : S = 1 := by
        have : ¬ 1 < S := fun c2 => c (nI_lt (a := 1) c2 (by omega))
        omega
      subst this
      rfl
  have e2 : fJ9_floorMod_7cf53 M (nI k) (nI S) = some (nI (k % S)) := by
    rw [fJ9_floorMod_7cf53, if_neg (nI_ne0 hS.1 (by omega)), if_pos, pk_rem (by omega) hS.1 (by omega)]
    have hx : nI k ^^^ nI S = nI (k ^^^ S) := by
      apply Int32.toBitVec_inj.1
      show BitVec.ofNat 32 k ^^^ BitVec.ofNat 32 S = BitVec.ofNat 32 (k ^^^ S)
      apply BitVec.eq_of_getLsbD_eq
      intro i hi
      simp [hi]
    rw [hx]
    exact nI_pos' (Nat.lt_of_lt_of_le (Nat.xor_lt_two_pow (n := 7) (by omega) (by omega)) (by decide))
  obtain ⟨M', a1, a2, a3⟩ := cl_turnL (P := P) (K := fun w10 M11 => some M11) hm (Nat.mod_lt k hS.1) h0 hS.2 12 0 M NF rfl (by unfold NF; omega) (bx_P (fun m' t' s' _ _ _ => by
    unfold pTune
    by_cases e : m' = m
    · subst e; simp
    · rw [if_neg e]) h)
  refine ⟨M', ?_, a1, a2⟩
  rw [fX3_turnPins, e0, e1, e2, Option.bind_some]
  exact a3

