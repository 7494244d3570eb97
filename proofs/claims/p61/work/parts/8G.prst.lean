/-! rests, read around the roll -/
def lrN (z : Nat → Bool) (S : Nat) : Nat → Nat × Nat
  | 0 => (0, 0)
  | n + 1 => if z (n % S) = true then (max (lrN z S n).1 ((lrN z S n).2 + 1), (lrN z S n).2 + 1) else ((lrN z S n).1, 0)
theorem lrN_le {z : Nat → Bool} {S : Nat} : ∀ n, (lrN z S n).1 ≤ n ∧ (lrN z S n).2 ≤ n
  | 0 => ⟨Nat.le_refl _, Nat.le_refl _⟩
  | n + 1 => by
    have := lrN_le (z := z) (S := S) n
    rw [lrN]
    split
    · exact ⟨by show max _ _ ≤ _; omega, by show _ + 1 ≤ _; omega⟩
    · exact ⟨by show _ ≤ _; omega, Nat.zero_le _⟩
theorem mxI_n {a b : Nat} (ha : a < 2 ^ 31) (hb : b < 2 ^ 31) : mxI (nI a) (nI b) = nI (max a b) := by
  unfold mxI
  by_cases h : a < b
  · rw [if_pos ((nIlt ha hb).mpr h), Nat.max_eq_right (by omega)]
  · rw [if_neg (fun c => h ((nIlt ha hb).mp c)), Nat.max_eq_left (by omega)]
theorem lrL_n {z : Nat → Bool} {S : Nat} : ∀ n, n < 2 ^ 30 → lrL z S n = (nI (lrN z S n).1, nI (lrN z S n).2)
  | 0, _ => rfl
  | n + 1, h => by
    have hl := lrN_le (z := z) (S := S) n
    rw [lrL, lrN, lrL_n n (by omega)]
    try dsimp only
    split
    · rw [show nI (lrN z S n).2 + (1 : Int32) = nI ((lrN z S n).2 + 1) from nI_add _ 1, mxI_n (by omega) (by omega)]
    · rw [show (0 : Int32) = nI 0 from rfl, mxI_n (by omega) (by omega), Nat.max_eq_left (Nat.zero_le _)]
/-- the run that ends at v -/
theorem lr_2 {z : Nat → Bool} {S : Nat} : ∀ (v r : Nat), r ≤ (lrN z S v).2 ↔ r ≤ v ∧ ∀ i, i < r → z ((v - r + i) % S) = true
  | 0, r => by
    show r ≤ 0 ↔ _
    exact ⟨fun h => ⟨h, fun i hi => by omega⟩, fun h => h.1⟩
  | v + 1, r => by
    have ih := lr_2 (z := z) (S := S) v
    rw [lrN]
    by_cases hz : z (v % S) = true
    · rw [if_pos hz]
      show r ≤ (lrN z S v).2 + 1 ↔ _
      cases r with
      | zero => exact ⟨fun _ => ⟨Nat.zero_le _, fun i hi => absurd hi (Nat.not_lt_zero i)⟩, fun _ => Nat.zero_le _⟩
      | succ r =>
        rw [Nat.succ_le_succ_iff, ih r]
        constructor
        · rintro ⟨h1, h2⟩
          refine ⟨by omega, fun i hi => ?_⟩
          rw [show v + 1 - (r + 1) + i = v - r + i by omega]
          by_cases e : i = r
          · subst e
            rw [show v - i + i = v by omega]; exact hz
          · exact h2 i (by omega)
        · rintro ⟨h1, h2⟩
          refine ⟨by omega, fun i hi => ?_⟩
          have := h2 i (by omega)
          rw [show v + 1 - (r + 1) + i = v - r + i by omega] at this
          exact this
    · rw [if_neg hz]
      show r ≤ 0 ↔ _
      constructor
      · intro h
        exact ⟨by omega, fun i hi => by omega⟩
      · rintro ⟨h1, h2⟩
        rcases Nat.eq_zero_or_pos r with e | e
        · omega
        · have := h2 (r - 1) (by omega)
          rw [show v + 1 - r + (r - 1) = v by omega] at this
          exact absurd this hz
theorem lr_1 {z : Nat → Bool} {S : Nat} : ∀ (v r : Nat), r ≤ (lrN z S v).1 ↔ ∃ a, a + r ≤ v ∧ ∀ i, i < r → z ((a + i) % S) = true
  | 0, r => by
    show r ≤ 0 ↔ _
    exact ⟨fun h => ⟨0, by omega, fun i hi => by omega⟩, fun ⟨a, h, _⟩ => by omega⟩
  | v + 1, r => by
    have ih := lr_1 (z := z) (S := S) v r
    have h2 := lr_2 (z := z) (S := S) (v + 1) r
    have key : r ≤ (lrN z S (v + 1)).1 ↔ r ≤ (lrN z S v).1 ∨ r ≤ (lrN z S (v + 1)).2 := by
      rw [lrN]
      split
      · show r ≤ max _ _ ↔ _ ∨ r ≤ _ + 1
        omega
      · show r ≤ _ ↔ _ ∨ r ≤ 0
        omega
    rw [key, ih, h2]
    constructor
    · rintro (⟨a, h3, h4⟩ | ⟨h3, h4⟩)
      · exact ⟨a, by omega, h4⟩
      · exact ⟨v + 1 - r, by omega, h4⟩
    · rintro ⟨a, h3, h4⟩
      by_cases e : a + r = v + 1
      · refine Or.inr ⟨by omega, fun i hi => ?_⟩
        rw [show v + 1 - r = a by omega]
        exact h4 i hi
      · exact Or.inl ⟨a, by omega, h4⟩
/-- the law's way: from each step on, around the roll -/
def crF (z : Nat → Bool) (S s : Nat) : Nat → Nat → Nat
  | 0, n => n
  | d + 1, n => if z ((s + n) % S) = true then crF z S s d (n + 1) else n
def mxR (z : Nat → Bool) (S : Nat) : Nat → Nat
  | 0 => 0
  | s + 1 => max (mxR z S s) (crF z S s S 0)
theorem crF_le {z : Nat → Bool} {S s : Nat} : ∀ d n, crF z S s d n ≤ n + d
  | 0, n => Nat.le_refl _
  | d + 1, n => by
    rw [crF]
    split
    · have := crF_le (z := z) (S := S) (s := s) d (n + 1)
      omega
    · omega
theorem crF_r {z : Nat → Bool} {S s : Nat} : ∀ (d n r : Nat), n ≤ r → (∀ i, i < n → z ((s + i) % S) = true) → (r ≤ crF z S s d n ↔ r ≤ n + d ∧ ∀ i, i < r → z ((s + i) % S) = true)
  | 0, n, r, hn, hz => by
    show r ≤ n ↔ _
    exact ⟨fun h => ⟨by omega, fun i hi => hz i (by omega)⟩, fun h => by omega⟩
  | d + 1, n, r, hn, hz => by
    rw [crF]
    by_cases e : z ((s + n) % S) = true
    · rw [if_pos e]
      by_cases hr : r = n
      · subst hr
        constructor
        · intro _
          exact ⟨by omega, hz⟩
        · intro _
          have := (crF_r (z := z) (S := S) (s := s) d (r + 1) (r + 1) (Nat.le_refl _) (fun i hi => by
            by_cases c : i = r
            · rw [c]; exact e
            · exact hz i (by omega))).mpr ⟨by omega, fun i hi => by
            by_cases c : i = r
            · rw [c]; exact e
            · exact hz i (by omega)⟩
          omega
      · rw [crF_r d (n + 1) r (by omega) (fun i hi => by
          by_cases c : i = n
          · rw [c]; exact e
          · exact hz i (by omega))]
        rw [show n + 1 + d = n + (d + 1) by omega]
    · rw [if_neg e]
      constructor
      · intro h
        exact ⟨by omega, fun i hi => hz i (by omega)⟩
      · rintro ⟨h1, h2⟩
        by_cases c : r ≤ n
        · exact c
        · exact absurd (h2 n (by omega)) e
theorem mxR_r {z : Nat → Bool} {S : Nat} : ∀ (s r : Nat), r ≤ mxR z S s ↔ r = 0 ∨ ∃ a, a < s ∧ r ≤ crF z S a S 0
  | 0, r => by
    show r ≤ 0 ↔ _
    exact ⟨fun h => Or.inl (by omega), fun h => by rcases h with h | ⟨a, h, _⟩ <;> omega⟩
  | s + 1, r => by
    have ih := mxR_r (z := z) (S := S) s r
    rw [mxR]
    constructor
    · intro h
      by_cases c : r ≤ crF z S s S 0
      · exact Or.inr ⟨s, by omega, c⟩
      · rcases ih.mp (by omega) with h1 | ⟨a, h1, h2⟩
        · exact Or.inl h1
        · exact Or.inr ⟨a, by omega, h2⟩
    · rintro (h | ⟨a, h1, h2⟩)
      · omega
      · by_cases c : a = s
        · subst c; omega
        · have := ih.mpr (Or.inr ⟨a, by omega, h2⟩)
          omega
theorem mxR_le {z : Nat → Bool} {S : Nat} : ∀ s, mxR z S s ≤ S
  | 0 => Nat.zero_le _
  | s + 1 => by
    have := mxR_le (z := z) (S := S) s
    have := crF_le (z := z) (S := S) (s := s) S 0
    rw [mxR]
    omega
theorem rest_eq {z : Nat → Bool} {S : Nat} : min (lrN z S (2 * S)).1 S = mxR z S S := by
  have key : ∀ r, r ≤ min (lrN z S (2 * S)).1 S ↔ r ≤ mxR z S S := fun r => by
    rw [mxR_r, Nat.le_min, lr_1]
    constructor
    · rintro ⟨⟨a, h1, h2⟩, h3⟩
      rcases Nat.eq_zero_or_pos r with e | e
      · exact Or.inl e
      · by_cases c : a < S
        · exact Or.inr ⟨a, c, (crF_r S 0 r (Nat.zero_le _) (fun i hi => absurd hi (Nat.not_lt_zero i))).mpr ⟨by omega, h2⟩⟩
        · refine Or.inr ⟨a - S, by omega, (crF_r S 0 r (Nat.zero_le _) (fun i hi => absurd hi (Nat.not_lt_zero i))).mpr ⟨by omega, fun i hi => ?_⟩⟩
          have := h2 i hi
          rw [show a + i = (a - S + i) + S by omega, Nat.add_mod_right] at this
          exact this
    · rintro (h | ⟨a, h1, h2⟩)
      · subst h
        exact ⟨⟨0, by omega, fun i hi => absurd hi (Nat.not_lt_zero i)⟩, Nat.zero_le _⟩
      · obtain ⟨h3, h4⟩ := (crF_r S 0 r (Nat.zero_le _) (fun i hi => absurd hi (Nat.not_lt_zero i))).mp h2
        exact ⟨⟨a, by omega, h4⟩, by omega⟩
  exact Nat.le_antisymm ((key _).mp (Nat.le_refl _)) ((key _).mpr (Nat.le_refl _))
theorem rsS_n {P : PF} {S m : Nat} (hS : S ≤ 64) : rsS P S m = nI (mxR (zS P m) S S) := by
  have hl := lrN_le (z := zS P m) (S := S) (2 * S)
  have h1 := lrL_n (z := zS P m) (S := S) (2 * S) (by omega)
  unfold rsS
  rw [h1]
  try dsimp only
  unfold mnI
  rw [← rest_eq]
  by_cases c : S < (lrN (zS P m) S (2 * S)).1
  · rw [if_pos ((nIlt (by omega) (by omega)).mpr c), Nat.min_eq_right (by omega)]
  · rw [if_neg (fun x => c ((nIlt (by omega) (by omega)).mp x)), Nat.min_eq_left (by omega)]
