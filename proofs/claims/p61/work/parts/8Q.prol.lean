/-! acts upon the roll: the law's loops over its own pins -/
def sPk (k : Nat) (r : Rf) : Bool := r == (20, k, 0)
section ROL
variable {k S T U A m0 p0 m : Nat} {g : GF} {P P0 : PF}
theorem fr_Pk {M M' : Mm} (h : Fr (sPk k) M M') : Fr (sOw k) M M' := fr_mono (fun r hr => by
  have : r = (20, k, 0) := by simpa [sPk] using hr
  rw [this]; exact sOw_k rfl) h
theorem ox_Pk {M M' : Mm} (hk : k < 50) (h : Fr (sPk k) M M') (ho : OX M 50 T g P) : OX M' 50 T g P := ox_fr (fun x hx => by
  have := (owR_i hx).1
  cases e : sPk k x with
  | false => rfl
  | true =>
    have e2 : x = (20, k, 0) := by simpa [sPk] using e
    rw [e2] at this
    have : k = 50 := this
    omega) h ho
theorem fp_Pk {M : Mm} {j : Nat} {v : Int32} : Fr (sPk k) M (putI M (20, k, 0) j v) := fr_putI (by simp [sPk])
theorem f18_Pk {M M' : Mm} (h : Fr (sPk k) M M') : M'.1 (18, k, 0) = M.1 (18, k, 0) := (h (18, k, 0) (by simp [sPk])).1
/-- shift -/
def tnQ (P : PF) (S m f t s : Nat) : Nat → Nat → Bool := fun t' u => if t' < t then pTurn P S m f t' u else if t' = t then (if u < S ∧ (u + S - f) % S < s then P m t ((u + S - f) % S) else P m t u) else P m t' u
theorem rl_135 (hk : k < 50) (HI : Iv g P S T U A m0 p0) (hm : m < 3) {t by_ : Nat} (ht : t < T) (hby : by_ < 64) : ∀ (d s f : Nat) (M : Mm), s + d = S → d < f → OX M k T g (pTune P m (tnQ P S m (by_ % S) t s)) → OX M 50 T g P →
    ∃ M', (∀ K : Int32 → Mm → Option (Int32 × Mm), fL_rolls_L135 k (nI m) (nI by_) (nI t) K f (nI s) M = K (nI S) M') ∧ OX M' k T g (pTune P m (tnQ P S m (by_ % S) (t + 1) 0)) ∧ Fr (sPk k) M M' := by
  have hS := HI.hS
  have hT := HI.hT
  have hf : by_ % S < S := Nat.mod_lt _ (by omega)
  intro d
  induction d with
  | zero =>
    intro s f M hs hf2 HO H5
    obtain ⟨f, rfl⟩ : ∃ x, f = x + 1 := ⟨f - 1, by omega⟩
    obtain rfl : s = S := by omega
    refine ⟨M, fun K => by rw [fL_rolls_L135, if_pos (by rw [(HO.1 0 (by decide)).trans HI.1]; exact Int32.le_refl _)], ox_P (fun m' t' u _ _ _ => ?_) HO, fr_rf⟩
    unfold pTune tnQ
    by_cases e : m' = m
    · rw [if_pos e, if_pos e]
      by_cases c : t' < t
      · rw [if_pos c, if_pos (by omega)]
      · rw [if_neg c]
        by_cases e2 : t' = t
        · rw [if_pos e2, if_pos (show t' < t + 1 by omega), pTurn, e2]
          by_cases c2 : u < s
          · rw [if_pos ⟨c2, Nat.mod_lt _ (by omega)⟩, decide_eq_true c2, Bool.true_and]
          · rw [if_neg (fun x => c2 x.1), decide_eq_false c2, Bool.false_and]
            cases hp : P m t u with
            | false => rfl
            | true => exact absurd (HI.hP _ _ _ hp).2.2 c2
        · rw [if_neg e2, if_neg (by omega)]
          by_cases c3 : t' = t + 1
          · rw [if_pos c3, if_neg (fun x => Nat.not_lt_zero _ x.2), c3]
          · rw [if_neg c3]
    · rw [if_neg e, if_neg e]
  | succ d ih =>
    intro s f M hs hf2 HO H5
    obtain ⟨f, rfl⟩ : ∃ x, f = x + 1 := ⟨f - 1, by omega⟩
    have e0 : M.1 (18, k, 0) 0 = nI S := (HO.1 0 (by decide)).trans HI.1
    have hu : (s + by_) % S < S := Nat.mod_lt _ (by omega)
    have em : (nI s + nI by_) - (nI s + nI by_) / nI S * nI S = nI ((s + by_) % S) := by rw [nI_add, pk_rem (by omega) (by omega) (by omega)]
    have ix : ∀ b, b < S → ((b + S - by_ % S) % S = s ↔ b = (s + by_) % S) := fun b hb => by
      rw [turn_ix hf hb (show s < S by omega), Nat.add_mod, Nat.mod_eq_of_lt (show s < S by omega)]
      by_cases c : s + by_ % S < S
      · rw [if_pos c, Nat.mod_eq_of_lt c]
      · have e9 : (s + by_ % S) % S = s + by_ % S - S := by rw [Nat.mod_eq_sub_mod (show S ≤ s + by_ % S by omega), Nat.mod_eq_of_lt (show s + by_ % S - S < S by omega)]
        rw [if_neg c, e9]
    have O1 := ox_20 (m := m) (c := P m t s) HO (show t < 12 by omega) (show (s + by_) % S < 64 by omega) rfl
    have f1 : Fr (sPk k) M (putI M (20, k, 0) (768 * m + 64 * t + (s + by_) % S) (bI (P m t s))) := fp_Pk
    obtain ⟨M', b1, b2, b3⟩ := ih (s + 1) f _ (by omega) (by omega) (ox_P (fun m' t' u _ _ _ => by
      unfold pSet pTune tnQ
      by_cases e : m' = m
      · rw [if_pos e, if_pos e]
        by_cases e2 : t' = t
        · rw [e2, if_neg (Nat.lt_irrefl _), if_pos rfl, if_neg (Nat.lt_irrefl _), if_pos rfl]
          by_cases e3 : u = (s + by_) % S
          · rw [if_pos ⟨e, rfl, e3⟩]
            have hx := (ix u (by omega)).mpr e3
            rw [if_pos ⟨by omega, by omega⟩, hx]
          · rw [if_neg (fun x => e3 x.2.2)]
            by_cases c : u < S ∧ (u + S - by_ % S) % S < s
            · rw [if_pos c, if_pos ⟨c.1, by omega⟩]
            · rw [if_neg c, if_neg (fun x => by
                have hne : (u + S - by_ % S) % S ≠ s := fun y => e3 ((ix u x.1).mp y)
                exact c ⟨x.1, by omega⟩)]
        · rw [if_neg (fun x => e2 x.2.1), if_neg e2, if_neg e2]
      · rw [if_neg (fun x => e x.1), if_neg e, if_neg e]) O1) (ox_Pk hk f1 H5)
    refine ⟨M', fun K => ?_, b2, fr_tr f1 b3⟩
    rw [fL_rolls_L135, e0]
    refine cn (nI_ge (by omega) (by omega)) (cn (nI_ne0 (by omega) (by omega)) (bd (has_ok H5 hm (show t < 12 by omega) (show s < 64 by omega)) ?_))
    rw [em, place_ok, nI_clamp (by omega), bz_bI]
    refine cn (fun c => by rcases c with c | c; exact nI_pos (by omega) c; omega) ?_
    rw [show nI s + (1 : Int32) = nI (s + 1) from nI_add s 1]
    exact b1 K
theorem rl_123 (hk : k < 50) (HI : Iv g P S T U A m0 p0) (hm : m < 3) {by_ : Nat} (hby : by_ < 64) : ∀ (d t f : Nat) (M : Mm), t + d = T → d < f → OX M k T g (pTune P m (tnQ P S m (by_ % S) t 0)) → OX M 50 T g P →
    ∃ M', (∀ K : Int32 → Mm → Option (Int32 × Mm), fL_rolls_L123 k (nI m) (nI by_) K f (nI t) M = K (nI T) M') ∧ OX M' k T g (pTune P m (pTurn P S m (by_ % S))) ∧ Fr (sPk k) M M' := by
  have hS := HI.hS
  have hT := HI.hT
  intro d
  induction d with
  | zero =>
    intro t f M ht hf HO H5
    obtain ⟨f, rfl⟩ : ∃ x, f = x + 1 := ⟨f - 1, by omega⟩
    obtain rfl : t = T := by omega
    refine ⟨M, fun K => by rw [fL_rolls_L123, if_pos (by rw [(HO.1 3 (by decide)).trans HI.2.2.2.1]; exact Int32.le_refl _)], ox_P (fun m' t' u _ _ _ => ?_) HO, fr_rf⟩
    unfold pTune tnQ
    by_cases e : m' = m
    · rw [if_pos e, if_pos e]
      by_cases c : t' < t
      · rw [if_pos c]
      · have hz : ∀ u, P m t' u = false := fun u => by
          cases hp : P m t' u with
          | false => rfl
          | true => exact absurd (HI.hP _ _ _ hp).2.1 c
        rw [if_neg c, pTurn, hz u, hz ((u + S - by_ % S) % S), Bool.and_false]
        by_cases e2 : t' = t
        · rw [if_pos e2, if_neg (fun x => Nat.not_lt_zero _ x.2), ← e2, hz]
        · rw [if_neg e2]
    · rw [if_neg e, if_neg e]
  | succ d ih =>
    intro t f M ht hf HO H5
    obtain ⟨f, rfl⟩ : ∃ x, f = x + 1 := ⟨f - 1, by omega⟩
    obtain ⟨M1, a1, a2, a3⟩ := rl_135 hk HI hm (show t < T by omega) hby S 0 NF M (by omega) (by unfold NF; omega) HO H5
    obtain ⟨M', b1, b2, b3⟩ := ih (t + 1) f M1 (by omega) (by omega) a2 (ox_Pk hk a3 H5)
    refine ⟨M', fun K => ?_, b2, fr_tr a3 b3⟩
    rw [fL_rolls_L123]
    refine cn (by rw [(HO.1 3 (by decide)).trans HI.2.2.2.1]; exact nI_ge (by omega) (by omega)) ((a1 _).trans ?_)
    rw [show nI t + (1 : Int32) = nI (t + 1) from nI_add t 1]
    exact b1 K
/-- transpose: Q is where the pins come to -/
def mvQ (P : PF) (m : Nat) (Q : Nat → Nat → Bool) (t s : Nat) : Nat → Nat → Bool := fun t' u => if t' < t ∨ (t' = t ∧ u < s) then Q t' u else P m t' u
def SRC (P : PF) (T m : Nat) (x : Int32) (Q : Nat → Nat → Bool) (t : Nat) : Prop := (nI t - x < 0 ∧ ∀ s, Q t s = false) ∨ (¬ nI t - x < 0 ∧ nI T ≤ nI t - x ∧ ∀ s, Q t s = false) ∨ (∃ u, u < T ∧ nI t - x = nI u ∧ ∀ s, Q t s = P m u s)
theorem rl_309 (hk : k < 50) (HI : Iv g P S T U A m0 p0) (hm : m < 3) {t : Nat} {x : Int32} {Q : Nat → Nat → Bool} (ht : t < T) (hQ : ∀ t s, Q t s = true → t < T ∧ s < S) (hs0 : SRC P T m x Q t) : ∀ (d s f : Nat) (M : Mm), s + d = S → d < f → OX M k T g (pTune P m (mvQ P m Q t s)) → OX M 50 T g P →
    ∃ M', (∀ K : Int32 → Mm → Option (Int32 × Mm), fL_rolls_L309 k (nI m) x (nI t) K f (nI s) M = K (nI S) M') ∧ OX M' k T g (pTune P m (mvQ P m Q (t + 1) 0)) ∧ Fr (sPk k) M M' := by
  have hS := HI.hS
  have hT := HI.hT
  intro d
  induction d with
  | zero =>
    intro s f M hs hf2 HO H5
    obtain ⟨f, rfl⟩ : ∃ x, f = x + 1 := ⟨f - 1, by omega⟩
    obtain rfl : s = S := by omega
    refine ⟨M, fun K => by rw [fL_rolls_L309, if_pos (by rw [(HO.1 0 (by decide)).trans HI.1]; exact Int32.le_refl _)], ox_P (fun m' t' u _ _ _ => ?_) HO, fr_rf⟩
    unfold pTune mvQ
    by_cases e : m' = m
    · rw [if_pos e, if_pos e]
      by_cases c : t' < t
      · rw [if_pos (Or.inl c), if_pos (Or.inl (by omega))]
      · by_cases e2 : t' = t
        · rw [if_pos (show t' < t + 1 ∨ _ from Or.inl (by omega))]
          by_cases c2 : u < s
          · rw [if_pos (Or.inr ⟨e2, c2⟩)]
          · rw [if_neg (fun y => by rcases y with y | y; exact c y; exact c2 y.2), e2]
            cases hp : P m t u with
            | false =>
              cases hq : Q t u with
              | false => rfl
              | true => exact absurd (hQ _ _ hq).2 c2
            | true => exact absurd (HI.hP _ _ _ hp).2.2 c2
        · rw [if_neg (fun y => by rcases y with y | y; exact c y; exact e2 y.1), if_neg (fun y => by rcases y with y | y; omega; exact Nat.not_lt_zero _ y.2)]
    · rw [if_neg e, if_neg e]
  | succ d ih =>
    intro s f M hs hf2 HO H5
    obtain ⟨f, rfl⟩ : ∃ x, f = x + 1 := ⟨f - 1, by omega⟩
    have e0 : M.1 (18, k, 0) 0 = nI S := (HO.1 0 (by decide)).trans HI.1
    have e3 : M.1 (18, k, 0) 3 = nI T := (HO.1 3 (by decide)).trans HI.2.2.2.1
    have hge : ¬ M.1 (18, k, 0) 0 ≤ nI s := by rw [e0]; exact nI_ge (by omega) (by omega)
    have ep : ∀ M : Mm, fX10_place M (nI m) (nI t) (nI s) = nI (768 * m + 64 * t + s) := fun M => place_ok
    have hg : ¬ (nI (768 * m + 64 * t + s) < 0 ∨ 2304 ≤ (nI (768 * m + 64 * t + s)).toNatClampNeg) := nI_in (by omega) (by decide)
    have ec : (nI (768 * m + 64 * t + s)).toNatClampNeg = 768 * m + 64 * t + s := nI_clamp (by omega)
    have go : ∀ v : Int32, v = bI (Q t s) → ∃ M', (∀ K : Int32 → Mm → Option (Int32 × Mm), fL_rolls_L309 k (nI m) x (nI t) K f (nI s + (1 : Int32)) (putI M (20, k, 0) (nI (768 * m + 64 * t + s)).toNatClampNeg v) = K (nI S) M') ∧ OX M' k T g (pTune P m (mvQ P m Q (t + 1) 0)) ∧ Fr (sPk k) M M' := by
      intro v hv
      rw [ec]
      have O1 := ox_20 (m := m) (c := Q t s) HO (show t < 12 by omega) (show s < 64 by omega) hv
      have f1 : Fr (sPk k) M (putI M (20, k, 0) (768 * m + 64 * t + s) v) := fp_Pk
      obtain ⟨M', b1, b2, b3⟩ := ih (s + 1) f _ (by omega) (by omega) (ox_P (fun m' t' u _ _ _ => by
        unfold pSet pTune mvQ
        by_cases e : m' = m
        · rw [if_pos e, if_pos e]
          by_cases c : t' = t ∧ u = s
          · rw [if_pos ⟨e, c.1, c.2⟩, if_pos (Or.inr ⟨c.1, by omega⟩), c.1, c.2]
          · rw [if_neg (fun y => c ⟨y.2.1, y.2.2⟩)]
            by_cases c2 : t' < t ∨ (t' = t ∧ u < s)
            · rw [if_pos c2, if_pos (by omega)]
            · rw [if_neg c2, if_neg (by omega)]
        · rw [if_neg (fun y => e y.1), if_neg e, if_neg e]) O1) (ox_Pk hk f1 H5)
      exact ⟨M', fun K => by rw [show nI s + (1 : Int32) = nI (s + 1) from nI_add s 1]; exact b1 K, b2, fr_tr f1 b3⟩
    rcases hs0 with ⟨h1, h2⟩ | ⟨h1, h2, h3⟩ | ⟨u, h1, h2, h3⟩
    · obtain ⟨M', b1, b2, b3⟩ := go 0 (by rw [h2]; rfl)
      refine ⟨M', fun K => ?_, b2, b3⟩
      rw [fL_rolls_L309, ep]
      exact cn hge (cy h1 (cn hg (b1 K)))
    · obtain ⟨M', b1, b2, b3⟩ := go 0 (by rw [h3]; rfl)
      refine ⟨M', fun K => ?_, b2, b3⟩
      rw [fL_rolls_L309, ep, e3]
      exact cn hge (cn h1 (cy h2 (cn hg (b1 K))))
    · cases hq : Q t s with
      | false =>
        obtain ⟨M', b1, b2, b3⟩ := go 0 (by rw [hq]; rfl)
        refine ⟨M', fun K => ?_, b2, b3⟩
        rw [fL_rolls_L309, ep, e3]
        refine cn hge (cn (by rw [h2]; exact nI_pos (by omega)) (cn (by rw [h2]; exact nI_ge h1 (by omega)) (bd (by rw [h2]; exact has_ok H5 hm (show u < 12 by omega) (show s < 64 by omega)) (cy ?_ (cn hg (b1 K))))))
        rw [← h3, hq]; rfl
      | true =>
        obtain ⟨M', b1, b2, b3⟩ := go 1 (by rw [hq]; rfl)
        refine ⟨M', fun K => ?_, b2, b3⟩
        rw [fL_rolls_L309, ep, e3]
        refine cn hge (cn (by rw [h2]; exact nI_pos (by omega)) (cn (by rw [h2]; exact nI_ge h1 (by omega)) (bd (by rw [h2]; exact has_ok H5 hm (show u < 12 by omega) (show s < 64 by omega)) (cn ?_ (cn hg (b1 K))))))
        rw [← h3, hq]; decide
theorem rl_297 (hk : k < 50) (HI : Iv g P S T U A m0 p0) (hm : m < 3) {x : Int32} {Q : Nat → Nat → Bool} (hQ : ∀ t s, Q t s = true → t < T ∧ s < S) (hs0 : ∀ t, t < T → SRC P T m x Q t) : ∀ (d t f : Nat) (M : Mm), t + d = T → d < f → OX M k T g (pTune P m (mvQ P m Q t 0)) → OX M 50 T g P →
    ∃ M', (∀ K : Int32 → Mm → Option (Int32 × Mm), fL_rolls_L297 k (nI m) x K f (nI t) M = K (nI T) M') ∧ OX M' k T g (pTune P m Q) ∧ Fr (sPk k) M M' := by
  have hS := HI.hS
  have hT := HI.hT
  intro d
  induction d with
  | zero =>
    intro t f M ht hf HO H5
    obtain ⟨f, rfl⟩ : ∃ x, f = x + 1 := ⟨f - 1, by omega⟩
    obtain rfl : t = T := by omega
    refine ⟨M, fun K => by rw [fL_rolls_L297, if_pos (by rw [(HO.1 3 (by decide)).trans HI.2.2.2.1]; exact Int32.le_refl _)], ox_P (fun m' t' u _ _ _ => ?_) HO, fr_rf⟩
    unfold pTune mvQ
    by_cases e : m' = m
    · rw [if_pos e, if_pos e]
      by_cases c : t' < t
      · rw [if_pos (Or.inl c)]
      · rw [if_neg (fun y => by rcases y with y | y; exact c y; exact Nat.not_lt_zero _ y.2)]
        cases hp : P m t' u with
        | false =>
          cases hq : Q t' u with
          | false => rfl
          | true => exact absurd (hQ _ _ hq).1 c
        | true => exact absurd (HI.hP _ _ _ hp).2.1 c
    · rw [if_neg e, if_neg e]
  | succ d ih =>
    intro t f M ht hf HO H5
    obtain ⟨f, rfl⟩ : ∃ x, f = x + 1 := ⟨f - 1, by omega⟩
    obtain ⟨M1, a1, a2, a3⟩ := rl_309 hk HI hm (show t < T by omega) hQ (hs0 t (by omega)) S 0 NF M (by omega) (by unfold NF; omega) HO H5
    obtain ⟨M', b1, b2, b3⟩ := ih (t + 1) f M1 (by omega) (by omega) a2 (ox_Pk hk a3 H5)
    refine ⟨M', fun K => ?_, b2, fr_tr a3 b3⟩
    rw [fL_rolls_L297]
    refine cn (by rw [(HO.1 3 (by decide)).trans HI.2.2.2.1]; exact nI_ge (by omega) (by omega)) ((a1 _).trans ?_)
    rw [show nI t + (1 : Int32) = nI (t + 1) from nI_add t 1]
    exact b1 K
/-- may the pins move? -/
def okM (T : Nat) (x : Int32) (t : Nat) : Prop := ¬ nI t + x < 0 ∧ nI t + x < nI T
theorem rl_238 {M : Mm} (HI : Iv g P S T U A m0 p0) (HO : OX M k T g P) (H5 : OX M 50 T g P) (hm : m < 3) {t : Nat} {x : Int32} (ht : t < T) {K : Int32 → Mm → Option (Int32 × Mm)} : ∀ (d s f : Nat), s + d = S → d < f →
    ((∀ s', s ≤ s' → P m t s' = true → okM T x t) → fL_rolls_L238 k (nI m) x (nI t) K f (nI s) M = K (nI S) M) ∧ (¬ (∀ s', s ≤ s' → P m t s' = true → okM T x t) → fL_rolls_L238 k (nI m) x (nI t) K f (nI s) M = some (-1, M)) := by
  have hS := HI.hS
  have hT := HI.hT
  have e0 : M.1 (18, k, 0) 0 = nI S := (HO.1 0 (by decide)).trans HI.1
  have e3 : M.1 (18, k, 0) 3 = nI T := (HO.1 3 (by decide)).trans HI.2.2.2.1
  intro d
  induction d with
  | zero =>
    intro s f hs hf
    obtain ⟨f, rfl⟩ : ∃ x, f = x + 1 := ⟨f - 1, by omega⟩
    obtain rfl : s = S := by omega
    refine ⟨fun _ => by rw [fL_rolls_L238, if_pos (by rw [e0]; exact Int32.le_refl _)], fun hc => absurd (fun s' h1 hp => ?_) hc⟩
    have := (HI.hP _ _ _ hp).2.2
    omega
  | succ d ih =>
    intro s f hs hf
    obtain ⟨f, rfl⟩ : ∃ x, f = x + 1 := ⟨f - 1, by omega⟩
    obtain ⟨i1, i2⟩ := ih (s + 1) f (by omega) (by omega)
    have hN : nI s + (1 : Int32) = nI (s + 1) := nI_add s 1
    have step : fL_rolls_L238 k (nI m) x (nI t) K (f + 1) (nI s) M = if bI (P m t s) = 0 then fL_rolls_L238 k (nI m) x (nI t) K f (nI (s + 1)) M else if (nI t + x) < 0 then some ((-1 : Int32), M) else if (nI t + x) < nI T then fL_rolls_L238 k (nI m) x (nI t) K f (nI (s + 1)) M else some ((-1 : Int32), M) := by
      rw [fL_rolls_L238, e0, e3, hN]
      exact cn (nI_ge (by omega) (by omega)) (bd (has_ok H5 hm (show t < 12 by omega) (show s < 64 by omega)) rfl)
    rw [step]
    cases hp : P m t s with
    | false =>
      rw [if_pos (show bI false = 0 from rfl)]
      refine ⟨fun h => i1 (fun s' h1 h2 => h s' (by omega) h2), fun h => i2 (fun h9 => h (fun s' h1 h2 => ?_))⟩
      by_cases e : s' = s
      · subst e; rw [hp] at h2; cases h2
      · exact h9 s' (by omega) h2
    | true =>
      rw [if_neg (show ¬ bI true = 0 by decide)]
      by_cases c : okM T x t
      · rw [if_neg c.1, if_pos c.2]
        exact ⟨fun h => i1 (fun s' h1 h2 => h s' (by omega) h2), fun h => absurd (fun _ _ _ => c) h⟩
      · refine ⟨fun h => absurd (h s (Nat.le_refl _) hp) c, fun _ => ?_⟩
        by_cases c1 : nI t + x < 0
        · rw [if_pos c1]
        · rw [if_neg c1, if_neg (fun y => c ⟨c1, y⟩)]
theorem rl_226 {M : Mm} (HI : Iv g P S T U A m0 p0) (HO : OX M k T g P) (H5 : OX M 50 T g P) (hm : m < 3) {x : Int32} {K : Int32 → Mm → Option (Int32 × Mm)} : ∀ (d t f : Nat), t + d = T → d < f →
    ((∀ t' s', t ≤ t' → P m t' s' = true → okM T x t') → fL_rolls_L226 k (nI m) x K f (nI t) M = K (nI T) M) ∧ (¬ (∀ t' s', t ≤ t' → P m t' s' = true → okM T x t') → fL_rolls_L226 k (nI m) x K f (nI t) M = some (-1, M)) := by
  have hS := HI.hS
  have hT := HI.hT
  have e3 : M.1 (18, k, 0) 3 = nI T := (HO.1 3 (by decide)).trans HI.2.2.2.1
  intro d
  induction d with
  | zero =>
    intro t f ht hf
    obtain ⟨f, rfl⟩ : ∃ x, f = x + 1 := ⟨f - 1, by omega⟩
    obtain rfl : t = T := by omega
    refine ⟨fun _ => by rw [fL_rolls_L226, if_pos (by rw [e3]; exact Int32.le_refl _)], fun hc => absurd (fun t' s' h1 hp => ?_) hc⟩
    have := (HI.hP _ _ _ hp).2.1
    omega
  | succ d ih =>
    intro t f ht hf
    obtain ⟨f, rfl⟩ : ∃ x, f = x + 1 := ⟨f - 1, by omega⟩
    obtain ⟨i1, i2⟩ := ih (t + 1) f (by omega) (by omega)
    obtain ⟨j1, j2⟩ := rl_238 (x := x) (K := fun w27 M28 => fL_rolls_L226 k (nI m) x K f (nI t + (1 : Int32)) M28) HI HO H5 hm (show t < T by omega) S 0 NF (by omega) (by unfold NF; omega)
    have hN : nI t + (1 : Int32) = nI (t + 1) := nI_add t 1
    rw [hN] at j1 j2
    have hge : ¬ M.1 (18, k, 0) 3 ≤ nI t := by rw [e3]; exact nI_ge (by omega) (by omega)
    rw [fL_rolls_L226, if_neg hge, hN]
    by_cases c : ∀ s', 0 ≤ s' → P m t s' = true → okM T x t
    · refine ⟨fun h => (j1 c).trans (i1 (fun t' s' h1 h2 => h t' s' (by omega) h2)), fun h => (j1 c).trans (i2 (fun h9 => h (fun t' s' h1 h2 => ?_)))⟩
      by_cases e : t' = t
      · subst e; exact c s' (Nat.zero_le _) h2
      · exact h9 t' s' (by omega) h2
    · exact ⟨fun h => absurd (fun s' _ h2 => h t s' (Nat.le_refl _) h2) c, fun _ => j2 c⟩
/-- copyTune -/
theorem rl_426 (hk : k < 50) {to_ : Nat} (hm : m < 3) (hto : to_ < 3) : ∀ (d v f : Nat) (M : Mm), v + d = 768 → d < f → OX M k T g (pTune P to_ (fun t s => if 64 * t + s < v then P m t s else P to_ t s)) → OX M 50 T g P →
    ∃ M', (∀ K : Int32 → Mm → Option (Int32 × Mm), fL_rolls_L426 k (nI m) (nI to_) K f (nI v) M = K (nI 768) M') ∧ OX M' k T g (pTune P to_ (P m)) ∧ Fr (sPk k) M M' := by
  intro d
  induction d with
  | zero =>
    intro v f M hv hf HO H5
    obtain ⟨f, rfl⟩ : ∃ x, f = x + 1 := ⟨f - 1, by omega⟩
    obtain rfl : v = 768 := by omega
    refine ⟨M, fun K => by rw [fL_rolls_L426, show (768 : Int32) = nI 768 from rfl, if_pos (Int32.le_refl _)], ox_P (fun m' t' u _ h2 h3 => ?_) HO, fr_rf⟩
    unfold pTune
    by_cases e : m' = to_
    · rw [if_pos e, if_pos e]
      exact if_pos (by omega)
    · rw [if_neg e, if_neg e]
  | succ d ih =>
    intro v f M hv hf HO H5
    obtain ⟨f, rfl⟩ : ∃ x, f = x + 1 := ⟨f - 1, by omega⟩
    have e1 : (768 : Int32) * nI m + nI v = nI (768 * m + 64 * (v / 64) + v % 64) := by
      rw [show (768 : Int32) = nI 768 from rfl, pk_mul, nI_add, show 768 * m + 64 * (v / 64) + v % 64 = 768 * m + v by omega]
    have e2 : (768 : Int32) * nI to_ + nI v = nI (768 * to_ + 64 * (v / 64) + v % 64) := by
      rw [show (768 : Int32) = nI 768 from rfl, pk_mul, nI_add, show 768 * to_ + 64 * (v / 64) + v % 64 = 768 * to_ + v by omega]
    have hp := H5.2.2.2 m hm (v / 64) (by omega) (v % 64) (by omega)
    have O1 := ox_20 (m := to_) (c := P m (v / 64) (v % 64)) HO (show v / 64 < 12 by omega) (show v % 64 < 64 by omega) rfl
    have f1 : Fr (sPk k) M (putI M (20, k, 0) (768 * to_ + 64 * (v / 64) + v % 64) (bI (P m (v / 64) (v % 64)))) := fp_Pk
    obtain ⟨M', b1, b2, b3⟩ := ih (v + 1) f _ (by omega) (by omega) (ox_P (fun m' t' u _ h2 h3 => by
      unfold pSet pTune
      by_cases e : m' = to_
      · rw [if_pos e, if_pos e]
        show (if m' = to_ ∧ t' = v / 64 ∧ u = v % 64 then P m (v / 64) (v % 64) else if 64 * t' + u < v then P m t' u else P to_ t' u) = if 64 * t' + u < v + 1 then P m t' u else P to_ t' u
        by_cases c : t' = v / 64 ∧ u = v % 64
        · rw [if_pos ⟨e, c.1, c.2⟩, if_pos (by omega), c.1, c.2]
        · rw [if_neg (fun y => c ⟨y.2.1, y.2.2⟩)]
          by_cases c2 : 64 * t' + u < v
          · rw [if_pos c2, if_pos (by omega)]
          · rw [if_neg c2, if_neg (by omega)]
      · rw [if_neg (fun y => e y.1), if_neg e, if_neg e]) O1) (ox_Pk hk f1 H5)
    refine ⟨M', fun K => ?_, b2, fr_tr f1 b3⟩
    rw [fL_rolls_L426, e1, e2, nI_clamp (by omega), nI_clamp (by omega), hp, bz_bI, show nI v + (1 : Int32) = nI (v + 1) from nI_add v 1]
    refine cn (by rw [show (768 : Int32) = nI 768 from rfl]; exact nI_ge (by omega) (by omega)) (cn (fun c => by rcases c with c | c; exact nI_pos (by omega) c; omega) (cn (fun c => by rcases c with c | c; exact nI_pos (by omega) c; omega) (b1 K)))
end ROL
