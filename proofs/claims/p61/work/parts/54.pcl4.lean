/-! the class's box: pins that move to other teeth -/
theorem cl_row_out {M : Mm} {i m t : Nat} (ht : 12 ≤ t) (h : t < 2 ^ 31) (hm : m < 3) : fX3_row M i (nI m) (nI t) = some 0 := by
  have e : fX3_holds M (nI m) (nI t) = 0 := by
    rw [fX3_holds, if_neg (nI_pos (by omega)), if_neg (show ¬ (3 : Int32) ≤ nI m from nI_ge (b := 3) hm (by decide)), if_neg (nI_pos (by omega)), if_pos (show (12 : Int32) ≤ nI t from nI_le (a := 12) ht h)]
  rw [fX3_row, e, if_pos rfl]
theorem cl_row_neg {M : Mm} {i m : Nat} {x : Int32} (hx : x < 0) (hm : m < 3) : fX3_row M i (nI m) x = some 0 := by
  have e : fX3_holds M (nI m) x = 0 := by
    rw [fX3_holds, if_neg (nI_pos (by omega)), if_neg (show ¬ (3 : Int32) ≤ nI m from nI_ge (b := 3) hm (by decide)), if_pos hx]
  rw [fX3_row, e, if_pos rfl]
def pUp (P : PF) (m k : Nat) : Nat → Nat → Bool := fun t s => decide (k ≤ t) && P m (t - k) s
def pDn (P : PF) (m k : Nat) : Nat → Nat → Bool := fun t s => P m (t + k) s
theorem cl_moveUp {T i m k : Nat} {g : GF} {P : PF} (hm : m < 3) (hk : 0 < k) (hk2 : k < 12) {K : Int32 → Mm → Option Mm} : ∀ (d t : Nat) (M : Mm) (n : Nat), t + d = 12 → d < n → BX M T i g (pTune P m (fun t' s' => if 12 ≤ t' + t then pUp P m k t' s' else P m t' s')) →
    ∃ M', BX M' T i g (pTune P m (pUp P m k)) ∧ Fr (sBx i) M M' ∧ fX3_movePins_L2 i (nI m) (nI k) K n (nI t) M = K (nI 12) M' := by
  intro d
  induction d with
  | zero =>
    intro t M n ht hn h
    have e : t = 12 := by omega
    subst e
    obtain ⟨n, rfl⟩ : ∃ q, n = q + 1 := ⟨n - 1, by omega⟩
    refine ⟨M, bx_P (fun m' t' s' _ ht' _ => ?_) h, fr_rf, by rw [fX3_movePins_L2, if_pos (show (12 : Int32) ≤ nI 12 by decide)]⟩
    unfold pTune
    dsimp only
    rw [if_pos (show 12 ≤ t' + 12 by omega)]
  | succ d ih =>
    intro t M n ht hn h
    obtain ⟨n, rfl⟩ : ∃ q, n = q + 1 := ⟨n - 1, by omega⟩
    rw [fX3_movePins_L2, if_neg (show ¬ (12 : Int32) ≤ nI t from nI_ge (b := 12) (by omega) (by decide)), if_neg (nI_nle hk (by omega)), show (11 : Int32) - nI t = nI (11 - t) from pk_sub (b := t) (a := 11) (by omega), ← nI_succ]
    obtain ⟨x, x1, x2⟩ : ∃ x, fX3_row M i (nI m) (nI (11 - t) - nI k) = some x ∧ ∀ s, s < 64 → bL x s = pUp P m k (11 - t) s := by
      by_cases c : k ≤ 11 - t
      · refine ⟨_, by rw [pk_sub c]; exact cl_row hm (by omega), fun s hs => ?_⟩
        rw [h.2 m hm _ (by omega) s hs, pTune, if_pos rfl, if_neg (by omega), pUp, decide_eq_true c, Bool.true_and]
      · refine ⟨0, cl_row_neg (pk_sneg (by omega) (by omega)) hm, fun s hs => ?_⟩
        rw [bL_0, pUp, decide_eq_false c, Bool.false_and]
    rw [x1, Option.bind_some, cl_setRow hm (by omega), Option.bind_some]
    obtain ⟨M', a1, a2, a3⟩ := ih (t + 1) (putL M (11, i, 0) (12 * m + (11 - t)) x) n (by omega) (by omega) (bx_P (fun m' t' s' _ _ _ => by
      unfold pTune
      by_cases e1 : m' = m
      · subst e1
        by_cases e2 : t' = 11 - t
        · rw [e2]; simp [show 12 ≤ 11 - t + (t + 1) by omega]
        · by_cases e3 : 12 ≤ t' + t
          · simp [e2, e3, show 12 ≤ t' + (t + 1) by omega]
          · simp [e2, e3, show ¬ 12 ≤ t' + (t + 1) by omega]
      · simp [e1]) (bx_row (q := pUp P m k (11 - t)) (by omega) x2 h))
    exact ⟨M', a1, fr_tr (fr_putL (sBx_1 rfl)) a2, a3⟩
theorem i32_subneg (a b : Int32) : a - (-b) = a + b := by
  rw [Int32.sub_eq_add_neg, Int32.neg_neg]
theorem cl_moveDn {T i m k : Nat} {g : GF} {P : PF} (hm : m < 3) (hk2 : k < 12) (hP : ∀ t s, P m t s = true → t < 12) {K : Int32 → Mm → Option Mm} : ∀ (d t : Nat) (M : Mm) (n : Nat), t + d = 12 → d < n → BX M T i g (pTune P m (fun t' s' => if t' < t then pDn P m k t' s' else P m t' s')) →
    ∃ M', BX M' T i g (pTune P m (pDn P m k)) ∧ Fr (sBx i) M M' ∧ fX3_movePins_L2 i (nI m) (-nI k) K n (nI t) M = K (nI 12) M' := by
  intro d
  induction d with
  | zero =>
    intro t M n ht hn h
    have e : t = 12 := by omega
    subst e
    obtain ⟨n, rfl⟩ : ∃ q, n = q + 1 := ⟨n - 1, by omega⟩
    refine ⟨M, bx_P (fun m' t' s' _ ht' _ => ?_) h, fr_rf, by rw [fX3_movePins_L2, if_pos (show (12 : Int32) ≤ nI 12 by decide)]⟩
    unfold pTune
    dsimp only
    rw [if_pos ht']
  | succ d ih =>
    intro t M n ht hn h
    obtain ⟨n, rfl⟩ : ∃ q, n = q + 1 := ⟨n - 1, by omega⟩
    have hneg : -nI k ≤ 0 := (by decide +kernel : ∀ k, k < 12 → -nI k ≤ 0) k hk2
    rw [fX3_movePins_L2, if_neg (show ¬ (12 : Int32) ≤ nI t from nI_ge (b := 12) (by omega) (by decide)), if_pos hneg, i32_subneg, nI_add, ← nI_succ]
    obtain ⟨x, x1, x2⟩ : ∃ x, fX3_row M i (nI m) (nI (t + k)) = some x ∧ ∀ s, s < 64 → bL x s = pDn P m k t s := by
      by_cases c : t + k < 12
      · refine ⟨_, cl_row hm (by omega), fun s hs => ?_⟩
        rw [h.2 m hm _ (by omega) s hs, pTune, if_pos rfl, if_neg (by omega), pDn]
      · refine ⟨0, cl_row_out (by omega) (by omega) hm, fun s hs => ?_⟩
        rw [bL_0, pDn]
        cases e : P m (t + k) s with
        | false => rfl
        | true => exact absurd (hP _ _ e) c
    rw [x1, Option.bind_some, cl_setRow hm (by omega), Option.bind_some]
    obtain ⟨M', a1, a2, a3⟩ := ih (t + 1) (putL M (11, i, 0) (12 * m + t) x) n (by omega) (by omega) (bx_P (fun m' t' s' _ _ _ => by
      unfold pTune
      by_cases e1 : m' = m
      · subst e1
        by_cases e2 : t' = t
        · subst e2; simp
        · by_cases e3 : t' < t
          · simp [e2, e3, show t' < t + 1 by omega]
          · simp [e2, e3, show ¬ t' < t + 1 by omega]
      · simp [e1]) (bx_row (q := pDn P m k t) (by omega) x2 h))
    exact ⟨M', a1, fr_tr (fr_putL (sBx_1 rfl)) a2, a3⟩
theorem cl_up {M : Mm} {T i m k : Nat} {g : GF} {P : PF} (hm : m < 3) (hk : 0 < k) (hk2 : k < 12) (h : BX M T i g P) : ∃ M', fX3_movePins M i (nI m) (nI k) = some M' ∧ BX M' T i g (pTune P m (pUp P m k)) ∧ Fr (sBx i) M M' := by
  obtain ⟨M', a1, a2, a3⟩ := cl_moveUp (P := P) (K := fun w11 M12 => some M12) hm hk hk2 12 0 M NF rfl (by unfold NF; omega) (bx_P (fun m' t' s' _ ht' _ => by
    unfold pTune
    by_cases e : m' = m
    · subst e; simp [show ¬ 12 ≤ t' by omega]
    · rw [if_neg e]) h)
  exact ⟨M', a3, a1, a2⟩
theorem cl_dn {M : Mm} {T i m k : Nat} {g : GF} {P : PF} (hm : m < 3) (hk2 : k < 12) (hP : ∀ t s, P m t s = true → t < 12) (h : BX M T i g P) : ∃ M', fX3_movePins M i (nI m) (-nI k) = some M' ∧ BX M' T i g (pTune P m (pDn P m k)) ∧ Fr (sBx i) M M' := by
  obtain ⟨M', a1, a2, a3⟩ := cl_moveDn (P := P) (K := fun w11 M12 => some M12) hm hk2 hP 12 0 M NF rfl (by unfold NF; omega) (bx_P (fun m' t' s' _ _ _ => by
    unfold pTune
    by_cases e : m' = m
    · subst e; simp
    · rw [if_neg e]) h)
  exact ⟨M', a3, a1, a2⟩
/-- whether the pins of a tune may move: ok t says whether there is a tooth for those of t -/
theorem cl_moveF {M : Mm} {T i m : Nat} {g : GF} {P : PF} {by_ : Int32} {ok : Nat → Bool} (h : BX M T i g P) (h3 : g 3 = nI T) (hT : T ≤ 12) (hm : m < 3) (hok : ∀ t, t < T → (fX0_toothFault M i (nI t + by_) = 0 ↔ ok t = true)) {K : Int32 → Option Int32} : ∀ (d t n : Nat), t + d = T → d < n →
    ((∀ t', t ≤ t' → t' < T → ∀ s, s < 64 → P m t' s = true → ok t' = true) → fX0_movePinsFault_L2 M i (nI m) by_ K n (nI t) = K (nI T)) ∧
    (¬ (∀ t', t ≤ t' → t' < T → ∀ s, s < 64 → P m t' s = true → ok t' = true) → fX0_movePinsFault_L2 M i (nI m) by_ K n (nI t) = some 3) := by
  have e3 : M.1 (9, i, 0) 2 = nI T := (h.1 3 (vk_s rfl)).trans h3
  intro d
  induction d with
  | zero =>
    intro t n ht hn
    have e : t = T := by omega
    subst e
    obtain ⟨n, rfl⟩ : ∃ q, n = q + 1 := ⟨n - 1, by omega⟩
    refine ⟨fun _ => by rw [fX0_movePinsFault_L2, e3, if_pos (nI_le (Nat.le_refl _) (by omega))], fun hc => absurd (fun t' h1 h2 => ?_) hc⟩
    omega
  | succ d ih =>
    intro t n ht hn
    obtain ⟨n, rfl⟩ : ∃ q, n = q + 1 := ⟨n - 1, by omega⟩
    obtain ⟨i1, i2⟩ := ih (t + 1) n (by omega) (by omega)
    have hz : M.2 (11, i, 0) (12 * m + t) = 0 ↔ ∀ s, s < 64 → P m t s = false := by
      constructor
      · intro e s hs
        rw [← h.2 m hm t (by omega) s hs, e, bL_0]
      · intro e
        exact bL_ext fun s hs => by rw [h.2 m hm t (by omega) s hs, e s hs, bL_0]
    rw [fX0_movePinsFault_L2, e3, if_neg (nI_ge (by omega) (by omega)), if_neg (nI_g12 (by omega)), cl_row hm (by omega), Option.bind_some, ← nI_succ]
    by_cases c : M.2 (11, i, 0) (12 * m + t) = 0
    · rw [if_pos ((lgc0 _).mpr c)]
      have cz := hz.mp c
      refine ⟨fun hh => i1 fun t' h1 h2 => hh t' (by omega) h2, fun hh => i2 fun h9 => hh fun t' h1 h2 s hs hp => ?_⟩
      by_cases e : t' = t
      · subst e; rw [cz s hs] at hp; cases hp
      · exact h9 t' (by omega) h2 s hs hp
    · rw [if_neg (fun x => c ((lgc0 _).mp x))]
      have cz : ∃ s, s < 64 ∧ P m t s = true := by
        refine Classical.byContradiction fun hn => c (hz.mpr fun s hs => ?_)
        cases e : P m t s with
        | false => rfl
        | true => exact absurd ⟨s, hs, e⟩ hn
      obtain ⟨s, hs, hp⟩ := cz
      by_cases c2 : fX0_toothFault M i (nI t + by_) = 0
      · rw [if_pos c2]
        have hk := (hok t (by omega)).mp c2
        refine ⟨fun hh => i1 fun t' h1 h2 => hh t' (by omega) h2, fun hh => i2 fun h9 => hh fun t' h1 h2 s hs hp => ?_⟩
        by_cases e : t' = t
        · subst e; exact hk
        · exact h9 t' (by omega) h2 s hs hp
      · rw [if_neg c2]
        refine ⟨fun hh => absurd ((hok t (by omega)).mpr (hh t (Nat.le_refl _) (by omega) s hs hp)) c2, fun _ => rfl⟩

