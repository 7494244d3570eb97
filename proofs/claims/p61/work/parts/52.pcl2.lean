/-! the class's box: playing many steps, copies, pins -/
def playN (P : PF) (S T m : Nat) : Nat → GF → Nat → Nat → Nat × GF × Nat × Nat
  | 0, g, p, U => (0, g, p, U)
  | n + 1, g, p, U => if U = 0 then (0, g, p, U) else ((playN P S T m n (stS P S T m g p) (nxP S p) (nxU S p U)).1 + 1, (playN P S T m n (stS P S T m g p) (nxP S p) (nxU S p U)).2)
theorem playN_le {P : PF} {S T m : Nat} : ∀ (n : Nat) (g : GF) (p U : Nat), (playN P S T m n g p U).1 ≤ n
  | 0, _, _, _ => Nat.le_refl _
  | n + 1, g, p, U => by
    rw [playN]
    split
    · exact Nat.zero_le _
    · exact Nat.succ_le_succ (playN_le n _ _ _)
theorem playN_iv {P : PF} {S T A m : Nat} : ∀ (n : Nat) (g : GF) (p U : Nat), Iv g P S T U A m p → Iv (playN P S T m n g p U).2.1 P S T (playN P S T m n g p U).2.2.2 A m (playN P S T m n g p U).2.2.1
  | 0, _, _, _, h => h
  | n + 1, g, p, U, h => by
    rw [playN]
    split
    · exact h
    · exact playN_iv n _ _ _ (stS_iv h (by omega))
theorem cl_playL {i S T A m : Nat} {P : PF} {K : Int32 → Mm → Option (Int32 × Mm)} : ∀ (d v : Nat) (M : Mm) (g : GF) (p U n : Nat), v + d < 2 ^ 31 → d < n → BX M T i g P → Iv g P S T U A m p →
    ∃ M', BX M' T i (playN P S T m d g p U).2.1 P ∧ Fr (sBx i) M M' ∧ fX0_playSteps_L2 i (nI (v + d)) K n (nI v) M = K (nI (v + (playN P S T m d g p U).1)) M' := by
  intro d
  induction d with
  | zero =>
    intro v M g p U n hv hn h hI
    obtain ⟨n, rfl⟩ : ∃ q, n = q + 1 := ⟨n - 1, by omega⟩
    exact ⟨M, h, fr_rf, by rw [fX0_playSteps_L2, if_pos (nI_le (show v + 0 ≤ v from Nat.le_refl _) (by omega))]; rfl⟩
  | succ d ih =>
    intro v M g p U n hv hn h hI
    obtain ⟨n, rfl⟩ : ∃ q, n = q + 1 := ⟨n - 1, by omega⟩
    have hU : U ≤ 20 := hI.2.2.2.2.2.2.2.2.1
    have e1 : M.1 (9, i, 0) 3 = nI U := (h.1 1 (vk_s rfl)).trans hI.2.1
    rw [fX0_playSteps_L2, if_neg (nI_ge (by omega) (by omega)), e1, playN]
    by_cases hU0 : U = 0
    · subst hU0
      rw [if_pos rfl, if_pos (by decide)]
      exact ⟨M, h, fr_rf, rfl⟩
    · rw [if_neg hU0, if_neg (nI_nle (by omega) (by omega))]
      obtain ⟨M1, a1, a2, a3⟩ := cl_playStep h hI
      obtain ⟨M2, b1, b2, b3⟩ := ih (v + 1) M1 _ _ _ n (by omega) (by omega) a2 (stS_iv hI (by omega))
      refine ⟨M2, b1, fr_tr a3 b2, ?_⟩
      rw [a1, Option.bind_some, ← nI_succ, show v + (d + 1) = v + 1 + d by omega, b3]
      rw [show v + 1 + (playN P S T m d (stS P S T m g p) (nxP S p) (nxU S p U)).1 = v + ((playN P S T m d (stS P S T m g p) (nxP S p) (nxU S p U)).1 + 1) by omega]
theorem cl_playSteps {i S T U A m p k : Nat} {P : PF} {M : Mm} {g : GF} (hk : k ≤ 4000) (h : BX M T i g P) (hI : Iv g P S T U A m p) :
    ∃ M', fX0_playSteps M i (nI k) = some (nI (playN P S T m k g p U).1, M') ∧ BX M' T i (playN P S T m k g p U).2.1 P ∧ Fr (sBx i) M M' := by
  obtain ⟨M', a1, a2, a3⟩ := cl_playL (i := i) (K := fun w5 M6 => some (w5, M6)) k 0 M g p U NF (by omega) (by unfold NF; omega) h hI
  refine ⟨M', ?_, a1, a2⟩
  rw [Nat.zero_add, Nat.zero_add] at a3
  exact a3
/-! copies -/
theorem cl_copyL {i j : Nat} {M0 : Mm} (hij : i ≠ j) {K : Int32 → Mm → Option Mm} : ∀ (d t : Nat) (M : Mm) (n : Nat), t + d = 12 → d < n → (∀ t', t' < t → ∀ q, q < 6 → M.1 (13, i, t') q = M0.1 (13, j, t') q) → Fr (fun r => r.1 == 13 && r.2.1 == i) M0 M →
    ∃ M', (∀ t', t' < 12 → ∀ q, q < 6 → M'.1 (13, i, t') q = M0.1 (13, j, t') q) ∧ Fr (fun r => r.1 == 13 && r.2.1 == i) M0 M' ∧ fX0_copyFrom_L13 i j K n (nI t) M = K (nI 12) M' := by
  intro d
  induction d with
  | zero =>
    intro t M n ht hn h hF
    have e : t = 12 := by omega
    subst e
    obtain ⟨n, rfl⟩ : ∃ q, n = q + 1 := ⟨n - 1, by omega⟩
    exact ⟨M, h, hF, by rw [fX0_copyFrom_L13, if_pos (show (12 : Int32) ≤ nI 12 by decide)]⟩
  | succ d ih =>
    intro t M n ht hn h hF
    obtain ⟨n, rfl⟩ : ∃ q, n = q + 1 := ⟨n - 1, by omega⟩
    rw [fX0_copyFrom_L13, if_neg (show ¬ (12 : Int32) ≤ nI t from nI_ge (b := 12) (by omega) (by decide)), if_neg (nI_in (by omega) (by decide)), if_neg (nI_in (by omega) (by decide)), nI_clamp (by omega), ← nI_succ]
    have hs : ∀ t2, (fun r : Rf => r.1 == 13 && r.2.1 == i) (13, i, t2) = true := fun t2 => by simp
    have hj : ∀ q, M.1 (13, j, t) q = M0.1 (13, j, t) q := fun q => by rw [(hF (13, j, t) (by simp [Ne.symm hij])).1]
    obtain ⟨M', a1, a2, a3⟩ := ih (t + 1) (fX8_copyFrom M i t j t) n (by omega) (by omega) (fun t' ht' q hq => by
      rw [fX8_copyFrom]
      simp only [g_put]
      by_cases e : t' = t
      · subst e
        simp only [hj]
        have hq6 : q = 0 ∨ q = 1 ∨ q = 2 ∨ q = 3 ∨ q = 4 ∨ q = 5 := by omega
        rcases hq6 with rfl | rfl | rfl | rfl | rfl | rfl <;> simp
      · have := h t' (by omega) q hq
        simp [e, this]) (by
      rw [fX8_copyFrom]
      exact fr_pI (fr_pI (fr_pI (fr_pI (fr_pI (fr_pI hF (hs t)) (hs t)) (hs t)) (hs t)) (hs t)) (hs t))
    exact ⟨M', a1, a2, a3⟩
theorem cl_copy {T i j : Nat} {M : Mm} {g : GF} {P : PF} (hij : i ≠ j) (hT : T ≤ 12) (h : BX M T j g P) : ∃ M', fX0_copyFrom M i j = some M' ∧ BX M' T i g P ∧ Fr (sBx i) M M' := by
  have hF0 : Fr (sBx i) M (fX3_copyFrom M i j) := by
    rw [fX3_copyFrom]
    refine fr_pI (fr_pI (fr_pI (fun r hr => ⟨rfl, ?_⟩) (sBx_1 rfl)) (sBx_1 rfl)) (sBx_1 rfl)
    have hne : r ≠ (11, i, 0) := by intro e; subst e; rw [sBx_1 rfl] at hr; cases hr
    funext k
    simp [hne]
  obtain ⟨M1, a1, a2, a3⟩ := cl_copyL (K := fun w4 M5 => some (putI (putI (putI (putI (putI (putI (putI (putI M5 (9, i, 0) 2 (M5.1 (9, j, 0) 2)) (9, i, 0) 3 (M5.1 (9, j, 0) 3)) (9, i, 0) 4 (M5.1 (9, j, 0) 4)) (9, i, 0) 5 (M5.1 (9, j, 0) 5)) (9, i, 0) 6 (M5.1 (9, j, 0) 6)) (9, i, 0) 7 (M5.1 (9, j, 0) 7)) (9, i, 0) 8 (M5.1 (9, j, 0) 8)) (9, i, 0) 9 (M5.1 (9, j, 0) 9))) hij 12 0 (fX3_copyFrom M i j) NF rfl (by unfold NF; omega) (fun t' h => absurd h (Nat.not_lt_zero _)) fr_rf
  have hF1 : Fr (sBx i) M M1 := fr_tr hF0 (fr_mono (fun r hr => by
    simp only [Bool.and_eq_true, beq_iff_eq] at hr
    simp [sBx, hr.1, hr.2]) a2)
  refine ⟨_, (show fX0_copyFrom M i j = _ from a3), ⟨fun k hk => ?_, fun m hm t ht s hs => ?_⟩, ?_⟩
  · have c9 : ∀ q, M1.1 (9, j, 0) q = M.1 (9, j, 0) q := fun q => by rw [(hF1 (9, j, 0) (sBx_ne (Ne.symm hij))).1]
    have c10 : ∀ q, 1 ≤ q → q < 4 → M1.1 (10, i, 0) q = M.1 (10, j, 0) q := fun q h1 h2 => by
      rw [(a2 (10, i, 0) rfl).1, fX3_copyFrom]
      simp only [g_put]
      have hq : q = 1 ∨ q = 2 ∨ q = 3 := by omega
      rcases hq with rfl | rfl | rfl <;> simp
    have hk2 := h.1 k hk
    rcases hk with hk | ⟨hk, hk3⟩
    · rcases lt11 hk with rfl | rfl | rfl | rfl | rfl | rfl | rfl | rfl | rfl | rfl | rfl <;> simp only [lc] at hk2 ⊢ <;> simp only [g_put, c9] <;> first | (rw [← hk2]; simp; done) | (rw [← hk2]; simp; exact c10 _ (by decide) (by decide))
    · obtain ⟨t, q, rfl, hq⟩ : ∃ t q, k = 16 + 6 * t + q ∧ q < 6 := ⟨(k - 16) / 6, (k - 16) % 6, by omega, by omega⟩
      rw [lc_t hq] at hk2 ⊢
      simp only [g_put]
      have h13 : ¬ ((13, i, t) : Rf) = (9, i, 0) := fun e => by cases e
      simp only [h13, false_and, if_false]
      rw [a1 t (by omega) q hq, ← hk2, (hF0 (13, j, t) (sBx_ne (Ne.symm hij))).1]
  · rw [← h.2 m hm t ht s hs]
    simp only [g_2]
    rw [(a2 (11, i, 0) rfl).2, fX3_copyFrom]
    simp only [g_2, if_true]
    rw [pk_cpy_in (by omega) (by omega)]
    rw [show 0 + (12 * m + t - 0) = 12 * m + t by omega]
  · exact fr_pI (fr_pI (fr_pI (fr_pI (fr_pI (fr_pI (fr_pI (fr_pI hF1 (sBx_1 rfl)) (sBx_1 rfl)) (sBx_1 rfl)) (sBx_1 rfl)) (sBx_1 rfl)) (sBx_1 rfl)) (sBx_1 rfl)) (sBx_1 rfl)
/-! a new box -/
theorem cl_fill {i : Nat} {x : Int64} {K : Int32 → Mm → Option Mm} {M0 : Mm} : ∀ (d v : Nat) (M : Mm) (n : Nat), v + d = 36 → d < n → (∀ k, k < v → M.2 (11, i, 0) k = x) → Fr (fun r => r == (11, i, 0)) M0 M → M.1 = M0.1 →
    ∃ M', (∀ k, k < 36 → M'.2 (11, i, 0) k = x) ∧ Fr (fun r => r == (11, i, 0)) M0 M' ∧ M'.1 = M0.1 ∧ fJ7_fill_d0a16_L6 i x 36 K n (nI v) M = K (nI 36) M' := by
  intro d
  induction d with
  | zero =>
    intro v M n hv hn h hF h1
    have e : v = 36 := by omega
    subst e
    obtain ⟨n, rfl⟩ : ∃ q, n = q + 1 := ⟨n - 1, by omega⟩
    exact ⟨M, h, hF, h1, by rw [fJ7_fill_d0a16_L6, if_pos (show (36 : Int32) ≤ nI 36 by decide)]⟩
  | succ d ih =>
    intro v M n hv hn h hF h1
    obtain ⟨n, rfl⟩ : ∃ q, n = q + 1 := ⟨n - 1, by omega⟩
    rw [fJ7_fill_d0a16_L6, if_neg (show ¬ (36 : Int32) ≤ nI v from nI_ge (b := 36) (by omega) (by decide)), if_neg (nI_in (by omega) (by decide)), nI_clamp (by omega), ← nI_succ]
    exact ih (v + 1) _ n (by omega) (by omega) (fun k hk => by
      rw [g_putL]
      by_cases e : k = v
      · rw [if_pos ⟨rfl, e⟩]
      · rw [if_neg (fun c => e c.2)]; exact h k (by omega)) (fr_pL hF (by simp)) h1
def gB (S U A : Nat) : GF := fun k => if k = 0 then nI S else if k = 1 then nI U else if k = 2 then nI A else 0
theorem cl_begin {i S U A : Nat} {M : Mm} : ∃ M', fX0_begin M i (nI S) (nI U) (nI A) = some M' ∧ BX M' 0 i (gB S U A) (fun _ _ _ => false) ∧ Fr (sBx i) M M' := by
  obtain ⟨M1, a1, a2, a3, a4⟩ := cl_fill (i := i) (x := 0) (K := fun w3 M4 => some M4) 36 0 (putI (putI (putI M (10, i, 0) 1 (nI S)) (10, i, 0) 2 0) (10, i, 0) 3 0) NF rfl (by unfold NF; omega) (fun k h => absurd h (Nat.not_lt_zero _)) fr_rf rfl
  have e : fX3_begin M i (nI S) = some M1 := by
    rw [fX3_begin, fJ7_fill_d0a16]
    exact (congrArg (fun o => Option.bind o some) a4).trans rfl
  refine ⟨_, (by rw [fX0_begin, e]; rfl), ⟨fun k hk => ?_, fun m hm t ht s hs => ?_⟩, ?_⟩
  · rcases hk with hk | hk
    · rcases lt11 hk with rfl | rfl | rfl | rfl | rfl | rfl | rfl | rfl | rfl | rfl | rfl <;> simp only [lc] <;> simp [g_put, a3, gB]
    · omega
  · simp only [g_2]
    rw [a1 _ (by omega)]
    exact bL_0 s
  · refine fr_pI (fr_pI (fr_pI (fr_pI (fr_pI (fr_pI (fr_pI (fr_pI (fr_tr (fr_pI (fr_pI (fr_putI (sBx_1 rfl)) (sBx_1 rfl)) (sBx_1 rfl)) (fr_mono (fun r hr => ?_) a2)) (sBx_1 rfl)) (sBx_1 rfl)) (sBx_1 rfl)) (sBx_1 rfl)) (sBx_1 rfl)) (sBx_1 rfl)) (sBx_1 rfl)) (sBx_1 rfl)
    have : r = (11, i, 0) := by simpa using hr
    subst this
    exact sBx_1 rfl
/-- a box with one tooth more -/
def gTo (g : GF) (T : Nat) (a b c : Int32) : GF := upd (upd (upd (upd (upd g (16 + 6 * T) a) (16 + 6 * T + 2) b) (16 + 6 * T + 3) c) (16 + 6 * T + 5) 99) 3 (nI (T + 1))
theorem gTo_o {g : GF} {T k : Nat} {a b c : Int32} (hk : k < 16) (h3 : k ≠ 3) : gTo g T a b c k = g k := by rw [gTo, upd_o h3, upd_o (by omega), upd_o (by omega), upd_o (by omega), upd_o (by omega)]
theorem cl_putTooth {i T : Nat} {M : Mm} {g : GF} {P : PF} {a b c : Int32} (h : BX M T i g P) (h3 : g 3 = nI T) (hT : T < 12) (z1 : g (16 + 6 * T + 1) = 0) (z4 : g (16 + 6 * T + 4) = 0) :
    ∃ M', fX0_putTooth M i a b c = some M' ∧ BX M' (T + 1) i (gTo g T a b c) P ∧ Fr (sBx i) M M' := by
  have e3 : M.1 (9, i, 0) 2 = nI T := (h.1 3 (vk_s rfl)).trans h3
  rw [fX0_putTooth, e3, if_neg (nI_pos (by omega)), if_neg (show ¬ (12 : Int32) ≤ nI T from nI_ge (b := 12) hT (by decide)), if_neg (nI_in (by omega) (by decide)), nI_clamp (by omega), fX8_begin, fX8_renew]
  refine ⟨_, rfl, ⟨fun k hk => ?_, fun m hm t ht s hs => ?_⟩, ?_⟩
  · rcases hk with hk | ⟨hk, hk3⟩
    · have hk2 := h.1 k (Or.inl hk)
      by_cases k3 : k = 3
      · subst k3
        rw [gTo, upd_s]
        simp [lc, g_put, e3, nI_succ]
      · rw [gTo_o (by omega) k3]
        rcases lt11 hk with rfl | rfl | rfl | rfl | rfl | rfl | rfl | rfl | rfl | rfl | rfl <;> first | exact absurd rfl k3 | (simp [lc] at hk2; simp [lc, g_put, hk2])
    · obtain ⟨t, q, rfl, hq⟩ : ∃ t q, k = 16 + 6 * t + q ∧ q < 6 := ⟨(k - 16) / 6, (k - 16) % 6, by omega, by omega⟩
      rw [lc_t hq]
      simp only [g_put]
      by_cases e : t = T
      · subst e
        have hq6 : q = 0 ∨ q = 1 ∨ q = 2 ∨ q = 3 ∨ q = 4 ∨ q = 5 := by omega
        rcases hq6 with rfl | rfl | rfl | rfl | rfl | rfl <;> simp [gTo, upd, z1, z4] <;> (intro hx; omega)
      · have hk2 := bx_t h (show t < T by omega) hq
        have n1 : ¬ ((13, i, t) : Rf) = (13, i, T) := fun c => e (by cases c; rfl)
        have n2 : ¬ ((13, i, t) : Rf) = (9, i, 0) := fun c => by cases c
        simp only [n1, n2, false_and, if_false]
        rw [hk2, gTo, upd_o (by omega), upd_o (by omega), upd_o (by omega), upd_o (by omega), upd_o (by omega)]
  · exact h.2 m hm t ht s hs
  · exact fr_pI (fr_pI (fr_pI (fr_pI (fr_pI (fr_pI (fr_putI (sBx_1 rfl)) (sBx_1 rfl)) (sBx_1 rfl)) (sBx_1 rfl)) (sBx_1 rfl)) (sBx_1 rfl)) (sBx_1 rfl)

