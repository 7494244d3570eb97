/-! the law's start: class and reference stand alike -/
def tb0 (k : Nat) : Nat := ((sby 0).getD k 0).toNatClampNeg
theorem tb0_ok : ∀ k, k < 123 → (1 ≤ tb0 k ∧ tb0 k < 256) ∧ nI (tb0 k) = (sby 0).getD k 0 := by decide +kernel
theorem tv0 : TV tb0 123 := ⟨by decide, fun k hk => (tb0_ok k hk).1⟩
theorem tc_MT : TC (MT 123) tb0 123 := by
  refine ⟨MT_len, fun k hk => ?_⟩
  rw [(tb0_ok k hk).2]
  exact if_pos ⟨rfl, hk⟩
theorem tc_dum : TC dumC tb0 123 := by
  refine ⟨?_, fun k hk => ?_⟩
  · unfold dumC
    dsimp only
    rw [if_pos rfl, if_pos rfl, slen_0]
  · unfold dumC
    dsimp only
    rw [if_neg (by decide), if_pos rfl, (tb0_ok k hk).2]
theorem tk_loop {K : Int32 → Mm → Option Mm} : ∀ n t M f, t + n = 123 → n < f → ∃ M', fX10_takesText_L2 0 K f (nI t) M = K (nI 123) M' ∧ Fr (fun r => r == (19, 6, 0)) M M' ∧ (∀ k, k < t → M'.1 (19, 6, 0) k = M.1 (19, 6, 0) k) ∧ (∀ k, t ≤ k → k < 123 → M'.1 (19, 6, 0) k = (sby 0).getD k 0) := by
  intro n
  induction n with
  | zero =>
    intro t M f ht hf
    have e : t = 123 := by omega
    subst e
    obtain ⟨f, rfl⟩ : ∃ g, f = g + 1 := ⟨f - 1, by omega⟩
    refine ⟨M, ?_, fr_rf, fun _ _ => rfl, fun k h1 h2 => by omega⟩
    rw [fX10_takesText_L2, slen_0, if_pos (nI_le (Nat.le_refl _) (by decide))]
  | succ n ih =>
    intro t M f ht hf
    obtain ⟨f, rfl⟩ : ∃ g, f = g + 1 := ⟨f - 1, by omega⟩
    have ht1 : t < 123 := by omega
    obtain ⟨M', a1, a2, a3, a4⟩ := ih (t + 1) (putI M (19, 6, 0) t ((sby 0).getD t 0)) f (by omega) (by omega)
    refine ⟨M', ?_, fr_tr (fr_putI (by simp)) a2, fun k hk => ?_, fun k h1 h2 => ?_⟩
    · rw [fX10_takesText_L2, slen_0, if_neg (nI_ge ht1 (by decide)), sch_0 ht1, Option.bind_some, if_neg (nI_in (by omega) (by decide)), nI_clamp (by omega), ← nI_succ]
      exact a1
    · rw [a3 k (by omega), g_row, upd_o (by omega)]
    · by_cases e : k = t
      · subst e
        rw [a3 k (by omega), g_row, upd_s]
      · exact a4 k (by omega) h2
theorem mR_lo {M : Mm} {x : Rf} (h : x.1 < 18) : (mR M).1 x = M.1 x ∧ (mR M).2 x = M.2 x := by
  have hne : x ≠ (18, 0, 0) := fun c => by rw [c] at h; exact absurd h (by decide)
  refine ⟨?_, ?_⟩
  · unfold mR
    rw [putI_ne hne]
    funext j
    exact if_neg (fun c => by omega)
  · funext j
    exact if_neg (fun c => by omega)
theorem mR_hi {M : Mm} {x : Rf} (h : 18 ≤ x.1 ∧ x.1 < 21) (hne : x ≠ (18, 0, 0)) (j : Nat) : (mR M).1 x j = 0 := by
  unfold mR
  rw [putI_ne hne]
  exact if_pos h
theorem mR_8 {M : Mm} {j : Nat} (h : j ≠ 12) : (mR M).1 R8 j = 0 := by
  unfold mR
  rw [g_row, upd_o h]
  show (if 18 ≤ 18 ∧ 18 < 21 then (0 : Int32) else M.1 R8 j) = 0
  rw [if_pos (by decide)]
/-- the reference's text, fed -/
theorem tk_all (M : Mm) : ∃ B, fX10_takesText (mR M) 0 = ((fX10_starts B).bind fun q7 => (fX10_readsSetup q7).bind fun q9 => some (putI q9 (18, 0, 0) 10 (0 : Int32))) ∧ TR B tb0 123 ∧ Fr (fun r => r == (19, 6, 0) || r == R8) (mR M) B ∧ ∀ j, j ≠ 10 → B.1 R8 j = (mR M).1 R8 j := by
  obtain ⟨B, a1, a2, a3, a4⟩ := tk_loop (K := fun w5 M6 => (fX10_starts (putI M6 (18, 0, 0) 10 (slen 0))).bind fun q7 => (fX10_readsSetup q7).bind fun q9 => some (putI q9 (18, 0, 0) 10 (0 : Int32))) 123 0 (mR M) NF rfl (by unfold NF; omega)
  refine ⟨putI B (18, 0, 0) 10 (slen 0), a1, ⟨?_, fun k hk _ => ?_⟩, fr_tr (fr_mono (fun r hr => by rw [hr]; rfl) a2) (fr_putI (by simp)), fun j hj => ?_⟩
  · rw [g_row, upd_s, slen_0]
  · rw [putI_ne (by decide), a4 k (Nat.zero_le _) hk, (tb0_ok k hk).2]
  · rw [g_row, upd_o hj, (a2 R8 rfl).1]
theorem first_b {b : Int32} {N : Mm} (h : fX6_readSetup dumC = some (b, N)) : b = 1 := by
  have h1 := first_w
  rw [h] at h1
  exact Option.some.inj h1
theorem GL_start : ∃ MA res, fX9_takeSetup (MT 123) = some MA ∧ fX10_takesText (mR MA) 0 = some res ∧ GL res := by
  have hz : ∀ {M B : Mm}, Fr (fun r => r == (19, 6, 0) || r == R8) (mR M) B → ∀ k, k < 280 → B.1 NW k = 0 := fun {M B} hF k _ => by
    rw [(hF NW rfl).1]
    exact mR_hi ⟨by decide, by decide⟩ (by decide) k
  obtain ⟨B0, -, b2, b3, -⟩ := tk_all MI
  obtain ⟨MA, -, -, t1, -⟩ := st_take tv0 tc_MT b2 (hz b3)
  obtain ⟨B, c1, c2, c3, c4⟩ := tk_all MA
  obtain ⟨MA', M2, N2, s1, s2, s3, s4, s5, s6, s7⟩ := st_take tv0 tc_MT c2 (hz c3)
  have e : MA' = MA := Option.some.inj (s1.symm.trans t1)
  subst e
  have hok : M2.1 R8 17 = 0 := by
    obtain ⟨b, X1, X2, X3, y1, y2, y3, y4, -⟩ := st_setup tv0 tc_dum c2 (hz c3)
    have hb := first_b y1
    have e3 : X3 = N2 := Option.some.inj (y2.symm.trans s2)
    subst e3
    have e2 : X2 = M2 := Option.some.inj (y3.symm.trans s3)
    subst e2
    rcases y4 with ⟨-, g, P, S, T, U, A, -, -, -, -, h17, -⟩ | ⟨hb0, -⟩
    · exact h17
    · rw [hb0] at hb; exact absurd hb (by decide)
  refine ⟨MA', putI M2 (18, 0, 0) 10 0, t1, ?_, ?_⟩
  · rw [c1, s2, Option.bind_some, s3, Option.bind_some]
  rcases s7.symm with ⟨e, p, -, hER, -⟩ | ⟨g, P, S, T, U, A, q1, q2, q3, q4, -, -, q7, q8, q9⟩
  · exact absurd (hER.1.symm.trans hok) hER.2.1
  have fAll : Fr (fun r => decide (18 ≤ r.1)) MA' (putI M2 (18, 0, 0) 10 0) := by
    intro r hr
    have hr : r.1 < 18 := by
      have := of_decide_eq_false hr
      omega
    have n1 : r ≠ (18, 0, 0) := fun c => by rw [c] at hr; exact absurd hr (by decide)
    have n2 : r ≠ NW := fun c => by rw [c] at hr; exact absurd hr (by decide)
    have n3 : r ≠ (19, 6, 0) := fun c => by rw [c] at hr; exact absurd hr (by decide)
    have f1 := s4.1 r (by unfold sS2; simp [n1, n2])
    have f2 := c3 r (by simp [n1, n3])
    have f3 := mR_lo (M := MA') hr
    exact ⟨by rw [putI_ne n1, f1.1, f2.1, f3.1], by show M2.2 r = _; rw [f1.2, f2.2, f3.2]⟩
  have r8 : ∀ j, j ≠ 10 → j ≠ 12 → (j < 13 ∨ 18 < j) → (putI M2 (18, 0, 0) 10 0).1 R8 j = 0 := fun j h1 h2 h3 => by
    rw [g_row, upd_o h1, s4.2 j h3, c4 j h1, mR_8 h2]
  have cl : ∀ {r : Rf}, r.1 < 18 → (putI M2 (18, 0, 0) 10 0).1 r = MA'.1 r := fun {r} h => (fAll r (decide_eq_false (by omega))).1
  have hb : ∀ i r, sBx i r = true → (fun r : Rf => decide (18 ≤ r.1)) r = false := fun i r hr => by
    unfold sBx at hr
    simp only [Bool.and_eq_true, Bool.or_eq_true, beq_iff_eq] at hr
    exact decide_eq_false (by omega)
  have hlo : ∀ {r : Rf}, sTS r = false → MA'.1 r = (MT 123).1 r := fun {r} h => (s6 r h).1
  have mt0 : ∀ {r : Rf} {j : Nat}, r ≠ (2, 0, 0) → r ≠ (1, 0, 0) → r.1 ≠ 10 ∧ r.1 ≠ 3 → (MT 123).1 r j = 0 := fun {r j} h1 h2 h3 => by
    show (if r = (2, 0, 0) ∧ j < 123 then (sby 0).getD j 0 else if r = (1, 0, 0) ∧ j = 1 then nI 123 else MI.1 r j) = 0
    rw [if_neg (fun c => h1 c.1), if_neg (fun c => h2 c.1), mi_0 h3]
  refine ⟨⟨g, P, S, T, U, A, 0, 0, q3, bx_fr (hb 0) fAll q1, ?_⟩, ⟨tb0, 0, ⟨by omega, fun k hk => by omega⟩, ⟨?_, fun k hk => by omega⟩, ⟨?_, fun k hk => by omega⟩⟩, ⟨?_, ?_⟩, ⟨0, 0, by omega, by omega, ?_, ?_, ?_, fun k hk => by omega⟩, fun c hc => Or.inl ?_, ⟨0, by omega, ?_, ?_, fun k hk => by omega⟩, ?_⟩
  · rw [putI_ne (by decide)]; exact q2
  · rw [cl (by decide), s5]; rfl
  · rw [g_row, upd_s]; rfl
  · rw [cl (by decide), q4.1, r8 11 (by decide) (by decide) (Or.inl (by decide))]
  · rw [cl (by decide), q4.2, g_row, upd_o (by decide), s4.2 12 (Or.inl (by decide)), c4 12 (by decide)]
    unfold mR
    rw [g_row, upd_s]
  · rw [cl (by decide), q7, upd_s]; rfl
  · rw [cl (by decide), q7, upd_o (by decide), mt0 (by decide) (by decide) (by decide)]; rfl
  · rw [r8 7 (by decide) (by decide) (Or.inl (by decide))]; rfl
  · have h20 : (putI M2 (18, 0, 0) 10 0).1 (20, 0, 0) c = 0 := by
      rw [putI_ne (by decide), (s4.1 (20, 0, 0) rfl).1, (c3 (20, 0, 0) rfl).1]
      exact mR_hi ⟨by decide, by decide⟩ (by decide) c
    rw [cl (by decide)]
    have : c = 0 ∨ c = 1 := by omega
    rcases this with rfl | rfl
    · exact ⟨q8, h20⟩
    · exact ⟨q9, h20⟩
  · rw [cl (by decide), hlo rfl, mt0 (by decide) (by decide) (by decide)]; rfl
  · rw [r8 27 (by decide) (by decide) (Or.inr (by decide))]; rfl
  · exact r8 25 (by decide) (by decide) (Or.inr (by decide))
