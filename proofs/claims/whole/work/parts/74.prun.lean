/-! a script is run, side by side: rows of commands -/
section RUN
variable {S T k : Nat}
theorem cl_ended {M : Mm} {rc : Mm → Nat → Int32 → Int32 → Int32 → Option Mm} {b : Nat} {n : Nat} {c4 c5 v : Int32} (h : M.1 (7, 0, 0) 6 = 1) : fX4_runPart_L25 rc b c4 c5 (fun _ M => some M) (n + 1) v M = some M := by
  rw [fX4_runPart_L25]
  split
  · rfl
  · rw [h, if_neg one_ne]
/-- the class passes by what lies deeper -/
theorem cl_skip {M : Mm} {rc : Mm → Nat → Int32 → Int32 → Int32 → Option Mm} {L b e : Nat} {K : Int32 → Mm → Option Mm} (h6 : M.1 (7, 0, 0) 6 = 0) (hb : b ≤ 30) (he : e ≤ b) : ∀ (d a n : Nat), a + d = e → d ≤ n → (∀ j, a ≤ j → j < e → M.1 (8, 1, 0) j ≠ nI L) → fX4_runPart_L25 rc 0 (nI L) (nI b) K n (nI a) M = fX4_runPart_L25 rc 0 (nI L) (nI b) K (n - d) (nI e) M := by
  intro d
  induction d with
  | zero =>
    intro a n ha hn _
    rw [show a = e by omega, Nat.sub_zero]
  | succ d ih =>
    intro a n ha hn hl
    obtain ⟨n, rfl⟩ : ∃ q, n = q + 1 := ⟨n - 1, by omega⟩
    rw [fX4_runPart_L25, if_neg (nI_ge (by omega) (by omega)), h6, if_pos rfl, if_neg (nI_in (by omega) (by decide)), nI_clamp (by omega), if_neg (hl a (Nat.le_refl _) (by omega)), ← nI_succ, ih (a + 1) n (by omega) (by omega) (fun j h1 h2 => hl j (by omega) h2), show n + 1 - (d + 1) = n - d by omega]
/-- the reference, when 40 commands are done -/
theorem rf_done {M2 : Mm} {kd lv pe : GF} (h24 : M2.1 R8 24 = 40) (hk : k ≤ 30) (hK : ∀ j, j < k → (kd j = 9 ↔ M2.1 (19, 7, 0) j = 9) ∧ (kd j = 9 → ∃ x, x ≤ 20 ∧ M2.1 (19, 8, 0) j = nI x ∧ M2.1 (19, 9, 0) j = pe j)) : ∀ (r L : Nat), L + r = 2 → ∀ (f a b F n : Nat), b ≤ k → r ≤ F → 31 ≤ n + a → WF kd lv pe f L a b → ∃ fl, (fl = 0 ∨ fl = 1) ∧ fX10_doesAll_L2 (gX10_doesAll F) (nI b) (fun _ M => some (1, M)) n (nI a) M2 = some (fl, M2) := by
  intro r
  induction r with
  | zero =>
    intro L hL f
    induction f with
    | zero =>
      intro a b F n hb hF hn hw
      rw [WF] at hw
      subst hw
      obtain ⟨n, rfl⟩ : ∃ q, n = q + 1 := ⟨n - 1, by omega⟩
      exact ⟨1, Or.inr rfl, by rw [fX10_doesAll_L2, if_pos (nI_le (Nat.le_refl _) (by omega))]⟩
    | succ f ih =>
      intro a b F n hb hF hn hw
      rw [WF] at hw
      rcases hw with hw | ⟨h1, h2, ⟨h3, h4⟩ | ⟨h3, h4, -⟩⟩
      · subst hw
        by_cases ha : a ≤ 30
        · obtain ⟨n, rfl⟩ : ∃ q, n = q + 1 := ⟨n - 1, by omega⟩
          exact ⟨1, Or.inr rfl, by rw [fX10_doesAll_L2, if_pos (nI_le (Nat.le_refl _) (by omega))]⟩
        · omega
      · obtain ⟨n, rfl⟩ : ∃ q, n = q + 1 := ⟨n - 1, by omega⟩
        refine ⟨0, Or.inl rfl, ?_⟩
        rw [fX10_doesAll_L2, if_neg (nI_ge (by omega) (by omega)), if_neg (nI_in (by omega) (by decide)), nI_clamp (by omega), if_neg (fun c => h3 ((hK a (by omega)).1.mpr c)), h24, if_pos rfl]
      · omega
  | succ r ihr =>
    intro L hL f
    induction f with
    | zero =>
      intro a b F n hb hF hn hw
      rw [WF] at hw
      subst hw
      obtain ⟨n, rfl⟩ : ∃ q, n = q + 1 := ⟨n - 1, by omega⟩
      exact ⟨1, Or.inr rfl, by rw [fX10_doesAll_L2, if_pos (nI_le (Nat.le_refl _) (by omega))]⟩
    | succ f ih =>
      intro a b F n hb hF hn hw
      rw [WF] at hw
      rcases hw with hw | ⟨h1, h2, ⟨h3, h4⟩ | ⟨h3, h4, e, h5, h6, h7, h8, h9⟩⟩
      · subst hw
        obtain ⟨n, rfl⟩ : ∃ q, n = q + 1 := ⟨n - 1, by omega⟩
        exact ⟨1, Or.inr rfl, by rw [fX10_doesAll_L2, if_pos (nI_le (Nat.le_refl _) (by omega))]⟩
      · obtain ⟨n, rfl⟩ : ∃ q, n = q + 1 := ⟨n - 1, by omega⟩
        refine ⟨0, Or.inl rfl, ?_⟩
        rw [fX10_doesAll_L2, if_neg (nI_ge (by omega) (by omega)), if_neg (nI_in (by omega) (by decide)), nI_clamp (by omega), if_neg (fun c => h3 ((hK a (by omega)).1.mpr c)), h24, if_pos rfl]
      · obtain ⟨n, rfl⟩ : ∃ q, n = q + 1 := ⟨n - 1, by omega⟩
        obtain ⟨F, rfl⟩ : ∃ q, F = q + 1 := ⟨F - 1, by omega⟩
        obtain ⟨x, x1, x2, x3⟩ := (hK a (by omega)).2 h3
        rw [h5] at x3
        have hg := hgk (show a < 30 by omega)
        have hgt : ¬ (nI a < 0 ∨ 30 ≤ a) := by have := nI_in (c := a) (N := 30) (by omega) (by decide); rw [nI_clamp (by omega)] at this; exact this
        rw [fX10_doesAll_L2, if_neg (nI_ge (by omega) (by omega)), if_neg hg, nI_clamp (by omega), if_pos ((hK a (by omega)).1.mp h3)]
        obtain ⟨fl2, q1, q2⟩ := ih e b (F + 1) n hb hF (by omega) h9
        -- the rounds
        have loop : ∀ (d i m : Nat), i + d = x → d < m → ∃ fl, (fl = 0 ∨ fl = 1) ∧ fX10_doesAll_L21 (gX10_doesAll (F + 1)) (nI b) (nI a) (fun w14 M15 => if nI a < 0 ∨ 30 ≤ (nI a).toNatClampNeg then none else fX10_doesAll_L2 (gX10_doesAll (F + 1)) (nI b) (fun _ M => some (1, M)) n (M15.1 (19, 9, 0) (nI a).toNatClampNeg) M15) m (nI i) M2 = some (fl, M2) := by
          intro d
          induction d with
          | zero =>
            intro i m hi hm
            obtain ⟨m, rfl⟩ : ∃ q, m = q + 1 := ⟨m - 1, by omega⟩
            refine ⟨fl2, q1, ?_⟩
            rw [fX10_doesAll_L21, if_neg hg, nI_clamp (by omega), x2, if_pos (nI_le (by omega) (by omega)), if_neg hgt, x3]
            exact q2
          | succ d ihd =>
            intro i m hi hm
            obtain ⟨m, rfl⟩ : ∃ q, m = q + 1 := ⟨m - 1, by omega⟩
            obtain ⟨fl3, p1, p2⟩ := ihr (L + 1) (by omega) f (a + 1) e F NF (by omega) (by omega) (by unfold NF; omega) h8
            rw [fX10_doesAll_L21]
            simp only [hg, if_false]
            rw [nI_clamp (by omega), x2, if_neg (nI_ge (by omega) (by omega)), ← nI_succ a, x3, gX10_doesAll, fX10_doesAll, p2, Option.bind_some]
            rcases p1 with rfl | rfl
            · exact ⟨0, Or.inl rfl, by rw [if_pos rfl]⟩
            · rw [if_neg one_ne, ← nI_succ]
              obtain ⟨fl, l1, l2⟩ := ihd (i + 1) m (by omega) (by omega)
              simp only [hg, if_false] at l2
              rw [nI_clamp (by omega)] at l2
              exact ⟨fl, l1, l2⟩
        obtain ⟨fl, l1, l2⟩ := loop x 0 NF (by omega) (by unfold NF; omega)
        rw [nI_clamp (by omega)] at l2
        exact ⟨fl, l1, l2⟩
/-- what is kept of the commands -/
def DD (M1 M2 : Mm) (k : Nat) : Prop := ∀ j, j < k → DC M1 M2 j
theorem dd_fr {M1 M1' M2 M2' : Mm} (h1 : Fr sE1 M1 M1') (h2 : FE M2 M2') (h : DD M1 M2 k) : DD M1' M2' k := fun j hj => dc_pv (k := k) hj ⟨fun a _ j _ => by rw [(h1 (8, a, 0) rfl).1], fun i _ => by rw [(h1 (8, 3, 0) rfl).1], fun a _ _ j _ => by rw [(h2.1 (19, a, 0) (by
  have e : a ≠ 0 := by omega
  unfold sE2
  simp [e])).1]⟩ (h j hj)
theorem dd_K {M1 M2 : Mm} (h : DD M1 M2 k) : ∀ j, j < k → (M1.1 (8, 0, 0) j = 9 ↔ M2.1 (19, 7, 0) j = 9) ∧ (M1.1 (8, 0, 0) j = 9 → ∃ x, x ≤ 20 ∧ M2.1 (19, 8, 0) j = nI x ∧ M2.1 (19, 9, 0) j = M1.1 (8, 2, 0) j) := fun j hj => by
  obtain ⟨K, h1, h2, h3, h4, h5⟩ := h j hj
  refine ⟨by rw [h2, h3], fun c => ?_⟩
  have e : K = 9 := by
    rw [h2] at c
    exact (nI_eq (b := 9) (by omega) (by decide)).mp c
  obtain ⟨x, e, x1, x2, x3, x4, x5⟩ := h5 e
  exact ⟨x, x1, x3, x5.trans x4.symm⟩
/-- how a row of commands ends -/
def RO (S T : Nat) (o1 : Option Mm) (o2 : Option (Int32 × Mm)) (M1 M2 : Mm) : Prop := ∃ M1' M2' g P U A m p ex fl, o1 = some M1' ∧ o2 = some (fl, M2') ∧ XS M1' M2' g P S T U A m p ex ∧ ((M1'.1 (7, 0, 0) 6 = 0 ∧ fl = 1 ∧ ex < 40) ∨ (M1'.1 (7, 0, 0) 6 = 1 ∧ (fl = 0 ∨ (fl = 1 ∧ ex = 40)))) ∧ Fr sE1 M1 M1' ∧ FE M2 M2'
theorem ro_tr {o1 : Option Mm} {o2 : Option (Int32 × Mm)} {M1 M2 N1 N2 : Mm} (h1 : Fr sE1 M1 N1) (h2 : FE M2 N2) (h : RO S T o1 o2 N1 N2) : RO S T o1 o2 M1 M2 := by
  obtain ⟨M1', M2', g, P, U, A, m, p, ex, fl, a1, a2, a3, a4, a5, a6⟩ := h
  exact ⟨M1', M2', g, P, U, A, m, p, ex, fl, a1, a2, a3, a4, fr_tr h1 a5, fe_tr h2 a6⟩
/-- the rounds of a repeat, when 40 commands are done -/
theorem rf_rounds {M2 : Mm} {F a b e x n : Nat} (hx : x ≤ 20) (ha : a < 30) (x2 : M2.1 (19, 8, 0) a = nI x) (x3 : M2.1 (19, 9, 0) a = nI e) (hin : ∃ fl, (fl = 0 ∨ fl = 1) ∧ gX10_doesAll F M2 (nI (a + 1)) (nI e) = some (fl, M2)) (hout : ∃ fl, (fl = 0 ∨ fl = 1) ∧ fX10_doesAll_L2 (gX10_doesAll F) (nI b) (fun _ M => some (1, M)) n (nI e) M2 = some (fl, M2)) : ∀ (d i m : Nat), i + d = x → d < m → ∃ fl, (fl = 0 ∨ fl = 1) ∧ fX10_doesAll_L21 (gX10_doesAll F) (nI b) (nI a) (fun w14 M15 => if nI a < 0 ∨ 30 ≤ (nI a).toNatClampNeg then none else fX10_doesAll_L2 (gX10_doesAll F) (nI b) (fun _ M => some (1, M)) n (M15.1 (19, 9, 0) (nI a).toNatClampNeg) M15) m (nI i) M2 = some (fl, M2) := by
  have hg := hgk ha
  have hcl : (nI a).toNatClampNeg = a := nI_clamp (by omega)
  obtain ⟨fl2, q1, q2⟩ := hout
  obtain ⟨fl3, p1, p2⟩ := hin
  intro d
  induction d with
  | zero =>
    intro i m hi hm
    obtain ⟨m, rfl⟩ : ∃ q, m = q + 1 := ⟨m - 1, by omega⟩
    refine ⟨fl2, q1, ?_⟩
    rw [fX10_doesAll_L21]
    simp only [hg, if_false]
    rw [hcl, x2, if_pos (nI_le (by omega) (by omega)), x3]
    exact q2
  | succ d ihd =>
    intro i m hi hm
    obtain ⟨m, rfl⟩ : ∃ q, m = q + 1 := ⟨m - 1, by omega⟩
    obtain ⟨fl, l1, l2⟩ := ihd (i + 1) m (by omega) (by omega)
    rw [fX10_doesAll_L21]
    simp only [hg, if_false] at l2 ⊢
    rw [hcl] at l2 ⊢
    rw [x2, if_neg (nI_ge (by omega) (by omega)), ← nI_succ a, x3, p2, Option.bind_some]
    rcases p1 with rfl | rfl
    · exact ⟨0, Or.inl rfl, by rw [if_pos rfl]⟩
    · rw [if_neg one_ne, ← nI_succ]
      exact ⟨fl, l1, l2⟩
/-- one level of rows, the deeper ones given -/
theorem st_runL (hk : k ≤ 30) {kd lv pe : GF} {r L F1 F2 : Nat} (hL : L + r = 2) (hF2 : r ≤ F2)
    (hrc : 0 < r → ∀ (f a e : Nat) (M1 M2 : Mm) (g : GF) (P : PF) (U A m p ex : Nat), M1.1 (8, 0, 0) = kd → M1.1 (8, 1, 0) = lv → M1.1 (8, 2, 0) = pe → WF kd lv pe f (L + 1) a e → e ≤ k → DD M1 M2 k → XS M1 M2 g P S T U A m p ex → M1.1 (7, 0, 0) 6 = 0 → ex < 40 → RO S T (gX4_runPart F1 M1 0 (nI a) (nI e) (nI (L + 1))) (gX10_doesAll F2 M2 (nI a) (nI e)) M1 M2) : ∀ (f a b : Nat) (M1 M2 : Mm) (g : GF) (P : PF) (U A m p ex n1 n2 : Nat), M1.1 (8, 0, 0) = kd → M1.1 (8, 1, 0) = lv → M1.1 (8, 2, 0) = pe → WF kd lv pe f L a b → b ≤ k → DD M1 M2 k → XS M1 M2 g P S T U A m p ex → M1.1 (7, 0, 0) 6 = 0 → ex < 40 → 32 ≤ n1 + a → 31 ≤ n2 + a →
    RO S T (fX4_runPart_L25 (gX4_runPart F1) 0 (nI L) (nI b) (fun _ M => some M) n1 (nI a) M1) (fX10_doesAll_L2 (gX10_doesAll F2) (nI b) (fun _ M => some (1, M)) n2 (nI a) M2) M1 M2 := by
  intro f
  induction f with
  | zero =>
    intro a b M1 M2 g P U A m p ex n1 n2 e0 e1 e2 hw hb hd hs h6 hx hn1 hn2
    rw [WF] at hw
    subst hw
    obtain ⟨n1, rfl⟩ : ∃ q, n1 = q + 1 := ⟨n1 - 1, by omega⟩
    obtain ⟨n2, rfl⟩ : ∃ q, n2 = q + 1 := ⟨n2 - 1, by omega⟩
    exact ⟨M1, M2, g, P, U, A, m, p, ex, 1, by rw [fX4_runPart_L25, if_pos (nI_le (Nat.le_refl _) (by omega))], by rw [fX10_doesAll_L2, if_pos (nI_le (Nat.le_refl _) (by omega))], hs, Or.inl ⟨h6, rfl, hx⟩, fr_rf, fe_rf⟩
  | succ f ih =>
    intro a b M1 M2 g P U A m p ex n1 n2 e0 e1 e2 hw hb hd hs h6 hx hn1 hn2
    rw [WF] at hw
    rcases hw with hw | ⟨h1, h2, h3⟩
    · subst hw
      obtain ⟨n1, rfl⟩ : ∃ q, n1 = q + 1 := ⟨n1 - 1, by omega⟩
      obtain ⟨n2, rfl⟩ : ∃ q, n2 = q + 1 := ⟨n2 - 1, by omega⟩
      exact ⟨M1, M2, g, P, U, A, m, p, ex, 1, by rw [fX4_runPart_L25, if_pos (nI_le (Nat.le_refl _) (by omega))], by rw [fX10_doesAll_L2, if_pos (nI_le (Nat.le_refl _) (by omega))], hs, Or.inl ⟨h6, rfl, hx⟩, fr_rf, fe_rf⟩
    · obtain ⟨n1, rfl⟩ : ∃ q, n1 = q + 1 := ⟨n1 - 1, by omega⟩
      obtain ⟨n2, rfl⟩ : ∃ q, n2 = q + 1 := ⟨n2 - 1, by omega⟩
      have ha : a < 30 := by omega
      have hg := hgk ha
      have hcl : (nI a).toNatClampNeg = a := nI_clamp (by omega)
      have hlv : M1.1 (8, 1, 0) a = nI L := by rw [e1]; exact h2
      have dk := dd_K hd a (by omega)
      obtain ⟨s1, s2, s3, s4, s5, s6, s7⟩ := id hs
      rcases h3 with ⟨h3, h4⟩ | ⟨h3, hL2, e, h5, h7, h8, h9, h10⟩
      · -- a plain command
        have k9 : ¬ M1.1 (8, 0, 0) a = 9 := by rw [e0]; exact h3
        have k9' : ¬ M2.1 (19, 7, 0) a = 9 := fun c => k9 (dk.1.mpr c)
        have n40 : ¬ M2.1 R8 24 = 40 := by rw [s5]; exact by_ne (c := 40) (L := 40) (by omega) (by decide) rfl (by omega)
        rw [fX4_runPart_L25, if_neg (nI_ge h1 (by omega)), h6, if_pos rfl, fX10_doesAll_L2, if_neg (nI_ge h1 (by omega))]
        simp only [hg, if_false]
        rw [hcl, hlv, if_pos rfl, if_neg k9, if_neg k9', if_neg n40]
        rcases st_do ha (hd a (by omega)) k9 s1 s2 s3 s6 with ⟨ff, r1, M2', z1, z2, z3, z4, z5, z6, z7⟩ | ⟨M1', r1, M2', g', P', U', A', m', p', z1, z2, z3, z4, z5, z6, z7, z8, z9, z10⟩
        · rw [z2, Option.bind_some, if_neg z1, z3, Option.bind_some]
          dsimp only
          rw [if_neg z4]
          have bxz : BX (putI M1 (7, 0, 0) 6 1) T 0 g P := bx_fr (S := fun r => r == (7, 0, 0)) (fun r hr => by
            cases er : (r == ((7, 0, 0) : Rf)) with
            | false => rfl
            | true =>
              have : r = (7, 0, 0) := by simpa using er
              subst this
              cases hr) (fr_putI (by simp)) s1
          obtain ⟨n1, rfl⟩ : ∃ q, n1 = q + 1 := ⟨n1 - 1, by omega⟩
          refine ⟨putI M1 (7, 0, 0) 6 1, M2', g, P, U, A, m, p, ex, 0, cl_ended (by rw [g_row, upd_s]), rfl, ⟨bxz, z5, s3, by rw [g_row, upd_o (by decide)]; exact s4, by rw [z7]; exact s5, by rw [z6.2 25 (by decide) (by decide)]; exact s6, s7⟩, Or.inr ⟨by rw [g_row, upd_s], Or.inl rfl⟩, fr_putI rfl, z6⟩
        · rw [z1, Option.bind_some, if_pos rfl, z2, Option.bind_some, z3, Option.bind_some]
          dsimp only
          have y5 : M1'.1 (7, 0, 0) 5 = nI ex := by rw [(z8 (7, 0, 0) rfl).1]; exact s4
          have y24 : M2'.1 R8 24 = nI ex := by rw [z10]; exact s5
          have y25 : M2'.1 R8 25 = 1 := by rw [z9.2 25 (by decide) (by decide)]; exact s6
          rw [if_pos z4, y5, y24, ← nI_succ, ← nI_succ]
          have bx7 : ∀ {X : Mm} {j : Nat} {v : Int32}, BX X T 0 g' P' → BX (putI X (7, 0, 0) j v) T 0 g' P' := fun {X j v} hX => bx_fr (S := fun r => r == (7, 0, 0)) (fun r hr => by
            cases er : (r == ((7, 0, 0) : Rf)) with
            | false => rfl
            | true =>
              have : r = (7, 0, 0) := by simpa using er
              subst this
              cases hr) (fr_putI (by simp)) hX
          have rx8 : RX ((putI M2' R8 24 (nI (ex + 1))).1 NW) g' P' := by rw [putI_ne (by decide)]; exact z6
          by_cases c40 : ex + 1 < 40
          · rw [if_pos (show nI (ex + 1) < (40 : Int32) from nI_lt (b := 40) c40 (by decide))]
            have F1' : Fr sE1 M1 (putI (putI M1' (7, 0, 0) 5 (nI (ex + 1))) (7, 0, 0) 6 0) := fr_pI (fr_pI (e1_B z8) rfl) rfl
            have F2' : FE M2 (putI M2' R8 24 (nI (ex + 1))) := fe_p z9 (Or.inr rfl)
            exact ro_tr F1' F2' (ih (a + 1) b _ _ g' P' U' A' m' p' (ex + 1) n1 n2 (by rw [(F1' (8, 0, 0) rfl).1]; exact e0) (by rw [(F1' (8, 1, 0) rfl).1]; exact e1) (by rw [(F1' (8, 2, 0) rfl).1]; exact e2) h4 hb (dd_fr F1' F2' hd) ⟨bx7 (bx7 z5), rx8, z7, by rw [g_row, upd_o (by decide), g_row, upd_s], by rw [g_row, upd_s], by rw [g_row, upd_o (by decide)]; exact y25, by omega⟩ (by rw [g_row, upd_s]) c40 (by omega) (by omega))
          · have e40 : ex + 1 = 40 := by omega
            rw [if_neg (show ¬ nI (ex + 1) < (40 : Int32) from nI_nlt (b := 40) (by omega) (by omega))]
            have F1' : Fr sE1 M1 (putI (putI M1' (7, 0, 0) 5 (nI (ex + 1))) (7, 0, 0) 6 1) := fr_pI (fr_pI (e1_B z8) rfl) rfl
            have F2' : FE M2 (putI M2' R8 24 (nI (ex + 1))) := fe_p z9 (Or.inr rfl)
            have hd' := dd_fr F1' F2' hd
            obtain ⟨fl, l1, l2⟩ := rf_done (M2 := putI M2' R8 24 (nI (ex + 1))) (k := k) (kd := kd) (lv := lv) (pe := pe) (by rw [g_row, upd_s, e40]; rfl) hk (fun j hj => by
              have := dd_K hd' j hj
              rw [(F1' (8, 0, 0) rfl).1, (F1' (8, 2, 0) rfl).1, e0, e2] at this
              exact this) r L hL f (a + 1) b F2 n2 hb hF2 (by omega) h4
            obtain ⟨n1, rfl⟩ : ∃ q, n1 = q + 1 := ⟨n1 - 1, by omega⟩
            refine ⟨_, _, g', P', U', A', m', p', ex + 1, fl, cl_ended (by rw [g_row, upd_s]), l2, ⟨bx7 (bx7 z5), rx8, z7, by rw [g_row, upd_o (by decide), g_row, upd_s], by rw [g_row, upd_s], by rw [g_row, upd_o (by decide)]; exact y25, by omega⟩, Or.inr ⟨by rw [g_row, upd_s], ?_⟩, F1', F2'⟩
            rcases l1 with rfl | rfl
            · exact Or.inl rfl
            · exact Or.inr ⟨rfl, e40⟩
      · -- a repeat
        have k9 : M1.1 (8, 0, 0) a = 9 := by rw [e0]; exact h3
        have k9' : M2.1 (19, 7, 0) a = 9 := dk.1.mp k9
        obtain ⟨x, e', x0, x1, x2, x3, x4⟩ : ∃ x e', x ≤ 20 ∧ M1.1 (8, 3, 0) (3 * a) = nI x ∧ M2.1 (19, 8, 0) a = nI x ∧ M1.1 (8, 2, 0) a = nI e' ∧ M2.1 (19, 9, 0) a = nI e' := by
          obtain ⟨K, q1, q2, q3, q4, q5⟩ := hd a (by omega)
          have eK : K = 9 := by
            rw [q2] at k9
            exact (nI_eq (b := 9) (by omega) (by decide)).mp k9
          obtain ⟨x, e', w1, w2, w3, w4, w5⟩ := q5 eK
          exact ⟨x, e', w1, w2, w3, w4, w5⟩
        rw [e2, h5] at x3
        rw [← x3] at x4
        clear x3 e'
        have lvs : ∀ j, a + 1 ≤ j → j < e → lv j ≠ nI L := fun j j1 j2 => by
          obtain ⟨l, l1, l2, l3⟩ := wf_lv _ _ _ _ h9 (by omega) j j1 j2
          rw [l1]
          intro c
          have := (nI_eq (by omega) (by omega)).mp c
          omega
        have arg := cl_arg (M := M1) (k := a) (q := 0) (Q := 0) rfl ha (by decide)
        rw [Nat.add_zero, x1] at arg
        rw [fX4_runPart_L25, if_neg (nI_ge h1 (by omega)), h6, if_pos rfl, fX10_doesAll_L2, if_neg (nI_ge h1 (by omega)), if_neg hg, if_neg hg, if_neg hg, hcl, hlv, if_pos rfl, if_pos k9, if_pos k9', arg, Option.bind_some, ← nI_succ a]
        -- the rounds
        have loop : ∀ (c7 : Int32) (d m1 m2 : Nat) (M1 M2 : Mm) (g : GF) (P : PF) (U A m p ex : Nat), d ≤ x → d < m1 → d < m2 → M1.1 (8, 0, 0) = kd → M1.1 (8, 1, 0) = lv → M1.1 (8, 2, 0) = pe → M2.1 (19, 8, 0) a = nI x → M2.1 (19, 9, 0) a = nI e → DD M1 M2 k → XS M1 M2 g P S T U A m p ex → M1.1 (7, 0, 0) 6 = 0 → ex < 40 →
            RO S T (fX4_runPart_L79 (gX4_runPart F1) 0 (nI L) (nI b) (nI a) c7 (fun w21 M22 => fX4_runPart_L25 (gX4_runPart F1) 0 (nI L) (nI b) (fun _ M => some M) n1 (nI (a + 1)) M22) m1 (nI d) M1) (fX10_doesAll_L21 (gX10_doesAll F2) (nI b) (nI a) (fun w14 M15 => if nI a < 0 ∨ 30 ≤ (nI a).toNatClampNeg then none else fX10_doesAll_L2 (gX10_doesAll F2) (nI b) (fun _ M => some (1, M)) n2 (M15.1 (19, 9, 0) (nI a).toNatClampNeg) M15) m2 (nI (x - d)) M2) M1 M2 := by
          intro c7 d
          induction d with
          | zero =>
            intro m1 m2 M1 M2 g P U A m p ex hd0 hm1 hm2 e0 e1 e2 x2 x4 hd hs h6 hx
            obtain ⟨m1, rfl⟩ : ∃ q, m1 = q + 1 := ⟨m1 - 1, by omega⟩
            obtain ⟨m2, rfl⟩ : ∃ q, m2 = q + 1 := ⟨m2 - 1, by omega⟩
            rw [fX4_runPart_L79, if_pos (by decide), fX10_doesAll_L21]
            simp only [hg, if_false]
            rw [hcl, x2, if_pos (nI_le (by omega) (by omega)), x4, cl_skip h6 (by omega) h8 (e - (a + 1)) (a + 1) n1 (by omega) (by omega) (fun j j1 j2 => by rw [e1]; exact lvs j j1 j2)]
            exact ih e b M1 M2 g P U A m p ex _ n2 e0 e1 e2 h10 hb hd hs h6 hx (by omega) (by omega)
          | succ d ihd =>
            intro m1 m2 M1 M2 g P U A m p ex hd0 hm1 hm2 e0 e1 e2 x2 x4 hd hs h6 hx
            obtain ⟨m1, rfl⟩ : ∃ q, m1 = q + 1 := ⟨m1 - 1, by omega⟩
            obtain ⟨m2, rfl⟩ : ∃ q, m2 = q + 1 := ⟨m2 - 1, by omega⟩
            obtain ⟨N1, N2, g', P', U', A', m', p', ex', fl, y1, y2, y3, y4, y5, y6⟩ := hrc (by omega) f (a + 1) e M1 M2 g P U A m p ex e0 e1 e2 h9 (by omega) hd hs h6 hx
            have hpe : M1.1 (8, 2, 0) a = nI e := by rw [e2]; exact h5
            have u2 : N2.1 (19, 8, 0) a = nI x := by rw [(y6.1 (19, 8, 0) rfl).1]; exact x2
            have u4 : N2.1 (19, 9, 0) a = nI e := by rw [(y6.1 (19, 9, 0) rfl).1]; exact x4
            have hd' := dd_fr y5 y6 hd
            have v0 : N1.1 (8, 0, 0) = kd := by rw [(y5 (8, 0, 0) rfl).1]; exact e0
            have v1 : N1.1 (8, 1, 0) = lv := by rw [(y5 (8, 1, 0) rfl).1]; exact e1
            have v2 : N1.1 (8, 2, 0) = pe := by rw [(y5 (8, 2, 0) rfl).1]; exact e2
            have cls : ∀ {o : Option Mm}, fX4_runPart_L79 (gX4_runPart F1) 0 (nI L) (nI b) (nI a) c7 (fun w21 M22 => fX4_runPart_L25 (gX4_runPart F1) 0 (nI L) (nI b) (fun _ M => some M) n1 (nI (a + 1)) M22) m1 (nI d) N1 = o → fX4_runPart_L79 (gX4_runPart F1) 0 (nI L) (nI b) (nI a) c7 (fun w21 M22 => fX4_runPart_L25 (gX4_runPart F1) 0 (nI L) (nI b) (fun _ M => some M) n1 (nI (a + 1)) M22) (m1 + 1) (nI (d + 1)) M1 = o := fun {o} ho => by
              rw [fX4_runPart_L79, if_neg (nI_nle (by omega) (by omega)), h6, if_pos rfl, if_neg hg, hcl, hpe, ← nI_succ, ← nI_succ, y1, Option.bind_some, pk_m1]
              exact ho
            have rfc : ∀ {o : Option (Int32 × Mm)}, (if fl = 0 then some ((0 : Int32), N2) else fX10_doesAll_L21 (gX10_doesAll F2) (nI b) (nI a) (fun w14 M15 => if nI a < 0 ∨ 30 ≤ (nI a).toNatClampNeg then none else fX10_doesAll_L2 (gX10_doesAll F2) (nI b) (fun _ M => some (1, M)) n2 (M15.1 (19, 9, 0) (nI a).toNatClampNeg) M15) m2 (nI (x - d)) N2) = o → fX10_doesAll_L21 (gX10_doesAll F2) (nI b) (nI a) (fun w14 M15 => if nI a < 0 ∨ 30 ≤ (nI a).toNatClampNeg then none else fX10_doesAll_L2 (gX10_doesAll F2) (nI b) (fun _ M => some (1, M)) n2 (M15.1 (19, 9, 0) (nI a).toNatClampNeg) M15) (m2 + 1) (nI (x - (d + 1))) M2 = o := fun {o} ho => by
              rw [fX10_doesAll_L21]
              simp only [hg, if_false] at ho ⊢
              rw [hcl, x2, if_neg (nI_ge (by omega) (by omega)), x4, ← nI_succ a, y2, Option.bind_some, ← nI_succ (x - (d + 1)), show x - (d + 1) + 1 = x - d by omega]
              rw [hcl] at ho
              exact ho
            rcases y4 with ⟨w1, w2, w3⟩ | ⟨w1, w2⟩
            · subst w2
              have := ihd m1 m2 N1 N2 g' P' U' A' m' p' ex' (by omega) (by omega) (by omega) v0 v1 v2 u2 u4 hd' y3 w1 w3
              rw [cls rfl, rfc (if_neg one_ne)]
              exact ro_tr y5 y6 this
            · obtain ⟨m1, rfl⟩ : ∃ q, m1 = q + 1 := ⟨m1 - 1, by omega⟩
              obtain ⟨n1, rfl⟩ : ∃ q, n1 = q + 1 := ⟨n1 - 1, by omega⟩
              have c1 : fX4_runPart_L79 (gX4_runPart F1) 0 (nI L) (nI b) (nI a) c7 (fun w21 M22 => fX4_runPart_L25 (gX4_runPart F1) 0 (nI L) (nI b) (fun _ M => some M) (n1 + 1) (nI (a + 1)) M22) (m1 + 1) (nI d) N1 = some N1 := by
                rw [fX4_runPart_L79, w1, if_neg one_ne, cl_ended w1]
                split <;> rfl
              rcases w2 with w2 | ⟨w2, w3⟩
              · subst w2
                exact ⟨N1, N2, g', P', U', A', m', p', ex', 0, cls c1, rfc (if_pos rfl), y3, Or.inr ⟨w1, Or.inl rfl⟩, y5, y6⟩
              · subst w2
                have kK : ∀ j, j < k → (kd j = 9 ↔ N2.1 (19, 7, 0) j = 9) ∧ (kd j = 9 → ∃ x, x ≤ 20 ∧ N2.1 (19, 8, 0) j = nI x ∧ N2.1 (19, 9, 0) j = pe j) := fun j hj => by
                  have := dd_K hd' j hj
                  rw [v0, v2] at this
                  exact this
                have d40 : N2.1 R8 24 = 40 := by rw [y3.2.2.2.2.1, w3]; rfl
                obtain ⟨F2, rfl⟩ : ∃ q, F2 = q + 1 := ⟨F2 - 1, by omega⟩
                obtain ⟨fl, l1, l2⟩ := rf_rounds (b := b) (n := n2) x0 ha u2 u4 (by
                  obtain ⟨fl, q1, q2⟩ := rf_done d40 hk kK (r - 1) (L + 1) (by omega) f (a + 1) e F2 NF (by omega) (by omega) (by unfold NF; omega) h9
                  exact ⟨fl, q1, q2⟩) (rf_done d40 hk kK r L hL f e b (F2 + 1) n2 hb hF2 (by omega) h10) d (x - d) m2 (by omega) (by omega)
                refine ⟨N1, N2, g', P', U', A', m', p', ex', fl, cls c1, rfc (by rw [if_neg one_ne]; exact l2), y3, Or.inr ⟨w1, ?_⟩, y5, y6⟩
                rcases l1 with rfl | rfl
                · exact Or.inl rfl
                · exact Or.inr ⟨rfl, w3⟩
        have lp := loop (M1.1 (8, 0, 0) a) x NF NF M1 M2 g P U A m p ex (Nat.le_refl _) (by unfold NF; omega) (by unfold NF; omega) e0 e1 e2 x2 x4 hd hs h6 hx
        rw [Nat.sub_self] at lp
        have hgt : ¬ (nI a < 0 ∨ 30 ≤ a) := by have := hg; rw [hcl] at this; exact this
        simp only [hg, if_false] at lp
        simp only [hgt, if_false]
        rw [hcl] at lp
        exact lp
theorem mn_30 {M : Mm} {e : Nat} (he : e ≤ 30) : fJ9_min_7cf53 M (nI e) 30 = nI e := by
  rw [fJ9_min_7cf53, if_neg (show ¬ (30 : Int32) < nI e from nI_nlt (a := 30) he (by decide))]
theorem mx_0 {M : Mm} {a : Nat} (ha : a < 2 ^ 31) : fJ9_max_7cf53 M 0 (nI a) = nI a := by
  rw [fJ9_max_7cf53]
  by_cases c : 0 < a
  · rw [if_pos (show (0 : Int32) < nI a from nI_lt (a := 0) c ha)]
  · rw [show a = 0 by omega]
    rfl
theorem st_run (hk : k ≤ 30) {kd lv pe : GF} : ∀ (r L : Nat), L + r = 2 → ∀ (F1 F2 f a e : Nat) (M1 M2 : Mm) (g : GF) (P : PF) (U A m p ex : Nat), r < F1 → r < F2 → M1.1 (8, 0, 0) = kd → M1.1 (8, 1, 0) = lv → M1.1 (8, 2, 0) = pe → WF kd lv pe f L a e → e ≤ k → DD M1 M2 k → XS M1 M2 g P S T U A m p ex → M1.1 (7, 0, 0) 6 = 0 → ex < 40 →
    RO S T (gX4_runPart F1 M1 0 (nI a) (nI e) (nI L)) (gX10_doesAll F2 M2 (nI a) (nI e)) M1 M2 := by
  intro r
  induction r with
  | zero =>
    intro L hL F1 F2 f a e M1 M2 g P U A m p ex hF1 hF2 e0 e1 e2 hw he hd hs h6 hx
    obtain ⟨F1, rfl⟩ : ∃ q, F1 = q + 1 := ⟨F1 - 1, by omega⟩
    obtain ⟨F2, rfl⟩ : ∃ q, F2 = q + 1 := ⟨F2 - 1, by omega⟩
    have hae := wf_le _ _ _ _ hw
    rw [gX4_runPart, fX4_runPart, if_pos (show nI L ≤ (2 : Int32) from nI_le (b := 2) (by omega) (by decide)), mn_30 (by omega), mx_0 (by omega), gX10_doesAll, fX10_doesAll]
    exact st_runL hk hL (by omega) (fun c => by omega) f a e M1 M2 g P U A m p ex NF NF e0 e1 e2 hw he hd hs h6 hx (by unfold NF; omega) (by unfold NF; omega)
  | succ r ih =>
    intro L hL F1 F2 f a e M1 M2 g P U A m p ex hF1 hF2 e0 e1 e2 hw he hd hs h6 hx
    obtain ⟨F1, rfl⟩ : ∃ q, F1 = q + 1 := ⟨F1 - 1, by omega⟩
    obtain ⟨F2, rfl⟩ : ∃ q, F2 = q + 1 := ⟨F2 - 1, by omega⟩
    have hae := wf_le _ _ _ _ hw
    rw [gX4_runPart, fX4_runPart, if_pos (show nI L ≤ (2 : Int32) from nI_le (b := 2) (by omega) (by decide)), mn_30 (by omega), mx_0 (by omega), gX10_doesAll, fX10_doesAll]
    exact st_runL hk hL (by omega) (fun _ f a e M1 M2 g P U A m p ex e0 e1 e2 hw he hd hs h6 hx => ih (L + 1) (by omega) F1 F2 f a e M1 M2 g P U A m p ex (by omega) (by omega) e0 e1 e2 hw he hd hs h6 hx) f a e M1 M2 g P U A m p ex NF NF e0 e1 e2 hw he hd hs h6 hx (by unfold NF; omega) (by unfold NF; omega)
end RUN
