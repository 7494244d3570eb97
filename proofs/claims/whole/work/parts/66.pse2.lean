/-! a setup: teeth -/
section TO
variable {tb : Nat → Nat} {n c h S T U A : Nat} {M1 M2 : Mm} {g : GF} {P : PF}
theorem jv_to {a b d : Nat} (h : Jv g P S T U A) (hT : T < 12) (ha : a ≤ 60) : Jv (gTo g T (nI a) (nI b) (nI d)) P S (T + 1) U A := by
  obtain ⟨h0, h1, h2, h3, h4, h5, h6, h7, h8, h9, h10, h11, h12⟩ := h
  refine ⟨(gTo_o (by decide) (by decide)).trans h0, (gTo_o (by decide) (by decide)).trans h1, (gTo_o (by decide) (by decide)).trans h2, by rw [gTo, upd_s], (gTo_o (by decide) (by decide)).trans h4, (gTo_o (by decide) (by decide)).trans h5, h6, by omega, h8, h9, fun t ht => ?_, fun m t s hp => ?_, fun k h1 h2 => ?_⟩
  · by_cases e : t = T
    · subst e
      have z1 := h12 (16 + 6 * t + 1) (by omega) (by omega)
      rw [gTo, upd_o (by omega), upd_o (by omega), upd_o (by omega), upd_o (by omega), upd_s, upd_o (by omega), upd_o (by omega), upd_o (by omega), upd_o (by omega), upd_o (by omega), z1]
      exact ⟨⟨nI_pos' (by omega), nI_le (b := 60) ha (by decide)⟩, by decide, by decide⟩
    · rw [gTo, upd_o (by omega), upd_o (by omega), upd_o (by omega), upd_o (by omega), upd_o (by omega), upd_o (by omega), upd_o (by omega), upd_o (by omega), upd_o (by omega), upd_o (by omega)]
      exact h10 t (by omega)
  · have := h11 m t s hp
    omega
  · rw [gTo, upd_o (by omega), upd_o (by omega), upd_o (by omega), upd_o (by omega), upd_o (by omega)]
    exact h12 k (by omega) h2
theorem rx_to {f : GF} {a b d : Int32} (h : RX f g P) (hT : T < 12) : RX (upd (upd (upd (upd (upd f (16 + 6 * T) a) (16 + 6 * T + 2) b) (16 + 6 * T + 3) d) (16 + 6 * T + 5) 99) 3 (nI (T + 1))) (gTo g T a b d) P :=
  rx_put (by decide) (rx_put (by omega) (rx_put (by omega) (rx_put (by omega) (rx_put (by omega) h))))
/-- what is behind the word of a tooth -/
theorem st_tail (HS : SS M1 M2 tb n c h g P S T U A) (hT : T < 12) : ∃ b M1' M2',
    ((fX7_takeNumber M1 (0 : Int32) (60 : Int32)).bind fun q7 => if q7.1 = (-1 : Int32) then some ((0 : Int32), q7.2) else (fX7_takeNumber q7.2 (1 : Int32) (9 : Int32)).bind fun q10 => if q10.1 = (-1 : Int32) then some ((0 : Int32), q10.2) else (fX7_takeNumber q10.2 (10 : Int32) (999 : Int32)).bind fun q13 => if q13.1 = (-1 : Int32) then some ((0 : Int32), q13.2) else (fX0_putTooth q13.2 1 q7.1 q10.1 q13.1).bind fun q16 => (fX7_takeSign q16 (59 : Int32)).bind fun q18 => some ((bz q18.1), q18.2)) = some (b, M1') ∧
    ((fX10_number M2 (0 : Int32) (60 : Int32)).bind fun q10 => (fX10_number q10.2 (1 : Int32) (9 : Int32)).bind fun q12 => (fX10_number q12.2 (10 : Int32) (999 : Int32)).bind fun q14 => (fX10_takesSign q14.2 (59 : Int32)).bind fun q16 => if (q16.1 (18, 0, 0) 17) = 0 then ((fX10_puts q16 (q16.1 (19, 0, 0) 3) (0 : Int32) q10.1).bind fun q19 => (fX10_puts q19 (q16.1 (19, 0, 0) 3) (2 : Int32) q12.1).bind fun q21 => (fX10_puts q21 (q16.1 (19, 0, 0) 3) (3 : Int32) q14.1).bind fun q23 => (fX10_puts q23 (q16.1 (19, 0, 0) 3) (5 : Int32) (99 : Int32)).bind fun q25 => some (putI q25 (19, 0, 0) 3 ((q25.1 (19, 0, 0) 3) + (1 : Int32)))) else some q16) = some M2' ∧
    ((b = 1 ∧ ∃ h' g', h < h' ∧ SS M1' M2' tb n c h' g' P S (T + 1) U A) ∨ (b = 0 ∧ ∃ e p, EC M1' e p ∧ ER M2' e p)) ∧ Fr sS1 M1 M1' ∧ FS M2 M2' := by
  obtain ⟨HC, HR, HB, HX, HJ⟩ := HS
  have erend : ∀ {X : Mm} {e p : Int32} {f : Option Mm}, ER X e p → (if (X.1 (18, 0, 0) 17) = 0 then f else some X) = some X := fun {X e p f} hx => by
    rw [hx.1, if_neg hx.2.1]
  rcases st_num (L := 0) (Hi := 60) (l := 0) (hi := 60) rfl rfl (by decide) (by decide) HC HR with ⟨a, O1, O2, s1, s2, b1, b2, b3, b4, b5, b6⟩ | ⟨e, p, x, O1, O2, b1, b2, b3, b4, b5, b6⟩
  · rcases st_num (L := 1) (Hi := 9) (l := 1) (hi := 9) rfl rfl (by decide) (by decide) b3 b4 with ⟨b, Q1, Q2, u1, u2, c1, c2, c3, c4, c5, c6⟩ | ⟨e, p, x, Q1, Q2, c1, c2, c3, c4, c5, c6⟩
    · rcases st_num (L := 10) (Hi := 999) (l := 10) (hi := 999) rfl rfl (by decide) (by decide) c3 c4 with ⟨d, R1, R2, v1, v2, d1, d2, d3, d4, d5, d6⟩ | ⟨e, p, x, R1, R2, d1, d2, d3, d4, d5, d6⟩
      · have HB3 := bx_T d5 (bx_T c5 (bx_T b5 HB))
        have HX3 := rx_8 d6 (rx_8 c6 (rx_8 b6 HX))
        have z1 := HJ.2.2.2.2.2.2.2.2.2.2.2.2 (16 + 6 * T + 1) (by omega) (by omega)
        have z4 := HJ.2.2.2.2.2.2.2.2.2.2.2.2 (16 + 6 * T + 4) (by omega) (by omega)
        obtain ⟨W1, f1, f2, f3⟩ := cl_putTooth (i := 1) (a := nI a) (b := nI b) (c := nI d) HB3 HJ.2.2.2.1 hT z1 z4
        have hF1 : Fr sS1 M1 W1 := fr_tr (fr_tr (fr_tr (s1_T b5) (s1_T c5)) (s1_T d5)) (s1_B f3)
        have hF2 : FS M2 R2 := fs_tr (fs_tr (fs_18 b6) (fs_18 c6)) (fs_18 d6)
        rcases st_sign (k := 59) (L := 59) rfl (Or.inl rfl) (pc_B f3 d3) d4 with ⟨X1, X2, -, g1, g2, g3, g4, g5, g6⟩ | ⟨e, p, X1, X2, -, g1, g2, g3, g4, g5, g6⟩
        · have HX4 := rx_8 g6 HX3
          have e3 : X2.1 (19, 0, 0) 3 = nI T := (HX4.1 3 (by decide)).trans HJ.2.2.2.1
          have e5 : (putI (putI (putI (putI X2 (19, 0, 0) (16 + 6 * T + 0) (nI a)) (19, 0, 0) (16 + 6 * T + 2) (nI b)) (19, 0, 0) (16 + 6 * T + 3) (nI d)) (19, 0, 0) (16 + 6 * T + 5) 99).1 (19, 0, 0) 3 + 1 = nI (T + 1) := by
            rw [g_row, upd_o (by omega), g_row, upd_o (by omega), g_row, upd_o (by omega), g_row, upd_o (by omega), e3, nI_succ]
          have hFn : Fr sNW X2 (putI (putI (putI (putI (putI X2 (19, 0, 0) (16 + 6 * T + 0) (nI a)) (19, 0, 0) (16 + 6 * T + 2) (nI b)) (19, 0, 0) (16 + 6 * T + 3) (nI d)) (19, 0, 0) (16 + 6 * T + 5) 99) (19, 0, 0) 3 (nI (T + 1))) := fr_pI (fr_pI (fr_pI (fr_pI (fr_putI rfl) rfl) rfl) rfl) rfl
          refine ⟨1, X1, putI (putI (putI (putI (putI X2 (19, 0, 0) (16 + 6 * T + 0) (nI a)) (19, 0, 0) (16 + 6 * T + 2) (nI b)) (19, 0, 0) (16 + 6 * T + 3) (nI d)) (19, 0, 0) (16 + 6 * T + 5) 99) (19, 0, 0) 3 (nI (T + 1)), ?_, ?_, Or.inl ⟨rfl, h + 1 + 1 + 1 + 1, gTo g T (nI a) (nI b) (nI d), by omega, g3, pr_N hFn g4, bx_T g5 f2, ?_, jv_to HJ hT s2⟩, fr_tr hF1 (s1_T g5), fs_tr (fs_tr hF2 (fs_18 g6)) (fs_n hFn)⟩
          · rw [b1, Option.bind_some, if_neg (nI_m1 (by omega)), c1, Option.bind_some, if_neg (nI_m1 (by omega)), d1, Option.bind_some, if_neg (nI_m1 (by omega)), f1, Option.bind_some, g1]
            exact bzr1 _
          · rw [b2, Option.bind_some, c2, Option.bind_some, d2, Option.bind_some, g2, Option.bind_some, g4.2.1, if_pos rfl, e3, rf_puts (p := 0) (q := 0) (by omega) (by decide) rfl, Option.bind_some, rf_puts (p := 2) (q := 2) (by omega) (by decide) rfl, Option.bind_some, rf_puts (p := 3) (q := 3) (by omega) (by decide) rfl, Option.bind_some, rf_puts (p := 5) (q := 5) (by omega) (by decide) rfl, Option.bind_some, e5]
          · rw [g_row, g_row, g_row, g_row, g_row]
            exact rx_to HX4 hT
        · refine ⟨0, X1, X2, ?_, ?_, Or.inr ⟨rfl, e, p, g3, g4⟩, fr_tr hF1 (s1_T g5), fs_tr hF2 (fs_18 g6)⟩
          · rw [b1, Option.bind_some, if_neg (nI_m1 (by omega)), c1, Option.bind_some, if_neg (nI_m1 (by omega)), d1, Option.bind_some, if_neg (nI_m1 (by omega)), f1, Option.bind_some, g1]
            exact bzr0 _
          · rw [b2, Option.bind_some, c2, Option.bind_some, d2, Option.bind_some, g2, Option.bind_some, erend g4]
      · refine ⟨0, R1, R2, ?_, ?_, Or.inr ⟨rfl, e, p, d3, d4⟩, fr_tr (fr_tr (s1_T b5) (s1_T c5)) (s1_T d5), fs_tr (fs_tr (fs_18 b6) (fs_18 c6)) (fs_18 d6)⟩
        · rw [b1, Option.bind_some, if_neg (nI_m1 (by omega)), c1, Option.bind_some, if_neg (nI_m1 (by omega)), d1, Option.bind_some, if_pos rfl]
        · rw [b2, Option.bind_some, c2, Option.bind_some, d2, Option.bind_some, er_takes d4, Option.bind_some, erend d4]
    · refine ⟨0, Q1, Q2, ?_, ?_, Or.inr ⟨rfl, e, p, c3, c4⟩, fr_tr (s1_T b5) (s1_T c5), fs_tr (fs_18 b6) (fs_18 c6)⟩
      · rw [b1, Option.bind_some, if_neg (nI_m1 (by omega)), c1, Option.bind_some, if_pos rfl]
      · rw [b2, Option.bind_some, c2, Option.bind_some, er_num c4, Option.bind_some, er_takes c4, Option.bind_some, erend c4]
  · refine ⟨0, O1, O2, ?_, ?_, Or.inr ⟨rfl, e, p, b3, b4⟩, s1_T b5, fs_18 b6⟩
    · rw [b1, Option.bind_some, if_pos rfl]
    · rw [b2, Option.bind_some, er_num b4, Option.bind_some, er_num b4, Option.bind_some, er_takes b4, Option.bind_some, erend b4]
theorem er_tooth {e p : Int32} (hx : ER M2 e p) : fX10_readsTooth M2 = some M2 := by
  have erend : ∀ {X : Mm} {f : Option Mm}, ER X e p → (if (X.1 (18, 0, 0) 17) = 0 then f else some X) = some X := fun {X f} hx => by
    rw [hx.1, if_neg hx.2.1]
  rw [fX10_readsTooth, er_word hx, Option.bind_some, er_must hx, Option.bind_some]
  split
  · rw [er_must hx, Option.bind_some, er_goes hx, Option.bind_some, er_num hx, Option.bind_some, er_num hx, Option.bind_some, er_num hx, Option.bind_some, er_takes hx, Option.bind_some, erend hx]
  · rw [er_must hx, Option.bind_some, er_goes hx, Option.bind_some, er_num hx, Option.bind_some, er_num hx, Option.bind_some, er_num hx, Option.bind_some, er_takes hx, Option.bind_some, erend hx]
theorem st_tooth (HS : SS M1 M2 tb n c h g P S T U A) : ∃ b M1' M2', fX6_readTooth M1 = some (b, M1') ∧ fX10_readsTooth M2 = some M2' ∧
    ((b = 1 ∧ T < 12 ∧ ∃ h' g', h < h' ∧ SS M1' M2' tb n c h' g' P S (T + 1) U A) ∨ (b = 0 ∧ ∃ e p, EC M1' e p ∧ ER M2' e p)) ∧ Fr sS1 M1 M1' ∧ FS M2 M2' := by
  obtain ⟨HC, HR, HB, HX, HJ⟩ := HS
  have hT := HJ.2.2.2.2.2.2.2.1
  have w1 := pc_word (j := 2) (by decide) HC
  have e1 : M1.1 (9, 1, 0) 2 = nI T := (HB.1 3 (vk_s rfl)).trans HJ.2.2.2.1
  have e2 : M2.1 (19, 0, 0) 3 = nI T := (HX.1 3 (by decide)).trans HJ.2.2.2.1
  rcases st_word (j := 2) (by decide) HC HR with ⟨N1, N2, wd, a1, a2, a3, a4, a5, a6, a7⟩ | ⟨e, p, N1, N2, wd, a1, a2, a3, a4, a5, a6, a7⟩
  · rw [wd] at w1
    by_cases cT : T < 12
    · obtain ⟨b, M1', M2', t1, t2, t3, t4, t5⟩ := st_tail (M1 := N1) (M2 := N2) ⟨a4, a5, bx_T a6 HB, rx_8 a7 HX, HJ⟩ cT
      refine ⟨b, M1', M2', ?_, ?_, ?_, fr_tr (s1_T a6) t4, fs_tr (fs_18 a7) t5⟩
      · rw [fX6_readTooth, w1, Option.bind_some, if_neg (by decide), e1, if_pos (show nI T < (12 : Int32) from nI_lt (b := 12) cT (by decide)), a1, Option.bind_some, if_neg one_ne]
        exact t1
      · rw [fX10_readsTooth, a2, Option.bind_some, pr_ok HR.2.1, Option.bind_some]
        dsimp only
        rw [e2, if_neg (show ¬ (12 : Int32) ≤ nI T from nI_ge (b := 12) cT (by decide)), pr_ok HR.2.1, Option.bind_some]
        dsimp only
        rw [a3, Option.bind_some]
        exact t2
      · rcases t3 with ⟨x1, h', g', x2, x3⟩ | x
        · exact Or.inl ⟨x1, cT, h', g', by omega, x3⟩
        · exact Or.inr x
    · obtain ⟨X1, x1, x2, x3⟩ := pc_fail (e := 4) HC
      obtain ⟨X2, y1, y2, y3⟩ := pr_no (e := 4) HR.2.1 (by decide)
      rw [HR.2.2.2.2.1] at y2
      have erend : ∀ {f : Option Mm}, (if (X2.1 (18, 0, 0) 17) = 0 then f else some X2) = some X2 := fun {f} => by
        rw [y2.1, if_neg y2.2.1]
      refine ⟨0, X1, X2, ?_, ?_, Or.inr ⟨rfl, _, _, x2, y2⟩, s1_T x3, fs_18 y3⟩
      · rw [fX6_readTooth, w1, Option.bind_some, if_neg (by decide), e1, if_neg (show ¬ nI T < (12 : Int32) from nI_nlt (b := 12) (by omega) (by omega)), x1]
        exact bzr0 _
      · rw [fX10_readsTooth, a2, Option.bind_some, pr_ok HR.2.1, Option.bind_some]
        dsimp only
        rw [e2, if_pos (show (12 : Int32) ≤ nI T from nI_le (a := 12) (by omega) (by omega)), y1, Option.bind_some]
        dsimp only
        rw [er_goes y2, Option.bind_some, er_num y2, Option.bind_some, er_num y2, Option.bind_some, er_num y2, Option.bind_some, er_takes y2, Option.bind_some, erend]
  · rw [wd] at w1
    have erend : ∀ {f : Option Mm}, (if (N2.1 (18, 0, 0) 17) = 0 then f else some N2) = some N2 := fun {f} => by
      rw [a5.1, if_neg a5.2.1]
    refine ⟨0, N1, N2, ?_, ?_, Or.inr ⟨rfl, e, p, a4, a5⟩, s1_T a6, fs_18 a7⟩
    · rw [fX6_readTooth, w1, Option.bind_some, if_pos (bI_0.mpr rfl), a1, Option.bind_some, if_pos rfl]
    · rw [fX10_readsTooth, a2, Option.bind_some, a3, Option.bind_some]
      dsimp only
      split
      · rw [er_must a5, Option.bind_some, er_goes a5, Option.bind_some, er_num a5, Option.bind_some, er_num a5, Option.bind_some, er_num a5, Option.bind_some, er_takes a5, Option.bind_some, erend]
      · rw [er_must a5, Option.bind_some, er_goes a5, Option.bind_some, er_num a5, Option.bind_some, er_num a5, Option.bind_some, er_num a5, Option.bind_some, er_takes a5, Option.bind_some, erend]
theorem st_teethL {K1 : Int32 → Mm → Option (Int32 × Mm)} {K2 : Mm → Option Mm} : ∀ (d v T h : Nat) (M1 M2 : Mm) (g : GF) (f1 f2 : Nat), v + d = 12 → d < f1 → d < f2 → T = v + 1 → SS M1 M2 tb n c h g P S T U A →
    ∃ M1' M2', Fr sS1 M1 M1' ∧ FS M2 M2' ∧ fX10_readsSetup_L65 K2 f2 M2 = K2 M2' ∧
      ((∃ v' h' T' g', h ≤ h' ∧ 1 ≤ T' ∧ SS M1' M2' tb n c h' g' P S T' U A ∧ fX6_readSetup_L25 K1 f1 (nI v) M1 = K1 v' M1') ∨ (∃ e p, EC M1' e p ∧ ER M2' e p ∧ fX6_readSetup_L25 K1 f1 (nI v) M1 = some (0, M1'))) := by
  intro d
  induction d with
  | zero =>
    intro v T h M1 M2 g f1 f2 hv h1 h2 hT HS
    have := HS.2.2.2.2.2.2.2.2.2.2.2.1
    omega
  | succ d ih =>
    intro v T h M1 M2 g f1 f2 hv h1 h2 hT HS
    obtain ⟨f1, rfl⟩ : ∃ q, f1 = q + 1 := ⟨f1 - 1, by omega⟩
    obtain ⟨f2, rfl⟩ : ∃ q, f2 = q + 1 := ⟨f2 - 1, by omega⟩
    have w1 := pc_word (j := 2) (by decide) HS.1
    have w2 := pr_word (j := 2) (by decide) HS.1.1 HS.2.1
    rw [fX6_readSetup_L25, if_neg (show ¬ (12 : Int32) ≤ nI v from nI_ge (b := 12) (by omega) (by decide)), w1, Option.bind_some, fX10_readsSetup_L65, w2, Option.bind_some]
    cases wd : wdS tb n (tE tb n h) (sby 2) with
    | false =>
      rw [if_pos (bI_0.mpr rfl), if_pos (bI_0.mpr rfl)]
      exact ⟨M1, M2, fr_rf, fs_rf, rfl, Or.inl ⟨_, h, T, g, Nat.le_refl _, by omega, HS, rfl⟩⟩
    | true =>
      rw [if_neg (by decide), if_neg (by decide)]
      obtain ⟨b, N1, N2, a1, a2, a3, a4, a5⟩ := st_tooth HS
      rw [a1, Option.bind_some, a2, Option.bind_some]
      rcases a3 with ⟨rfl, cT, h', g', x1, x2⟩ | ⟨rfl, e, p, x1, x2⟩
      · rw [if_neg one_ne, ← nI_succ]
        obtain ⟨M1', M2', y1, y2, y3, y4⟩ := ih (v + 1) (T + 1) h' N1 N2 g' f1 f2 (by omega) (by omega) (by omega) (by omega) x2
        refine ⟨M1', M2', fr_tr a4 y1, fs_tr a5 y2, y3, ?_⟩
        rcases y4 with ⟨v', h2, T', g2, z1, z2, z3, z4⟩ | z
        · exact Or.inl ⟨v', h2, T', g2, by omega, z2, z3, z4⟩
        · exact Or.inr z
      · rw [if_pos rfl]
        refine ⟨N1, N2, a4, a5, ?_, Or.inr ⟨e, p, x1, x2, rfl⟩⟩
        obtain ⟨f2, rfl⟩ : ∃ q, f2 = q + 1 := ⟨f2 - 1, by omega⟩
        rw [fX10_readsSetup_L65, er_word x2, Option.bind_some, if_pos rfl]
end TO
