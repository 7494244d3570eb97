/-! a setup: pins; and whole -/
section PI
variable {tb : Nat → Nat} {n c h S T U A : Nat} {M1 M2 : Mm} {g : GF} {P : PF}
theorem jv_add {m t s : Nat} (h : Jv g P S T U A) (hm : m < 3) (ht : t < T) (hs : s < S) : Jv g (pAdd P m t s) S T U A := by
  obtain ⟨h0, h1, h2, h3, h4, h5, h6, h7, h8, h9, h10, h11, h12⟩ := h
  refine ⟨h0, h1, h2, h3, h4, h5, h6, h7, h8, h9, h10, fun m' t' s' hp => ?_, h12⟩
  unfold pAdd at hp
  simp only [Bool.or_eq_true, decide_eq_true_eq] at hp
  rcases hp with hp | ⟨rfl, rfl, rfl⟩
  · exact h11 _ _ _ hp
  · exact ⟨hm, ht, hs⟩
theorem rx_add {f : GF} {m t s : Nat} (h : RX f g P) (hm : m < 3) (ht : t < 32) (hs : s < 64) : RX (upd f (88 + 64 * m + s) (f (88 + 64 * m + s) ||| ((1 : Int32) <<< (nI t &&& 31)))) g (pAdd P m t s) := by
  refine rx_P (fun m' t' s' _ ht' _ => ?_) (rx_set (m := m) (s := s) (q := fun t' => P m t' s || decide (t' = t)) hs (fun t' ht' => ?_) h)
  · unfold pAdd
    by_cases e : m' = m ∧ s' = s
    · rw [if_pos e, e.1, e.2]; simp
    · rw [if_neg e]
      have : ¬ (m' = m ∧ t' = t ∧ s' = s) := fun c => e ⟨c.1, c.2.2⟩
      simp [this]
  · rw [b_or, h.2 m hm s hs t' ht', b_one t ht ht']
theorem st_place (HS : SS M1 M2 tb n c h g P S T U A) (hT : 1 ≤ T) (wd : wdS tb n (tE tb n h) (sby 3) = true) : ∃ b M1' M2', fX6_readPlace (fX7_advance M1) = some (b, M1') ∧ fX10_readsPin M2 = some M2' ∧
    ((b = 1 ∧ ∃ h' P', h < h' ∧ SS M1' M2' tb n c h' g P' S T U A) ∨ (b = 0 ∧ ∃ e p, EC M1' e p ∧ ER M2' e p)) ∧ Fr sS1 M1 M1' ∧ FS M2 M2' := by
  obtain ⟨HC, HR, HB, HX, HJ⟩ := HS
  have hT12 := HJ.2.2.2.2.2.2.2.1
  have hS := HJ.2.2.2.2.2.2.1
  obtain ⟨p1, p2⟩ := pc_adv HC (by rw [wdS_1 wd]; decide)
  have w2 := pr_word (j := 3) (by decide) HC.1 HR
  rw [wd] at w2
  obtain ⟨N2, n1, n2, n3⟩ := pr_goes HC.1 HR
  have erend : ∀ {X : Mm} {e p : Int32} {f : Option Mm}, ER X e p → (if (X.1 (18, 0, 0) 17) = 0 then f else some X) = some X := fun {X e p f} hx => by
    rw [hx.1, if_neg hx.2.1]
  have ertail : ∀ {X : Mm} {e p : Int32} {F : Mm → Option Mm} {y z : Int32}, ER X e p → ((fX10_must X y z).bind fun q40 => (fX10_goesOn q40.2).bind fun q42 => (fX10_takesSign q42 (59 : Int32)).bind fun q44 => if (q44.1 (18, 0, 0) 17) = 0 then F q44 else some q44) = some X := fun {X e p F y z} hx => by
    rw [er_must hx, Option.bind_some]
    dsimp only
    rw [er_goes hx, Option.bind_some, er_takes hx, Option.bind_some, erend hx]
  have HB0 := bx_T p2 HB
  have HX0 := rx_8 n3 HX
  rcases st_num (L := 0) (Hi := 2) (l := 0) (hi := 2) rfl rfl (by decide) (by decide) p1 n2 with ⟨m, O1, O2, s1, s2, b1, b2, b3, b4, b5, b6⟩ | ⟨e, p, x, O1, O2, b1, b2, b3, b4, b5, b6⟩
  · have HB1 := bx_T b5 HB0
    have HX1 := rx_8 b6 HX0
    have e3 : O1.1 (9, 1, 0) 2 - 1 = nI (T - 1) := by
      rw [show O1.1 (9, 1, 0) 2 = nI T from (HB1.1 3 (vk_s rfl)).trans HJ.2.2.2.1]
      exact pk_sub (b := 1) hT
    have f3 : O2.1 (19, 0, 0) 3 - 1 = nI (T - 1) := by
      rw [show O2.1 (19, 0, 0) 3 = nI T from (HX1.1 3 (by decide)).trans HJ.2.2.2.1]
      exact pk_sub (b := 1) hT
    rcases st_num (L := 0) (Hi := T - 1) (l := 0) (hi := nI (T - 1)) rfl rfl (by decide) (by omega) b3 b4 with ⟨t, Q1, Q2, u1, u2, c1, c2, c3, c4, c5, c6⟩ | ⟨e, p, x, Q1, Q2, c1, c2, c3, c4, c5, c6⟩
    · have HB2 := bx_T c5 HB1
      have HX2 := rx_8 c6 HX1
      have e0 : Q1.1 (10, 1, 0) 1 - 1 = nI (S - 1) := by
        rw [show Q1.1 (10, 1, 0) 1 = nI S from (HB2.1 0 (vk_s rfl)).trans HJ.1]
        exact pk_sub (b := 1) (by omega)
      have f0 : Q2.1 (19, 0, 0) 0 - 1 = nI (S - 1) := by
        rw [show Q2.1 (19, 0, 0) 0 = nI S from (HX2.1 0 (by decide)).trans HJ.1]
        exact pk_sub (b := 1) (by omega)
      have hF1 : Fr sS1 M1 Q1 := fr_tr (fr_tr (s1_T p2) (s1_T b5)) (s1_T c5)
      have hF2 : FS M2 Q2 := fs_tr (fs_tr (fs_18 n3) (fs_18 b6)) (fs_18 c6)
      obtain ⟨l1, l2⟩ := pr_looks (L := 0) (Hi := S - 1) (l := 0) (hi := nI (S - 1)) rfl rfl (by decide) (by omega) c4
      rcases pc_num (L := 0) (Hi := S - 1) (l := 0) (hi := nI (S - 1)) rfl rfl (by decide) (by omega) c3 with ⟨k2, g1, g2, a1⟩ | ⟨e, W1, a1, a2, a3, a4⟩
      · obtain ⟨r1, r2⟩ := l1 k2 g1 g2
        obtain ⟨d1, d2⟩ := pc_adv c3 (by omega)
        generalize nvS tb n (tE tb n (h + 1 + 1 + 1)) = s at *
        have HB3 := bx_T d2 HB2
        have hp := cl_hasPin (m := m) (t := t) (s := s) HB3 (by omega) (by omega) (by omega)
        have hq := rf_has (m := m) (t := t) (s := s) HX2 (by omega) (by omega) (by omega)
        cases ep : P m t s with
        | true =>
          rw [ep] at hp hq
          obtain ⟨X2, y1, y2, y3⟩ := pr_no (e := 3) c4.2.1 (by decide)
          rw [c4.2.2.2.2.1] at y2
          have hx := (pc_tok c3).2.1
          have h6 : (fX7_advance Q1).1 (3, 0, 0) 6 = nI (h + 1 + 1 + 1 + 1) := d1.2.2.2.1
          have hle := c3.2.2.1
          have hc8 := c3.2.1.2.1
          have hlt := pc_lt c3 (by omega)
          have h41 : (fX7_advance Q1).1 (4, 1, 0) (h + 1 + 1 + 1) = nI (tkB tb n (tE tb n (h + 1 + 1 + 1))) := by rw [(d2 (4, 1, 0) rfl).1]; exact hx
          refine ⟨0, putI (putI (fX7_advance Q1) (3, 0, 0) 7 3) (3, 0, 0) 8 (nI (tkB tb n (tE tb n (h + 1 + 1 + 1)))), X2, ?_, ?_, Or.inr ⟨rfl, 3, nI (tkB tb n (tE tb n (h + 1 + 1 + 1))), ⟨by rw [g_row, upd_o (by decide), g_row, upd_s], by rw [g_row, upd_s]⟩, y2⟩, fr_tr (fr_tr hF1 (s1_T d2)) (fr_pI (fr_putI rfl) rfl), fs_tr hF2 (fs_18 y3)⟩
          · rw [fX6_readPlace, b1, Option.bind_some, if_neg (nI_m1 (by omega))]
            dsimp only
            rw [e3, c1, Option.bind_some, if_neg (nI_m1 (by omega))]
            dsimp only
            rw [e0, a1, Option.bind_some, if_neg (nI_m1 (by omega))]
            dsimp only
            rw [hp, Option.bind_some, if_neg (by decide), fX7_failTaken, h6, if_neg (show ¬ nI _ < (1 : Int32) from nI_nlt (b := 1) (by omega) (by omega)), if_neg (show ¬ (801 : Int32) < nI _ from nI_nlt (a := 801) (by omega) (by decide)), nI_pred, if_neg (nI_in (by omega) (by decide)), nI_clamp (by omega), h41]
            exact bzr0 _
          · rw [fX10_readsPin, w2, Option.bind_some, show bI true = 1 from rfl, pr_ok HR.2.1, Option.bind_some]
            dsimp only
            rw [n1, Option.bind_some, b2, Option.bind_some]
            dsimp only
            rw [f3, c2, Option.bind_some]
            dsimp only
            rw [f0, r1, Option.bind_some, if_neg one_ne]
            dsimp only
            rw [c4.2.1, if_pos rfl, r2, hq, Option.bind_some, if_neg (by decide), y1, Option.bind_some]
            dsimp only
            rw [er_goes y2, Option.bind_some, er_takes y2, Option.bind_some, erend y2]
        | false =>
          rw [ep] at hp hq
          obtain ⟨W1, f1, f2, ff3⟩ := cl_putPin (m := m) (t := t) (s := s) HB3 (by omega) (by omega) (by omega)
          obtain ⟨V2, v1, v2, v3⟩ := pr_goes HC.1 c4
          have hF3 : Fr sS1 M1 W1 := fr_tr (fr_tr hF1 (s1_T d2)) (s1_B ff3)
          have cls : ∀ {r : Option (Int32 × Mm)}, ((fX7_takeSign W1 (59 : Int32)).bind fun q15 => some ((bz q15.1), q15.2)) = r → fX6_readPlace (fX7_advance M1) = r := fun {r} hr => by
            rw [fX6_readPlace, b1, Option.bind_some, if_neg (nI_m1 (by omega))]
            dsimp only
            rw [e3, c1, Option.bind_some, if_neg (nI_m1 (by omega))]
            dsimp only
            rw [e0, a1, Option.bind_some, if_neg (nI_m1 (by omega))]
            dsimp only
            rw [hp, Option.bind_some, if_pos (bI_0.mpr rfl), f1, Option.bind_some]
            exact hr
          have rfr : ∀ {X2 : Mm} {r : Option Mm}, fX10_takesSign V2 (59 : Int32) = some X2 → (if (X2.1 (18, 0, 0) 17) = 0 then ((fX10_set X2 (nI m) (nI s)).bind fun q84 => (fX10_putSet X2 (nI m) (nI s) (q84 ||| ((1 : Int32) <<< (nI t &&& 31)))).bind fun q86 => some q86) else some X2) = r → fX10_readsPin M2 = r := fun {X2 r} hx hr => by
            rw [fX10_readsPin, w2, Option.bind_some, show bI true = 1 from rfl, pr_ok HR.2.1, Option.bind_some]
            dsimp only
            rw [n1, Option.bind_some, b2, Option.bind_some]
            dsimp only
            rw [f3, c2, Option.bind_some]
            dsimp only
            rw [f0, r1, Option.bind_some, if_neg one_ne]
            dsimp only
            rw [c4.2.1, if_pos rfl, r2, hq, Option.bind_some, if_pos (bI_0.mpr rfl), pr_ok c4.2.1, Option.bind_some]
            dsimp only
            rw [v1, Option.bind_some, hx, Option.bind_some]
            exact hr
          rcases st_sign (k := 59) (L := 59) rfl (Or.inl rfl) (pc_B ff3 d1) v2 with ⟨X1, X2, -, y1, y2, y3, y4, y5, y6⟩ | ⟨e, p, X1, X2, -, y1, y2, y3, y4, y5, y6⟩
          · have HX4 := rx_8 y6 (rx_8 v3 HX2)
            refine ⟨1, X1, putI X2 NW (88 + 64 * m + s) (X2.1 NW (88 + 64 * m + s) ||| ((1 : Int32) <<< (nI t &&& 31))), cls (by rw [y1]; exact bzr1 _), rfr y2 ?_, Or.inl ⟨rfl, h + 1 + 1 + 1 + 1 + 1, pAdd P m t s, by omega, y3, pr_N (fr_putI rfl) y4, bx_T y5 f2, ?_, jv_add HJ (by omega) (by omega) (by omega)⟩, fr_tr hF3 (s1_T y5), fs_p (fs_tr (fs_tr hF2 (fs_18 v3)) (fs_18 y6))⟩
            · rw [y4.2.1, if_pos rfl, rf_set (by omega) (by omega), Option.bind_some, rf_putSet (by omega) (by omega), Option.bind_some]
            · rw [g_row]
              exact rx_add HX4 (by omega) (by omega) (by omega)
          · exact ⟨0, X1, X2, cls (by rw [y1]; exact bzr0 _), rfr y2 (erend y4), Or.inr ⟨rfl, e, p, y3, y4⟩, fr_tr hF3 (s1_T y5), fs_tr (fs_tr hF2 (fs_18 v3)) (fs_18 y6)⟩
      · obtain ⟨X2, y1, y2, y3⟩ := l2 e a4
        refine ⟨0, W1, X2, ?_, ?_, Or.inr ⟨rfl, _, _, a2, y2⟩, fr_tr hF1 (s1_T a3), fs_tr hF2 (fs_18 y3)⟩
        · rw [fX6_readPlace, b1, Option.bind_some, if_neg (nI_m1 (by omega))]
          dsimp only
          rw [e3, c1, Option.bind_some, if_neg (nI_m1 (by omega))]
          dsimp only
          rw [e0, a1, Option.bind_some, if_pos rfl]
        · rw [fX10_readsPin, w2, Option.bind_some, show bI true = 1 from rfl, pr_ok HR.2.1, Option.bind_some]
          dsimp only
          rw [n1, Option.bind_some, b2, Option.bind_some]
          dsimp only
          rw [f3, c2, Option.bind_some]
          dsimp only
          rw [f0, y1, Option.bind_some, if_pos rfl]
          dsimp only
          rw [y2.1, if_neg y2.2.1, er_must y2, Option.bind_some]
          dsimp only
          rw [er_goes y2, Option.bind_some, er_takes y2, Option.bind_some, erend y2]
    · refine ⟨0, Q1, Q2, ?_, ?_, Or.inr ⟨rfl, e, p, c3, c4⟩, fr_tr (fr_tr (s1_T p2) (s1_T b5)) (s1_T c5), fs_tr (fs_tr (fs_18 n3) (fs_18 b6)) (fs_18 c6)⟩
      · rw [fX6_readPlace, b1, Option.bind_some, if_neg (nI_m1 (by omega))]
        dsimp only
        rw [e3, c1, Option.bind_some, if_pos rfl]
      · rw [fX10_readsPin, w2, Option.bind_some, show bI true = 1 from rfl, pr_ok HR.2.1, Option.bind_some]
        dsimp only
        rw [n1, Option.bind_some, b2, Option.bind_some]
        dsimp only
        rw [f3, c2, Option.bind_some]
        dsimp only
        rw [er_looks c4, Option.bind_some, if_pos rfl]
        dsimp only
        rw [c4.1, if_neg c4.2.1, er_must c4, Option.bind_some]
        dsimp only
        rw [er_goes c4, Option.bind_some, er_takes c4, Option.bind_some, erend c4]
  · refine ⟨0, O1, O2, ?_, ?_, Or.inr ⟨rfl, e, p, b3, b4⟩, fr_tr (s1_T p2) (s1_T b5), fs_tr (fs_18 n3) (fs_18 b6)⟩
    · rw [fX6_readPlace, b1, Option.bind_some, if_pos rfl]
    · rw [fX10_readsPin, w2, Option.bind_some, show bI true = 1 from rfl, pr_ok HR.2.1, Option.bind_some]
      dsimp only
      rw [n1, Option.bind_some, b2, Option.bind_some]
      dsimp only
      rw [er_num b4, Option.bind_some]
      dsimp only
      rw [er_looks b4, Option.bind_some, if_pos rfl]
      dsimp only
      rw [b4.1, if_neg b4.2.1, er_must b4, Option.bind_some]
      dsimp only
      rw [er_goes b4, Option.bind_some, er_takes b4, Option.bind_some, erend b4]
theorem pc_end (HC : PC M1 tb n c h) : (tkK tb n (tE tb n h) = 0 → fX7_takeEnd M1 = some (1, M1)) ∧ (tkK tb n (tE tb n h) ≠ 0 → ∃ M', fX7_takeEnd M1 = some (0, M') ∧ EC M' 1 (nI (tkB tb n (tE tb n h))) ∧ Fr sT M1 M') := by
  have hk := tkK_c (tb := tb) (tE_le (tb := tb) (n := n) h)
  rw [fX7_takeEnd, pc_kd HC]
  constructor
  · intro e
    rw [e, if_pos (show nI 0 = (0 : Int32) from rfl), Option.bind_some, if_neg (by decide)]
  · intro e
    obtain ⟨M', a1, a2, a3⟩ := pc_fail (e := 1) HC
    rw [if_neg (by_ne (c := 0) (L := 0) (by omega) (by decide) rfl e), Option.bind_some, if_pos rfl, a1, Option.bind_some, if_pos rfl]
    exact ⟨M', rfl, a2, a3⟩
theorem rk_0 (hk : tkK tb n (tE tb n h) ≠ 0) : ¬ nI (rkS tb n (tE tb n h)) = 0 := by
  have hc := tkK_c (tb := tb) (tE_le (tb := tb) (n := n) h)
  have hr := rk_c (tb := tb) (tE_le (tb := tb) (n := n) h)
  refine by_ne (c := 0) (L := 0) (by omega) (by decide) rfl ?_
  unfold rkS
  split
  · split <;> omega
  · exact hk
theorem st_pinsL : ∀ (d v h : Nat) (M1 M2 : Mm) (P : PF) (f1 f2 : Nat), v + d = 800 → d < f1 → d + 1 < f2 → v ≤ h → 1 ≤ T → SS M1 M2 tb n c h g P S T U A →
    ∃ b M1' M2', fX6_readSetup_L60 (fun w25 M26 => (fX7_takeEnd M26).bind fun q27 => some ((bz q27.1), q27.2)) f1 (nI v) M1 = some (b, M1') ∧ fX10_readsSetup_L81 (fun M27 => some M27) f2 M2 = some M2' ∧
      ((b = 1 ∧ ∃ P', BX M1' T 1 g P' ∧ RX (M2'.1 NW) g P' ∧ Jv g P' S T U A ∧ EC M1' 0 (-1) ∧ M2'.1 R8 17 = 0 ∧ M2'.1 R8 18 = -1) ∨ (b = 0 ∧ ∃ e p, EC M1' e p ∧ ER M2' e p)) ∧ Fr sS1 M1 M1' ∧ FS M2 M2' := by
  intro d
  induction d with
  | zero =>
    intro v h M1 M2 P f1 f2 hv h1 h2 hvh hT HS
    obtain ⟨f1, rfl⟩ : ∃ q, f1 = q + 1 := ⟨f1 - 1, by omega⟩
    obtain ⟨f2, rfl⟩ : ∃ q, f2 = q + 1 := ⟨f2 - 1, by omega⟩
    have hc8 := HS.1.2.1.2.1
    have hhc := HS.1.2.2.1
    have e : h = c := by omega
    have hk : tkK tb n (tE tb n h) = 0 := by rw [e]; exact HS.1.2.1.2.2.2.2
    rw [fX6_readSetup_L60, if_pos (show (800 : Int32) ≤ nI v from nI_le (a := 800) (by omega) (by omega)), (pc_end HS.1).1 hk, fX10_readsSetup_L81, HS.2.1.2.1, if_pos rfl, HS.2.1.2.2.2.2.2.1, if_pos (by rw [rkS, if_neg (by omega), hk]; rfl)]
    exact ⟨1, M1, M2, bzr1 _, rfl, Or.inl ⟨rfl, P, HS.2.2.1, HS.2.2.2.1, HS.2.2.2.2, ⟨HS.1.2.2.2.2.1, HS.1.2.2.2.2.2.1⟩, HS.2.1.2.1, HS.2.1.2.2.1⟩, fr_rf, fs_rf⟩
  | succ d ih =>
    intro v h M1 M2 P f1 f2 hv h1 h2 hvh hT HS
    obtain ⟨f1, rfl⟩ : ∃ q, f1 = q + 1 := ⟨f1 - 1, by omega⟩
    obtain ⟨f2, rfl⟩ : ∃ q, f2 = q + 1 := ⟨f2 - 1, by omega⟩
    have w1 := pc_word (j := 3) (by decide) HS.1
    have w2 := pr_word (j := 3) (by decide) HS.1.1 HS.2.1
    rw [fX6_readSetup_L60, if_neg (show ¬ (800 : Int32) ≤ nI v from nI_ge (b := 800) (by omega) (by decide)), w1, Option.bind_some, fX10_readsSetup_L81, HS.2.1.2.1, if_pos rfl, HS.2.1.2.2.2.2.2.1]
    by_cases hk : tkK tb n (tE tb n h) = 0
    · have wd : wdS tb n (tE tb n h) (sby 3) = false := by
        cases e : wdS tb n (tE tb n h) (sby 3) with
        | false => rfl
        | true => have := wdS_1 e; omega
      rw [wd, if_pos (bI_0.mpr rfl), (pc_end HS.1).1 hk, if_pos (by rw [rkS, if_neg (by omega), hk]; rfl)]
      exact ⟨1, M1, M2, bzr1 _, rfl, Or.inl ⟨rfl, P, HS.2.2.1, HS.2.2.2.1, HS.2.2.2.2, ⟨HS.1.2.2.2.2.1, HS.1.2.2.2.2.2.1⟩, HS.2.1.2.1, HS.2.1.2.2.1⟩, fr_rf, fs_rf⟩
    · rw [if_neg (rk_0 hk)]
      cases wd : wdS tb n (tE tb n h) (sby 3) with
      | false =>
        obtain ⟨X1, x1, x2, x3⟩ := (pc_end HS.1).2 hk
        obtain ⟨X2, y1, y2, y3⟩ := pr_no (e := 1) HS.2.1.2.1 (by decide)
        rw [HS.2.1.2.2.2.2.1] at y2
        rw [wd] at w2
        rw [if_pos (bI_0.mpr rfl), x1]
        refine ⟨0, X1, X2, bzr0 _, ?_, Or.inr ⟨rfl, _, _, x2, y2⟩, s1_T x3, fs_18 y3⟩
        obtain ⟨f2, rfl⟩ : ∃ q, f2 = q + 1 := ⟨f2 - 1, by omega⟩
        have hx : fX10_readsPin M2 = some X2 := by
          rw [fX10_readsPin, w2, Option.bind_some, show bI false = 0 from rfl, y1, Option.bind_some]
          dsimp only
          rw [er_goes y2, Option.bind_some, er_num y2, Option.bind_some]
          dsimp only
          rw [er_num y2, Option.bind_some]
          dsimp only
          rw [er_looks y2, Option.bind_some, if_pos rfl]
          dsimp only
          rw [y2.1, if_neg y2.2.1, er_must y2, Option.bind_some]
          dsimp only
          rw [er_goes y2, Option.bind_some, er_takes y2, Option.bind_some, y2.1, if_neg y2.2.1]
        rw [hx, Option.bind_some, fX10_readsSetup_L81, y2.1, if_neg y2.2.1]
      | true =>
        obtain ⟨b, N1, N2, a1, a2, a3, a4, a5⟩ := st_place HS hT wd
        rw [if_neg (by decide), a1, Option.bind_some, a2, Option.bind_some]
        rcases a3 with ⟨rfl, h', P', x1, x2⟩ | ⟨rfl, e, p, x1, x2⟩
        · rw [if_neg one_ne, ← nI_succ]
          obtain ⟨b, M1', M2', y1, y2, y3, y4, y5⟩ := ih (v + 1) h' N1 N2 P' f1 f2 (by omega) (by omega) (by omega) (by omega) hT x2
          exact ⟨b, M1', M2', y1, y2, y3, fr_tr a4 y4, fs_tr a5 y5⟩
        · rw [if_pos rfl]
          refine ⟨0, N1, N2, rfl, ?_, Or.inr ⟨rfl, e, p, x1, x2⟩, a4, a5⟩
          obtain ⟨f2, rfl⟩ : ∃ q, f2 = q + 1 := ⟨f2 - 1, by omega⟩
          rw [fX10_readsSetup_L81, x2.1, if_neg x2.2.1]
theorem rf_starts {M : Mm} (hv : TV tb n) (ht : TR M tb n) : ∃ M', fX10_starts M = some M' ∧ PR M' tb n 0 ∧ F18 M M' := by
  have ht2 : TR (putI (putI (putI M (18, 0, 0) 13 (0 : Int32)) (18, 0, 0) 17 (0 : Int32)) (18, 0, 0) 18 (-1 : Int32)) tb n := tr_8 (by decide) (tr_8 (by decide) (tr_8 (by decide) ht))
  obtain ⟨M', a1, a2, a3⟩ := rf_reads (p := 0) hv ht2 (Nat.zero_le _) (by rw [g_row, upd_o (by decide), g_row, upd_o (by decide), g_row, upd_s]; rfl)
  refine ⟨M', by rw [fX10_starts, a1]; rfl, ⟨f13_TR a3 ht2, ?_, ?_, a2⟩, f18_tr (f18_p (f18_p (f18_p f18_rf (by decide)) (by decide)) (by decide)) (f18_13 a3)⟩
  · rw [a3.2 17 (by decide), g_row, upd_o (by decide), g_row, upd_s]
  · rw [a3.2 18 (by decide), g_row, upd_s]
def sSe (r : Rf) : Bool := r.1 == 3 || r.1 == 4 || sBx 1 r
/-- a whole setup -/
theorem st_setup (hv : TV tb n) (ht : TC M1 tb n) (hr : TR M2 tb n) (HZ : ∀ k, k < 280 → M2.1 NW k = 0) : ∃ b M1' M2' N2, fX6_readSetup M1 = some (b, M1') ∧ fX10_starts M2 = some N2 ∧ fX10_readsSetup N2 = some M2' ∧
    ((b = 1 ∧ ∃ g P S T U A, BX M1' T 1 g P ∧ RX (M2'.1 NW) g P ∧ Iv g P S T U A 0 0 ∧ EC M1' 0 (-1) ∧ M2'.1 R8 17 = 0 ∧ M2'.1 R8 18 = -1) ∨ (b = 0 ∧ ∃ e p, EC M1' e p ∧ ER M2' e p)) ∧ Fr sSe M1 M1' ∧ FS M2 M2' := by
  obtain ⟨N1, c, a1, a2, a3, a4, a5, a6, a7⟩ := cl_scan ht hv
  obtain ⟨N2, b1, b2, b3⟩ := rf_starts hv hr
  have HC : PC N1 tb n c 0 := ⟨hv, a2, Nat.zero_le _, a3, a4, a5, a6⟩
  have hse : ∀ {X Y : Mm}, Fr sS1 X Y → Fr sSe X Y := fun {X Y} hx => fr_mono (fun r hr => by
    unfold sS1 at hr
    unfold sSe
    cases e : sBx 1 r with
    | true => simp
    | false =>
      rw [e, Bool.or_false] at hr
      have : r = (3, 0, 0) := by simpa using hr
      subst this
      rfl) hx
  have h0 : Fr sSe M1 N1 := fr_mono (fun r hr => by
    unfold sTk at hr
    unfold sSe
    rw [hr]
    rfl) a7
  obtain ⟨b, O1, O2, c1, c2, c3, c4, c5⟩ := st_head HC b2 (fun k hk => by rw [(b3.1 NW rfl).1]; exact HZ k hk)
  have hd : fX10_readsSetup N2 = _ := c2 (fun q13 => (fX10_readsTooth q13).bind fun q15 => fX10_readsSetup_L65 (fun M22 => fX10_readsSetup_L81 (fun M27 => some M27) NF M22) NF q15)
  have lex : ∀ {X : Mm} {e p : Int32} {f : Nat}, ER X e p → fX10_readsSetup_L65 (fun M22 => fX10_readsSetup_L81 (fun M27 => some M27) NF M22) (f + 1) X = some X := fun {X e p f} hx => by
    rw [fX10_readsSetup_L65, er_word hx, Option.bind_some, if_pos rfl, show NF = 4999 + 1 from rfl, fX10_readsSetup_L81, hx.1, if_neg hx.2.1]
  rcases c3 with ⟨rfl, h1, S, U, A, HS⟩ | ⟨rfl, e, p, x1, x2⟩
  · obtain ⟨b, Q1, Q2, d1, d2, d3, d4, d5⟩ := st_tooth HS
    rcases d3 with ⟨rfl, hT, h2, g2, x1, HS2⟩ | ⟨rfl, e, p, x1, x2⟩
    · obtain ⟨R1, R2, f1, f2, f3, f4⟩ := st_teethL (K1 := fun w16 M17 => fX6_readSetup_L60 (fun w25 M26 => (fX7_takeEnd M26).bind fun q27 => some ((bz q27.1), q27.2)) NF (0 : Int32) M17) (K2 := fun M22 => fX10_readsSetup_L81 (fun M27 => some M27) NF M22) 12 0 1 h2 Q1 Q2 g2 NF NF rfl (by unfold NF; omega) (by unfold NF; omega) rfl HS2
      have cls : fX6_readSetup M1 = fX6_readSetup_L25 (fun w16 M17 => fX6_readSetup_L60 (fun w25 M26 => (fX7_takeEnd M26).bind fun q27 => some ((bz q27.1), q27.2)) NF (0 : Int32) M17) NF (nI 0) Q1 := by
        rw [fX6_readSetup, a1, Option.bind_some, c1, Option.bind_some, if_neg one_ne, d1, Option.bind_some, if_neg one_ne]
        rfl
      have rfs : fX10_readsSetup N2 = fX10_readsSetup_L81 (fun M27 => some M27) NF R2 := by
        rw [hd, d2, Option.bind_some]
        exact f3
      have hFa : Fr sSe M1 R1 := fr_tr (fr_tr (fr_tr h0 (hse c4)) (hse d4)) (hse f1)
      have hFb : FS M2 R2 := fs_tr (fs_tr (fs_tr (fs_18 b3) c5) d5) f2
      rcases f4 with ⟨v', h3, T', g3, z1, z2, z3, z4⟩ | ⟨e, p, z1, z2, z3⟩
      · obtain ⟨b, X1, X2, y1, y2, y3, y4, y5⟩ := st_pinsL 800 0 h3 R1 R2 (fun _ _ _ => false) NF NF rfl (by unfold NF; omega) (by unfold NF; omega) (Nat.zero_le _) z2 z3
        refine ⟨b, X1, X2, N2, cls.trans (z4.trans y1), b1, rfs.trans y2, ?_, fr_tr hFa (hse y4), fs_tr hFb y5⟩
        rcases y3 with ⟨rfl, P', w1, w2, w3, w4, w5, w6⟩ | w
        · exact Or.inl ⟨rfl, g3, P', S, T', U, A, w1, w2, jv_iv w3 z2, w4, w5, w6⟩
        · exact Or.inr w
      · refine ⟨0, R1, R2, N2, cls.trans z3, b1, rfs.trans ?_, Or.inr ⟨rfl, e, p, z1, z2⟩, hFa, hFb⟩
        rw [show NF = 4999 + 1 from rfl, fX10_readsSetup_L81, z2.1, if_neg z2.2.1]
    · refine ⟨0, Q1, Q2, N2, ?_, b1, ?_, Or.inr ⟨rfl, e, p, x1, x2⟩, fr_tr (fr_tr h0 (hse c4)) (hse d4), fs_tr (fs_tr (fs_18 b3) c5) d5⟩
      · rw [fX6_readSetup, a1, Option.bind_some, c1, Option.bind_some, if_neg one_ne, d1, Option.bind_some, if_pos rfl]
      · rw [hd, d2, Option.bind_some]
        exact lex x2
  · refine ⟨0, O1, O2, N2, ?_, b1, ?_, Or.inr ⟨rfl, e, p, x1, x2⟩, fr_tr h0 (hse c4), fs_tr (fs_18 b3) c5⟩
    · rw [fX6_readSetup, a1, Option.bind_some, c1, Option.bind_some, if_pos rfl]
    · rw [hd, er_tooth x2, Option.bind_some]
      exact lex x2
end PI
