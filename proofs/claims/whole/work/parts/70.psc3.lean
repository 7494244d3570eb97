/-! a script: a row of commands; the whole script -/
section CM
variable {tb : Nat → Nat} {n c : Nat}
theorem pc_kind {h : Nat} {M1 : Mm} (HC : PC M1 tb n c h) : fX5_kindHere M1 = some (kwS tb n (tE tb n h)) := by
  rw [fX5_kindHere, pc_word (j := 3) (by decide) HC, pc_word (j := 4) (by decide) HC, pc_word (j := 5) (by decide) HC, pc_word (j := 6) (by decide) HC, pc_word (j := 7) (by decide) HC, pc_word (j := 8) (by decide) HC, pc_word (j := 9) (by decide) HC, pc_word (j := 10) (by decide) HC, pc_word (j := 11) (by decide) HC, pc_word (j := 12) (by decide) HC]
  simp only [Option.bind_some, bI_0]
  unfold kwS kwN
  cases wdS tb n (tE tb n h) (sby 3) <;> cases wdS tb n (tE tb n h) (sby 4) <;> cases wdS tb n (tE tb n h) (sby 5) <;> cases wdS tb n (tE tb n h) (sby 6) <;> cases wdS tb n (tE tb n h) (sby 7) <;> try rfl
  all_goals cases wdS tb n (tE tb n h) (sby 8) <;> try rfl
  all_goals cases wdS tb n (tE tb n h) (sby 9) <;> try rfl
  all_goals cases wdS tb n (tE tb n h) (sby 10) <;> try rfl
  all_goals cases wdS tb n (tE tb n h) (sby 11) <;> try rfl
  all_goals cases wdS tb n (tE tb n h) (sby 12) <;> rfl
theorem pr_kind {h : Nat} {M2 : Mm} (hv : TV tb n) (HR : PR M2 tb n h) : fX10_commandHere M2 = some (kwS tb n (tE tb n h)) := by
  rw [fX10_commandHere, pr_word (j := 3) (by decide) hv HR, pr_word (j := 4) (by decide) hv HR, pr_word (j := 5) (by decide) hv HR, pr_word (j := 6) (by decide) hv HR, pr_word (j := 7) (by decide) hv HR, pr_word (j := 8) (by decide) hv HR, pr_word (j := 9) (by decide) hv HR, pr_word (j := 10) (by decide) hv HR, pr_word (j := 11) (by decide) hv HR, pr_word (j := 12) (by decide) hv HR]
  simp only [Option.bind_some, bI_0]
  unfold kwS kwN
  cases wdS tb n (tE tb n h) (sby 3) <;> cases wdS tb n (tE tb n h) (sby 4) <;> cases wdS tb n (tE tb n h) (sby 5) <;> cases wdS tb n (tE tb n h) (sby 6) <;> cases wdS tb n (tE tb n h) (sby 7) <;> try rfl
  all_goals cases wdS tb n (tE tb n h) (sby 8) <;> try rfl
  all_goals cases wdS tb n (tE tb n h) (sby 9) <;> try rfl
  all_goals cases wdS tb n (tE tb n h) (sby 10) <;> try rfl
  all_goals cases wdS tb n (tE tb n h) (sby 11) <;> try rfl
  all_goals cases wdS tb n (tE tb n h) (sby 12) <;> rfl
/-- a command's memory: the class and the reference note its kind -/
theorem cl_putCmd {M : Mm} {k : Nat} {x y : Int32} (h4 : M.1 (7, 0, 0) 4 = nI k) (hk : k < 30) : fX4_putCommand M x y = some (nI k, putI (putI (putI M (8, 0, 0) k x) (8, 1, 0) k y) (7, 0, 0) 4 (nI (k + 1))) := by
  have hg := hgk hk
  rw [fX4_putCommand, h4, if_neg (nI_pos (by omega)), if_pos (show nI k < (30 : Int32) from nI_lt (b := 30) hk (by decide))]
  simp only [hg, if_false]
  rw [nI_clamp (by omega), ← nI_succ]
/-- one command, its word known -/
theorem st_cmd {h k L K : Nat} {M1 M2 : Mm} {rc1 : Mm → Int32 → Option (Int32 × Mm)} {F2 : Nat} (hk : k < 30) (hL : L ≤ 2) (hF2 : 0 < F2) (hK9 : K ≤ 9) (hkw : kwN tb n (tE tb n h) = K) (HS : SC M1 M2 tb n c h k)
    (hrc : L < 2 → ∀ (h k : Nat) (M1 M2 : Mm), SC M1 M2 tb n c h k → RES tb n c (rc1 M1 (nI (L + 1))) (gX10_readsCommands F2 M2 (nI (L + 1))) M1 M2 h k (L + 1)) :
    ∃ b M1' M2', ((fX4_putCommand (fX7_advance M1) (nI K) (nI L)).bind fun q9 => if nI K = (9 : Int32) then ((fX5_readRepeat rc1 q9.2 q9.1 (nI L)).bind fun q18 => if q18.1 = 0 then some ((0 : Int32), q18.2) else (fX7_takeSign q18.2 (59 : Int32)).bind fun q21 => if q21.1 = 0 then some ((0 : Int32), q21.2) else some (1, q21.2)) else (fX5_readArguments q9.2 q9.1 (nI K)).bind fun q12 => if q12.1 = 0 then some ((0 : Int32), q12.2) else (fX7_takeSign q12.2 (59 : Int32)).bind fun q15 => if q15.1 = 0 then some ((0 : Int32), q15.2) else some (1, q15.2)) = some (b, M1') ∧
      fX10_readsCommand (gX10_readsCommands F2) M2 (nI L) = some M2' ∧ FC1 M1 M1' ∧ FQ M2 M2' ∧
    ((b = 1 ∧ ∃ h' k', k < k' ∧ SC M1' M2' tb n c h' k' ∧ (∀ j, k ≤ j → j < k' → DC M1' M2' j) ∧ WX M1' L k k' ∧ PV k M1 M1' M2 M2') ∨
     (b = 0 ∧ ∃ e p, EC M1' e p ∧ ER M2' e p)) := by
  have hg := hgk hk
  obtain ⟨HC, HR, h4, h23, -⟩ := HS
  have hkk : tkK tb n (tE tb n h) = 1 := kwN_1 (by omega)
  obtain ⟨a1, a2⟩ := pc_adv HC (by omega)
  have a4 : (fX7_advance M1).1 (7, 0, 0) 4 = nI k := by rw [(a2 (7, 0, 0) rfl).1]; exact h4
  rw [cl_putCmd a4 hk, Option.bind_some]
  dsimp only
  have A1 : PC (putI (putI (putI (fX7_advance M1) (8, 0, 0) k (nI K)) (8, 1, 0) k (nI L)) (7, 0, 0) 4 (nI (k + 1))) tb n c (h + 1) := pc_7 (pc_8 (pc_8 a1))
  have A4 : (putI (putI (putI (fX7_advance M1) (8, 0, 0) k (nI K)) (8, 1, 0) k (nI L)) (7, 0, 0) 4 (nI (k + 1))).1 (7, 0, 0) 4 = nI (k + 1) := by rw [g_row, upd_s]
  have A0 : (putI (putI (putI (fX7_advance M1) (8, 0, 0) k (nI K)) (8, 1, 0) k (nI L)) (7, 0, 0) 4 (nI (k + 1))).1 (8, 0, 0) k = nI K := by rw [putI_ne (by decide), putI_ne (by decide), g_row, upd_s]
  have A5 : (putI (putI (putI (fX7_advance M1) (8, 0, 0) k (nI K)) (8, 1, 0) k (nI L)) (7, 0, 0) 4 (nI (k + 1))).1 (8, 1, 0) k = nI L := by rw [putI_ne (by decide), g_row, upd_s]
  have AF : FC1 M1 (putI (putI (putI (fX7_advance M1) (8, 0, 0) k (nI K)) (8, 1, 0) k (nI L)) (7, 0, 0) 4 (nI (k + 1))) := fc_4 (fc_8 (fc_8 (fc_T a2)))
  -- the reference reads on
  have B1 : PR (putI (putI M2 (19, 7, 0) k (nI K)) R8 23 (nI (k + 1))) tb n h := pr_23 (pr_q (by decide) HR)
  obtain ⟨N2, b1, b2, b3⟩ := rf_reads HC.1 B1.1 (tkE_le (tE_le h)).1 B1.2.2.2.1
  have b3' := f18_13 b3
  have B2 : PR N2 tb n (h + 1) := ⟨f13_TR b3 B1.1, by rw [b3.2 17 (by decide)]; exact B1.2.1, by rw [b3.2 18 (by decide)]; exact B1.2.2.1, b2⟩
  have B23 : N2.1 R8 23 = nI (k + 1) := by rw [b3.2 23 (by decide), g_row, upd_s]
  have B7 : N2.1 (19, 7, 0) k = nI K := by rw [(b3.1 (19, 7, 0) rfl).1, putI_ne (by decide), g_row, upd_s]
  have BF : FQ M2 N2 := by
    refine fq_tr ⟨fr_pI (fr_putI rfl) rfl, fun j hj => ?_⟩ (fq_18 b3')
    rw [g_row, upd_o (by omega), putI_ne (by decide)]
  have pv0 : PV k M1 (putI (putI (putI (fX7_advance M1) (8, 0, 0) k (nI K)) (8, 1, 0) k (nI L)) (7, 0, 0) 4 (nI (k + 1))) M2 N2 := by
    refine ⟨fun a ha j hj => ?_, fun i hi => ?_, fun a ha hb j hj => ?_⟩
    · rw [putI_ne (fun c => by cases c), g_put, if_neg (fun c => by omega), g_put, if_neg (fun c => by omega), (a2 (8, a, 0) rfl).1]
    · rw [putI_ne (by decide), putI_ne (by decide), putI_ne (by decide), (a2 (8, 3, 0) rfl).1]
    · rw [(b3.1 (19, a, 0) rfl).1, putI_ne (fun c => by cases c), g_put, if_neg (fun c => by omega)]
  have hkw2 : kwS tb n (tE tb n h) = nI K := by rw [kwS, hkw, if_neg (by omega)]
  have rfs : fX10_readsCommand (gX10_readsCommands F2) M2 (nI L) = (if nI K = (9 : Int32) then ((fX10_readsRepeat (gX10_readsCommands F2) N2 (nI k) (nI L)).bind fun q68 => (fX10_takesSign q68 (59 : Int32)).bind fun q70 => some q70) else (fX10_readsSingle N2 (nI k)).bind fun q64 => (fX10_takesSign q64 (59 : Int32)).bind fun q66 => some q66) := by
    rw [fX10_readsCommand, pr_kind HC.1 HR, Option.bind_some, hkw2, if_neg (nI_m1 (by omega)), pr_ok HR.2.1, Option.bind_some, if_neg one_ne]
    dsimp only
    rw [h23, if_neg (show ¬ (30 : Int32) ≤ nI k from nI_ge (b := 30) hk (by decide)), pr_ok HR.2.1, Option.bind_some, if_neg one_ne]
    dsimp only
    rw [h23]
    simp only [hg, if_false]
    rw [nI_clamp (by omega), ← nI_succ, b1, Option.bind_some]
  rw [rfs]
  by_cases k9 : K = 9
  · subst k9
    rw [if_pos (show nI 9 = (9 : Int32) from rfl), if_pos (show nI 9 = (9 : Int32) from rfl)]
    obtain ⟨b, Q1, Q2, c1, c2, c3, c4, c5⟩ := st_rep hk hL hF2 A1 B2 A4 B23 hrc
    rw [c1, Option.bind_some, c2, Option.bind_some]
    dsimp only
    rcases c5 with ⟨rfl, hL2, h', k', x, e1, e2, e3, e4, e5, e6, e7, e8, e9, e10, e11, e12, e13⟩ | ⟨rfl, e, p, x1, x2⟩
    · rw [if_neg one_ne]
      rcases st_sign (k := 59) (L := 59) rfl (by decide) e2.1 e2.2.1 with ⟨X1, X2, -, y1, y2, y3, y4, y5, y6⟩ | ⟨e, p, X1, X2, -, y1, y2, y3, y4, y5, y6⟩
      · rw [y1, Option.bind_some, y2, Option.bind_some]
        dsimp only
        rw [if_neg one_ne]
        have pvT : PV 31 Q1 X1 Q2 X2 := pv_fr y5 y6
        refine ⟨1, X1, X2, rfl, rfl, fc_tr (fc_tr AF c3) (fc_T y5), fq_tr (fq_tr BF c4) (fq_18 y6), Or.inl ⟨rfl, h' + 1, k', by omega, ⟨y3, y4, by rw [(y5 (7, 0, 0) rfl).1]; exact e2.2.2.1, (y6.2 23 (by decide)).trans e2.2.2.2.1, e2.2.2.2.2⟩, fun j hj1 hj2 => ?_, ?_, pv_tr (pv_tr pv0 e10) (pv_lo (by omega) pvT)⟩⟩
        · have hj30 : j < 31 := by have := e2.2.2.2.2; omega
          refine dc_pv hj30 pvT ?_
          by_cases ej : j = k
          · subst ej
            exact ⟨9, Nat.le_refl _, e11.trans A0, e13.trans B7, fun c => absurd c (by decide), fun _ => ⟨x, k', e3, e4, e5, e6, e7⟩⟩
          · exact e8 j (by omega) hj2
        · refine wx_pv (k := 31) (by have := e2.2.2.2.2; omega) pvT ?_
          obtain ⟨f, hf⟩ := e9
          refine ⟨f + 1, ?_⟩
          rw [WF]
          refine Or.inr ⟨by omega, e12.trans A5, Or.inr ⟨e11.trans A0, hL2, k', e6, by omega, Nat.le_refl _, hf, ?_⟩⟩
          have z : WF (Q1.1 (8, 0, 0)) (Q1.1 (8, 1, 0)) (Q1.1 (8, 2, 0)) 0 L k' k' := rfl
          have := wf_up z f
          rw [Nat.zero_add] at this
          exact this
      · rw [y1, Option.bind_some, y2, Option.bind_some]
        dsimp only
        rw [if_pos rfl]
        exact ⟨0, X1, X2, rfl, rfl, fc_tr (fc_tr AF c3) (fc_T y5), fq_tr (fq_tr BF c4) (fq_18 y6), Or.inr ⟨rfl, e, p, y3, y4⟩⟩
    · rw [if_pos rfl, er_takes x2, Option.bind_some]
      exact ⟨0, Q1, Q2, rfl, rfl, fc_tr AF c3, fq_tr BF c4, Or.inr ⟨rfl, e, p, x1, x2⟩⟩
  · have n9 : ¬ nI K = (9 : Int32) := by_ne (c := 9) (L := 9) (by omega) (by decide) rfl k9
    rw [if_neg n9, if_neg n9]
    obtain ⟨b, Q1, Q2, c1, c2, c5, c3, c4⟩ := st_single hk B7 (by omega) A1 B2
    rw [c1, Option.bind_some, c2, Option.bind_some]
    dsimp only
    rcases c5 with ⟨rfl, h', e1, e2, e3, e4⟩ | ⟨rfl, e, p, x1, x2⟩
    · rw [if_neg one_ne]
      rcases st_sign (k := 59) (L := 59) rfl (by decide) e2 e3 with ⟨X1, X2, -, y1, y2, y3, y4, y5, y6⟩ | ⟨e, p, X1, X2, -, y1, y2, y3, y4, y5, y6⟩
      · rw [y1, Option.bind_some, y2, Option.bind_some]
        dsimp only
        rw [if_neg one_ne]
        have pvT : PV 31 Q1 X1 Q2 X2 := pv_fr y5 y6
        have q8 : ∀ a, a < 3 → Q1.1 (8, a, 0) = (putI (putI (putI (fX7_advance M1) (8, 0, 0) k (nI K)) (8, 1, 0) k (nI L)) (7, 0, 0) 4 (nI (k + 1))).1 (8, a, 0) := fun a ha => by
          rw [(c3.1 (8, a, 0) (by simp; omega)).1]
        refine ⟨1, X1, X2, rfl, rfl, fc_tr (fc_tr AF (fc_k c3)) (fc_T y5), fq_tr (fq_tr BF c4.1) (fq_18 y6), Or.inl ⟨rfl, h' + 1, k + 1, by omega, ⟨y3, y4, ?_, ?_, by omega⟩, fun j hj1 hj2 => ?_, ?_, pv_tr (pv_tr pv0 (pv_k c3 c4)) (pv_lo (by omega) pvT)⟩⟩
        · rw [(y5 (7, 0, 0) rfl).1, (c3.1 (7, 0, 0) rfl).1]; exact A4
        · rw [y6.2 23 (by decide), c4.2.1]; exact B23
        · have ej : j = k := by omega
          subst ej
          refine dc_pv (k := 31) (by omega) pvT ⟨K, hK9, by rw [q8 0 (by decide)]; exact A0, by rw [c4.2.2.1]; exact B7, fun _ => e4, fun c => absurd c k9⟩
        · refine wx_pv (k := 31) (by omega) pvT ⟨1, ?_⟩
          rw [WF]
          exact Or.inr ⟨by omega, by rw [q8 1 (by decide)]; exact A5, Or.inl ⟨by rw [q8 0 (by decide), A0]; exact n9, rfl⟩⟩
      · rw [y1, Option.bind_some, y2, Option.bind_some]
        dsimp only
        rw [if_pos rfl]
        exact ⟨0, X1, X2, rfl, rfl, fc_tr (fc_tr AF (fc_k c3)) (fc_T y5), fq_tr (fq_tr BF c4.1) (fq_18 y6), Or.inr ⟨rfl, e, p, y3, y4⟩⟩
    · rw [if_pos rfl, er_takes x2, Option.bind_some]
      exact ⟨0, Q1, Q2, rfl, rfl, fc_tr AF (fc_k c3), fq_tr BF c4.1, Or.inr ⟨rfl, e, p, x1, x2⟩⟩
theorem ite_bind {α β : Type} {c : Prop} [Decidable c] {a b : Option α} {f : α → Option β} : (if c then a.bind f else b.bind f) = (if c then a else b).bind f := by
  split <;> rfl
/-- a row of commands -/
theorem st_cmdsL {L : Nat} {rc1 : Mm → Int32 → Option (Int32 × Mm)} {F2 : Nat} (hL : L ≤ 2) (hF2 : 0 < F2)
    (hrc : L < 2 → ∀ (h k : Nat) (M1 M2 : Mm), SC M1 M2 tb n c h k → RES tb n c (rc1 M1 (nI (L + 1))) (gX10_readsCommands F2 M2 (nI (L + 1))) M1 M2 h k (L + 1)) : ∀ (d v h k : Nat) (M1 M2 : Mm) (f1 f2 : Nat), 31 ≤ k + d → v ≤ k → d < f1 → d + 1 < f2 → SC M1 M2 tb n c h k →
    RES tb n c (fX5_readCommands_L2 rc1 (nI L) (fun w28 M29 => some ((1 : Int32), M29)) f1 (nI v) M1) (fX10_readsCommands_L0 (gX10_readsCommands F2) (nI L) (fun M8 => some M8) f2 M2) M1 M2 h k L := by
  intro d
  induction d with
  | zero =>
    intro v h k M1 M2 f1 f2 hd hv h1 h2 HS
    have := HS.2.2.2.2
    omega
  | succ d ih =>
    intro v h k M1 M2 f1 f2 hd hv h1 h2 HS
    obtain ⟨f1, rfl⟩ : ∃ q, f1 = q + 1 := ⟨f1 - 1, by omega⟩
    obtain ⟨f2, rfl⟩ : ∃ q, f2 = q + 1 := ⟨f2 - 1, by omega⟩
    have hk30 := HS.2.2.2.2
    obtain ⟨HC, HR, h4, h23, -⟩ := id HS
    have hkc := tkK_c (tb := tb) (tE_le (tb := tb) (n := n) h)
    have w41 := pr_sign (k := 41) (L := 41) rfl (by decide) HC.1 HR
    rw [fX5_readCommands_L2, if_neg (show ¬ (30 : Int32) < nI v from nI_nlt (a := 30) (by omega) (by decide)), pc_any HC, Option.bind_some, fX10_readsCommands_L0, HR.2.1, if_pos rfl, HR.2.2.2.2.2.1, w41, Option.bind_some]
    by_cases kk : tkK tb n (tE tb n h) = 1
    · -- a word
      have sg0 : sgS tb n (tE tb n h) 41 = false := by
        unfold sgS
        exact decide_eq_false (fun c => by omega)
      rw [decide_eq_true kk, if_neg (by decide), if_neg (rk_0 (by omega)), sg0, if_pos (bI_0.mpr rfl), pc_kind HC, Option.bind_some]
      by_cases kw : kwN tb n (tE tb n h) = 10
      · -- an unknown one
        have ks : kwS tb n (tE tb n h) = -1 := by rw [kwS, if_pos kw]
        obtain ⟨X1, x1, x2, x3⟩ := pc_fail (e := 1) HC
        obtain ⟨X2, y1, y2, y3⟩ := pr_no (e := 1) HR.2.1 (by decide)
        rw [HR.2.2.2.2.1] at y2
        rw [ks, if_pos rfl, x1]
        have hc : fX10_readsCommand (gX10_readsCommands F2) M2 (nI L) = some X2 := by
          rw [fX10_readsCommand, pr_kind HC.1 HR, Option.bind_some, ks, if_pos rfl, y1, Option.bind_some, if_pos rfl]
        rw [hc, Option.bind_some, Option.bind_some]
        obtain ⟨f2, rfl⟩ : ∃ q, f2 = q + 1 := ⟨f2 - 1, by omega⟩
        rw [fX10_readsCommands_L0, y2.1, if_neg y2.2.1]
        exact ⟨0, X1, X2, bzr0 _, rfl, fc_T x3, fq_18 y3, Or.inr (Or.inr ⟨rfl, _, _, x2, y2⟩)⟩
      · have hle := kwN_le tb n (tE tb n h)
        have ks : kwS tb n (tE tb n h) = nI (kwN tb n (tE tb n h)) := by rw [kwS, if_neg kw]
        rw [ks, if_neg (nI_m1 (by omega)), h4]
        by_cases k30 : k < 30
        · rw [if_pos (show nI k < (30 : Int32) from nI_lt (b := 30) k30 (by decide))]
          obtain ⟨b, Q1, Q2, c1, c2, c3, c4, c5⟩ := st_cmd (rc1 := rc1) k30 hL hF2 (by omega) rfl HS hrc
          rw [c2, Option.bind_some]
          -- the class's side, with what goes on behind it
          have cls : ∀ (F : Mm → Option (Int32 × Mm)), ((fX4_putCommand (fX7_advance M1) (nI (kwN tb n (tE tb n h))) (nI L)).bind fun q9 => if nI (kwN tb n (tE tb n h)) = (9 : Int32) then ((fX5_readRepeat rc1 q9.2 q9.1 (nI L)).bind fun q18 => if q18.1 = 0 then some ((0 : Int32), q18.2) else (fX7_takeSign q18.2 (59 : Int32)).bind fun q21 => if q21.1 = 0 then some ((0 : Int32), q21.2) else F q21.2) else (fX5_readArguments q9.2 q9.1 (nI (kwN tb n (tE tb n h)))).bind fun q12 => if q12.1 = 0 then some ((0 : Int32), q12.2) else (fX7_takeSign q12.2 (59 : Int32)).bind fun q15 => if q15.1 = 0 then some ((0 : Int32), q15.2) else F q15.2) = if b = 0 then some (0, Q1) else F Q1 := by
            intro F
            have key : ∀ (o : Option (Int32 × Mm)) (G : Mm → Option (Int32 × Mm)), (o.bind fun q18 => if q18.1 = 0 then some ((0 : Int32), q18.2) else (fX7_takeSign q18.2 (59 : Int32)).bind fun q21 => if q21.1 = 0 then some ((0 : Int32), q21.2) else some (1, q21.2)) = some (b, Q1) → (o.bind fun q18 => if q18.1 = 0 then some ((0 : Int32), q18.2) else (fX7_takeSign q18.2 (59 : Int32)).bind fun q21 => if q21.1 = 0 then some ((0 : Int32), q21.2) else G q21.2) = if b = 0 then some (0, Q1) else G Q1 := by
              intro o G ho
              cases o with
              | none => cases ho
              | some q =>
                rw [Option.bind_some] at ho ⊢
                by_cases z : q.1 = 0
                · rw [if_pos z] at ho ⊢
                  injection ho with ho
                  cases ho
                  rw [if_pos rfl]
                · rw [if_neg z] at ho ⊢
                  cases hs : fX7_takeSign q.2 (59 : Int32) with
                  | none => rw [hs] at ho; cases ho
                  | some s =>
                    rw [hs, Option.bind_some] at ho
                    rw [Option.bind_some]
                    by_cases z2 : s.1 = 0
                    · rw [if_pos z2] at ho ⊢
                      injection ho with ho
                      cases ho
                      rw [if_pos rfl]
                    · rw [if_neg z2] at ho ⊢
                      injection ho with ho
                      cases ho
                      rw [if_neg one_ne]
            cases hp : fX4_putCommand (fX7_advance M1) (nI (kwN tb n (tE tb n h))) (nI L) with
            | none => rw [hp] at c1; cases c1
            | some q9 =>
              rw [hp, Option.bind_some] at c1
              rw [Option.bind_some]
              by_cases z : nI (kwN tb n (tE tb n h)) = (9 : Int32)
              · rw [if_pos z] at c1 ⊢
                exact key _ F c1
              · rw [if_neg z] at c1 ⊢
                exact key _ F c1
          rw [cls (fun M => fX5_readCommands_L2 rc1 (nI L) (fun w28 M29 => some ((1 : Int32), M29)) f1 (nI v + (1 : Int32)) M)]
          rcases c5 with ⟨rfl, h', k', e1, e2, e3, e4, e5⟩ | ⟨rfl, e, p, x1, x2⟩
          · rw [if_neg one_ne, ← nI_succ]
            obtain ⟨b, R1, R2, g1, g2, g3, g4, g5⟩ := ih (v + 1) h' k' Q1 Q2 f1 f2 (by omega) (by omega) (by omega) (by omega) e2
            refine ⟨b, R1, R2, g1, g2, fc_tr c3 g3, fq_tr c4 g4, ?_⟩
            rcases g5 with ⟨rfl, h2, k2, r1, r2, r3, r4, r5, r6⟩ | g5 | g5
            · refine Or.inl ⟨rfl, h2, k2, by omega, r2, r3, fun j hj1 hj2 => ?_, ?_, pv_tr e5 (pv_lo (by omega) r6)⟩
              · by_cases cj : j < k'
                · exact dc_pv cj r6 (e3 j hj1 cj)
                · exact r4 j (by omega) hj2
              · obtain ⟨w1, hw1⟩ := wx_pv (Nat.le_refl _) r6 e4
                obtain ⟨w2, hw2⟩ := r5
                exact ⟨_, wf_cat w1 L k hw1 hw2⟩
            · exact Or.inr (Or.inl g5)
            · exact Or.inr (Or.inr g5)
          · rw [if_pos rfl]
            obtain ⟨f2, rfl⟩ : ∃ q, f2 = q + 1 := ⟨f2 - 1, by omega⟩
            rw [fX10_readsCommands_L0, x2.1, if_neg x2.2.1]
            exact ⟨0, Q1, Q2, rfl, rfl, c3, c4, Or.inr (Or.inr ⟨rfl, e, p, x1, x2⟩)⟩
        · -- one too many
          have ek : k = 30 := by omega
          subst ek
          obtain ⟨X1, x1, x2, x3⟩ := pc_fail (e := 4) HC
          obtain ⟨X2, y1, y2, y3⟩ := pr_no (e := 4) HR.2.1 (by decide)
          rw [HR.2.2.2.2.1] at y2
          rw [if_neg (by decide), x1]
          have hc : fX10_readsCommand (gX10_readsCommands F2) M2 (nI L) = some X2 := by
            rw [fX10_readsCommand, pr_kind HC.1 HR, Option.bind_some, ks, if_neg (nI_m1 (by omega)), pr_ok HR.2.1, Option.bind_some, if_neg one_ne]
            dsimp only
            rw [h23, if_pos (by decide), y1, Option.bind_some, if_pos rfl]
          rw [hc, Option.bind_some, Option.bind_some]
          obtain ⟨f2, rfl⟩ : ∃ q, f2 = q + 1 := ⟨f2 - 1, by omega⟩
          rw [fX10_readsCommands_L0, y2.1, if_neg y2.2.1]
          exact ⟨0, X1, X2, bzr0 _, rfl, fc_T x3, fq_18 y3, Or.inr (Or.inr ⟨rfl, _, _, x2, y2⟩)⟩
    · -- no word: the row ends
      rw [decide_eq_false kk, if_pos (bI_0.mpr rfl)]
      have wz : WX M1 L k k := ⟨0, rfl⟩
      by_cases k0 : tkK tb n (tE tb n h) = 0
      · rw [if_pos (by rw [rkS, if_neg (by omega), k0]; rfl)]
        exact ⟨1, M1, M2, rfl, rfl, fc_rf, fq_rf, Or.inl ⟨rfl, h, k, Nat.le_refl _, HS, Or.inl k0, fun j a b => by omega, wz, pv_rf⟩⟩
      · rw [if_neg (rk_0 k0)]
        cases sg : sgS tb n (tE tb n h) 41 with
        | true =>
          rw [if_neg (by decide)]
          exact ⟨1, M1, M2, rfl, rfl, fc_rf, fq_rf, Or.inl ⟨rfl, h, k, Nat.le_refl _, HS, Or.inr sg, fun j a b => by omega, wz, pv_rf⟩⟩
        | false =>
          rw [if_pos (bI_0.mpr rfl)]
          have kw : kwN tb n (tE tb n h) = 10 := by
            by_cases e : kwN tb n (tE tb n h) = 10
            · exact e
            · exact absurd (kwN_1 e) kk
          have ks : kwS tb n (tE tb n h) = -1 := by rw [kwS, if_pos kw]
          obtain ⟨X2, y1, y2, y3⟩ := pr_no (e := 1) HR.2.1 (by decide)
          rw [HR.2.2.2.2.1] at y2
          have hc : fX10_readsCommand (gX10_readsCommands F2) M2 (nI L) = some X2 := by
            rw [fX10_readsCommand, pr_kind HC.1 HR, Option.bind_some, ks, if_pos rfl, y1, Option.bind_some, if_pos rfl]
          rw [hc, Option.bind_some]
          obtain ⟨f2, rfl⟩ : ∃ q, f2 = q + 1 := ⟨f2 - 1, by omega⟩
          rw [fX10_readsCommands_L0, y2.1, if_neg y2.2.1]
          exact ⟨1, M1, X2, rfl, rfl, fc_rf, fq_18 y3, Or.inr (Or.inl ⟨rfl, h, HC, k0, sg, y2⟩)⟩
theorem st_cmds : ∀ (r L : Nat), L + r = 2 → ∀ (F1 F2 h k : Nat) (M1 M2 : Mm), r < F1 → r + 1 < F2 → SC M1 M2 tb n c h k → RES tb n c (gX5_readCommands F1 M1 (nI L)) (gX10_readsCommands F2 M2 (nI L)) M1 M2 h k L := by
  intro r
  induction r with
  | zero =>
    intro L hL F1 F2 h k M1 M2 h1 h2 HS
    obtain ⟨F1, rfl⟩ : ∃ q, F1 = q + 1 := ⟨F1 - 1, by omega⟩
    obtain ⟨F2, rfl⟩ : ∃ q, F2 = q + 1 := ⟨F2 - 1, by omega⟩
    exact st_cmdsL (by omega) (by omega) (fun hc => by omega) 40 0 h k M1 M2 NF NF (by omega) (Nat.zero_le _) (by unfold NF; omega) (by unfold NF; omega) HS
  | succ r ih =>
    intro L hL F1 F2 h k M1 M2 h1 h2 HS
    obtain ⟨F1, rfl⟩ : ∃ q, F1 = q + 1 := ⟨F1 - 1, by omega⟩
    obtain ⟨F2, rfl⟩ : ∃ q, F2 = q + 1 := ⟨F2 - 1, by omega⟩
    exact st_cmdsL (by omega) (by omega) (fun _ h k M1 M2 HS => ih (L + 1) (by omega) F1 F2 h k M1 M2 (by omega) (by omega) HS) 40 0 h k M1 M2 NF NF (by omega) (Nat.zero_le _) (by unfold NF; omega) (by unfold NF; omega) HS
def sSc (r : Rf) : Bool := r.1 == 3 || r.1 == 4 || r.1 == 7 || r.1 == 8
/-- a whole script -/
theorem st_script {M1 M2 : Mm} (hv : TV tb n) (ht : TC M1 tb n) (hr : TR M2 tb n) : ∃ b M1' N2 O2 e x M2', fX5_readScript M1 = some (b, M1') ∧ fX10_starts M2 = some N2 ∧ gX10_readsCommands 6 (putI N2 R8 23 0) 0 = some O2 ∧ e = (if O2.1 R8 15 = 0 then (1 : Int32) else 0) ∧ fX10_must O2 e 1 = some (x, M2') ∧
    ((b = 1 ∧ ∃ k, k ≤ 30 ∧ M1'.1 (7, 0, 0) 4 = nI k ∧ M2'.1 R8 23 = nI k ∧ (∀ j, j < k → DC M1' M2' j) ∧ WX M1' 0 0 k ∧ M1'.1 (7, 0, 0) 5 = 0 ∧ M1'.1 (7, 0, 0) 6 = 0 ∧ EC M1' 0 (-1) ∧ M2'.1 R8 17 = 0 ∧ M2'.1 R8 18 = -1) ∨ (b = 0 ∧ ∃ e p, EC M1' e p ∧ ER M2' e p)) ∧ Fr sSc M1 M1' ∧ FQ M2 M2' := by
  have hF0 : Fr sSc M1 (fX4_begin M1) := fr_pI (fr_pI (fr_putI rfl) rfl) rfl
  have g7 : ∀ j, (fX4_begin M1).1 (7, 0, 0) j = if j = 6 then 0 else if j = 5 then 0 else if j = 4 then 0 else M1.1 (7, 0, 0) j := fun j => by
    rw [fX4_begin, g_row, upd, g_row, upd, g_row, upd]
  obtain ⟨N1, c, a1, a2, a3, a4, a5, a6, a7⟩ := cl_scan (tc_fr rfl rfl hF0 ht) hv
  obtain ⟨N2, b1, b2, b3⟩ := rf_starts hv hr
  have HC : PC N1 tb n c 0 := ⟨hv, a2, Nat.zero_le _, a3, a4, a5, a6⟩
  have n7 : ∀ j, j ≠ 5 ∨ True → N1.1 (7, 0, 0) j = (fX4_begin M1).1 (7, 0, 0) j := fun j _ => by rw [(a7 (7, 0, 0) rfl).1]
  have HS : SC N1 (putI N2 R8 23 0) tb n c 0 0 := ⟨HC, pr_23 b2, by rw [n7 4 (Or.inr trivial), g7]; rfl, by rw [g_row, upd_s]; rfl, by decide⟩
  obtain ⟨b, Q1, Q2, c1, c2, c3, c4, c5⟩ := st_cmds 2 0 rfl 6 6 0 0 N1 (putI N2 R8 23 0) (by decide) (by decide) HS
  have fA : Fr sSc M1 Q1 := by
    refine fr_tr (fr_tr hF0 (fr_mono (fun r hr => ?_) a7)) (fr_mono (fun r hr => ?_) c3.1)
    · unfold sTk at hr
      unfold sSc
      rw [hr]; rfl
    · unfold sQ1 at hr
      unfold sSc
      cases e3 : (r == (3, 0, 0)) with
      | true =>
        have : r = (3, 0, 0) := by simpa using e3
        subst this
        rfl
      | false =>
        rw [e3, Bool.false_or] at hr
        rw [Bool.or_assoc, hr]
        cases (r.1 == 3 || r.1 == 4) <;> rfl
  have fT : ∀ {X : Mm}, Fr sT Q1 X → Fr sSc M1 X := fun {X} hx => fr_tr fA (fr_mono (fun r hr => by
    have : r = (3, 0, 0) := by simpa [sT] using hr
    subst this
    rfl) hx)
  have fB : FQ M2 Q2 := fq_tr (fq_tr (fq_18 b3) ⟨fr_putI rfl, fun j hj => by rw [g_row, upd_o (by omega)]⟩) c4
  have k56 : ∀ j, j = 5 ∨ j = 6 → Q1.1 (7, 0, 0) j = 0 := fun j hj => by
    rw [c3.2 j (by omega), n7 j (Or.inr trivial), g7]
    rcases hj with rfl | rfl <;> rfl
  have cls : ∀ {r : Option (Int32 × Mm)}, (if b = 0 then some ((0 : Int32), Q1) else (fX7_takeEnd Q1).bind fun q6 => if q6.1 = 0 then some ((0 : Int32), q6.2) else some (1, q6.2)) = r → fX5_readScript M1 = r := fun {r} hr => by
    rw [fX5_readScript, a1, Option.bind_some, show (0 : Int32) = nI 0 from rfl] at *
    rw [c1, Option.bind_some]
    exact hr
  rcases c5 with ⟨rfl, h', k', e1, e2, e3, e4, e5, e6⟩ | ⟨rfl, h', e1, e2, e3, e4⟩ | ⟨rfl, e, p, x1, x2⟩
  · by_cases k0 : tkK tb n (tE tb n h') = 0
    · have er : Q2.1 R8 15 = 0 := by rw [e2.2.1.2.2.2.2.2.1, rkS, if_neg (by omega), k0]; rfl
      refine ⟨1, Q1, N2, Q2, 1, 1, Q2, cls (by rw [if_neg one_ne, (pc_end e2.1).1 k0]; rfl), b1, c2, by rw [if_pos er], pr_ok e2.2.1.2.1, Or.inl ⟨rfl, k', e2.2.2.2.2, e2.2.2.1, e2.2.2.2.1, fun j hj => e4 j (Nat.zero_le _) hj, e5, k56 5 (Or.inl rfl), k56 6 (Or.inr rfl), ⟨e2.1.2.2.2.2.1, e2.1.2.2.2.2.2.1⟩, e2.2.1.2.1, e2.2.1.2.2.1⟩, fA, fB⟩
    · have er : ¬ Q2.1 R8 15 = 0 := by rw [e2.2.1.2.2.2.2.2.1]; exact rk_0 k0
      obtain ⟨X1, x1, x2, x3⟩ := (pc_end e2.1).2 k0
      obtain ⟨X2, y1, y2, y3⟩ := pr_no (e := 1) e2.2.1.2.1 (by decide)
      rw [e2.2.1.2.2.2.2.1] at y2
      exact ⟨0, X1, N2, Q2, 0, 0, X2, cls (by rw [if_neg one_ne, x1]; rfl), b1, c2, by rw [if_neg er], y1, Or.inr ⟨rfl, _, _, x2, y2⟩, fT x3, fq_tr fB (fq_18 y3)⟩
  · obtain ⟨X1, x1, x2, x3⟩ := (pc_end e1).2 e2
    exact ⟨0, X1, N2, Q2, _, 0, Q2, cls (by rw [if_neg one_ne, x1]; rfl), b1, c2, rfl, er_must e4, Or.inr ⟨rfl, _, _, x2, e4⟩, fT x3, fB⟩
  · exact ⟨0, Q1, N2, Q2, _, 0, Q2, cls (if_pos rfl), b1, c2, rfl, er_must x2, Or.inr ⟨rfl, e, p, x1, x2⟩, fA, fB⟩
end CM
