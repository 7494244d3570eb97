/-! a setup is read, side by side -/
theorem nI_m1 {v : Nat} (h : v < 2 ^ 31) : ¬ nI v = -1 := by
  intro c
  have : (nI v).toInt = (-1 : Int32).toInt := by rw [c]
  rw [nI_toInt h, show (-1 : Int32).toInt = -1 by decide] at this
  omega
theorem one_ne : ¬ (1 : Int32) = 0 := by decide
theorem bzr0 (M : Mm) : ((some ((0 : Int32), M)).bind fun q => some (bz q.1, q.2)) = some (0, M) := by
  show some (bz 0, M) = _
  rw [show bz 0 = 0 by decide]
theorem bzr1 (M : Mm) : ((some ((1 : Int32), M)).bind fun q => some (bz q.1, q.2)) = some (1, M) := by
  show some (bz 1, M) = _
  rw [show bz 1 = 1 by decide]
section ST
variable {tb : Nat → Nat} {n c h : Nat} {M1 M2 : Mm}
theorem pc_fr {M M' : Mm} {S : Rf → Bool} (h1 : S (1, 0, 0) = false) (h2 : S (2, 0, 0) = false) (h3 : S (3, 0, 0) = false) (h4 : ∀ a, S (4, a, 0) = false) (hF : Fr S M M') (H : PC M tb n c h) : PC M' tb n c h := by
  obtain ⟨x1, ⟨y1, y2, y3, y4, y5⟩, x3, x4, x5, x6, x7⟩ := H
  have e3 := (hF _ h3).1
  exact ⟨x1, ⟨by rw [e3]; exact y1, y2, fun j hj => tk_fr (by rw [(hF _ (h4 0)).1]) (by rw [(hF _ (h4 1)).1]) (by rw [(hF _ (h4 2)).1]) (by rw [(hF _ (h4 3)).1]) (y3 j hj), y4, y5⟩, x3, by rw [e3]; exact x4, by rw [e3]; exact x5, by rw [e3]; exact x6, tc_fr h1 h2 hF x7⟩
theorem pr_fr {M M' : Mm} {S : Rf → Bool} (h1 : S R8 = false) (h2 : S (19, 6, 0) = false) (hF : Fr S M M') (H : PR M tb n h) : PR M' tb n h := by
  obtain ⟨⟨x1, x2⟩, x3, x4, y1, y2, y3, y4⟩ := H
  have e := (hF _ h1).1
  exact ⟨⟨by rw [e]; exact x1, fun k a b => by rw [(hF _ h2).1]; exact x2 k a b⟩, by rw [e]; exact x3, by rw [e]; exact x4, by rw [e]; exact y1, by rw [e]; exact y2, by rw [e]; exact y3, fun z => by rw [e]; exact y4 z⟩
theorem er_fr {M M' : Mm} {S : Rf → Bool} {e p : Int32} (h1 : S R8 = false) (hF : Fr S M M') (H : ER M e p) : ER M' e p := by
  have e := (hF _ h1).1
  exact ⟨by rw [e]; exact H.1, H.2.1, by rw [e]; exact H.2.2⟩
theorem er_put {M : Mm} {e p v : Int32} {r : Rf} {j : Nat} (hr : r ≠ R8) (H : ER M e p) : ER (putI M r j v) e p := by
  unfold ER
  rw [putI_ne (Ne.symm hr)]
  exact H
/-- a number is taken -/
theorem st_num {L Hi : Nat} {l hi : Int32} (hl : l = nI L) (hh : hi = nI Hi) (hL : L ≤ 999) (hH : Hi ≤ 999) (HC : PC M1 tb n c h) (HR : PR M2 tb n h) :
    (∃ v M1' M2', L ≤ v ∧ v ≤ Hi ∧ fX7_takeNumber M1 l hi = some (nI v, M1') ∧ fX10_number M2 l hi = some (nI v, M2') ∧ PC M1' tb n c (h + 1) ∧ PR M2' tb n (h + 1) ∧ Fr sT M1 M1' ∧ F18 M2 M2') ∨
    (∃ e p x M1' M2', fX7_takeNumber M1 l hi = some (-1, M1') ∧ fX10_number M2 l hi = some (x, M2') ∧ EC M1' e p ∧ ER M2' e p ∧ Fr sT M1 M1' ∧ F18 M2 M2') := by
  obtain ⟨q1, q2⟩ := pr_looks hl hh hL hH HR
  rcases pc_num hl hh hL hH HC with ⟨k2, g1, g2, a1⟩ | ⟨e, M', a1, a2, a3, a4⟩
  · obtain ⟨b1, b2⟩ := q1 k2 g1 g2
    obtain ⟨M2', c1, c2, c3⟩ := pr_goes HC.1 HR
    obtain ⟨d1, d2⟩ := pc_adv HC (by omega)
    refine Or.inl ⟨_, _, M2', g1, g2, a1, ?_, d1, c2, d2, c3⟩
    rw [fX10_number, b1, Option.bind_some]
    dsimp only
    rw [c1, Option.bind_some, b2]
  · obtain ⟨M2', b1, b2, b3⟩ := q2 e a4
    refine Or.inr ⟨_, _, M2'.1 R8 16, M', M2', a1, ?_, a2, b2, a3, b3⟩
    rw [fX10_number, b1, Option.bind_some]
    dsimp only
    rw [er_goes b2, Option.bind_some]
theorem st_word {j : Nat} (hj : j < 22) (HC : PC M1 tb n c h) (HR : PR M2 tb n h) :
    (∃ M1' M2', wdS tb n (tE tb n h) (sby j) = true ∧ fX7_takeWord M1 j = some (1, M1') ∧ fX10_isWord M2 j = some 1 ∧ fX10_goesOn M2 = some M2' ∧ PC M1' tb n c (h + 1) ∧ PR M2' tb n (h + 1) ∧ Fr sT M1 M1' ∧ F18 M2 M2') ∨
    (∃ e p M1' M2', wdS tb n (tE tb n h) (sby j) = false ∧ fX7_takeWord M1 j = some (0, M1') ∧ fX10_isWord M2 j = some 0 ∧ fX10_must M2 0 1 = some (0, M2') ∧ EC M1' e p ∧ ER M2' e p ∧ Fr sT M1 M1' ∧ F18 M2 M2') := by
  have w1 := pc_word hj HC
  have w2 := pr_word hj HC.1 HR
  cases e : wdS tb n (tE tb n h) (sby j) with
  | true =>
    rw [e] at w1 w2
    obtain ⟨d1, d2⟩ := pc_adv HC (by rw [wdS_1 e]; decide)
    obtain ⟨M2', c1, c2, c3⟩ := pr_goes HC.1 HR
    refine Or.inl ⟨_, M2', rfl, ?_, w2, c1, d1, c2, d2, c3⟩
    rw [fX7_takeWord, w1, Option.bind_some, if_neg (by decide)]
  | false =>
    rw [e] at w1 w2
    obtain ⟨M1', a1, a2, a3⟩ := pc_fail (e := 1) HC
    obtain ⟨M2', b1, b2, b3⟩ := pr_no (e := 1) HR.2.1 (by decide)
    rw [HR.2.2.2.2.1] at b2
    refine Or.inr ⟨1, _, M1', M2', rfl, ?_, w2, b1, a2, b2, a3, b3⟩
    rw [fX7_takeWord, w1, Option.bind_some, if_pos (bI_0.mpr rfl), a1]
    exact bzr0 _
theorem st_sign {k : Nat} {L : Int32} (hL : L = nI k) (hk : k = 59 ∨ k = 40 ∨ k = 41) (HC : PC M1 tb n c h) (HR : PR M2 tb n h) :
    (∃ M1' M2', sgS tb n (tE tb n h) k = true ∧ fX7_takeSign M1 L = some (1, M1') ∧ fX10_takesSign M2 L = some M2' ∧ PC M1' tb n c (h + 1) ∧ PR M2' tb n (h + 1) ∧ Fr sT M1 M1' ∧ F18 M2 M2') ∨
    (∃ e p M1' M2', sgS tb n (tE tb n h) k = false ∧ fX7_takeSign M1 L = some (0, M1') ∧ fX10_takesSign M2 L = some M2' ∧ EC M1' e p ∧ ER M2' e p ∧ Fr sT M1 M1' ∧ F18 M2 M2') := by
  have w1 := pc_sign hL (by omega) HC
  have w2 := pr_sign hL hk HC.1 HR
  cases e : sgS tb n (tE tb n h) k with
  | true =>
    rw [e] at w1 w2
    have hk3 : tkK tb n (tE tb n h) = 3 := by
      unfold sgS at e
      simp only [decide_eq_true_eq] at e
      exact e.1
    obtain ⟨d1, d2⟩ := pc_adv HC (by rw [hk3]; decide)
    obtain ⟨M2', c1, c2, c3⟩ := pr_goes HC.1 HR
    refine Or.inl ⟨_, M2', rfl, ?_, ?_, d1, c2, d2, c3⟩
    · rw [fX7_takeSign, w1, Option.bind_some, if_neg (by decide)]
    · rw [fX10_takesSign, w2, Option.bind_some, show bI true = 1 from rfl, pr_ok HR.2.1, Option.bind_some]
      dsimp only
      rw [c1]
      rfl
  | false =>
    rw [e] at w1 w2
    obtain ⟨M1', a1, a2, a3⟩ := pc_fail (e := 1) HC
    obtain ⟨M2', b1, b2, b3⟩ := pr_no (e := 1) HR.2.1 (by decide)
    rw [HR.2.2.2.2.1] at b2
    refine Or.inr ⟨1, _, M1', M2', rfl, ?_, ?_, a2, b2, a3, b3⟩
    · rw [fX7_takeSign, w1, Option.bind_some, if_pos (bI_0.mpr rfl), a1]
      exact bzr0 _
    · rw [fX10_takesSign, w2, Option.bind_some, show bI false = 0 from rfl, b1, Option.bind_some]
      dsimp only
      rw [er_goes b2]
      rfl
end ST
/-- a box that is being read -/
def Jv (g : GF) (P : PF) (S T U A : Nat) : Prop := g 0 = nI S ∧ g 1 = nI U ∧ g 2 = nI A ∧ g 3 = nI T ∧ g 4 = nI 0 ∧ g 5 = nI 0 ∧ (4 ≤ S ∧ S ≤ 64) ∧ T ≤ 12 ∧ U ≤ 20 ∧ A ≤ 90 ∧ (∀ t, t < T → (0 ≤ g (16 + 6 * t) ∧ g (16 + 6 * t) ≤ 60) ∧ (-3 ≤ g (16 + 6 * t + 1) ∧ g (16 + 6 * t + 1) ≤ 3)) ∧ (∀ m t s, P m t s = true → m < 3 ∧ t < T ∧ s < S) ∧ ∀ k, 16 + 6 * T ≤ k → k < 88 → g k = 0
theorem jv_iv {g : GF} {P : PF} {S T U A : Nat} (h : Jv g P S T U A) (hT : 1 ≤ T) : Iv g P S T U A 0 0 := by
  obtain ⟨h0, h1, h2, h3, h4, h5, h6, h7, h8, h9, h10, h11, h12⟩ := h
  exact ⟨h0, h1, h2, h3, h4, h5, h6, ⟨hT, h7⟩, h8, h9, by decide, by omega, h10, h11⟩
def sS1 (r : Rf) : Bool := r == (3, 0, 0) || sBx 1 r
def sS2 (r : Rf) : Bool := r == R8 || r == NW
def FS (M M' : Mm) : Prop := Fr sS2 M M' ∧ ∀ j, j < 13 ∨ 18 < j → M'.1 R8 j = M.1 R8 j
theorem fs_rf {M : Mm} : FS M M := ⟨fr_rf, fun _ _ => rfl⟩
theorem fs_tr {M M1 M2 : Mm} (h : FS M M1) (h2 : FS M1 M2) : FS M M2 := ⟨fr_tr h.1 h2.1, fun k hk => (h2.2 k hk).trans (h.2 k hk)⟩
theorem fs_18 {M M1 : Mm} (h : F18 M M1) : FS M M1 := ⟨fr_mono (fun r hr => by unfold s8 at hr; unfold sS2; rw [hr]; rfl) h.1, h.2⟩
theorem fs_n {M M1 : Mm} (h : Fr sNW M M1) : FS M M1 := ⟨fr_mono (fun r hr => by unfold sNW at hr; unfold sS2; rw [hr]; cases (r == R8) <;> rfl) h, fun j _ => by rw [(h R8 rfl).1]⟩
theorem fs_p {M M1 : Mm} {j : Nat} {v : Int32} (h : FS M M1) : FS M (putI M1 NW j v) := fs_tr h (fs_n (fr_putI rfl))
theorem s1_T {M M1 : Mm} (h : Fr sT M M1) : Fr sS1 M M1 := fr_mono (fun r hr => by unfold sT at hr; unfold sS1; rw [hr]; rfl) h
theorem s1_B {M M1 : Mm} (h : Fr (sBx 1) M M1) : Fr sS1 M M1 := fr_mono (fun r hr => by unfold sS1; rw [hr]; cases (r == (3, 0, 0)) <;> rfl) h
/-- both parsers stand at token h; the box as read so far is (g, P) -/
def SS (M1 M2 : Mm) (tb : Nat → Nat) (n c h : Nat) (g : GF) (P : PF) (S T U A : Nat) : Prop := PC M1 tb n c h ∧ PR M2 tb n h ∧ BX M1 T 1 g P ∧ RX (M2.1 NW) g P ∧ Jv g P S T U A
section SU
variable {tb : Nat → Nat} {n c h : Nat} {M1 M2 : Mm}
theorem bx_T {M M' : Mm} {T : Nat} {g : GF} {P : PF} (hF : Fr sT M M') (H : BX M T 1 g P) : BX M' T 1 g P := bx_fr (fun r hr => by
  obtain ⟨a, b, d⟩ := r
  cases e : sT (a, b, d) with
  | false => rfl
  | true =>
    have : (a, b, d) = ((3, 0, 0) : Rf) := by simpa [sT] using e
    cases this
    cases hr) hF H
theorem rx_8 {M M' : Mm} {g : GF} {P : PF} (hF : F18 M M') (H : RX (M.1 NW) g P) : RX (M'.1 NW) g P := rx_fr (S := s8) rfl hF.1 H
theorem pc_B {M M' : Mm} (hF : Fr (sBx 1) M M') (H : PC M tb n c h) : PC M' tb n c h := pc_fr (S := sBx 1) rfl rfl rfl (fun _ => rfl) hF H
theorem pr_N {M M' : Mm} (hF : Fr sNW M M') (H : PR M tb n h) : PR M' tb n h := pr_fr (S := sNW) rfl rfl hF H
theorem st_head (HC : PC M1 tb n c h) (HR : PR M2 tb n h) (HZ : ∀ k, k < 280 → M2.1 NW k = 0) : ∃ b M1' M2', fX6_readHead M1 = some (b, M1') ∧
    (∀ F : Mm → Option Mm, ((fX10_isWord M2 1).bind fun q1 => (fX10_must M2 q1 (1 : Int32)).bind fun q3 => (fX10_goesOn q3.2).bind fun q5 => (fX10_number q5 (4 : Int32) (64 : Int32)).bind fun q7 => (fX10_number (putI q7.2 (19, 0, 0) 0 q7.1) (0 : Int32) (20 : Int32)).bind fun q9 => (fX10_number (putI q9.2 (19, 0, 0) 1 q9.1) (0 : Int32) (90 : Int32)).bind fun q11 => (fX10_takesSign (putI q11.2 (19, 0, 0) 2 q11.1) (59 : Int32)).bind F) = F M2') ∧
    ((b = 1 ∧ ∃ h' S U A, SS M1' M2' tb n c h' (gB S U A) (fun _ _ _ => false) S 0 U A) ∨ (b = 0 ∧ ∃ e p, EC M1' e p ∧ ER M2' e p)) ∧ Fr sS1 M1 M1' ∧ FS M2 M2' := by
  rcases st_word (j := 1) (by decide) HC HR with ⟨N1, N2, -, a1, a2, a3, a4, a5, a6, a7⟩ | ⟨e, p, N1, N2, -, a1, a2, a3, a4, a5, a6, a7⟩
  · rcases st_num (L := 4) (Hi := 64) (l := 4) (hi := 64) rfl rfl (by decide) (by decide) a4 a5 with ⟨S, O1, O2, s1, s2, b1, b2, b3, b4, b5, b6⟩ | ⟨e, p, x, O1, O2, b1, b2, b3, b4, b5, b6⟩
    · have b4' : PR (putI O2 (19, 0, 0) 0 (nI S)) tb n (h + 1 + 1) := pr_N (fr_putI rfl) b4
      rcases st_num (L := 0) (Hi := 20) (l := 0) (hi := 20) rfl rfl (by decide) (by decide) b3 b4' with ⟨U, Q1, Q2, u1, u2, c1, c2, c3, c4, c5, c6⟩ | ⟨e, p, x, Q1, Q2, c1, c2, c3, c4, c5, c6⟩
      · have c4' : PR (putI Q2 (19, 0, 0) 1 (nI U)) tb n (h + 1 + 1 + 1) := pr_N (fr_putI rfl) c4
        rcases st_num (L := 0) (Hi := 90) (l := 0) (hi := 90) rfl rfl (by decide) (by decide) c3 c4' with ⟨A, R1, R2, v1, v2, d1, d2, d3, d4, d5, d6⟩ | ⟨e, p, x, R1, R2, d1, d2, d3, d4, d5, d6⟩
        · obtain ⟨W1, f1, f2, f3⟩ := cl_begin (i := 1) (S := S) (U := U) (A := A) (M := R1)
          have d3' : PC W1 tb n c (h + 1 + 1 + 1 + 1) := pc_B f3 d3
          have d4' : PR (putI R2 (19, 0, 0) 2 (nI A)) tb n (h + 1 + 1 + 1 + 1) := pr_N (fr_putI rfl) d4
          have hF1 : Fr sS1 M1 W1 := fr_tr (fr_tr (fr_tr (fr_tr (s1_T a6) (s1_T b5)) (s1_T c5)) (s1_T d5)) (s1_B f3)
          have hF2 : FS M2 (putI R2 (19, 0, 0) 2 (nI A)) := fs_p (fs_tr (fs_p (fs_tr (fs_p (fs_tr (fs_18 a7) (fs_18 b6))) (fs_18 c6))) (fs_18 d6))
          have hv : ∀ k, k < 280 → (putI R2 (19, 0, 0) 2 (nI A)).1 NW k = gB S U A k := fun k hk => by
            rw [g_row, upd, (d6.1 (19, 0, 0) rfl).1, g_row, upd, (c6.1 (19, 0, 0) rfl).1, g_row, upd, (b6.1 (19, 0, 0) rfl).1, (a7.1 (19, 0, 0) rfl).1, HZ k hk, gB]
            by_cases k2 : k = 2
            · subst k2; rfl
            · rw [if_neg k2]
              by_cases k1 : k = 1
              · subst k1; rfl
              · rw [if_neg k1]
                by_cases k0 : k = 0
                · subst k0; rfl
                · rw [if_neg k0, if_neg k0, if_neg k1, if_neg k2]
          rcases st_sign (k := 59) (L := 59) rfl (Or.inl rfl) d3' d4' with ⟨X1, X2, -, g1, g2, g3, g4, g5, g6⟩ | ⟨e, p, X1, X2, -, g1, g2, g3, g4, g5, g6⟩
          · refine ⟨1, X1, X2, ?_, fun F => ?_, Or.inl ⟨rfl, _, S, U, A, g3, g4, bx_T g5 f2, rx_8 g6 ⟨fun k hk => hv k (by omega), fun m hm s hs t ht => ?_⟩, ⟨rfl, rfl, rfl, rfl, rfl, rfl, ⟨s1, s2⟩, by decide, u2, v2, fun t ht => by omega, fun m t s hp => (by cases hp), fun k h1 h2 => ?_⟩⟩, fr_tr hF1 (s1_T g5), fs_tr hF2 (fs_18 g6)⟩
            · rw [fX6_readHead, a1, Option.bind_some, if_neg one_ne, b1, Option.bind_some, if_neg (nI_m1 (by omega)), c1, Option.bind_some, if_neg (nI_m1 (by omega)), d1, Option.bind_some, if_neg (nI_m1 (by omega)), f1, Option.bind_some, g1]
              exact bzr1 _
            · rw [a2, Option.bind_some, pr_ok HR.2.1, Option.bind_some, a3, Option.bind_some, b2, Option.bind_some, c2, Option.bind_some, d2, Option.bind_some, g2, Option.bind_some]
            · rw [hv _ (by omega), gB, if_neg (by omega), if_neg (by omega), if_neg (by omega)]
              exact b_0 t
            · rw [gB, if_neg (by omega), if_neg (by omega), if_neg (by omega)]
          · refine ⟨0, X1, X2, ?_, fun F => ?_, Or.inr ⟨rfl, e, p, g3, g4⟩, fr_tr hF1 (s1_T g5), fs_tr hF2 (fs_18 g6)⟩
            · rw [fX6_readHead, a1, Option.bind_some, if_neg one_ne, b1, Option.bind_some, if_neg (nI_m1 (by omega)), c1, Option.bind_some, if_neg (nI_m1 (by omega)), d1, Option.bind_some, if_neg (nI_m1 (by omega)), f1, Option.bind_some, g1]
              exact bzr0 _
            · rw [a2, Option.bind_some, pr_ok HR.2.1, Option.bind_some, a3, Option.bind_some, b2, Option.bind_some, c2, Option.bind_some, d2, Option.bind_some, g2, Option.bind_some]
        · refine ⟨0, R1, putI R2 (19, 0, 0) 2 x, ?_, fun F => ?_, Or.inr ⟨rfl, e, p, d3, er_put (by decide) d4⟩, fr_tr (fr_tr (fr_tr (s1_T a6) (s1_T b5)) (s1_T c5)) (s1_T d5), fs_p (fs_tr (fs_p (fs_tr (fs_p (fs_tr (fs_18 a7) (fs_18 b6))) (fs_18 c6))) (fs_18 d6))⟩
          · rw [fX6_readHead, a1, Option.bind_some, if_neg one_ne, b1, Option.bind_some, if_neg (nI_m1 (by omega)), c1, Option.bind_some, if_neg (nI_m1 (by omega)), d1, Option.bind_some, if_pos rfl]
          · rw [a2, Option.bind_some, pr_ok HR.2.1, Option.bind_some, a3, Option.bind_some, b2, Option.bind_some, c2, Option.bind_some, d2, Option.bind_some, er_takes (er_put (by decide) d4), Option.bind_some]
      · refine ⟨0, Q1, putI (putI Q2 (19, 0, 0) 1 x) (19, 0, 0) 2 ((putI Q2 (19, 0, 0) 1 x).1 R8 16), ?_, fun F => ?_, Or.inr ⟨rfl, e, p, c3, er_put (by decide) (er_put (by decide) c4)⟩, fr_tr (fr_tr (s1_T a6) (s1_T b5)) (s1_T c5), fs_p (fs_p (fs_tr (fs_p (fs_tr (fs_18 a7) (fs_18 b6))) (fs_18 c6)))⟩
        · rw [fX6_readHead, a1, Option.bind_some, if_neg one_ne, b1, Option.bind_some, if_neg (nI_m1 (by omega)), c1, Option.bind_some, if_pos rfl]
        · rw [a2, Option.bind_some, pr_ok HR.2.1, Option.bind_some, a3, Option.bind_some, b2, Option.bind_some, c2, Option.bind_some, er_num (er_put (by decide) c4), Option.bind_some, er_takes (er_put (by decide) (er_put (by decide) c4)), Option.bind_some]
    · have b4a := er_put (r := NW) (j := 0) (v := x) (by decide) b4
      have b4b := er_put (r := NW) (j := 1) (v := (putI O2 (19, 0, 0) 0 x).1 R8 16) (by decide) b4a
      refine ⟨0, O1, _, ?_, fun F => ?_, Or.inr ⟨rfl, e, p, b3, er_put (r := NW) (j := 2) (v := (putI (putI O2 (19, 0, 0) 0 x) (19, 0, 0) 1 ((putI O2 (19, 0, 0) 0 x).1 R8 16)).1 R8 16) (by decide) b4b⟩, fr_tr (s1_T a6) (s1_T b5), fs_p (fs_p (fs_p (fs_tr (fs_18 a7) (fs_18 b6))))⟩
      · rw [fX6_readHead, a1, Option.bind_some, if_neg one_ne, b1, Option.bind_some, if_pos rfl]
      · rw [a2, Option.bind_some, pr_ok HR.2.1, Option.bind_some, a3, Option.bind_some, b2, Option.bind_some, er_num b4a, Option.bind_some, er_num b4b, Option.bind_some, er_takes (er_put (by decide) b4b), Option.bind_some]
  · have q0 := er_num (x := 4) (y := 64) a5
    have q1 := er_put (r := NW) (j := 0) (v := N2.1 R8 16) (by decide) a5
    have q2 := er_put (r := NW) (j := 1) (v := (putI N2 (19, 0, 0) 0 (N2.1 R8 16)).1 R8 16) (by decide) q1
    refine ⟨0, N1, _, ?_, fun F => ?_, Or.inr ⟨rfl, e, p, a4, er_put (r := NW) (j := 2) (v := (putI (putI N2 (19, 0, 0) 0 (N2.1 R8 16)) (19, 0, 0) 1 ((putI N2 (19, 0, 0) 0 (N2.1 R8 16)).1 R8 16)).1 R8 16) (by decide) q2⟩, s1_T a6, fs_p (fs_p (fs_p (fs_18 a7)))⟩
    · rw [fX6_readHead, a1, Option.bind_some, if_pos rfl]
    · rw [a2, Option.bind_some, a3, Option.bind_some]
      dsimp only
      rw [er_goes a5, Option.bind_some, q0, Option.bind_some, er_num q1, Option.bind_some, er_num q2, Option.bind_some, er_takes (er_put (by decide) q2), Option.bind_some]
end SU
