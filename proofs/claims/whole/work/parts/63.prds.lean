/-! the class has scanned the text; the reference reads a token -/
def TKs (M : Mm) (tb : Nat → Nat) (n c : Nat) : Prop := M.1 (3, 0, 0) 5 = nI (c + 1) ∧ c ≤ 800 ∧ (∀ j, j ≤ c → tkOK M tb n j) ∧ (∀ j, j < c → tkK tb n (tE tb n j) ≠ 0) ∧ tkK tb n (tE tb n c) = 0
theorem cl_scan {M : Mm} {tb : Nat → Nat} {n : Nat} (ht : TC M tb n) (hv : TV tb n) : ∃ M' c, fX7_scan M = some M' ∧ TKs M' tb n c ∧ M'.1 (3, 0, 0) 6 = nI 0 ∧ M'.1 (3, 0, 0) 7 = 0 ∧ M'.1 (3, 0, 0) 8 = -1 ∧ TC M' tb n ∧ Fr sTk M M' := by
  have hn := hv.1
  have hF0 : Fr sTk M (putI (putI (putI (putI M (3, 0, 0) 7 (0 : Int32)) (3, 0, 0) 8 (-1 : Int32)) (3, 0, 0) 5 (0 : Int32)) (3, 0, 0) 6 (0 : Int32)) := fr_pI (fr_pI (fr_pI (fr_putI rfl) rfl) rfl) rfl
  have hg : ∀ j, (putI (putI (putI (putI M (3, 0, 0) 7 (0 : Int32)) (3, 0, 0) 8 (-1 : Int32)) (3, 0, 0) 5 (0 : Int32)) (3, 0, 0) 6 (0 : Int32)).1 (3, 0, 0) j = if j = 6 then 0 else if j = 5 then 0 else if j = 8 then -1 else if j = 7 then 0 else M.1 (3, 0, 0) j := fun j => by
    rw [g_row, upd, g_row, upd, g_row, upd, g_row, upd]
  obtain ⟨M1, c, q', a1, a2, a3⟩ := cl_scanL hv (K := fun w23 w24 M25 => (fX7_putToken M25 (0 : Int32) (M25.1 (1, 0, 0) 1)).bind fun q26 => some q26) n 0 _ 4 NF (by omega) (by unfold NF; omega) (tc_fr rfl rfl hF0 ht) (Or.inl ⟨⟨0, by rw [hg]; rfl, Nat.le_refl _, Nat.zero_le _, fun k h1 h2 => by omega, fun j hj => by omega⟩, Or.inl rfl⟩)
  obtain ⟨a2, a4⟩ := a2
  obtain ⟨x1, x2, x3, x4, x5⟩ := a1
  have ht1 := tc_fr rfl rfl a2 (tc_fr rfl rfl hF0 ht)
  have hB : tkB tb n (tE tb n c) = n := rn_eq x3 (Nat.le_refl _) x4 (Or.inl rfl)
  have hK : tkK tb n (tE tb n c) = 0 := by rw [tkK, hB, if_pos (Nat.le_refl _)]
  have hE : tE tb n (c + 1) = n := by rw [tE, tkE, hB, if_pos (Nat.le_refl _)]
  obtain ⟨p0, p1, p2, p3, p5⟩ := pTok_g (M := M1) (c := c) (k := 0) (s := nI n)
  refine ⟨pTok M1 c 0 (nI n), c, ?_, ⟨p5, by omega, fun j hj => ?_, fun j hj => (x5 j hj).2, hK⟩, ?_, ?_, ?_, tc_fr rfl rfl pTok_fr ht1, fr_tr (fr_tr hF0 a2) pTok_fr⟩
  · refine (show fX7_scan M = _ from a3).trans ?_
    rw [ht1.1, cl_pTok x1 (by omega)]
    rfl
  · by_cases e : j = c
    · subst e
      exact ⟨by rw [hK]; exact p0, by rw [hB]; exact p1, by rw [hE]; exact p2, fun c => by omega⟩
    · exact pTok_old (by omega) (x5 j (by omega)).1
  · rw [pTok, g_row, upd_o (by decide), putI_ne (by decide), putI_ne (by decide), putI_ne (by decide), putI_ne (by decide), a4 6 (by decide), hg]; rfl
  · rw [pTok, g_row, upd_o (by decide), putI_ne (by decide), putI_ne (by decide), putI_ne (by decide), putI_ne (by decide), a4 7 (by decide), hg]; rfl
  · rw [pTok, g_row, upd_o (by decide), putI_ne (by decide), putI_ne (by decide), putI_ne (by decide), putI_ne (by decide), a4 8 (by decide), hg]; rfl
/-! the reference -/
def s8 (r : Rf) : Bool := r == R8
theorem tr_8 {M : Mm} {tb : Nat → Nat} {n j : Nat} {v : Int32} (hj : j ≠ 10) (h : TR M tb n) : TR (putI M R8 j v) tb n := ⟨by rw [g_row, upd_o (Ne.symm hj)]; exact h.1, fun k h1 h2 => by rw [putI_ne (by decide)]; exact h.2 k h1 h2⟩
def rkS (tb : Nat → Nat) (n p : Nat) : Nat := if tkK tb n p = 3 then (if tb (tkB tb n p) = 59 ∨ tb (tkB tb n p) = 40 ∨ tb (tkB tb n p) = 41 then 3 else 4) else tkK tb n p
/-- the reference has read the token from p on -/
def RDp (M : Mm) (tb : Nat → Nat) (n p : Nat) : Prop := M.1 R8 13 = nI (tkE tb n p) ∧ M.1 R8 14 = nI (tkB tb n p) ∧ M.1 R8 15 = nI (rkS tb n p) ∧ (tkK tb n p = 2 → M.1 R8 16 = nI (wS 10000 tb (tkB tb n p) (tkE tb n p - tkB tb n p)))
def F13 (M M' : Mm) : Prop := Fr s8 M M' ∧ ∀ j, j < 13 ∨ 16 < j → M'.1 R8 j = M.1 R8 j
theorem f13_rf {M : Mm} : F13 M M := ⟨fr_rf, fun _ _ => rfl⟩
theorem f13_p {M M1 : Mm} {j : Nat} {v : Int32} (h : F13 M M1) (hj : 13 ≤ j ∧ j ≤ 16) : F13 M (putI M1 R8 j v) := ⟨fr_pI h.1 rfl, fun k hk => by rw [g_row, upd_o (by omega)]; exact h.2 k hk⟩
theorem f13_tr {M M1 M2 : Mm} (h : F13 M M1) (h2 : F13 M1 M2) : F13 M M2 := ⟨fr_tr h.1 h2.1, fun k hk => (h2.2 k hk).trans (h.2 k hk)⟩
theorem f13_TR {M M1 : Mm} {tb : Nat → Nat} {n : Nat} (h : F13 M M1) (ht : TR M tb n) : TR M1 tb n := ⟨by rw [h.2 10 (by decide)]; exact ht.1, fun k h1 h2 => by rw [(h.1 (19, 6, 0) rfl).1]; exact ht.2 k h1 h2⟩
theorem kN_4 {b : Nat} : kN b = 4 ↔ (b = 32 ∨ b = 10) := by
  unfold kN
  constructor
  · intro h
    split at h
    · assumption
    · split at h
      · omega
      · split at h <;> omega
  · intro h
    rw [if_pos h]
theorem kN_1 {b : Nat} : kN b = 1 ↔ (97 ≤ b ∧ b ≤ 122) := by
  unfold kN
  constructor
  · intro h
    split at h
    · omega
    · split at h
      · assumption
      · split at h <;> omega
  · intro h
    rw [if_neg (by omega), if_pos h]
theorem kN_2 {b : Nat} : kN b = 2 ↔ (48 ≤ b ∧ b ≤ 57) := by
  constructor
  · exact dgt
  · intro h
    unfold kN
    rw [if_neg (by omega), if_neg (by omega), if_pos h]
theorem rf_in {M : Mm} {a b c : Nat} (ha : a < 2 ^ 31) (hb : b < 2 ^ 31) (hc : c < 2 ^ 31) : fX10_in M (nI a) (nI b) (nI c) = bI (decide (b ≤ a ∧ a ≤ c)) := by
  rw [fX10_in]
  by_cases h1 : a < b
  · rw [if_pos (nI_lt h1 hb), decide_eq_false (by omega)]; rfl
  · rw [if_neg (nI_nlt (by omega) ha)]
    by_cases h2 : c < a
    · rw [if_pos (nI_lt h2 ha), decide_eq_false (by omega)]; rfl
    · rw [if_neg (nI_nlt (by omega) hc), decide_eq_true (by omega)]; rfl
theorem by_ne {b c : Nat} {L : Int32} (hb : b < 256) (hc : c < 256) (hL : L = nI c) (h : b ≠ c) : ¬ nI b = L := by
  subst hL
  exact fun e => h ((nI_eq (by omega) (by omega)).mp e)
section RDS
variable {tb : Nat → Nat} {n : Nat}
theorem rf_skip (hv : TV tb n) {K : Mm → Option Mm} : ∀ (d i : Nat) (M : Mm) (f : Nat), i + d = n → d < f → TR M tb n → M.1 R8 13 = nI i → ∃ M', M'.1 R8 13 = nI (rn tb n 4 i) ∧ F13 M M' ∧ fX10_reads_L0 K f M = K M' := by
  have hn := hv.1
  intro d
  induction d with
  | zero =>
    intro i M f hi hf ht h
    have e : i = n := by omega
    subst e
    obtain ⟨f, rfl⟩ : ∃ q, f = q + 1 := ⟨f - 1, by omega⟩
    refine ⟨M, by rw [h, rn_eq (Nat.le_refl _) (Nat.le_refl _) (fun k a b => by omega) (Or.inl rfl)], f13_rf, ?_⟩
    rw [fX10_reads_L0, h, rf_seen_o ht (Nat.le_refl _) (by omega), Option.bind_some, Option.bind_some, if_neg (by decide), if_neg (by decide)]
  | succ d ih =>
    intro i M f hi hf ht h
    obtain ⟨f, rfl⟩ : ∃ q, f = q + 1 := ⟨f - 1, by omega⟩
    have hb := hv.2 i (by omega)
    rw [fX10_reads_L0, h, rf_seen ht hn (by omega), Option.bind_some, Option.bind_some, ← nI_succ]
    have go : kN (tb i) = 4 → ∃ M', M'.1 R8 13 = nI (rn tb n 4 i) ∧ F13 M M' ∧ fX10_reads_L0 K f (putI M (18, 0, 0) 13 (nI (i + 1))) = K M' := by
      intro k4
      obtain ⟨M', a1, a2, a3⟩ := ih (i + 1) (putI M (18, 0, 0) 13 (nI (i + 1))) f (by omega) (by omega) (tr_8 (by decide) ht) (by rw [g_row, upd_s])
      refine ⟨M', ?_, f13_tr (f13_p f13_rf (by decide)) a2, a3⟩
      rw [a1]
      have w1 := rn_ge (tb := tb) (n := n) (q := 4) (p := i + 1)
      rw [rn_eq (tb := tb) (n := n) (q := 4) (p := i) (i := rn tb n 4 (i + 1)) (by omega) (rn_le (by omega)) (fun k a b => by
        by_cases e : k = i
        · rw [e]; exact k4
        · exact rn_in (by omega) (show i + 1 ≤ k by omega) b) (rn_at (by omega))]
    by_cases c1 : tb i = 32
    · rw [if_pos (by rw [c1]; rfl)]
      exact go (kN_4.mpr (Or.inl c1))
    · rw [if_neg (by_ne (c := 32) (L := 32) hb.2 (by decide) rfl c1)]
      by_cases c2 : tb i = 10
      · rw [if_pos (by rw [c2]; rfl)]
        exact go (kN_4.mpr (Or.inr c2))
      · rw [if_neg (by_ne (c := 10) (L := 10) hb.2 (by decide) rfl c2)]
        exact ⟨M, by rw [h, rn_eq (Nat.le_refl _) (by omega) (fun k a b => by omega) (Or.inr (fun c => by rcases kN_4.mp c with e | e <;> omega))], f13_rf, rfl⟩
theorem rf_word (hv : TV tb n) {K : Mm → Option Mm} : ∀ (d i : Nat) (M : Mm) (f : Nat), i + d = n → d < f → TR M tb n → M.1 R8 13 = nI i → ∃ M', M'.1 R8 13 = nI (rn tb n 1 i) ∧ (F13 M M' ∧ ∀ j, j ≠ 13 → M'.1 R8 j = M.1 R8 j) ∧ fX10_reads_L85 K f M = K M' := by
  have hn := hv.1
  intro d
  induction d with
  | zero =>
    intro i M f hi hf ht h
    have e : i = n := by omega
    subst e
    obtain ⟨f, rfl⟩ : ∃ q, f = q + 1 := ⟨f - 1, by omega⟩
    refine ⟨M, by rw [h, rn_eq (Nat.le_refl _) (Nat.le_refl _) (fun k a b => by omega) (Or.inl rfl)], ⟨f13_rf, fun _ _ => rfl⟩, ?_⟩
    rw [fX10_reads_L85, h, rf_seen_o ht (Nat.le_refl _) (by omega), Option.bind_some, if_pos (show fX10_in M (-1) 97 122 = 0 from by rw [fX10_in, if_pos (by decide)])]
  | succ d ih =>
    intro i M f hi hf ht h
    obtain ⟨f, rfl⟩ : ∃ q, f = q + 1 := ⟨f - 1, by omega⟩
    have hb := hv.2 i (by omega)
    rw [fX10_reads_L85, h, rf_seen ht hn (by omega), Option.bind_some, ← nI_succ, show fX10_in M (nI (tb i)) 97 122 = bI (decide (97 ≤ tb i ∧ tb i ≤ 122)) from rf_in (b := 97) (c := 122) (by omega) (by decide) (by decide)]
    by_cases c : 97 ≤ tb i ∧ tb i ≤ 122
    · rw [decide_eq_true c, if_neg (by decide)]
      obtain ⟨M', a1, ⟨a2, a4⟩, a3⟩ := ih (i + 1) (putI M (18, 0, 0) 13 (nI (i + 1))) f (by omega) (by omega) (tr_8 (by decide) ht) (by rw [g_row, upd_s])
      refine ⟨M', ?_, ⟨f13_tr (f13_p f13_rf (by decide)) a2, fun j hj => by rw [a4 j hj, g_row, upd_o hj]⟩, a3⟩
      rw [a1]
      have w1 := rn_ge (tb := tb) (n := n) (q := 1) (p := i + 1)
      rw [rn_eq (tb := tb) (n := n) (q := 1) (p := i) (i := rn tb n 1 (i + 1)) (by omega) (rn_le (by omega)) (fun k a b => by
        by_cases e : k = i
        · rw [e]; exact kN_1.mpr c
        · exact rn_in (by omega) (show i + 1 ≤ k by omega) b) (rn_at (by omega))]
    · rw [decide_eq_false c, if_pos (bI_0.mpr rfl)]
      exact ⟨M, by rw [h, rn_eq (Nat.le_refl _) (by omega) (fun k a b => by omega) (Or.inr (fun e => c (kN_1.mp e)))], ⟨f13_rf, fun _ _ => rfl⟩, rfl⟩
theorem rf_num (hv : TV tb n) {b : Nat} {K : Mm → Option Mm} : ∀ (d i : Nat) (M : Mm) (f : Nat), i + d = n → d < f → b ≤ i → TR M tb n → M.1 R8 13 = nI i → M.1 R8 16 = nI (wS 10000 tb b (i - b)) → ∃ M', M'.1 R8 13 = nI (rn tb n 2 i) ∧ M'.1 R8 16 = nI (wS 10000 tb b (rn tb n 2 i - b)) ∧ (F13 M M' ∧ ∀ j, j ≠ 13 → j ≠ 16 → M'.1 R8 j = M.1 R8 j) ∧ fX10_reads_L137 K f M = K M' := by
  have hn := hv.1
  intro d
  induction d with
  | zero =>
    intro i M f hi hf hbi ht h h16
    have e : i = n := by omega
    subst e
    obtain ⟨f, rfl⟩ : ∃ q, f = q + 1 := ⟨f - 1, by omega⟩
    have er : rn tb i 2 i = i := rn_eq (Nat.le_refl _) (Nat.le_refl _) (fun k a b => by omega) (Or.inl rfl)
    refine ⟨M, by rw [h, er], by rw [h16, er], ⟨f13_rf, fun _ _ _ => rfl⟩, ?_⟩
    rw [fX10_reads_L137, h, rf_seen_o ht (Nat.le_refl _) (by omega), Option.bind_some, if_pos (show fX10_in M (-1) 48 57 = 0 from by rw [fX10_in, if_pos (by decide)])]
  | succ d ih =>
    intro i M f hi hf hbi ht h h16
    obtain ⟨f, rfl⟩ : ∃ q, f = q + 1 := ⟨f - 1, by omega⟩
    have hb := hv.2 i (by omega)
    rw [fX10_reads_L137, h, rf_seen ht hn (by omega), Option.bind_some, Option.bind_some, ← nI_succ, show fX10_in M (nI (tb i)) 48 57 = bI (decide (48 ≤ tb i ∧ tb i ≤ 57)) from rf_in (b := 48) (c := 57) (by omega) (by decide) (by decide)]
    by_cases c : 48 ≤ tb i ∧ tb i ≤ 57
    · rw [decide_eq_true c, if_neg (by decide)]
      have ev : fJ9_min_7cf53 M 10000 (((10 * M.1 (18, 0, 0) 16) + nI (tb i)) - 48) = nI (wS 10000 tb b (i + 1 - b)) := by
        rw [h16, Int32.mul_comm, show i + 1 - b = (i - b) + 1 by omega, wS, show b + (i - b) = i by omega]
        exact wI (cap := 10000) (Nat.le_trans (wS_le _) (by decide)) (by decide) c
      rw [ev]
      obtain ⟨M', a1, a5, ⟨a2, a4⟩, a3⟩ := ih (i + 1) (putI (putI M (18, 0, 0) 16 (nI (wS 10000 tb b (i + 1 - b)))) (18, 0, 0) 13 (nI (i + 1))) f (by omega) (by omega) (by omega) (tr_8 (by decide) (tr_8 (by decide) ht)) (by rw [g_row, upd_s]) (by rw [g_row, upd_o (by decide), g_row, upd_s])
      have w1 := rn_ge (tb := tb) (n := n) (q := 2) (p := i + 1)
      have er : rn tb n 2 i = rn tb n 2 (i + 1) := rn_eq (by omega) (rn_le (by omega)) (fun k a b => by
        by_cases e : k = i
        · rw [e]; exact kN_2.mpr c
        · exact rn_in (by omega) (show i + 1 ≤ k by omega) b) (rn_at (by omega))
      exact ⟨M', by rw [a1, er], by rw [a5, er], ⟨f13_tr (f13_p (f13_p f13_rf (by decide)) (by decide)) a2, fun j hj hk => by rw [a4 j hj hk, g_row, upd_o hj, g_row, upd_o hk]⟩, a3⟩
    · rw [decide_eq_false c, if_pos (bI_0.mpr rfl)]
      have er : rn tb n 2 i = i := rn_eq (Nat.le_refl _) (by omega) (fun k a b => by omega) (Or.inr (fun e => c (kN_2.mp e)))
      exact ⟨M, by rw [h, er], by rw [h16, er], ⟨f13_rf, fun _ _ _ => rfl⟩, rfl⟩
/-- the reference reads the next token -/
theorem rf_reads {M : Mm} {p : Nat} (hv : TV tb n) (ht : TR M tb n) (hp : p ≤ n) (h : M.1 R8 13 = nI p) : ∃ M', fX10_reads M = some M' ∧ RDp M' tb n p ∧ F13 M M' := by
  have hn := hv.1
  rw [fX10_reads]
  obtain ⟨M1, a1, a2, a3⟩ := rf_skip hv (K := fun M7 => (fX10_seen (putI M7 (18, 0, 0) 14 (M7.1 (18, 0, 0) 13)) (M7.1 (18, 0, 0) 13)).bind fun q8 => if q8 = (-1 : Int32) then some (putI (putI M7 (18, 0, 0) 14 (M7.1 (18, 0, 0) 13)) (18, 0, 0) 15 (0 : Int32)) else if (fX10_in (putI M7 (18, 0, 0) 14 (M7.1 (18, 0, 0) 13)) q8 (97 : Int32) (122 : Int32)) = 0 then (if (fX10_in (putI M7 (18, 0, 0) 14 (M7.1 (18, 0, 0) 13)) q8 (48 : Int32) (57 : Int32)) = 0 then (if q8 = (59 : Int32) then some (putI (putI (putI M7 (18, 0, 0) 14 (M7.1 (18, 0, 0) 13)) (18, 0, 0) 15 (3 : Int32)) (18, 0, 0) 13 ((M7.1 (18, 0, 0) 13) + (1 : Int32))) else if q8 = (40 : Int32) then some (putI (putI (putI M7 (18, 0, 0) 14 (M7.1 (18, 0, 0) 13)) (18, 0, 0) 15 (3 : Int32)) (18, 0, 0) 13 ((M7.1 (18, 0, 0) 13) + (1 : Int32))) else if q8 = (41 : Int32) then some (putI (putI (putI M7 (18, 0, 0) 14 (M7.1 (18, 0, 0) 13)) (18, 0, 0) 15 (3 : Int32)) (18, 0, 0) 13 ((M7.1 (18, 0, 0) 13) + (1 : Int32))) else some (putI (putI (putI M7 (18, 0, 0) 14 (M7.1 (18, 0, 0) 13)) (18, 0, 0) 15 (4 : Int32)) (18, 0, 0) 13 ((M7.1 (18, 0, 0) 13) + (1 : Int32)))) else fX10_reads_L137 (fun M21 => some M21) NF (putI (putI (putI M7 (18, 0, 0) 14 (M7.1 (18, 0, 0) 13)) (18, 0, 0) 15 (2 : Int32)) (18, 0, 0) 16 (0 : Int32))) else fX10_reads_L85 (fun M25 => some M25) NF (putI (putI M7 (18, 0, 0) 14 (M7.1 (18, 0, 0) 13)) (18, 0, 0) 15 (1 : Int32))) (n - p) p M NF (by omega) (by unfold NF; omega) ht h
  rw [a3]
  have ht1 := f13_TR a2 ht
  have eB : rn tb n 4 p = tkB tb n p := rfl
  rw [eB] at a1
  have hB := tkB_le (tb := tb) hp
  rw [a1]
  have hFb : F13 M (putI M1 R8 14 (nI (tkB tb n p))) := f13_p a2 (by decide)
  have ht2 : TR (putI M1 (18, 0, 0) 14 (nI (tkB tb n p))) tb n := tr_8 (by decide) ht1
  by_cases c0 : n ≤ tkB tb n p
  · rw [rf_seen_o ht2 c0 (by omega), Option.bind_some, if_pos rfl]
    have hK : tkK tb n p = 0 := by rw [tkK, if_pos c0]
    have hE : tkE tb n p = tkB tb n p := by rw [tkE, if_pos c0]
    refine ⟨_, rfl, ⟨?_, ?_, ?_, fun c => by omega⟩, f13_p hFb (by decide)⟩
    · rw [g_row, upd_o (by decide), g_row, upd_o (by decide), a1, hE]
    · rw [g_row, upd_o (by decide), g_row, upd_s]
    · rw [g_row, upd_s, rkS, if_neg (by omega), hK]; rfl
  · have hlt : tkB tb n p < n := by omega
    have hb := hv.2 _ hlt
    have hK : tkK tb n p = kN (tb (tkB tb n p)) := by rw [tkK, if_neg c0]
    rw [rf_seen ht2 hn hlt, Option.bind_some, if_neg (by
      intro c
      have : (nI (tb (tkB tb n p))).toInt = (-1 : Int32).toInt := by rw [c]
      rw [nI_toInt (by omega), show (-1 : Int32).toInt = -1 by decide] at this
      omega)]
    rw [show fX10_in (putI M1 (18, 0, 0) 14 (nI (tkB tb n p))) (nI (tb (tkB tb n p))) 97 122 = bI (decide (97 ≤ tb (tkB tb n p) ∧ tb (tkB tb n p) ≤ 122)) from rf_in (b := 97) (c := 122) (by omega) (by decide) (by decide)]
    rw [show fX10_in (putI M1 (18, 0, 0) 14 (nI (tkB tb n p))) (nI (tb (tkB tb n p))) 48 57 = bI (decide (48 ≤ tb (tkB tb n p) ∧ tb (tkB tb n p) ≤ 57)) from rf_in (b := 48) (c := 57) (by omega) (by decide) (by decide)]
    by_cases c1 : 97 ≤ tb (tkB tb n p) ∧ tb (tkB tb n p) ≤ 122
    · rw [decide_eq_true c1, if_neg (by decide)]
      have k1 := kN_1.mpr c1
      have hE : tkE tb n p = rn tb n 1 (tkB tb n p) := by rw [tkE, if_neg c0, if_neg (by omega), k1]
      obtain ⟨M2, b1, ⟨b2, b4⟩, b3⟩ := rf_word hv (K := fun M25 => some M25) (n - tkB tb n p) (tkB tb n p) (putI (putI M1 (18, 0, 0) 14 (nI (tkB tb n p))) (18, 0, 0) 15 1) NF (by omega) (by unfold NF; omega) (tr_8 (by decide) ht2) (by rw [g_row, upd_o (by decide), g_row, upd_o (by decide), a1])
      refine ⟨M2, b3, ⟨by rw [b1, hE], ?_, ?_, fun c => by omega⟩, f13_tr (f13_p hFb (by decide)) b2⟩
      · rw [b4 14 (by decide), g_row, upd_o (by decide), g_row, upd_s]
      · rw [b4 15 (by decide), g_row, upd_s, rkS, if_neg (by omega), hK, k1]; rfl
    · rw [decide_eq_false c1, if_pos (bI_0.mpr rfl)]
      have n1 : kN (tb (tkB tb n p)) ≠ 1 := fun c => c1 (kN_1.mp c)
      by_cases c2 : 48 ≤ tb (tkB tb n p) ∧ tb (tkB tb n p) ≤ 57
      · rw [decide_eq_true c2, if_neg (by decide)]
        have k2 := kN_2.mpr c2
        have hE : tkE tb n p = rn tb n 2 (tkB tb n p) := by rw [tkE, if_neg c0, if_neg (by omega), k2]
        obtain ⟨M2, b1, b5, ⟨b2, b4⟩, b3⟩ := rf_num hv (b := tkB tb n p) (K := fun M25 => some M25) (n - tkB tb n p) (tkB tb n p) (putI (putI (putI M1 (18, 0, 0) 14 (nI (tkB tb n p))) (18, 0, 0) 15 2) (18, 0, 0) 16 0) NF (by omega) (by unfold NF; omega) (Nat.le_refl _) (tr_8 (by decide) (tr_8 (by decide) ht2)) (by rw [g_row, upd_o (by decide), g_row, upd_o (by decide), g_row, upd_o (by decide), a1]) (by rw [g_row, upd_s, Nat.sub_self]; rfl)
        refine ⟨M2, b3, ⟨by rw [b1, hE], ?_, ?_, fun c => by rw [b5, hE]⟩, f13_tr (f13_p (f13_p hFb (by decide)) (by decide)) b2⟩
        · rw [b4 14 (by decide) (by decide), g_row, upd_o (by decide), g_row, upd_o (by decide), g_row, upd_s]
        · rw [b4 15 (by decide) (by decide), g_row, upd_o (by decide), g_row, upd_s, rkS, if_neg (by omega), hK, k2]; rfl
      · rw [decide_eq_false c2, if_pos (bI_0.mpr rfl)]
        have n2 : kN (tb (tkB tb n p)) ≠ 2 := fun c => c2 (kN_2.mp c)
        have n4 := tkB_ns (tb := tb) hp hlt
        have k3 : kN (tb (tkB tb n p)) = 3 := by
          rcases kN_c (tb (tkB tb n p)) with e | e | e | e
          · exact absurd e n1
          · exact absurd e n2
          · exact e
          · exact absurd e n4
        have hE : tkE tb n p = tkB tb n p + 1 := by rw [tkE, if_neg c0, if_pos k3]
        have fin : ∀ v : Nat, v = rkS tb n p → ∃ M', some (putI (putI (putI M1 (18, 0, 0) 14 (nI (tkB tb n p))) (18, 0, 0) 15 (nI v)) (18, 0, 0) 13 (nI (tkB tb n p) + 1)) = some M' ∧ RDp M' tb n p ∧ F13 M M' := by
          intro v hv
          refine ⟨_, rfl, ⟨?_, ?_, ?_, fun c => by omega⟩, f13_p (f13_p hFb (by decide)) (by decide)⟩
          · rw [g_row, upd_s, hE, nI_succ]
          · rw [g_row, upd_o (by decide), g_row, upd_o (by decide), g_row, upd_s]
          · rw [g_row, upd_o (by decide), g_row, upd_s, hv]
        have r3 : ∀ c : Prop, rkS tb n p = if tb (tkB tb n p) = 59 ∨ tb (tkB tb n p) = 40 ∨ tb (tkB tb n p) = 41 then 3 else 4 := fun _ => by rw [rkS, if_pos (by omega)]
        by_cases d1 : tb (tkB tb n p) = 59
        · rw [if_pos (by rw [d1]; rfl)]
          exact fin 3 (by rw [r3 True, if_pos (Or.inl d1)])
        · rw [if_neg (by_ne (c := 59) (L := 59) hb.2 (by decide) rfl d1)]
          by_cases d2 : tb (tkB tb n p) = 40
          · rw [if_pos (by rw [d2]; rfl)]
            exact fin 3 (by rw [r3 True, if_pos (Or.inr (Or.inl d2))])
          · rw [if_neg (by_ne (c := 40) (L := 40) hb.2 (by decide) rfl d2)]
            by_cases d3 : tb (tkB tb n p) = 41
            · rw [if_pos (by rw [d3]; rfl)]
              exact fin 3 (by rw [r3 True, if_pos (Or.inr (Or.inr d3))])
            · rw [if_neg (by_ne (c := 41) (L := 41) hb.2 (by decide) rfl d3)]
              exact fin 4 (by rw [r3 True, if_neg (by omega)])
end RDS
