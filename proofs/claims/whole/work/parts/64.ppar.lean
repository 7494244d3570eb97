/-! the parsers' first steps, side by side -/
def sT (r : Rf) : Bool := r == (3, 0, 0)
/-- the class's parser stands at token h of c -/
def PC (M : Mm) (tb : Nat → Nat) (n c h : Nat) : Prop := TV tb n ∧ TKs M tb n c ∧ h ≤ c ∧ M.1 (3, 0, 0) 6 = nI h ∧ M.1 (3, 0, 0) 7 = 0 ∧ M.1 (3, 0, 0) 8 = -1 ∧ TC M tb n
/-- the reference's parser stands at token h -/
def PR (M : Mm) (tb : Nat → Nat) (n h : Nat) : Prop := TR M tb n ∧ M.1 R8 17 = 0 ∧ M.1 R8 18 = -1 ∧ RDp M tb n (tE tb n h)
def EC (M : Mm) (e p : Int32) : Prop := M.1 (3, 0, 0) 7 = e ∧ M.1 (3, 0, 0) 8 = p
def ER (M : Mm) (e p : Int32) : Prop := M.1 R8 17 = e ∧ e ≠ 0 ∧ M.1 R8 18 = p
def F18 (M M' : Mm) : Prop := Fr s8 M M' ∧ ∀ j, j < 13 ∨ 18 < j → M'.1 R8 j = M.1 R8 j
theorem f18_rf {M : Mm} : F18 M M := ⟨fr_rf, fun _ _ => rfl⟩
theorem f18_p {M M1 : Mm} {j : Nat} {v : Int32} (h : F18 M M1) (hj : 13 ≤ j ∧ j ≤ 18) : F18 M (putI M1 R8 j v) := ⟨fr_pI h.1 rfl, fun k hk => by rw [g_row, upd_o (by omega)]; exact h.2 k hk⟩
theorem f18_tr {M M1 M2 : Mm} (h : F18 M M1) (h2 : F18 M1 M2) : F18 M M2 := ⟨fr_tr h.1 h2.1, fun k hk => (h2.2 k hk).trans (h.2 k hk)⟩
theorem f18_13 {M M1 : Mm} (h : F13 M M1) : F18 M M1 := ⟨h.1, fun k hk => h.2 k (by omega)⟩
/-- whether the token that begins at p is the word L -/
def mtS (tb : Nat → Nat) (b : Nat) (L : List Int32) : Nat → Nat → Bool
  | 0, _ => true
  | d + 1, v => decide (nI (tb (b + v)) = L.getD v 0) && mtS tb b L d (v + 1)
def wdS (tb : Nat → Nat) (n p : Nat) (L : List Int32) : Bool := decide (tkK tb n p = 1) && (decide (tkE tb n p - tkB tb n p = L.length) && mtS tb (tkB tb n p) L L.length 0)
theorem wdS_1 {tb : Nat → Nat} {n p : Nat} {L : List Int32} (h : wdS tb n p L = true) : tkK tb n p = 1 := by
  unfold wdS at h
  simp only [Bool.and_eq_true, decide_eq_true_eq] at h
  exact h.1
def sgS (tb : Nat → Nat) (n p c : Nat) : Bool := decide (tkK tb n p = 3 ∧ tb (tkB tb n p) = c)
def nvS (tb : Nat → Nat) (n p : Nat) : Nat := wS 10000 tb (tkB tb n p) (tkE tb n p - tkB tb n p)
section PAR
variable {tb : Nat → Nat} {n c h : Nat} {M : Mm}
theorem pc_tok (H : PC M tb n c h) : tkOK M tb n h := H.2.1.2.2.1 h H.2.2.1
theorem pc_g (H : PC M tb n c h) : ¬ (nI h < 0 ∨ 801 ≤ (nI h).toNatClampNeg) := nI_in (by have := H.2.1.2.1; have := H.2.2.1; omega) (by decide)
theorem pc_cl (H : PC M tb n c h) : (nI h).toNatClampNeg = h := nI_clamp (by have := H.2.1.2.1; have := H.2.2.1; omega)
theorem pc_a (H : PC M tb n c h) : ¬ nI h < 0 := nI_pos (by have := H.2.1.2.1; have := H.2.2.1; omega)
theorem pc_b (H : PC M tb n c h) : ¬ (801 : Int32) ≤ nI h := nI_ge (b := 801) (by have := H.2.1.2.1; have := H.2.2.1; omega) (by decide)
theorem pc_kd {K : Int32} (H : PC M tb n c h) : fX7_atKind M K = if nI (tkK tb n (tE tb n h)) = K then some 1 else some 0 := by
  rw [fX7_atKind, H.2.2.2.1, if_neg (pc_a H), if_neg (pc_b H), if_neg (pc_g H), pc_cl H, (pc_tok H).1]
theorem pc_lt (H : PC M tb n c h) (hk : tkK tb n (tE tb n h) ≠ 0) : h < c := by
  have h1 := H.2.2.1
  rcases Nat.lt_or_ge h c with g | g
  · exact g
  · have e : h = c := by omega
    rw [e, H.2.1.2.2.2.2] at hk
    exact absurd rfl hk
theorem pc_any (H : PC M tb n c h) : fX7_atAnyWord M = some (bI (decide (tkK tb n (tE tb n h) = 1))) := by
  have hk := tkK_c (tb := tb) (tE_le (tb := tb) (n := n) h)
  rw [fX7_atAnyWord, pc_kd H]
  by_cases e : tkK tb n (tE tb n h) = 1
  · rw [e, if_pos (show nI 1 = (1 : Int32) from rfl)]; rfl
  · rw [if_neg (by_ne (c := 1) (L := 1) (by omega) (by decide) rfl e), decide_eq_false e]; rfl
theorem sch_at {j k : Nat} (hk : k < (sby j).length) (hl : (sby j).length < 2 ^ 31) : sch j (nI k) = some ((sby j).getD k 0) := by
  rw [sch, if_neg (nI_in hk hl), nI_clamp (by omega)]
theorem pc_wordL {j b : Nat} (ht : TC M tb n) (hn : n ≤ 800) (hl : (sby j).length ≤ 800) (hb : b + (sby j).length ≤ n) : ∀ (d v f : Nat), v + d = (sby j).length → d < f →
    fX7_atWord_L48 M j (nI b) (fun _ => some 1) f (nI v) = some (bI (mtS tb b (sby j) d v)) := by
  intro d
  induction d with
  | zero =>
    intro v f hv hf
    obtain ⟨f, rfl⟩ : ∃ q, f = q + 1 := ⟨f - 1, by omega⟩
    rw [fX7_atWord_L48, if_pos (show slen j ≤ nI v from nI_le (by omega) (by omega))]
    rfl
  | succ d ih =>
    intro v f hv hf
    obtain ⟨f, rfl⟩ : ∃ q, f = q + 1 := ⟨f - 1, by omega⟩
    rw [fX7_atWord_L48, if_neg (show ¬ slen j ≤ nI v from nI_ge (by omega) (by omega)), nI_add, cl_at ht hn (by omega), Option.bind_some, sch_at (by omega) (by omega), Option.bind_some, ← nI_succ, ih (v + 1) f (by omega) (by omega)]
    by_cases e : nI (tb (b + v)) = (sby j).getD v 0
    · rw [if_pos e, mtS, decide_eq_true e, Bool.true_and]
    · rw [if_neg e, mtS, decide_eq_false e, Bool.false_and]
      rfl
theorem sby_len : ∀ j, j < 22 → (sby j).length ≤ 200 := by decide +kernel
theorem pc_word {j : Nat} (hj : j < 22) (H : PC M tb n c h) : fX7_atWord M j = some (bI (wdS tb n (tE tb n h) (sby j))) := by
  have hk := tkK_c (tb := tb) (tE_le (tb := tb) (n := n) h)
  have hl := sby_len j hj
  have hn := H.1.1
  have hE := tkE_le (tb := tb) (n := n) (tE_le (tb := tb) (n := n) h)
  have hg := pc_g H
  obtain ⟨k0, k1, k2, -⟩ := pc_tok H
  rw [fX7_atWord, pc_kd H, wdS]
  by_cases e : tkK tb n (tE tb n h) = 1
  · rw [decide_eq_true e, Bool.true_and, e, if_pos (show nI 1 = (1 : Int32) from rfl), Option.bind_some, if_neg (by decide), H.2.2.2.1]
    simp only [hg, if_false]
    rw [pc_cl H, k1, k2, show tE tb n (h + 1) = tkE tb n (tE tb n h) from rfl, pk_sub hE.2]
    by_cases e2 : tkE tb n (tE tb n h) - tkB tb n (tE tb n h) = (sby j).length
    · rw [decide_eq_true e2, Bool.true_and, if_pos (show nI _ = slen j by rw [e2]; rfl), show (0 : Int32) = nI 0 from rfl, pc_wordL H.2.2.2.2.2.2 hn (by omega) (by omega) (sby j).length 0 NF (by omega) (by unfold NF; omega)]
    · rw [decide_eq_false e2, Bool.false_and, if_neg (show ¬ nI _ = slen j from fun x => e2 ((nI_eq (b := (sby j).length) (by omega) (by omega)).mp x))]; rfl
  · rw [if_neg (by_ne (c := 1) (L := 1) (by omega) (by decide) rfl e), decide_eq_false e, Bool.false_and, Option.bind_some, if_pos rfl]; rfl
theorem pc_sign {k : Nat} {L : Int32} (hL : L = nI k) (hk : k < 256) (H : PC M tb n c h) : fX7_atSign M L = some (bI (sgS tb n (tE tb n h) k)) := by
  subst hL
  have hc := tkK_c (tb := tb) (tE_le (tb := tb) (n := n) h)
  have hg := pc_g H
  have hn := H.1.1
  obtain ⟨k0, k1, k2, -⟩ := pc_tok H
  rw [fX7_atSign, pc_kd H, sgS]
  by_cases e : tkK tb n (tE tb n h) = 3
  · have hlt : tkB tb n (tE tb n h) < n := by
      unfold tkK at e
      by_cases c0 : n ≤ tkB tb n (tE tb n h)
      · rw [if_pos c0] at e; omega
      · omega
    have hb := H.1.2 _ hlt
    rw [e, if_pos (show nI 3 = (3 : Int32) from rfl), Option.bind_some, if_neg (by decide), H.2.2.2.1, if_neg hg, pc_cl H, k1, cl_at H.2.2.2.2.2.2 hn hlt, Option.bind_some]
    by_cases e2 : tb (tkB tb n (tE tb n h)) = k
    · rw [if_pos (by rw [e2]), decide_eq_true ⟨rfl, e2⟩]; rfl
    · rw [if_neg (fun x => e2 ((nI_eq (by omega) (by omega)).mp x)), decide_eq_false (fun hh => e2 hh.2)]; rfl
  · rw [if_neg (by_ne (c := 3) (L := 3) (by omega) (by decide) rfl e), Option.bind_some, if_pos rfl, decide_eq_false (fun hh => e hh.1)]; rfl
theorem tks_T {M' : Mm} (hF : Fr sT M M') (h5 : M'.1 (3, 0, 0) 5 = M.1 (3, 0, 0) 5) (H : TKs M tb n c) : TKs M' tb n c := by
  obtain ⟨h1, h2, h3, h4, h6⟩ := H
  exact ⟨h5.trans h1, h2, fun j hj => tk_fr (by rw [(hF (4, 0, 0) rfl).1]) (by rw [(hF (4, 1, 0) rfl).1]) (by rw [(hF (4, 2, 0) rfl).1]) (by rw [(hF (4, 3, 0) rfl).1]) (h3 j hj), h4, h6⟩
theorem pc_adv (H : PC M tb n c h) (hk : tkK tb n (tE tb n h) ≠ 0) : PC (fX7_advance M) tb n c (h + 1) ∧ Fr sT M (fX7_advance M) := by
  have hc := H.2.1.2.1
  have hlt := pc_lt H hk
  obtain ⟨h1, h2, h3, h4, h5, h6, h7⟩ := H
  have e : fX7_advance M = putI M (3, 0, 0) 6 (nI (h + 1)) := by
    rw [fX7_advance, h2.1, nI_pred, h4, if_neg (nI_ge hlt (by omega)), ← nI_succ]
  rw [e]
  have hF : Fr sT M (putI M (3, 0, 0) 6 (nI (h + 1))) := fr_putI rfl
  exact ⟨⟨h1, tks_T hF (by rw [g_row, upd_o (by decide)]) h2, hlt, by rw [g_row, upd_s], by rw [g_row, upd_o (by decide)]; exact h5, by rw [g_row, upd_o (by decide)]; exact h6, tc_fr rfl rfl hF h7⟩, hF⟩
theorem pc_fail {e : Int32} (H : PC M tb n c h) : ∃ M', fX7_fail M e = some (0, M') ∧ EC M' e (nI (tkB tb n (tE tb n h))) ∧ Fr sT M M' := by
  rw [fX7_fail, H.2.2.2.1, if_neg (pc_a H), if_neg (pc_b H), if_neg (pc_g H), pc_cl H, (pc_tok H).2.1]
  exact ⟨_, rfl, ⟨by rw [g_row, upd_o (by decide), g_row, upd_s], by rw [g_row, upd_s]⟩, fr_pI (fr_putI rfl) rfl⟩
theorem pc_num {L Hi : Nat} {l hi : Int32} (hl : l = nI L) (hh : hi = nI Hi) (hL : L ≤ 999) (hH : Hi ≤ 999) (H : PC M tb n c h) :
    (tkK tb n (tE tb n h) = 2 ∧ L ≤ nvS tb n (tE tb n h) ∧ nvS tb n (tE tb n h) ≤ Hi ∧ fX7_takeNumber M l hi = some (nI (nvS tb n (tE tb n h)), fX7_advance M)) ∨
    (∃ e M', fX7_takeNumber M l hi = some (-1, M') ∧ EC M' (nI e) (nI (tkB tb n (tE tb n h))) ∧ Fr sT M M' ∧ ((e = 1 ∧ tkK tb n (tE tb n h) ≠ 2) ∨ (e = 2 ∧ tkK tb n (tE tb n h) = 2 ∧ ¬ (L ≤ nvS tb n (tE tb n h) ∧ nvS tb n (tE tb n h) ≤ Hi)))) := by
  subst hl
  subst hh
  have hc := tkK_c (tb := tb) (tE_le (tb := tb) (n := n) h)
  have hg := pc_g H
  obtain ⟨k0, k1, k2, k3⟩ := pc_tok H
  rw [fX7_takeNumber, pc_kd H]
  by_cases e : tkK tb n (tE tb n h) = 2
  · have hw := wS_min (tb := tb) (b := tkB tb n (tE tb n h)) (tkE tb n (tE tb n h) - tkB tb n (tE tb n h))
    have hw2 := wS_le (cap := 1000000) (tb := tb) (b := tkB tb n (tE tb n h)) (tkE tb n (tE tb n h) - tkB tb n (tE tb n h))
    have k4 := k3 e
    rw [show tE tb n (h + 1) = tkE tb n (tE tb n h) from rfl] at k4
    rw [e, if_pos (show nI 2 = (2 : Int32) from rfl), Option.bind_some, if_neg (by decide), H.2.2.2.1, if_neg hg, pc_cl H, k4]
    unfold nvS
    rw [← hw]
    generalize wS 1000000 tb (tkB tb n (tE tb n h)) (tkE tb n (tE tb n h) - tkB tb n (tE tb n h)) = w at *
    by_cases c1 : w < L
    · rw [if_pos (nI_lt c1 (by omega))]
      obtain ⟨M', a1, a2, a3⟩ := pc_fail (e := 2) H
      exact Or.inr ⟨2, M', by rw [a1]; rfl, a2, a3, Or.inr ⟨rfl, rfl, by omega⟩⟩
    · rw [if_neg (nI_nlt (by omega) (by omega))]
      by_cases c2 : w ≤ Hi
      · rw [if_pos (nI_le c2 (by omega))]
        exact Or.inl ⟨rfl, by omega, by omega, by rw [Nat.min_eq_right (by omega)]⟩
      · rw [if_neg (nI_ge (by omega) (by omega))]
        obtain ⟨M', a1, a2, a3⟩ := pc_fail (e := 2) H
        exact Or.inr ⟨2, M', by rw [a1]; rfl, a2, a3, Or.inr ⟨rfl, rfl, by omega⟩⟩
  · rw [if_neg (by_ne (c := 2) (L := 2) (by omega) (by decide) rfl e), Option.bind_some, if_pos rfl]
    obtain ⟨M', a1, a2, a3⟩ := pc_fail (e := 1) H
    exact Or.inr ⟨1, M', by rw [a1]; rfl, a2, a3, Or.inl ⟨rfl, e⟩⟩
/-! the reference's -/
theorem rk_c {p : Nat} (hp : p ≤ n) : rkS tb n p < 5 := by
  have := tkK_c (tb := tb) hp
  unfold rkS
  split
  · split <;> omega
  · omega
theorem pr_wordL {j b : Nat} (ht : TR M tb n) (hn : n ≤ 800) (h14 : M.1 (18, 0, 0) 14 = nI b) (hl : (sby j).length ≤ 800) (hb : b + (sby j).length ≤ n) : ∀ (d v f : Nat), v + d = (sby j).length → d < f →
    fX10_isWord_L35 M j (fun _ => some 1) f (nI v) = some (bI (mtS tb b (sby j) d v)) := by
  intro d
  induction d with
  | zero =>
    intro v f hv hf
    obtain ⟨f, rfl⟩ : ∃ q, f = q + 1 := ⟨f - 1, by omega⟩
    rw [fX10_isWord_L35, if_pos (show slen j ≤ nI v from nI_le (by omega) (by omega))]
    rfl
  | succ d ih =>
    intro v f hv hf
    obtain ⟨f, rfl⟩ : ∃ q, f = q + 1 := ⟨f - 1, by omega⟩
    rw [fX10_isWord_L35, if_neg (show ¬ slen j ≤ nI v from nI_ge (by omega) (by omega)), h14, nI_add, if_neg (nI_in (by omega) (by decide)), nI_clamp (by omega), ht.2 _ (by omega) (by omega), sch_at (by omega) (by omega), Option.bind_some, ← nI_succ, ih (v + 1) f (by omega) (by omega)]
    by_cases e : nI (tb (b + v)) = (sby j).getD v 0
    · rw [if_pos e, mtS, decide_eq_true e, Bool.true_and]
    · rw [if_neg e, mtS, decide_eq_false e, Bool.false_and]
      rfl
theorem pr_word {j : Nat} (hj : j < 22) (hv : TV tb n) (H : PR M tb n h) : fX10_isWord M j = some (bI (wdS tb n (tE tb n h) (sby j))) := by
  have hk := tkK_c (tb := tb) (tE_le (tb := tb) (n := n) h)
  have hl := sby_len j hj
  have hn := hv.1
  have hE := tkE_le (tb := tb) (n := n) (tE_le (tb := tb) (n := n) h)
  obtain ⟨h1, h2, h3, r1, r2, r3, r4⟩ := H
  rw [fX10_isWord, h2, if_pos rfl, r3, r1, r2, pk_sub hE.2, wdS]
  by_cases e : tkK tb n (tE tb n h) = 1
  · have er : rkS tb n (tE tb n h) = 1 := by rw [rkS, if_neg (by omega), e]
    rw [decide_eq_true e, Bool.true_and, er, if_pos (show nI 1 = (1 : Int32) from rfl)]
    by_cases e2 : tkE tb n (tE tb n h) - tkB tb n (tE tb n h) = (sby j).length
    · rw [decide_eq_true e2, Bool.true_and, if_pos (show nI _ = slen j by rw [e2]; rfl), show (0 : Int32) = nI 0 from rfl, pr_wordL h1 hn r2 (by omega) (by omega) (sby j).length 0 NF (by omega) (by unfold NF; omega)]
    · rw [decide_eq_false e2, Bool.false_and, if_neg (show ¬ nI _ = slen j from fun x => e2 ((nI_eq (b := (sby j).length) (by omega) (by omega)).mp x))]; rfl
  · have er : rkS tb n (tE tb n h) ≠ 1 := by
      unfold rkS
      split
      · split <;> omega
      · exact e
    rw [if_neg (by_ne (c := 1) (L := 1) (by have := rk_c (tb := tb) (tE_le (tb := tb) (n := n) h); omega) (by decide) rfl er), decide_eq_false e, Bool.false_and]; rfl
theorem pr_sign {k : Nat} {L : Int32} (hL : L = nI k) (hk : k = 59 ∨ k = 40 ∨ k = 41) (hv : TV tb n) (H : PR M tb n h) : fX10_isSign M L = some (bI (sgS tb n (tE tb n h) k)) := by
  subst hL
  have hc := tkK_c (tb := tb) (tE_le (tb := tb) (n := n) h)
  have hn := hv.1
  have hr := rk_c (tb := tb) (tE_le (tb := tb) (n := n) h)
  obtain ⟨h1, h2, h3, r1, r2, r3, r4⟩ := H
  rw [fX10_isSign, h2, if_pos rfl, r3, r2, sgS]
  by_cases e : tkK tb n (tE tb n h) = 3
  · have hlt : tkB tb n (tE tb n h) < n := by
      unfold tkK at e
      by_cases c0 : n ≤ tkB tb n (tE tb n h)
      · rw [if_pos c0] at e; omega
      · omega
    have hb := hv.2 _ hlt
    by_cases e2 : tb (tkB tb n (tE tb n h)) = k
    · have er : rkS tb n (tE tb n h) = 3 := by rw [rkS, if_pos e, if_pos (by omega)]
      rw [er, if_pos (show nI 3 = (3 : Int32) from rfl), rf_seen h1 hn hlt, Option.bind_some, if_pos (by rw [e2]), decide_eq_true ⟨e, e2⟩]; rfl
    · rw [decide_eq_false (fun hh => e2 hh.2)]
      by_cases er : rkS tb n (tE tb n h) = 3
      · rw [er, if_pos (show nI 3 = (3 : Int32) from rfl), rf_seen h1 hn hlt, Option.bind_some, if_neg (fun x => e2 ((nI_eq (by omega) (by omega)).mp x))]; rfl
      · rw [if_neg (by_ne (c := 3) (L := 3) (by omega) (by decide) rfl er)]; rfl
  · have er : rkS tb n (tE tb n h) ≠ 3 := by
      unfold rkS
      rw [if_neg e]
      exact e
    rw [if_neg (by_ne (c := 3) (L := 3) (by omega) (by decide) rfl er), decide_eq_false (fun hh => e hh.1)]; rfl
theorem pr_ok {e : Int32} (h0 : M.1 R8 17 = 0) : fX10_must M 1 e = some (1, M) := by
  rw [fX10_must, h0, if_pos rfl, if_neg (by decide), if_pos rfl]
theorem pr_no {e : Int32} (h0 : M.1 R8 17 = 0) (he : e ≠ 0) : ∃ M', fX10_must M 0 e = some (0, M') ∧ ER M' e (M.1 R8 14) ∧ F18 M M' := by
  rw [fX10_must, h0, if_pos rfl, if_pos rfl, if_neg he]
  exact ⟨_, rfl, ⟨by rw [g_row, upd_o (by decide), g_row, upd_s], he, by rw [g_row, upd_s]⟩, f18_p (f18_p f18_rf (by decide)) (by decide)⟩
theorem pr_goes (hv : TV tb n) (H : PR M tb n h) : ∃ M', fX10_goesOn M = some M' ∧ PR M' tb n (h + 1) ∧ F18 M M' := by
  obtain ⟨h1, h2, h3, r1, r2, r3, r4⟩ := H
  obtain ⟨M', a1, a2, a3⟩ := rf_reads hv h1 (tkE_le (tE_le h)).1 r1
  rw [fX10_goesOn, h2, if_pos rfl, a1]
  exact ⟨M', rfl, ⟨f13_TR a3 h1, by rw [a3.2 17 (by decide)]; exact h2, by rw [a3.2 18 (by decide)]; exact h3, a2⟩, f18_13 a3⟩
/-! and where an error is noted -/
theorem er_must {e p x y : Int32} (H : ER M e p) : fX10_must M x y = some (0, M) := by
  obtain ⟨h1, h2, h3⟩ := H
  rw [fX10_must, h1, if_neg h2, if_neg h2]
theorem er_goes {e p : Int32} (H : ER M e p) : fX10_goesOn M = some M := by
  obtain ⟨h1, h2, h3⟩ := H
  rw [fX10_goesOn, h1, if_neg h2]
theorem er_word {e p : Int32} {j : Nat} (H : ER M e p) : fX10_isWord M j = some 0 := by
  obtain ⟨h1, h2, h3⟩ := H
  rw [fX10_isWord, h1, if_neg h2]
theorem er_sign {e p x : Int32} (H : ER M e p) : fX10_isSign M x = some 0 := by
  obtain ⟨h1, h2, h3⟩ := H
  rw [fX10_isSign, h1, if_neg h2]
theorem er_looks {e p x y : Int32} (H : ER M e p) : fX10_looksAt M x y = some (0, M) := by
  have h1 := H.1
  have h2 := H.2.1
  rw [fX10_looksAt, er_must H, er_must H]
  split <;> (rw [Option.bind_some, if_pos rfl]; dsimp only; rw [h1, if_neg h2])
theorem er_num {e p x y : Int32} (H : ER M e p) : fX10_number M x y = some (M.1 R8 16, M) := by
  rw [fX10_number, er_looks H, Option.bind_some, er_goes H]
  rfl
theorem er_takes {e p x : Int32} (H : ER M e p) : fX10_takesSign M x = some M := by
  rw [fX10_takesSign, er_sign H, Option.bind_some, er_must H, Option.bind_some, er_goes H]
  rfl
theorem pr_looks {L Hi : Nat} {l hi : Int32} (hl : l = nI L) (hh : hi = nI Hi) (hL : L ≤ 999) (hH : Hi ≤ 999) (H : PR M tb n h) :
    (tkK tb n (tE tb n h) = 2 → L ≤ nvS tb n (tE tb n h) → nvS tb n (tE tb n h) ≤ Hi → fX10_looksAt M l hi = some (1, M) ∧ M.1 R8 16 = nI (nvS tb n (tE tb n h))) ∧
    (∀ e, ((e = 1 ∧ tkK tb n (tE tb n h) ≠ 2) ∨ (e = 2 ∧ tkK tb n (tE tb n h) = 2 ∧ ¬ (L ≤ nvS tb n (tE tb n h) ∧ nvS tb n (tE tb n h) ≤ Hi))) → ∃ M', fX10_looksAt M l hi = some (0, M') ∧ ER M' (nI e) (nI (tkB tb n (tE tb n h))) ∧ F18 M M') := by
  subst hl
  subst hh
  have hr := rk_c (tb := tb) (tE_le (tb := tb) (n := n) h)
  have hvl := wS_le (cap := 10000) (tb := tb) (b := tkB tb n (tE tb n h)) (tkE tb n (tE tb n h) - tkB tb n (tE tb n h))
  obtain ⟨h1, h2, h3, r1, r2, r3, r4⟩ := H
  have e2r : rkS tb n (tE tb n h) = 2 ↔ tkK tb n (tE tb n h) = 2 := by
    unfold rkS
    constructor
    · intro x
      split at x
      · split at x <;> omega
      · exact x
    · intro x
      rw [if_neg (by omega), x]
  constructor
  · intro k2 g1 g2
    rw [fX10_looksAt, r3, e2r.mpr k2, if_pos (show nI 2 = (2 : Int32) from rfl), pr_ok h2, Option.bind_some, if_neg (show ¬ (1 : Int32) = 0 by decide)]
    dsimp only
    rw [r4 k2, rf_in (by omega) (by omega) (by omega)]
    unfold nvS at g1 g2
    rw [decide_eq_true ⟨g1, g2⟩, show bI true = 1 from rfl, pr_ok h2, Option.bind_some]
    dsimp only
    rw [h2, if_pos rfl]
    exact ⟨rfl, rfl⟩
  · rintro e (⟨rfl, k2⟩ | ⟨rfl, k2, g⟩)
    · rw [fX10_looksAt, r3, if_neg (by_ne (c := 2) (L := 2) (by omega) (by decide) rfl (fun x => k2 (e2r.mp x)))]
      obtain ⟨M', a1, a2, a3⟩ := pr_no (e := 1) h2 (by decide)
      rw [a1, Option.bind_some, if_pos rfl]
      dsimp only
      rw [a2.1, if_neg (by decide)]
      rw [r2] at a2
      exact ⟨M', rfl, a2, a3⟩
    · rw [fX10_looksAt, r3, e2r.mpr k2, if_pos (show nI 2 = (2 : Int32) from rfl), pr_ok h2, Option.bind_some, if_neg (show ¬ (1 : Int32) = 0 by decide)]
      dsimp only
      rw [r4 k2, rf_in (by omega) (by omega) (by omega)]
      unfold nvS at g
      rw [decide_eq_false g, show bI false = 0 from rfl]
      obtain ⟨M', a1, a2, a3⟩ := pr_no (e := 2) h2 (by decide)
      rw [a1, Option.bind_some]
      dsimp only
      rw [a2.1, if_neg (by decide)]
      rw [r2] at a2
      exact ⟨M', rfl, a2, a3⟩
end PAR
