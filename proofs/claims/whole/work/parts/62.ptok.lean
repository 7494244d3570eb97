/-! tokens: of the text tb, n bytes long -/
def kN (b : Nat) : Nat := if b = 32 ∨ b = 10 then 4 else if 97 ≤ b ∧ b ≤ 122 then 1 else if 48 ≤ b ∧ b ≤ 57 then 2 else 3
def kdI (x1 : Int32) : Int32 := if x1 = (32 : Int32) then (4 : Int32) else if x1 = (10 : Int32) then (4 : Int32) else if x1 < (97 : Int32) then (if x1 < (48 : Int32) then (3 : Int32) else if (57 : Int32) < x1 then (3 : Int32) else (2 : Int32)) else if (122 : Int32) < x1 then (if x1 < (48 : Int32) then (3 : Int32) else if (57 : Int32) < x1 then (3 : Int32) else (2 : Int32)) else (1 : Int32)
theorem kd_c : ∀ b, b < 256 → kdI (nI b) = nI (kN b) := by decide +kernel
theorem cl_kind {M : Mm} {b : Nat} (hb : b < 256) : fX7_kindOf M (nI b) = nI (kN b) := (show fX7_kindOf M (nI b) = kdI (nI b) from rfl).trans (kd_c b hb)
theorem kN_c (b : Nat) : kN b = 1 ∨ kN b = 2 ∨ kN b = 3 ∨ kN b = 4 := by
  unfold kN
  split
  · simp
  · split
    · simp
    · split <;> simp
def rnF (tb : Nat → Nat) (n q : Nat) : Nat → Nat → Nat
  | 0, p => p
  | f + 1, p => if p < n ∧ kN (tb p) = q then rnF tb n q f (p + 1) else p
/-- where the run of bytes of kind q that begins at p ends -/
def rn (tb : Nat → Nat) (n q p : Nat) : Nat := rnF tb n q (n - p) p
theorem rn_sp {tb : Nat → Nat} {n q : Nat} : ∀ (f p : Nat), p + f = n → p ≤ rnF tb n q f p ∧ rnF tb n q f p ≤ n ∧ (∀ k, p ≤ k → k < rnF tb n q f p → kN (tb k) = q) ∧ (rnF tb n q f p = n ∨ kN (tb (rnF tb n q f p)) ≠ q)
  | 0, p, h => by
    rw [rnF]
    exact ⟨Nat.le_refl _, by omega, fun k h1 h2 => by omega, Or.inl (by omega)⟩
  | f + 1, p, h => by
    rw [rnF]
    by_cases c : p < n ∧ kN (tb p) = q
    · rw [if_pos c]
      obtain ⟨h1, h2, h3, h4⟩ := rn_sp (tb := tb) (n := n) (q := q) f (p + 1) (by omega)
      refine ⟨by omega, h2, fun k a b => ?_, h4⟩
      by_cases e : k = p
      · rw [e]; exact c.2
      · exact h3 k (by omega) b
    · rw [if_neg c]
      exact ⟨Nat.le_refl _, by omega, fun k h1 h2 => by omega, Or.inr fun e => c ⟨by omega, e⟩⟩
theorem rn_ge {tb : Nat → Nat} {n q p : Nat} : p ≤ rn tb n q p := by
  by_cases h : p ≤ n
  · exact (rn_sp (n - p) p (by omega)).1
  · rw [rn, show n - p = 0 by omega, rnF]; exact Nat.le_refl _
theorem rn_le {tb : Nat → Nat} {n q p : Nat} (h : p ≤ n) : rn tb n q p ≤ n := (rn_sp (n - p) p (by omega)).2.1
theorem rn_in {tb : Nat → Nat} {n q p k : Nat} (h : p ≤ n) (h1 : p ≤ k) (h2 : k < rn tb n q p) : kN (tb k) = q := (rn_sp (n - p) p (by omega)).2.2.1 k h1 h2
theorem rn_at {tb : Nat → Nat} {n q p : Nat} (h : p ≤ n) : rn tb n q p = n ∨ kN (tb (rn tb n q p)) ≠ q := (rn_sp (n - p) p (by omega)).2.2.2
theorem rn_eq {tb : Nat → Nat} {n q p i : Nat} (h1 : p ≤ i) (h2 : i ≤ n) (h3 : ∀ k, p ≤ k → k < i → kN (tb k) = q) (h4 : i = n ∨ kN (tb i) ≠ q) : rn tb n q p = i := by
  have a1 := rn_le (tb := tb) (q := q) (show p ≤ n by omega)
  have a2 := rn_ge (tb := tb) (n := n) (q := q) (p := p)
  rcases Nat.lt_trichotomy (rn tb n q p) i with h | h | h
  · rcases rn_at (tb := tb) (q := q) (show p ≤ n by omega) with e | e
    · omega
    · exact absurd (h3 _ a2 h) e
  · exact h
  · rcases h4 with e | e
    · omega
    · exact absurd (rn_in (show p ≤ n by omega) h1 h) e
/-- the token that is found from p on: where it begins, its kind (0: the end), where it ends -/
def tkB (tb : Nat → Nat) (n p : Nat) : Nat := rn tb n 4 p
def tkK (tb : Nat → Nat) (n p : Nat) : Nat := if n ≤ tkB tb n p then 0 else kN (tb (tkB tb n p))
def tkE (tb : Nat → Nat) (n p : Nat) : Nat := if n ≤ tkB tb n p then tkB tb n p else if kN (tb (tkB tb n p)) = 3 then tkB tb n p + 1 else rn tb n (kN (tb (tkB tb n p))) (tkB tb n p)
def tE (tb : Nat → Nat) (n : Nat) : Nat → Nat
  | 0 => 0
  | j + 1 => tkE tb n (tE tb n j)
def wS (cap : Nat) (tb : Nat → Nat) (b : Nat) : Nat → Nat
  | 0 => 0
  | k + 1 => min cap (10 * wS cap tb b k + (tb (b + k) - 48))
theorem wS_le {cap : Nat} {tb : Nat → Nat} {b : Nat} : ∀ k, wS cap tb b k ≤ cap
  | 0 => Nat.zero_le _
  | k + 1 => by rw [wS]; omega
theorem wS_min {tb : Nat → Nat} {b : Nat} : ∀ k, min 10000 (wS 1000000 tb b k) = wS 10000 tb b k
  | 0 => rfl
  | k + 1 => by
    have := wS_min (tb := tb) (b := b) k
    rw [wS, wS]
    omega
theorem tkB_ge {tb : Nat → Nat} {n p : Nat} : p ≤ tkB tb n p := rn_ge
theorem tkB_le {tb : Nat → Nat} {n p : Nat} (h : p ≤ n) : tkB tb n p ≤ n := rn_le h
theorem tkB_ns {tb : Nat → Nat} {n p : Nat} (h : p ≤ n) (h2 : tkB tb n p < n) : kN (tb (tkB tb n p)) ≠ 4 := by
  rcases rn_at (tb := tb) (q := 4) h with e | e
  · unfold tkB at h2; omega
  · exact e
theorem tkE_le {tb : Nat → Nat} {n p : Nat} (h : p ≤ n) : tkE tb n p ≤ n ∧ tkB tb n p ≤ tkE tb n p := by
  have h1 := tkB_le (tb := tb) h
  unfold tkE
  split
  · exact ⟨h1, Nat.le_refl _⟩
  · split
    · omega
    · exact ⟨rn_le h1, rn_ge⟩
theorem tkE_gt {tb : Nat → Nat} {n p : Nat} (h : p ≤ n) (hk : tkK tb n p ≠ 0) : tkB tb n p < tkE tb n p := by
  unfold tkK at hk
  by_cases c : n ≤ tkB tb n p
  · rw [if_pos c] at hk; exact absurd rfl hk
  · unfold tkE
    rw [if_neg c]
    split
    · omega
    · have h1 := rn_ge (tb := tb) (n := n) (q := kN (tb (tkB tb n p))) (p := tkB tb n p)
      rcases Nat.lt_or_ge (tkB tb n p) (rn tb n (kN (tb (tkB tb n p))) (tkB tb n p)) with h2 | h2
      · exact h2
      · have e : rn tb n (kN (tb (tkB tb n p))) (tkB tb n p) = tkB tb n p := by omega
        rcases rn_at (tb := tb) (q := kN (tb (tkB tb n p))) (tkB_le (tb := tb) h) with e2 | e2
        · omega
        · rw [e] at e2; exact absurd rfl e2
theorem tE_le {tb : Nat → Nat} {n : Nat} : ∀ j, tE tb n j ≤ n
  | 0 => Nat.zero_le _
  | j + 1 => (tkE_le (tE_le j)).1
theorem tkK_c {tb : Nat → Nat} {n p : Nat} (h : p ≤ n) : tkK tb n p = 0 ∨ tkK tb n p = 1 ∨ tkK tb n p = 2 ∨ tkK tb n p = 3 := by
  unfold tkK
  split
  · simp
  · have := tkB_ns (tb := tb) h (by omega)
    rcases kN_c (tb (tkB tb n p)) with e | e | e | e
    · simp [e]
    · simp [e]
    · simp [e]
    · exact absurd e this
/-- token j in the class's rows -/
def tkOK (M : Mm) (tb : Nat → Nat) (n j : Nat) : Prop := M.1 (4, 0, 0) j = nI (tkK tb n (tE tb n j)) ∧ M.1 (4, 1, 0) j = nI (tkB tb n (tE tb n j)) ∧ M.1 (4, 2, 0) j = nI (tE tb n (j + 1)) ∧ (tkK tb n (tE tb n j) = 2 → M.1 (4, 3, 0) j = nI (wS 1000000 tb (tkB tb n (tE tb n j)) (tE tb n (j + 1) - tkB tb n (tE tb n j))))
def sTk (r : Rf) : Bool := r.1 == 3 || r.1 == 4
theorem tk_fr {M M' : Mm} {tb : Nat → Nat} {n j : Nat} (h0 : M'.1 (4, 0, 0) j = M.1 (4, 0, 0) j) (h1 : M'.1 (4, 1, 0) j = M.1 (4, 1, 0) j) (h2 : M'.1 (4, 2, 0) j = M.1 (4, 2, 0) j) (h3 : M'.1 (4, 3, 0) j = M.1 (4, 3, 0) j) (h : tkOK M tb n j) : tkOK M' tb n j := by
  unfold tkOK
  rw [h0, h1, h2, h3]
  exact h
/-- c whole tokens ahead of i, nothing but separators behind them -/
def tCP (M : Mm) (tb : Nat → Nat) (n c i : Nat) : Prop := M.1 (3, 0, 0) 5 = nI c ∧ c ≤ i ∧ tE tb n c ≤ i ∧ (∀ k, tE tb n c ≤ k → k < i → kN (tb k) = 4) ∧ ∀ j, j < c → tkOK M tb n j ∧ tkK tb n (tE tb n j) ≠ 0
/-- c whole tokens, and one of kind q that is open at i -/
def tOP (M : Mm) (tb : Nat → Nat) (n c i q : Nat) : Prop := M.1 (3, 0, 0) 5 = nI (c + 1) ∧ c + 1 ≤ i ∧ (q = 1 ∨ q = 2) ∧ tkB tb n (tE tb n c) < i ∧ (∀ k, tkB tb n (tE tb n c) ≤ k → k < i → kN (tb k) = q) ∧ M.1 (4, 0, 0) c = nI q ∧ M.1 (4, 1, 0) c = nI (tkB tb n (tE tb n c)) ∧ M.1 (4, 2, 0) c = nI i ∧ (q = 2 → M.1 (4, 3, 0) c = nI (wS 1000000 tb (tkB tb n (tE tb n c)) (i - tkB tb n (tE tb n c)))) ∧ ∀ j, j < c → tkOK M tb n j ∧ tkK tb n (tE tb n j) ≠ 0
theorem tOP_CP {M : Mm} {tb : Nat → Nat} {n c i q : Nat} (h : tOP M tb n c i q) (hi : i ≤ n) (hq : i = n ∨ kN (tb i) ≠ q) : tCP M tb n (c + 1) i := by
  obtain ⟨h1, h2, h3, h4, h5, h6, h7, h8, h9, h10⟩ := h
  have hb : kN (tb (tkB tb n (tE tb n c))) = q := h5 _ (Nat.le_refl _) h4
  have hk : tkK tb n (tE tb n c) = q := by rw [tkK, if_neg (by omega), hb]
  have he : tE tb n (c + 1) = i := by
    rw [tE, tkE, if_neg (by omega), if_neg (by omega), hb]
    exact rn_eq (by omega) hi h5 hq
  refine ⟨h1, h2, by omega, fun k a b => by omega, fun j hj => ?_⟩
  by_cases e : j = c
  · subst e
    refine ⟨⟨by rw [h6, hk], h7, by rw [h8, he], fun h2 => ?_⟩, by omega⟩
    rw [he]
    exact h9 (by omega)
  · exact h10 j (by omega)
theorem tCP_sp {M : Mm} {tb : Nat → Nat} {n c i : Nat} (h : tCP M tb n c i) (hq : kN (tb i) = 4) : tCP M tb n c (i + 1) := by
  obtain ⟨h1, h2, h3, h4, h5⟩ := h
  refine ⟨h1, by omega, by omega, fun k a b => ?_, h5⟩
  by_cases e : k = i
  · rw [e]; exact hq
  · exact h4 k a (by omega)
/-- a token is put -/
def pTok (M : Mm) (c : Nat) (k s : Int32) : Mm := putI (putI (putI (putI (putI M (4, 0, 0) c k) (4, 1, 0) c s) (4, 2, 0) c s) (4, 3, 0) c 0) (3, 0, 0) 5 (nI (c + 1))
theorem cl_pTok {M : Mm} {c : Nat} {k s : Int32} (h : M.1 (3, 0, 0) 5 = nI c) (hc : c < 801) : fX7_putToken M k s = some (pTok M c k s) := by
  have hg : ¬ (nI c < 0 ∨ 801 ≤ (nI c).toNatClampNeg) := nI_in (by omega) (by decide)
  rw [fX7_putToken, h, if_neg (nI_pos (by omega)), if_neg (show ¬ (801 : Int32) ≤ nI c from nI_ge (b := 801) hc (by decide))]
  simp only [hg, if_false]
  rw [nI_clamp (by omega), ← nI_succ]
  rfl
def F5 (M M' : Mm) : Prop := Fr sTk M M' ∧ ∀ j, j ≠ 5 → M'.1 (3, 0, 0) j = M.1 (3, 0, 0) j
theorem f5_rf {M : Mm} : F5 M M := ⟨fr_rf, fun _ _ => rfl⟩
theorem f5_tr {M M1 M2 : Mm} (h : F5 M M1) (h2 : F5 M1 M2) : F5 M M2 := ⟨fr_tr h.1 h2.1, fun j hj => (h2.2 j hj).trans (h.2 j hj)⟩
theorem f5_p {M M1 : Mm} {a j : Nat} {v : Int32} (h : F5 M M1) : F5 M (putI M1 (4, a, 0) j v) := ⟨fr_pI h.1 rfl, fun k hk => by rw [putI_ne (fun c => by cases c)]; exact h.2 k hk⟩
theorem pTok_f5 {M : Mm} {c : Nat} {k s : Int32} : F5 M (pTok M c k s) := by
  have h : F5 M _ := f5_p (a := 3) (j := c) (v := 0) (f5_p (a := 2) (j := c) (v := s) (f5_p (a := 1) (j := c) (v := s) (f5_p (a := 0) (j := c) (v := k) f5_rf)))
  exact ⟨fr_pI h.1 rfl, fun j hj => by rw [pTok, g_row, upd_o hj]; exact h.2 j hj⟩
theorem pTok_fr {M : Mm} {c : Nat} {k s : Int32} : Fr sTk M (pTok M c k s) := fr_pI (fr_pI (fr_pI (fr_pI (fr_putI rfl) rfl) rfl) rfl) rfl
theorem cl_len {M : Mm} {tb : Nat → Nat} {n c i : Nat} (h : M.1 (3, 0, 0) 5 = nI (c + 1)) (hc : c < 801) (ht : TC M tb n) (hn : n ≤ 800) (hi : i < n) :
    fX7_lengthenToken M (nI i) = some (if M.1 (4, 0, 0) c = 2 then putI (putI M (4, 2, 0) c (nI (i + 1))) (4, 3, 0) c (mnI 1000000 ((M.1 (4, 3, 0) c * 10 + nI (tb i)) - 48)) else putI M (4, 2, 0) c (nI (i + 1))) := by
  have hg : ¬ (nI c < 0 ∨ 801 ≤ (nI c).toNatClampNeg) := nI_in (by omega) (by decide)
  have ht2 : TC (putI M (4, 2, 0) c (nI (i + 1))) tb n := ⟨by rw [putI_ne (by decide)]; exact ht.1, fun k hk => by rw [putI_ne (by decide)]; exact ht.2 k hk⟩
  rw [fX7_lengthenToken, h, nI_pred, if_neg (nI_pos (by omega)), if_pos (show nI c < (801 : Int32) from nI_lt (b := 801) hc (by decide))]
  simp only [hg, if_false]
  rw [nI_clamp (by omega), ← nI_succ, cl_at ht2 hn hi, Option.bind_some]
  by_cases e : M.1 (4, 0, 0) c = 2
  · rw [if_pos e, if_pos e]; rfl
  · rw [if_neg e, if_neg e]
theorem dgt {b : Nat} (h : kN b = 2) : 48 ≤ b ∧ b ≤ 57 := by
  unfold kN at h
  split at h
  · omega
  · split at h
    · omega
    · split at h
      · assumption
      · omega
theorem wI {w b cap : Nat} (hw : w ≤ 1000000) (hc : cap ≤ 1000000) (hb : 48 ≤ b ∧ b ≤ 57) : mnI (nI cap) ((nI w * 10 + nI b) - 48) = nI (min cap (10 * w + (b - 48))) := by
  have e : (nI w * 10 + nI b) - 48 = nI (10 * w + (b - 48)) := by
    show (nI w * nI 10 + nI b) - nI 48 = _
    rw [pk_mul, nI_add, pk_sub (by omega), show w * 10 + b - 48 = 10 * w + (b - 48) by omega]
  rw [e, mnI]
  by_cases c : 10 * w + (b - 48) < cap
  · rw [if_pos (nI_lt c (by omega)), Nat.min_eq_right (by omega)]
  · rw [if_neg (nI_nlt (by omega) (by omega)), Nat.min_eq_left (by omega)]
/-- the open token takes one byte more -/
theorem cl_lenOP {M : Mm} {tb : Nat → Nat} {n c i q : Nat} (ht : TC M tb n) (hv : TV tb n) (hi : i < n) (h : tOP M tb n c i q) (hq : kN (tb i) = q) : ∃ M', fX7_lengthenToken M (nI i) = some M' ∧ tOP M' tb n c (i + 1) q ∧ F5 M M' := by
  obtain ⟨h1, h2, h3, h4, h5, h6, h7, h8, h9, h10⟩ := h
  have hn := hv.1
  rw [cl_len h1 (by omega) ht hn hi, h6]
  have hk : ∀ k, tkB tb n (tE tb n c) ≤ k → k < i + 1 → kN (tb k) = q := fun k a b => by
    by_cases e : k = i
    · rw [e]; exact hq
    · exact h5 k a (by omega)
  rcases h3 with e | e
  · subst e
    rw [if_neg (by decide)]
    refine ⟨_, rfl, ⟨by rw [putI_ne (by decide)]; exact h1, by omega, Or.inl rfl, by omega, hk, by rw [putI_ne (by decide)]; exact h6, by rw [putI_ne (by decide)]; exact h7, by rw [g_row, upd_s], fun c => absurd c (by decide), fun j hj => ⟨tk_fr (by rw [putI_ne (by decide)]) (by rw [putI_ne (by decide)]) (by rw [g_row, upd_o (by omega)]) (by rw [putI_ne (by decide)]) (h10 j hj).1, (h10 j hj).2⟩⟩, f5_p f5_rf⟩
  · subst e
    rw [if_pos (show nI 2 = (2 : Int32) from rfl), h9 rfl]
    rw [show (1000000 : Int32) = nI 1000000 from rfl, wI (wS_le _) (by decide) (dgt hq)]
    refine ⟨_, rfl, ⟨by rw [putI_ne (by decide), putI_ne (by decide)]; exact h1, by omega, Or.inr rfl, by omega, hk, by rw [putI_ne (by decide), putI_ne (by decide)]; exact h6, by rw [putI_ne (by decide), putI_ne (by decide)]; exact h7, by rw [putI_ne (by decide), g_row, upd_s], fun _ => ?_, fun j hj => ⟨tk_fr (by rw [putI_ne (by decide), putI_ne (by decide)]) (by rw [putI_ne (by decide), putI_ne (by decide)]) (by rw [putI_ne (by decide), g_row, upd_o (by omega)]) (by rw [g_row, upd_o (by omega), putI_ne (by decide)]) (h10 j hj).1, (h10 j hj).2⟩⟩, f5_p (f5_p f5_rf)⟩
    rw [g_row, upd_s, show i + 1 - tkB tb n (tE tb n c) = (i - tkB tb n (tE tb n c)) + 1 by omega, wS, show tkB tb n (tE tb n c) + (i - tkB tb n (tE tb n c)) = i by omega]
theorem pTok_old {M : Mm} {tb : Nat → Nat} {n c j : Nat} {k s : Int32} (hj : j < c) (h : tkOK M tb n j) : tkOK (pTok M c k s) tb n j := by
  unfold pTok
  exact tk_fr (by rw [putI_ne (by decide), putI_ne (by decide), putI_ne (by decide), putI_ne (by decide), g_row, upd_o (by omega)]) (by rw [putI_ne (by decide), putI_ne (by decide), putI_ne (by decide), g_row, upd_o (by omega), putI_ne (by decide)]) (by rw [putI_ne (by decide), putI_ne (by decide), g_row, upd_o (by omega), putI_ne (by decide), putI_ne (by decide)]) (by rw [putI_ne (by decide), g_row, upd_o (by omega), putI_ne (by decide), putI_ne (by decide), putI_ne (by decide)]) h
theorem pTok_g {M : Mm} {c : Nat} {k s : Int32} : (pTok M c k s).1 (4, 0, 0) c = k ∧ (pTok M c k s).1 (4, 1, 0) c = s ∧ (pTok M c k s).1 (4, 2, 0) c = s ∧ (pTok M c k s).1 (4, 3, 0) c = 0 ∧ (pTok M c k s).1 (3, 0, 0) 5 = nI (c + 1) := by
  unfold pTok
  refine ⟨?_, ?_, ?_, ?_, ?_⟩
  · rw [putI_ne (by decide), putI_ne (by decide), putI_ne (by decide), putI_ne (by decide), g_row, upd_s]
  · rw [putI_ne (by decide), putI_ne (by decide), putI_ne (by decide), g_row, upd_s]
  · rw [putI_ne (by decide), putI_ne (by decide), g_row, upd_s]
  · rw [putI_ne (by decide), g_row, upd_s]
  · rw [g_row, upd_s]
/-- a new token begins, and takes its first byte -/
theorem cl_newTok {M : Mm} {tb : Nat → Nat} {n c i q : Nat} (ht : TC M tb n) (hv : TV tb n) (hi : i < n) (h : tCP M tb n c i) (hq : kN (tb i) = q) (h4 : q ≠ 4) :
    ∃ M1 M2, fX7_putToken M (nI q) (nI i) = some M1 ∧ fX7_lengthenToken M1 (nI i) = some M2 ∧ (q ≠ 3 → tOP M2 tb n c (i + 1) q) ∧ (q = 3 → tCP M2 tb n (c + 1) (i + 1)) ∧ F5 M M2 := by
  obtain ⟨h1, h2, h3, h5, h6⟩ := h
  have hn := hv.1
  have hq3 := kN_c (tb i)
  have hB : tkB tb n (tE tb n c) = i := rn_eq h3 (by omega) h5 (Or.inr (by omega))
  obtain ⟨p0, p1, p2, p3, p5⟩ := pTok_g (M := M) (c := c) (k := nI q) (s := nI i)
  have ht2 : TC (pTok M c (nI q) (nI i)) tb n := ⟨by rw [(pTok_fr (1, 0, 0) rfl).1]; exact ht.1, fun k hk => by rw [(pTok_fr (2, 0, 0) rfl).1]; exact ht.2 k hk⟩
  refine ⟨_, _, cl_pTok h1 (by omega), cl_len p5 (by omega) ht2 hn hi, fun q3 => ?_, fun q3 => ?_, ?_⟩
  · rw [p0, p3]
    have hk : ∀ k, tkB tb n (tE tb n c) ≤ k → k < i + 1 → kN (tb k) = q := fun k a b => by rw [show k = i by omega]; exact hq
    by_cases e : q = 2
    · subst e
      rw [if_pos (show nI 2 = (2 : Int32) from rfl)]
      refine ⟨by rw [putI_ne (by decide), putI_ne (by decide)]; exact p5, by omega, Or.inr rfl, by omega, hk, by rw [putI_ne (by decide), putI_ne (by decide)]; exact p0, by rw [putI_ne (by decide), putI_ne (by decide), hB]; exact p1, by rw [putI_ne (by decide), g_row, upd_s], fun _ => ?_, fun j hj => ⟨tk_fr (by rw [putI_ne (by decide), putI_ne (by decide)]) (by rw [putI_ne (by decide), putI_ne (by decide)]) (by rw [putI_ne (by decide), g_row, upd_o (by omega)]) (by rw [g_row, upd_o (by omega), putI_ne (by decide)]) (pTok_old hj (h6 j hj).1), (h6 j hj).2⟩⟩
      rw [g_row, upd_s, hB, show i + 1 - i = 0 + 1 by omega, wS, wS]
      exact wI (w := 0) (cap := 1000000) (by decide) (by decide) (dgt hq)
    · have q1 : q = 1 := by omega
      subst q1
      rw [if_neg (by decide)]
      refine ⟨by rw [putI_ne (by decide)]; exact p5, by omega, Or.inl rfl, by omega, hk, by rw [putI_ne (by decide)]; exact p0, by rw [putI_ne (by decide), hB]; exact p1, by rw [g_row, upd_s], fun c => absurd c (by decide), fun j hj => ⟨tk_fr (by rw [putI_ne (by decide)]) (by rw [putI_ne (by decide)]) (by rw [g_row, upd_o (by omega)]) (by rw [putI_ne (by decide)]) (pTok_old hj (h6 j hj).1), (h6 j hj).2⟩⟩
  · subst q3
    rw [p0, if_neg (by decide)]
    have hk : tkK tb n (tE tb n c) = 3 := by rw [tkK, hB, if_neg (by omega), hq]
    have he : tE tb n (c + 1) = i + 1 := by rw [tE, tkE, hB, if_neg (by omega), if_pos hq]
    refine ⟨by rw [putI_ne (by decide)]; exact p5, by omega, by omega, fun k a b => by omega, fun j hj => ?_⟩
    by_cases e : j = c
    · subst e
      refine ⟨⟨by rw [putI_ne (by decide), hk]; exact p0, by rw [putI_ne (by decide), hB]; exact p1, by rw [g_row, upd_s, he], fun c => by omega⟩, by omega⟩
    · exact ⟨tk_fr (by rw [putI_ne (by decide)]) (by rw [putI_ne (by decide)]) (by rw [g_row, upd_o (by omega)]) (by rw [putI_ne (by decide)]) (pTok_old (by omega) (h6 j (by omega)).1), (h6 j (by omega)).2⟩
  · rw [p0]
    split
    · exact f5_p (f5_p pTok_f5)
    · exact f5_p pTok_f5
theorem tc_fr {M M' : Mm} {tb : Nat → Nat} {n : Nat} {S : Rf → Bool} (h1 : S (1, 0, 0) = false) (h2 : S (2, 0, 0) = false) (hF : Fr S M M') (h : TC M tb n) : TC M' tb n := ⟨by rw [(hF _ h1).1]; exact h.1, fun k hk => by rw [(hF _ h2).1]; exact h.2 k hk⟩
theorem n_3 : ∀ a, a < 5 → a ≠ 3 → ¬ nI a = (3 : Int32) := by decide
theorem n_4 : ∀ a, a < 5 → a ≠ 4 → ¬ nI a = (4 : Int32) := by decide
theorem cl_scanL {tb : Nat → Nat} {n : Nat} (hv : TV tb n) {K : Int32 → Int32 → Mm → Option Mm} : ∀ (d i : Nat) (M : Mm) (q f : Nat), i + d = n → d < f → TC M tb n → ((∃ c, tCP M tb n c i) ∧ (q = 4 ∨ q = 3)) ∨ (∃ c, tOP M tb n c i q) →
    ∃ M' c q', tCP M' tb n c n ∧ F5 M M' ∧ fX7_scan_L24 K f (nI q) (nI i) M = K q' (nI n) M' := by
  intro d
  induction d with
  | zero =>
    intro i M q f hi hf ht h
    have e : i = n := by omega
    subst e
    obtain ⟨f, rfl⟩ : ∃ q, f = q + 1 := ⟨f - 1, by omega⟩
    have hx : fX7_scan_L24 K (f + 1) (nI q) (nI i) M = K (nI q) (nI i) M := by rw [fX7_scan_L24, ht.1, if_pos (nI_le (Nat.le_refl _) (by have := hv.1; omega))]
    rcases h with ⟨⟨c, h⟩, -⟩ | ⟨c, h⟩
    · exact ⟨M, c, nI q, h, f5_rf, hx⟩
    · exact ⟨M, c + 1, nI q, tOP_CP h (Nat.le_refl _) (Or.inl rfl), f5_rf, hx⟩
  | succ d ih =>
    intro i M q f hi hf ht h
    obtain ⟨f, rfl⟩ : ∃ q, f = q + 1 := ⟨f - 1, by omega⟩
    have hn := hv.1
    have hi2 : i < n := by omega
    have hb := hv.2 i hi2
    rw [fX7_scan_L24, ht.1, if_neg (nI_ge hi2 (by omega)), cl_at ht hn hi2, Option.bind_some, cl_kind hb.2, ← nI_succ]
    -- a new token, out of whole ones
    have new : ∀ c, tCP M tb n c i → kN (tb i) ≠ 4 → ∃ M1 M2, fX7_putToken M (nI (kN (tb i))) (nI i) = some M1 ∧ fX7_lengthenToken M1 (nI i) = some M2 ∧ ∃ M' c' q', tCP M' tb n c' n ∧ F5 M M' ∧ fX7_scan_L24 K f (nI (kN (tb i))) (nI (i + 1)) M2 = K q' (nI n) M' := by
      intro c hc h4
      obtain ⟨M1, M2, a1, a2, a3, a4, a5⟩ := cl_newTok ht hv hi2 hc rfl h4
      refine ⟨M1, M2, a1, a2, ?_⟩
      have ht2 := tc_fr rfl rfl a5.1 ht
      obtain ⟨M', c', q', b1, b2, b3⟩ := ih (i + 1) M2 (kN (tb i)) f (by omega) (by omega) ht2 (by
        by_cases e : kN (tb i) = 3
        · exact Or.inl ⟨⟨_, a4 e⟩, Or.inr e⟩
        · exact Or.inr ⟨_, a3 e⟩)
      exact ⟨M', c', q', b1, f5_tr a5 b2, b3⟩
    have cp : (∃ c, tCP M tb n c i) ∨ (∃ c, tOP M tb n c i q ∧ kN (tb i) = q) := by
      rcases h with ⟨h, -⟩ | ⟨c, h⟩
      · exact Or.inl h
      · by_cases e : kN (tb i) = q
        · exact Or.inr ⟨c, h, e⟩
        · exact Or.inl ⟨c + 1, tOP_CP h (by omega) (Or.inr e)⟩
    rcases cp with ⟨c, cp⟩ | ⟨c, op, e⟩
    · by_cases k4 : kN (tb i) = 4
      · rw [k4, if_neg (show ¬ nI 4 = (3 : Int32) by decide), if_pos (show nI 4 = (4 : Int32) from rfl), if_pos (show nI 4 = (4 : Int32) from rfl)]
        obtain ⟨M', c', q', b1, b2, b3⟩ := ih (i + 1) M 4 f (by omega) (by omega) ht (Or.inl ⟨⟨c, tCP_sp cp k4⟩, Or.inl rfl⟩)
        exact ⟨M', c', q', b1, b2, b3⟩
      · obtain ⟨M1, M2, a1, a2, M', c', q', b1, b2, b3⟩ := new c cp k4
        by_cases k3 : kN (tb i) = 3
        · rw [k3] at a1 b3 ⊢
          rw [if_pos (show nI 3 = (3 : Int32) from rfl), a1, Option.bind_some, if_neg (show ¬ nI 3 = (4 : Int32) by decide), a2, Option.bind_some]
          exact ⟨M', c', q', b1, b2, b3⟩
        · have hk := kN_c (tb i)
          by_cases eq : kN (tb i) = q
          · -- q is 3 or 4 where all tokens are whole, or the open one ended
            rcases h with ⟨-, h34⟩ | ⟨c2, h2⟩
            · omega
            · -- the open token goes on: the other case
              exfalso
              obtain ⟨x1, x2, x3, x4, x5⟩ := cp
              obtain ⟨y1, y2, y3, y4, y5, -⟩ := h2
              have ec : c = c2 + 1 := (nI_eq (by omega) (by omega)).mp (x1.symm.trans y1)
              subst ec
              have z1 := (x5 c2 (by omega)).1
              have hbq : kN (tb (tkB tb n (tE tb n c2))) = q := y5 _ (Nat.le_refl _) y4
              have z2 : i + 1 ≤ tE tb n (c2 + 1) := by
                rw [tE, tkE, if_neg (by omega), if_neg (by omega), hbq]
                rcases Nat.lt_or_ge i (rn tb n q (tkB tb n (tE tb n c2))) with g | g
                · omega
                · have w0 := rn_ge (tb := tb) (n := n) (q := q) (p := tkB tb n (tE tb n c2))
                  have w := rn_at (tb := tb) (q := q) (show tkB tb n (tE tb n c2) ≤ n by omega)
                  rcases w with w | w
                  · omega
                  · by_cases e2 : rn tb n q (tkB tb n (tE tb n c2)) = i
                    · rw [e2] at w; exact absurd eq w
                    · exact absurd (y5 _ w0 (by omega)) w
              omega
          · have g3 := n_3 (kN (tb i)) (by omega) k3
            have g4 := n_4 (kN (tb i)) (by omega) k4
            simp only [g3, g4, if_false]
            rw [a1, Option.bind_some, a2, Option.bind_some]
            have hq : ¬ nI (kN (tb i)) = nI q := by
              intro c
              have : q < 2 ^ 31 := by
                rcases h with ⟨-, h34⟩ | ⟨c2, h2⟩
                · omega
                · have := h2.2.2.1; omega
              exact eq ((nI_eq (by omega) this).mp c)
            rw [if_neg hq]
            exact ⟨M', c', q', b1, b2, b3⟩
    · have q12 := op.2.2.1
      obtain ⟨M2, a1, a2, a3⟩ := cl_lenOP ht hv hi2 op e
      have g3 := n_3 q (by omega) (by omega)
      have g4 := n_4 q (by omega) (by omega)
      rw [e]
      simp only [g3, g4, if_false, if_true]
      rw [a1, Option.bind_some]
      obtain ⟨M', c', q', b1, b2, b3⟩ := ih (i + 1) M2 q f (by omega) (by omega) (tc_fr rfl rfl a3.1 ht) (Or.inr ⟨c, a2⟩)
      exact ⟨M', c', q', b1, f5_tr a3 b2, b3⟩
