/-! texts, tokens, scan: the class (mk8U.py, from whole) -/
def TV (tb : Nat → Nat) (n : Nat) : Prop := n ≤ 800 ∧ ∀ k, k < n → 1 ≤ tb k ∧ tb k < 256
def TCl (M : Mm) (tb : Nat → Nat) (n : Nat) : Prop := M.1 (1, 0, 0) 1 = nI n ∧ ∀ k, k < n → M.1 (2, 0, 0) k = nI (tb k)
def sTx (r : Rf) : Bool := r == (1, 0, 0) || r == (2, 0, 0)
theorem cl_at {M : Mm} {tb : Nat → Nat} {n k : Nat} (h : TCl M tb n) (hn : n ≤ 800) (hk : k < n) : fX1_at M 0 (nI k) = some (nI (tb k)) := by
  rw [fX1_at, h.1, if_neg (nI_pos (by omega)), if_neg (nI_ge hk (by omega)), if_neg (show ¬ (Int32.ofNat (bl 0)) ≤ nI k from nI_ge (b := 800) (by omega) (by decide)), if_neg (show ¬ (nI k < 0 ∨ bl 0 ≤ (nI k).toNatClampNeg) from nI_in (N := 800) (by omega) (by decide)), nI_clamp (by omega), h.2 k hk]
theorem cl_at_o {M : Mm} {tb : Nat → Nat} {n k : Nat} (h : TCl M tb n) (hn : n ≤ k) (hk : k < 2 ^ 31) : fX1_at M 0 (nI k) = some (-1) := by
  rw [fX1_at, h.1, if_neg (nI_pos (by omega)), if_pos (nI_le hn (by omega))]
def byN (x : Int32) (k : Nat) : Nat := x.toBitVec.toNat / 2 ^ k % 256
theorem byN_lt (x : Int32) (k : Nat) : byN x k < 256 := Nat.mod_lt _ (by decide)
theorem nI_toNat (x : Int32) : x = nI x.toBitVec.toNat := by
  apply Int32.toBitVec_inj.1
  show x.toBitVec = BitVec.ofNat 32 x.toBitVec.toNat
  simp
theorem by_c (x : Int32) (k : Nat) (hk : k < 32) : (((x.toUInt32 >>> ((nI k).toUInt32 &&& Int32.toUInt32 31)).toInt32) &&& 255) = nI (byN x k) := by
  rw [pk_and _ 8 (by decide)]
  have e : ((x.toUInt32 >>> ((nI k).toUInt32 &&& Int32.toUInt32 31)).toInt32).toBitVec.toNat = x.toBitVec.toNat / 2 ^ k := by
    show ((x.toUInt32 >>> ((nI k).toUInt32 &&& Int32.toUInt32 31)).toBitVec).toNat = x.toUInt32.toBitVec.toNat / 2 ^ k
    rw [UInt32.toBitVec_shiftRight]
    show (x.toUInt32.toBitVec >>> (((nI k).toUInt32 &&& Int32.toUInt32 31).toBitVec % 32).toNat).toNat = _
    rw [s_u k hk, BitVec.toNat_ushiftRight, Nat.shiftRight_eq_div_pow]
  rw [e]
  rfl
def ap1 (q : (Nat → Nat) × Nat) (b : Nat) : (Nat → Nat) × Nat := if b = 0 then q else (fun k => if k = q.2 then b else q.1 k, q.2 + 1)
def apW (q : (Nat → Nat) × Nat) (x : Int32) : (Nat → Nat) × Nat := ap1 (ap1 (ap1 (ap1 q (byN x 24)) (byN x 16)) (byN x 8)) (byN x 0)
def nzN (b : Nat) : Nat := if b = 0 then 0 else 1
def cnW (x : Int32) : Nat := nzN (byN x 24) + nzN (byN x 16) + nzN (byN x 8) + nzN (byN x 0)
theorem ap1_n (q : (Nat → Nat) × Nat) (b : Nat) : (ap1 q b).2 = q.2 + nzN b := by
  unfold ap1 nzN
  split <;> rfl
theorem apW_n (q : (Nat → Nat) × Nat) (x : Int32) : (apW q x).2 = q.2 + cnW x := by
  unfold apW cnW
  rw [ap1_n, ap1_n, ap1_n, ap1_n]
  omega
theorem nzN_le (b : Nat) : nzN b ≤ 1 := by unfold nzN; split <;> omega
theorem cnW_le (x : Int32) : cnW x ≤ 4 := by
  have h1 := nzN_le (byN x 24)
  have h2 := nzN_le (byN x 16)
  have h3 := nzN_le (byN x 8)
  have h4 := nzN_le (byN x 0)
  unfold cnW
  omega
theorem ap1_lo {q : (Nat → Nat) × Nat} {b k : Nat} (h : k < q.2) : (ap1 q b).1 k = q.1 k := by
  unfold ap1
  split
  · rfl
  · show (if k = q.2 then b else q.1 k) = _
    rw [if_neg (by omega)]
theorem apW_lo {q : (Nat → Nat) × Nat} {x : Int32} {k : Nat} (h : k < q.2) : (apW q x).1 k = q.1 k := by
  unfold apW
  rw [ap1_lo (by rw [ap1_n, ap1_n, ap1_n]; omega), ap1_lo (by rw [ap1_n, ap1_n]; omega), ap1_lo (by rw [ap1_n]; omega), ap1_lo h]
theorem ap1_v {q : (Nat → Nat) × Nat} {b : Nat} (hb : b < 256) (h : ∀ k, k < q.2 → 1 ≤ q.1 k ∧ q.1 k < 256) : ∀ k, k < (ap1 q b).2 → 1 ≤ (ap1 q b).1 k ∧ (ap1 q b).1 k < 256 := by
  intro k hk
  unfold ap1 at *
  split at hk
  · rename_i e; rw [if_pos e]; exact h k hk
  · rename_i e
    rw [if_neg e]
    show 1 ≤ (if k = q.2 then b else q.1 k) ∧ (if k = q.2 then b else q.1 k) < 256
    by_cases e2 : k = q.2
    · rw [if_pos e2]; omega
    · rw [if_neg e2]
      have hk2 : k < q.2 + 1 := hk
      exact h k (by omega)
theorem apW_v {q : (Nat → Nat) × Nat} {x : Int32} (h : ∀ k, k < q.2 → 1 ≤ q.1 k ∧ q.1 k < 256) : ∀ k, k < (apW q x).2 → 1 ≤ (apW q x).1 k ∧ (apW q x).1 k < 256 :=
  ap1_v (byN_lt _ _) (ap1_v (byN_lt _ _) (ap1_v (byN_lt _ _) (ap1_v (byN_lt _ _) h)))
theorem nI_z {b : Nat} (hb : b < 256) : nI b = 0 ↔ b = 0 := by
  rw [← nI_0, nI_eq (by omega) (by omega)]
theorem cl_put {M : Mm} {q : (Nat → Nat) × Nat} {b : Nat} (h : TCl M q.1 q.2) (hn : q.2 < 800) : ∃ M', fX1_put M 0 (nI b) = some M' ∧ TCl M' (fun k => if k = q.2 then b else q.1 k) (q.2 + 1) ∧ Fr sTx M M' := by
  rw [fX1_put, h.1, if_neg (nI_pos (by omega)), if_neg (show ¬ (Int32.ofNat (bl 0)) ≤ nI q.2 from nI_ge (b := 800) (by omega) (by decide)), if_neg (show ¬ (nI q.2 < 0 ∨ bl 0 ≤ (nI q.2).toNatClampNeg) from nI_in (N := 800) (by omega) (by decide)), nI_clamp (by omega), ← nI_succ]
  refine ⟨_, rfl, ⟨by rw [g_row, upd_s], fun k hk => ?_⟩, fr_pI (fr_putI rfl) rfl⟩
  rw [putI_ne (by decide), g_row]
  dsimp only
  by_cases e : k = q.2
  · rw [if_pos e, e, upd_s]
  · rw [if_neg e, upd_o e]; exact h.2 k (by omega)
theorem cl_put1 {M : Mm} {q : (Nat → Nat) × Nat} {x : Int32} {s : Nat} {v : Int32} {K : Int32 → Mm → Option Mm} {n : Nat} (hs : s < 32) (hv : v = nI s) (h : TCl M q.1 q.2) (hn : (ap1 q (byN x s)).2 ≤ 800) : ∃ M', TCl M' (ap1 q (byN x s)).1 (ap1 q (byN x s)).2 ∧ Fr sTx M M' ∧ fX9_putBytes_L3 x K (n + 1) v M = fX9_putBytes_L3 x K n (v + -8) M' := by
  subst hv
  rw [fX9_putBytes_L3, if_neg (nI_pos (by omega)), by_c x s hs]
  unfold ap1 at *
  by_cases e : byN x s = 0
  · rw [if_pos e] at *
    exact ⟨M, h, fr_rf, by rw [if_pos ((nI_z (byN_lt _ _)).mpr e)]⟩
  · rw [if_neg e] at *
    have hn2 : q.2 + 1 ≤ 800 := hn
    obtain ⟨M', a1, a2, a3⟩ := cl_put (b := byN x s) h (by omega)
    exact ⟨M', a2, a3, by rw [if_neg (fun c => e ((nI_z (byN_lt _ _)).mp c)), a1, Option.bind_some]⟩
theorem cl_putW {M : Mm} {q : (Nat → Nat) × Nat} {x : Int32} (h : TCl M q.1 q.2) (hn : (apW q x).2 ≤ 800) : ∃ M', fX9_putBytes M x = some M' ∧ TCl M' (apW q x).1 (apW q x).2 ∧ Fr sTx M M' := by
  have h0 := ap1_n (ap1 (ap1 (ap1 q (byN x 24)) (byN x 16)) (byN x 8)) (byN x 0)
  have h1 := ap1_n (ap1 (ap1 q (byN x 24)) (byN x 16)) (byN x 8)
  have h2 := ap1_n (ap1 q (byN x 24)) (byN x 16)
  unfold apW at *
  obtain ⟨M1, a1, a2, a3⟩ := cl_put1 (x := x) (s := 24) (v := 24) (K := fun w5 M6 => some M6) (n := 4999) (by decide) rfl h (by omega)
  obtain ⟨M2, b1, b2, b3⟩ := cl_put1 (x := x) (s := 16) (v := 24 + -8) (K := fun w5 M6 => some M6) (n := 4998) (by decide) (by decide) a1 (by omega)
  obtain ⟨M3, c1, c2, c3⟩ := cl_put1 (x := x) (s := 8) (v := 24 + -8 + -8) (K := fun w5 M6 => some M6) (n := 4997) (by decide) (by decide) b1 (by omega)
  obtain ⟨M4, d1, d2, d3⟩ := cl_put1 (x := x) (s := 0) (v := 24 + -8 + -8 + -8) (K := fun w5 M6 => some M6) (n := 4996) (by decide) (by decide) c1 hn
  refine ⟨M4, ?_, d1, fr_tr (fr_tr (fr_tr a2 b2) c2) d2⟩
  have e5 : fX9_putBytes_L3 x (fun w5 M6 => some M6) 4996 (24 + -8 + -8 + -8 + -8) M4 = some M4 := by
    rw [show 4996 = 4995 + 1 from rfl, fX9_putBytes_L3, if_pos (by decide)]
  exact a3.trans (b3.trans (c3.trans (d3.trans e5)))
theorem cl_byte1 {M : Mm} {x v : Int32} {a s n : Nat} {K : Int32 → Int32 → Option Int32} (hs : s < 32) (hv : v = nI s) : fX9_bytesIn_L5 M x K (n + 1) (nI a) v = fX9_bytesIn_L5 M x K n (nI (a + nzN (byN x s))) (v + -8) := by
  subst hv
  rw [fX9_bytesIn_L5, if_neg (nI_pos (by omega)), by_c x s hs]
  unfold nzN
  by_cases e : byN x s = 0
  · rw [if_pos e, if_pos ((nI_z (byN_lt _ _)).mpr e)]; rfl
  · rw [if_neg e, if_neg (fun c => e ((nI_z (byN_lt _ _)).mp c)), ← nI_succ]
theorem cl_bytesIn (M : Mm) (x : Int32) : fX9_bytesIn M x = some (nI (cnW x)) := by
  have a := cl_byte1 (M := M) (x := x) (v := 24) (a := 0) (s := 24) (n := 4999) (K := fun w3 w4 => some w3) (by decide) rfl
  have b := cl_byte1 (M := M) (x := x) (v := 24 + -8) (a := 0 + nzN (byN x 24)) (s := 16) (n := 4998) (K := fun w3 w4 => some w3) (by decide) (by decide)
  have c := cl_byte1 (M := M) (x := x) (v := 24 + -8 + -8) (a := 0 + nzN (byN x 24) + nzN (byN x 16)) (s := 8) (n := 4997) (K := fun w3 w4 => some w3) (by decide) (by decide)
  have d := cl_byte1 (M := M) (x := x) (v := 24 + -8 + -8 + -8) (a := 0 + nzN (byN x 24) + nzN (byN x 16) + nzN (byN x 8)) (s := 0) (n := 4996) (K := fun w3 w4 => some w3) (by decide) (by decide)
  have e5 : fX9_bytesIn_L5 M x (fun w3 w4 => some w3) 4996 (nI (0 + nzN (byN x 24) + nzN (byN x 16) + nzN (byN x 8) + nzN (byN x 0))) (24 + -8 + -8 + -8 + -8) = some (nI (cnW x)) := by
    rw [show 4996 = 4995 + 1 from rfl, fX9_bytesIn_L5, if_pos (by decide), cnW, Nat.zero_add]
  exact a.trans (b.trans (c.trans (d.trans e5)))
def kN (b : Nat) : Nat := if b = 32 ∨ b = 10 then 4 else if 97 ≤ b ∧ b ≤ 122 then 1 else if 48 ≤ b ∧ b ≤ 57 then 2 else 3
def kdI (x1 : Int32) : Int32 := if x1 = (32 : Int32) then (4 : Int32) else if x1 = (10 : Int32) then (4 : Int32) else if x1 < (97 : Int32) then (if x1 < (48 : Int32) then (3 : Int32) else if (57 : Int32) < x1 then (3 : Int32) else (2 : Int32)) else if (122 : Int32) < x1 then (if x1 < (48 : Int32) then (3 : Int32) else if (57 : Int32) < x1 then (3 : Int32) else (2 : Int32)) else (1 : Int32)
theorem kd_c : ∀ b, b < 256 → kdI (nI b) = nI (kN b) := by decide +kernel
theorem cl_kind {M : Mm} {b : Nat} (hb : b < 256) : fX7_kindOf M (nI b) = nI (kN b) := (show fX7_kindOf M (nI b) = kdI (nI b) from rfl).trans (kd_c b hb)
theorem kN_c (b : Nat) : kN b = 1 ∨ kN b = 2 ∨ kN b = 3 ∨ kN b = 4 := by
  unfold kN
  split
  · simp
  · split
    · simp
    · split <;> simp
def rnF (tb : Nat → Nat) (n q : Nat) : Nat → Nat → Nat
  | 0, p => p
  | f + 1, p => if p < n ∧ kN (tb p) = q then rnF tb n q f (p + 1) else p
def rn (tb : Nat → Nat) (n q p : Nat) : Nat := rnF tb n q (n - p) p
theorem rn_sp {tb : Nat → Nat} {n q : Nat} : ∀ (f p : Nat), p + f = n → p ≤ rnF tb n q f p ∧ rnF tb n q f p ≤ n ∧ (∀ k, p ≤ k → k < rnF tb n q f p → kN (tb k) = q) ∧ (rnF tb n q f p = n ∨ kN (tb (rnF tb n q f p)) ≠ q)
  | 0, p, h => by
    rw [rnF]
    exact ⟨Nat.le_refl _, by omega, fun k h1 h2 => by omega, Or.inl (by omega)⟩
  | f + 1, p, h => by
    rw [rnF]
    by_cases c : p < n ∧ kN (tb p) = q
    · rw [if_pos c]
      obtain ⟨h1, h2, h3, h4⟩ := rn_sp (tb := tb) (n := n) (q := q) f (p + 1) (by omega)
      refine ⟨by omega, h2, fun k a b => ?_, h4⟩
      by_cases e : k = p
      · rw [e]; exact c.2
      · exact h3 k (by omega) b
    · rw [if_neg c]
      exact ⟨Nat.le_refl _, by omega, fun k h1 h2 => by omega, Or.inr fun e => c ⟨by omega, e⟩⟩
theorem rn_ge {tb : Nat → Nat} {n q p : Nat} : p ≤ rn tb n q p := by
  by_cases h : p ≤ n
  · exact (rn_sp (n - p) p (by omega)).1
  · rw [rn, show n - p = 0 by omega, rnF]; exact Nat.le_refl _
theorem rn_le {tb : Nat → Nat} {n q p : Nat} (h : p ≤ n) : rn tb n q p ≤ n := (rn_sp (n - p) p (by omega)).2.1
theorem rn_in {tb : Nat → Nat} {n q p k : Nat} (h : p ≤ n) (h1 : p ≤ k) (h2 : k < rn tb n q p) : kN (tb k) = q := (rn_sp (n - p) p (by omega)).2.2.1 k h1 h2
theorem rn_at {tb : Nat → Nat} {n q p : Nat} (h : p ≤ n) : rn tb n q p = n ∨ kN (tb (rn tb n q p)) ≠ q := (rn_sp (n - p) p (by omega)).2.2.2
theorem rn_eq {tb : Nat → Nat} {n q p i : Nat} (h1 : p ≤ i) (h2 : i ≤ n) (h3 : ∀ k, p ≤ k → k < i → kN (tb k) = q) (h4 : i = n ∨ kN (tb i) ≠ q) : rn tb n q p = i := by
  have a1 := rn_le (tb := tb) (q := q) (show p ≤ n by omega)
  have a2 := rn_ge (tb := tb) (n := n) (q := q) (p := p)
  rcases Nat.lt_trichotomy (rn tb n q p) i with h | h | h
  · rcases rn_at (tb := tb) (q := q) (show p ≤ n by omega) with e | e
    · omega
    · exact absurd (h3 _ a2 h) e
  · exact h
  · rcases h4 with e | e
    · omega
    · exact absurd (rn_in (show p ≤ n by omega) h1 h) e
def tkB (tb : Nat → Nat) (n p : Nat) : Nat := rn tb n 4 p
def tkK (tb : Nat → Nat) (n p : Nat) : Nat := if n ≤ tkB tb n p then 0 else kN (tb (tkB tb n p))
def tkE (tb : Nat → Nat) (n p : Nat) : Nat := if n ≤ tkB tb n p then tkB tb n p else if kN (tb (tkB tb n p)) = 3 then tkB tb n p + 1 else rn tb n (kN (tb (tkB tb n p))) (tkB tb n p)
def tE (tb : Nat → Nat) (n : Nat) : Nat → Nat
  | 0 => 0
  | j + 1 => tkE tb n (tE tb n j)
def wS (cap : Nat) (tb : Nat → Nat) (b : Nat) : Nat → Nat
  | 0 => 0
  | k + 1 => min cap (10 * wS cap tb b k + (tb (b + k) - 48))
theorem wS_le {cap : Nat} {tb : Nat → Nat} {b : Nat} : ∀ k, wS cap tb b k ≤ cap
  | 0 => Nat.zero_le _
  | k + 1 => by rw [wS]; omega
theorem wS_min {tb : Nat → Nat} {b : Nat} : ∀ k, min 10000 (wS 1000000 tb b k) = wS 10000 tb b k
  | 0 => rfl
  | k + 1 => by
    have := wS_min (tb := tb) (b := b) k
    rw [wS, wS]
    omega
theorem tkB_ge {tb : Nat → Nat} {n p : Nat} : p ≤ tkB tb n p := rn_ge
theorem tkB_le {tb : Nat → Nat} {n p : Nat} (h : p ≤ n) : tkB tb n p ≤ n := rn_le h
theorem tkB_ns {tb : Nat → Nat} {n p : Nat} (h : p ≤ n) (h2 : tkB tb n p < n) : kN (tb (tkB tb n p)) ≠ 4 := by
  rcases rn_at (tb := tb) (q := 4) h with e | e
  · unfold tkB at h2; omega
  · exact e
theorem tkE_le {tb : Nat → Nat} {n p : Nat} (h : p ≤ n) : tkE tb n p ≤ n ∧ tkB tb n p ≤ tkE tb n p := by
  have h1 := tkB_le (tb := tb) h
  unfold tkE
  split
  · exact ⟨h1, Nat.le_refl _⟩
  · split
    · omega
    · exact ⟨rn_le h1, rn_ge⟩
theorem tkE_gt {tb : Nat → Nat} {n p : Nat} (h : p ≤ n) (hk : tkK tb n p ≠ 0) : tkB tb n p < tkE tb n p := by
  unfold tkK at hk
  by_cases c : n ≤ tkB tb n p
  · rw [if_pos c] at hk; exact absurd rfl hk
  · unfold tkE
    rw [if_neg c]
    split
    · omega
    · have h1 := rn_ge (tb := tb) (n := n) (q := kN (tb (tkB tb n p))) (p := tkB tb n p)
      rcases Nat.lt_or_ge (tkB tb n p) (rn tb n (kN (tb (tkB tb n p))) (tkB tb n p)) with h2 | h2
      · exact h2
      · have e : rn tb n (kN (tb (tkB tb n p))) (tkB tb n p) = tkB tb n p := by omega
        rcases rn_at (tb := tb) (q := kN (tb (tkB tb n p))) (tkB_le (tb := tb) h) with e2 | e2
        · omega
        · rw [e] at e2; exact absurd rfl e2
theorem tE_le {tb : Nat → Nat} {n : Nat} : ∀ j, tE tb n j ≤ n
  | 0 => Nat.zero_le _
  | j + 1 => (tkE_le (tE_le j)).1
theorem tkK_c {tb : Nat → Nat} {n p : Nat} (h : p ≤ n) : tkK tb n p = 0 ∨ tkK tb n p = 1 ∨ tkK tb n p = 2 ∨ tkK tb n p = 3 := by
  unfold tkK
  split
  · simp
  · have := tkB_ns (tb := tb) h (by omega)
    rcases kN_c (tb (tkB tb n p)) with e | e | e | e
    · simp [e]
    · simp [e]
    · simp [e]
    · exact absurd e this
def tkOK (M : Mm) (tb : Nat → Nat) (n j : Nat) : Prop := M.1 (4, 0, 0) j = nI (tkK tb n (tE tb n j)) ∧ M.1 (4, 1, 0) j = nI (tkB tb n (tE tb n j)) ∧ M.1 (4, 2, 0) j = nI (tE tb n (j + 1)) ∧ (tkK tb n (tE tb n j) = 2 → M.1 (4, 3, 0) j = nI (wS 1000000 tb (tkB tb n (tE tb n j)) (tE tb n (j + 1) - tkB tb n (tE tb n j))))
def sTk (r : Rf) : Bool := r.1 == 3 || r.1 == 4
theorem tk_fr {M M' : Mm} {tb : Nat → Nat} {n j : Nat} (h0 : M'.1 (4, 0, 0) j = M.1 (4, 0, 0) j) (h1 : M'.1 (4, 1, 0) j = M.1 (4, 1, 0) j) (h2 : M'.1 (4, 2, 0) j = M.1 (4, 2, 0) j) (h3 : M'.1 (4, 3, 0) j = M.1 (4, 3, 0) j) (h : tkOK M tb n j) : tkOK M' tb n j := by
  unfold tkOK
  rw [h0, h1, h2, h3]
  exact h
def tCP (M : Mm) (tb : Nat → Nat) (n c i : Nat) : Prop := M.1 (3, 0, 0) 5 = nI c ∧ c ≤ i ∧ tE tb n c ≤ i ∧ (∀ k, tE tb n c ≤ k → k < i → kN (tb k) = 4) ∧ ∀ j, j < c → tkOK M tb n j ∧ tkK tb n (tE tb n j) ≠ 0
def tOP (M : Mm) (tb : Nat → Nat) (n c i q : Nat) : Prop := M.1 (3, 0, 0) 5 = nI (c + 1) ∧ c + 1 ≤ i ∧ (q = 1 ∨ q = 2) ∧ tkB tb n (tE tb n c) < i ∧ (∀ k, tkB tb n (tE tb n c) ≤ k → k < i → kN (tb k) = q) ∧ M.1 (4, 0, 0) c = nI q ∧ M.1 (4, 1, 0) c = nI (tkB tb n (tE tb n c)) ∧ M.1 (4, 2, 0) c = nI i ∧ (q = 2 → M.1 (4, 3, 0) c = nI (wS 1000000 tb (tkB tb n (tE tb n c)) (i - tkB tb n (tE tb n c)))) ∧ ∀ j, j < c → tkOK M tb n j ∧ tkK tb n (tE tb n j) ≠ 0
theorem tOP_CP {M : Mm} {tb : Nat → Nat} {n c i q : Nat} (h : tOP M tb n c i q) (hi : i ≤ n) (hq : i = n ∨ kN (tb i) ≠ q) : tCP M tb n (c + 1) i := by
  obtain ⟨h1, h2, h3, h4, h5, h6, h7, h8, h9, h10⟩ := h
  have hb : kN (tb (tkB tb n (tE tb n c))) = q := h5 _ (Nat.le_refl _) h4
  have hk : tkK tb n (tE tb n c) = q := by rw [tkK, if_neg (by omega), hb]
  have he : tE tb n (c + 1) = i := by
    rw [tE, tkE, if_neg (by omega), if_neg (by omega), hb]
    exact rn_eq (by omega) hi h5 hq
  refine ⟨h1, h2, by omega, fun k a b => by omega, fun j hj => ?_⟩
  by_cases e : j = c
  · subst e
    refine ⟨⟨by rw [h6, hk], h7, by rw [h8, he], fun h2 => ?_⟩, by omega⟩
    rw [he]
    exact h9 (by omega)
  · exact h10 j (by omega)
theorem tCP_sp {M : Mm} {tb : Nat → Nat} {n c i : Nat} (h : tCP M tb n c i) (hq : kN (tb i) = 4) : tCP M tb n c (i + 1) := by
  obtain ⟨h1, h2, h3, h4, h5⟩ := h
  refine ⟨h1, by omega, by omega, fun k a b => ?_, h5⟩
  by_cases e : k = i
  · rw [e]; exact hq
  · exact h4 k a (by omega)
def pTok (M : Mm) (c : Nat) (k s : Int32) : Mm := putI (putI (putI (putI (putI M (4, 0, 0) c k) (4, 1, 0) c s) (4, 2, 0) c s) (4, 3, 0) c 0) (3, 0, 0) 5 (nI (c + 1))
theorem cl_pTok {M : Mm} {c : Nat} {k s : Int32} (h : M.1 (3, 0, 0) 5 = nI c) (hc : c < 801) : fX7_putToken M k s = some (pTok M c k s) := by
  have hg : ¬ (nI c < 0 ∨ 801 ≤ (nI c).toNatClampNeg) := nI_in (by omega) (by decide)
  rw [fX7_putToken, h, if_neg (nI_pos (by omega)), if_neg (show ¬ (801 : Int32) ≤ nI c from nI_ge (b := 801) hc (by decide))]
  simp only [hg, if_false]
  rw [nI_clamp (by omega), ← nI_succ]
  rfl
def F5 (M M' : Mm) : Prop := Fr sTk M M' ∧ ∀ j, j ≠ 5 → M'.1 (3, 0, 0) j = M.1 (3, 0, 0) j
theorem f5_rf {M : Mm} : F5 M M := ⟨fr_rf, fun _ _ => rfl⟩
theorem f5_tr {M M1 M2 : Mm} (h : F5 M M1) (h2 : F5 M1 M2) : F5 M M2 := ⟨fr_tr h.1 h2.1, fun j hj => (h2.2 j hj).trans (h.2 j hj)⟩
theorem f5_p {M M1 : Mm} {a j : Nat} {v : Int32} (h : F5 M M1) : F5 M (putI M1 (4, a, 0) j v) := ⟨fr_pI h.1 rfl, fun k hk => by rw [putI_ne (fun c => by cases c)]; exact h.2 k hk⟩
theorem pTok_f5 {M : Mm} {c : Nat} {k s : Int32} : F5 M (pTok M c k s) := by
  have h : F5 M _ := f5_p (a := 3) (j := c) (v := 0) (f5_p (a := 2) (j := c) (v := s) (f5_p (a := 1) (j := c) (v := s) (f5_p (a := 0) (j := c) (v := k) f5_rf)))
  exact ⟨fr_pI h.1 rfl, fun j hj => by rw [pTok, g_row, upd_o hj]; exact h.2 j hj⟩
theorem pTok_fr {M : Mm} {c : Nat} {k s : Int32} : Fr sTk M (pTok M c k s) := fr_pI (fr_pI (fr_pI (fr_pI (fr_putI rfl) rfl) rfl) rfl) rfl
theorem cl_len {M : Mm} {tb : Nat → Nat} {n c i : Nat} (h : M.1 (3, 0, 0) 5 = nI (c + 1)) (hc : c < 801) (ht : TCl M tb n) (hn : n ≤ 800) (hi : i < n) :
    fX7_lengthenToken M (nI i) = some (if M.1 (4, 0, 0) c = 2 then putI (putI M (4, 2, 0) c (nI (i + 1))) (4, 3, 0) c (mnI 1000000 ((M.1 (4, 3, 0) c * 10 + nI (tb i)) - 48)) else putI M (4, 2, 0) c (nI (i + 1))) := by
  have hg : ¬ (nI c < 0 ∨ 801 ≤ (nI c).toNatClampNeg) := nI_in (by omega) (by decide)
  have ht2 : TCl (putI M (4, 2, 0) c (nI (i + 1))) tb n := ⟨by rw [putI_ne (by decide)]; exact ht.1, fun k hk => by rw [putI_ne (by decide)]; exact ht.2 k hk⟩
  rw [fX7_lengthenToken, h, nI_pred, if_neg (nI_pos (by omega)), if_pos (show nI c < (801 : Int32) from nI_lt (b := 801) hc (by decide))]
  simp only [hg, if_false]
  rw [nI_clamp (by omega), ← nI_succ, cl_at ht2 hn hi, Option.bind_some]
  by_cases e : M.1 (4, 0, 0) c = 2
  · rw [if_pos e, if_pos e]; rfl
  · rw [if_neg e, if_neg e]
theorem dgtk {b : Nat} (h : kN b = 2) : 48 ≤ b ∧ b ≤ 57 := by
  unfold kN at h
  split at h
  · omega
  · split at h
    · omega
    · split at h
      · assumption
      · omega
theorem wI {w b cap : Nat} (hw : w ≤ 1000000) (hc : cap ≤ 1000000) (hb : 48 ≤ b ∧ b ≤ 57) : mnI (nI cap) ((nI w * 10 + nI b) - 48) = nI (min cap (10 * w + (b - 48))) := by
  have e : (nI w * 10 + nI b) - 48 = nI (10 * w + (b - 48)) := by
    show (nI w * nI 10 + nI b) - nI 48 = _
    rw [pk_mul, nI_add, pk_sub (by omega), show w * 10 + b - 48 = 10 * w + (b - 48) by omega]
  rw [e, mnI]
  by_cases c : 10 * w + (b - 48) < cap
  · rw [if_pos (nI_lt c (by omega)), Nat.min_eq_right (by omega)]
  · rw [if_neg (nI_nlt (by omega) (by omega)), Nat.min_eq_left (by omega)]
theorem cl_lenOP {M : Mm} {tb : Nat → Nat} {n c i q : Nat} (ht : TCl M tb n) (hv : TV tb n) (hi : i < n) (h : tOP M tb n c i q) (hq : kN (tb i) = q) : ∃ M', fX7_lengthenToken M (nI i) = some M' ∧ tOP M' tb n c (i + 1) q ∧ F5 M M' := by
  obtain ⟨h1, h2, h3, h4, h5, h6, h7, h8, h9, h10⟩ := h
  have hn := hv.1
  rw [cl_len h1 (by omega) ht hn hi, h6]
  have hk : ∀ k, tkB tb n (tE tb n c) ≤ k → k < i + 1 → kN (tb k) = q := fun k a b => by
    by_cases e : k = i
    · rw [e]; exact hq
    · exact h5 k a (by omega)
  rcases h3 with e | e
  · subst e
    rw [if_neg (by decide)]
    refine ⟨_, rfl, ⟨by rw [putI_ne (by decide)]; exact h1, by omega, Or.inl rfl, by omega, hk, by rw [putI_ne (by decide)]; exact h6, by rw [putI_ne (by decide)]; exact h7, by rw [g_row, upd_s], fun c => absurd c (by decide), fun j hj => ⟨tk_fr (by rw [putI_ne (by decide)]) (by rw [putI_ne (by decide)]) (by rw [g_row, upd_o (by omega)]) (by rw [putI_ne (by decide)]) (h10 j hj).1, (h10 j hj).2⟩⟩, f5_p f5_rf⟩
  · subst e
    rw [if_pos (show nI 2 = (2 : Int32) from rfl), h9 rfl]
    rw [show (1000000 : Int32) = nI 1000000 from rfl, wI (wS_le _) (by decide) (dgtk hq)]
    refine ⟨_, rfl, ⟨by rw [putI_ne (by decide), putI_ne (by decide)]; exact h1, by omega, Or.inr rfl, by omega, hk, by rw [putI_ne (by decide), putI_ne (by decide)]; exact h6, by rw [putI_ne (by decide), putI_ne (by decide)]; exact h7, by rw [putI_ne (by decide), g_row, upd_s], fun _ => ?_, fun j hj => ⟨tk_fr (by rw [putI_ne (by decide), putI_ne (by decide)]) (by rw [putI_ne (by decide), putI_ne (by decide)]) (by rw [putI_ne (by decide), g_row, upd_o (by omega)]) (by rw [g_row, upd_o (by omega), putI_ne (by decide)]) (h10 j hj).1, (h10 j hj).2⟩⟩, f5_p (f5_p f5_rf)⟩
    rw [g_row, upd_s, show i + 1 - tkB tb n (tE tb n c) = (i - tkB tb n (tE tb n c)) + 1 by omega, wS, show tkB tb n (tE tb n c) + (i - tkB tb n (tE tb n c)) = i by omega]
theorem pTok_old {M : Mm} {tb : Nat → Nat} {n c j : Nat} {k s : Int32} (hj : j < c) (h : tkOK M tb n j) : tkOK (pTok M c k s) tb n j := by
  unfold pTok
  exact tk_fr (by rw [putI_ne (by decide), putI_ne (by decide), putI_ne (by decide), putI_ne (by decide), g_row, upd_o (by omega)]) (by rw [putI_ne (by decide), putI_ne (by decide), putI_ne (by decide), g_row, upd_o (by omega), putI_ne (by decide)]) (by rw [putI_ne (by decide), putI_ne (by decide), g_row, upd_o (by omega), putI_ne (by decide), putI_ne (by decide)]) (by rw [putI_ne (by decide), g_row, upd_o (by omega), putI_ne (by decide), putI_ne (by decide), putI_ne (by decide)]) h
theorem pTok_g {M : Mm} {c : Nat} {k s : Int32} : (pTok M c k s).1 (4, 0, 0) c = k ∧ (pTok M c k s).1 (4, 1, 0) c = s ∧ (pTok M c k s).1 (4, 2, 0) c = s ∧ (pTok M c k s).1 (4, 3, 0) c = 0 ∧ (pTok M c k s).1 (3, 0, 0) 5 = nI (c + 1) := by
  unfold pTok
  refine ⟨?_, ?_, ?_, ?_, ?_⟩
  · rw [putI_ne (by decide), putI_ne (by decide), putI_ne (by decide), putI_ne (by decide), g_row, upd_s]
  · rw [putI_ne (by decide), putI_ne (by decide), putI_ne (by decide), g_row, upd_s]
  · rw [putI_ne (by decide), putI_ne (by decide), g_row, upd_s]
  · rw [putI_ne (by decide), g_row, upd_s]
  · rw [g_row, upd_s]
theorem cl_newTok {M : Mm} {tb : Nat → Nat} {n c i q : Nat} (ht : TCl M tb n) (hv : TV tb n) (hi : i < n) (h : tCP M tb n c i) (hq : kN (tb i) = q) (h4 : q ≠ 4) :
    ∃ M1 M2, fX7_putToken M (nI q) (nI i) = some M1 ∧ fX7_lengthenToken M1 (nI i) = some M2 ∧ (q ≠ 3 → tOP M2 tb n c (i + 1) q) ∧ (q = 3 → tCP M2 tb n (c + 1) (i + 1)) ∧ F5 M M2 := by
  obtain ⟨h1, h2, h3, h5, h6⟩ := h
  have hn := hv.1
  have hq3 := kN_c (tb i)
  have hB : tkB tb n (tE tb n c) = i := rn_eq h3 (by omega) h5 (Or.inr (by omega))
  obtain ⟨p0, p1, p2, p3, p5⟩ := pTok_g (M := M) (c := c) (k := nI q) (s := nI i)
  have ht2 : TCl (pTok M c (nI q) (nI i)) tb n := ⟨by rw [(pTok_fr (1, 0, 0) rfl).1]; exact ht.1, fun k hk => by rw [(pTok_fr (2, 0, 0) rfl).1]; exact ht.2 k hk⟩
  refine ⟨_, _, cl_pTok h1 (by omega), cl_len p5 (by omega) ht2 hn hi, fun q3 => ?_, fun q3 => ?_, ?_⟩
  · rw [p0, p3]
    have hk : ∀ k, tkB tb n (tE tb n c) ≤ k → k < i + 1 → kN (tb k) = q := fun k a b => by rw [show k = i by omega]; exact hq
    by_cases e : q = 2
    · subst e
      rw [if_pos (show nI 2 = (2 : Int32) from rfl)]
      refine ⟨by rw [putI_ne (by decide), putI_ne (by decide)]; exact p5, by omega, Or.inr rfl, by omega, hk, by rw [putI_ne (by decide), putI_ne (by decide)]; exact p0, by rw [putI_ne (by decide), putI_ne (by decide), hB]; exact p1, by rw [putI_ne (by decide), g_row, upd_s], fun _ => ?_, fun j hj => ⟨tk_fr (by rw [putI_ne (by decide), putI_ne (by decide)]) (by rw [putI_ne (by decide), putI_ne (by decide)]) (by rw [putI_ne (by decide), g_row, upd_o (by omega)]) (by rw [g_row, upd_o (by omega), putI_ne (by decide)]) (pTok_old hj (h6 j hj).1), (h6 j hj).2⟩⟩
      rw [g_row, upd_s, hB, show i + 1 - i = 0 + 1 by omega, wS, wS]
      exact wI (w := 0) (cap := 1000000) (by decide) (by decide) (dgtk hq)
    · have q1 : q = 1 := by omega
      subst q1
      rw [if_neg (by decide)]
      refine ⟨by rw [putI_ne (by decide)]; exact p5, by omega, Or.inl rfl, by omega, hk, by rw [putI_ne (by decide)]; exact p0, by rw [putI_ne (by decide), hB]; exact p1, by rw [g_row, upd_s], fun c => absurd c (by decide), fun j hj => ⟨tk_fr (by rw [putI_ne (by decide)]) (by rw [putI_ne (by decide)]) (by rw [g_row, upd_o (by omega)]) (by rw [putI_ne (by decide)]) (pTok_old hj (h6 j hj).1), (h6 j hj).2⟩⟩
  · subst q3
    rw [p0, if_neg (by decide)]
    have hk : tkK tb n (tE tb n c) = 3 := by rw [tkK, hB, if_neg (by omega), hq]
    have he : tE tb n (c + 1) = i + 1 := by rw [tE, tkE, hB, if_neg (by omega), if_pos hq]
    refine ⟨by rw [putI_ne (by decide)]; exact p5, by omega, by omega, fun k a b => by omega, fun j hj => ?_⟩
    by_cases e : j = c
    · subst e
      refine ⟨⟨by rw [putI_ne (by decide), hk]; exact p0, by rw [putI_ne (by decide), hB]; exact p1, by rw [g_row, upd_s, he], fun c => by omega⟩, by omega⟩
    · exact ⟨tk_fr (by rw [putI_ne (by decide)]) (by rw [putI_ne (by decide)]) (by rw [g_row, upd_o (by omega)]) (by rw [putI_ne (by decide)]) (pTok_old (by omega) (h6 j (by omega)).1), (h6 j (by omega)).2⟩
  · rw [p0]
    split
    · exact f5_p (f5_p pTok_f5)
    · exact f5_p pTok_f5
theorem tc_fr {M M' : Mm} {tb : Nat → Nat} {n : Nat} {S : Rf → Bool} (h1 : S (1, 0, 0) = false) (h2 : S (2, 0, 0) = false) (hF : Fr S M M') (h : TCl M tb n) : TCl M' tb n := ⟨by rw [(hF _ h1).1]; exact h.1, fun k hk => by rw [(hF _ h2).1]; exact h.2 k hk⟩
theorem n_3 : ∀ a, a < 5 → a ≠ 3 → ¬ nI a = (3 : Int32) := by decide
theorem n_4 : ∀ a, a < 5 → a ≠ 4 → ¬ nI a = (4 : Int32) := by decide
theorem cl_scanL {tb : Nat → Nat} {n : Nat} (hv : TV tb n) {K : Int32 → Int32 → Mm → Option Mm} : ∀ (d i : Nat) (M : Mm) (q f : Nat), i + d = n → d < f → TCl M tb n → ((∃ c, tCP M tb n c i) ∧ (q = 4 ∨ q = 3)) ∨ (∃ c, tOP M tb n c i q) →
    ∃ M' c q', tCP M' tb n c n ∧ F5 M M' ∧ fX7_scan_L24 K f (nI q) (nI i) M = K q' (nI n) M' := by
  intro d
  induction d with
  | zero =>
    intro i M q f hi hf ht h
    have e : i = n := by omega
    subst e
    obtain ⟨f, rfl⟩ : ∃ q, f = q + 1 := ⟨f - 1, by omega⟩
    have hx : fX7_scan_L24 K (f + 1) (nI q) (nI i) M = K (nI q) (nI i) M := by rw [fX7_scan_L24, ht.1, if_pos (nI_le (Nat.le_refl _) (by have := hv.1; omega))]
    rcases h with ⟨⟨c, h⟩, -⟩ | ⟨c, h⟩
    · exact ⟨M, c, nI q, h, f5_rf, hx⟩
    · exact ⟨M, c + 1, nI q, tOP_CP h (Nat.le_refl _) (Or.inl rfl), f5_rf, hx⟩
  | succ d ih =>
    intro i M q f hi hf ht h
    obtain ⟨f, rfl⟩ : ∃ q, f = q + 1 := ⟨f - 1, by omega⟩
    have hn := hv.1
    have hi2 : i < n := by omega
    have hb := hv.2 i hi2
    rw [fX7_scan_L24, ht.1, if_neg (nI_ge hi2 (by omega)), cl_at ht hn hi2, Option.bind_some, cl_kind hb.2, ← nI_succ]
    -- a new token, out of whole ones
    have new : ∀ c, tCP M tb n c i → kN (tb i) ≠ 4 → ∃ M1 M2, fX7_putToken M (nI (kN (tb i))) (nI i) = some M1 ∧ fX7_lengthenToken M1 (nI i) = some M2 ∧ ∃ M' c' q', tCP M' tb n c' n ∧ F5 M M' ∧ fX7_scan_L24 K f (nI (kN (tb i))) (nI (i + 1)) M2 = K q' (nI n) M' := by
      intro c hc h4
      obtain ⟨M1, M2, a1, a2, a3, a4, a5⟩ := cl_newTok ht hv hi2 hc rfl h4
      refine ⟨M1, M2, a1, a2, ?_⟩
      have ht2 := tc_fr rfl rfl a5.1 ht
      obtain ⟨M', c', q', b1, b2, b3⟩ := ih (i + 1) M2 (kN (tb i)) f (by omega) (by omega) ht2 (by
        by_cases e : kN (tb i) = 3
        · exact Or.inl ⟨⟨_, a4 e⟩, Or.inr e⟩
        · exact Or.inr ⟨_, a3 e⟩)
      exact ⟨M', c', q', b1, f5_tr a5 b2, b3⟩
    have cp : (∃ c, tCP M tb n c i) ∨ (∃ c, tOP M tb n c i q ∧ kN (tb i) = q) := by
      rcases h with ⟨h, -⟩ | ⟨c, h⟩
      · exact Or.inl h
      · by_cases e : kN (tb i) = q
        · exact Or.inr ⟨c, h, e⟩
        · exact Or.inl ⟨c + 1, tOP_CP h (by omega) (Or.inr e)⟩
    rcases cp with ⟨c, cp⟩ | ⟨c, op, e⟩
    · by_cases k4 : kN (tb i) = 4
      · rw [k4, if_neg (show ¬ nI 4 = (3 : Int32) by decide), if_pos (show nI 4 = (4 : Int32) from rfl), if_pos (show nI 4 = (4 : Int32) from rfl)]
        obtain ⟨M', c', q', b1, b2, b3⟩ := ih (i + 1) M 4 f (by omega) (by omega) ht (Or.inl ⟨⟨c, tCP_sp cp k4⟩, Or.inl rfl⟩)
        exact ⟨M', c', q', b1, b2, b3⟩
      · obtain ⟨M1, M2, a1, a2, M', c', q', b1, b2, b3⟩ := new c cp k4
        by_cases k3 : kN (tb i) = 3
        · rw [k3] at a1 b3 ⊢
          rw [if_pos (show nI 3 = (3 : Int32) from rfl), a1, Option.bind_some, if_neg (show ¬ nI 3 = (4 : Int32) by decide), a2, Option.bind_some]
          exact ⟨M', c', q', b1, b2, b3⟩
        · have hk := kN_c (tb i)
          by_cases eq : kN (tb i) = q
          · -- q is 3 or 4 where all tokens are whole, or the open one ended
            rcases h with ⟨-, h34⟩ | ⟨c2, h2⟩
            · omega
            · -- the open token goes on: the other case
              exfalso
              obtain ⟨x1, x2, x3, x4, x5⟩ := cp
              obtain ⟨y1, y2, y3, y4, y5, -⟩ := h2
              have ec : c = c2 + 1 := (nI_eq (by omega) (by omega)).mp (x1.symm.trans y1)
              subst ec
              have z1 := (x5 c2 (by omega)).1
              have hbq : kN (tb (tkB tb n (tE tb n c2))) = q := y5 _ (Nat.le_refl _) y4
              have z2 : i + 1 ≤ tE tb n (c2 + 1) := by
                rw [tE, tkE, if_neg (by omega), if_neg (by omega), hbq]
                rcases Nat.lt_or_ge i (rn tb n q (tkB tb n (tE tb n c2))) with g | g
                · omega
                · have w0 := rn_ge (tb := tb) (n := n) (q := q) (p := tkB tb n (tE tb n c2))
                  have w := rn_at (tb := tb) (q := q) (show tkB tb n (tE tb n c2) ≤ n by omega)
                  rcases w with w | w
                  · omega
                  · by_cases e2 : rn tb n q (tkB tb n (tE tb n c2)) = i
                    · rw [e2] at w; exact absurd eq w
                    · exact absurd (y5 _ w0 (by omega)) w
              omega
          · have g3 := n_3 (kN (tb i)) (by omega) k3
            have g4 := n_4 (kN (tb i)) (by omega) k4
            simp only [g3, g4, if_false]
            rw [a1, Option.bind_some, a2, Option.bind_some]
            have hq : ¬ nI (kN (tb i)) = nI q := by
              intro c
              have : q < 2 ^ 31 := by
                rcases h with ⟨-, h34⟩ | ⟨c2, h2⟩
                · omega
                · have := h2.2.2.1; omega
              exact eq ((nI_eq (by omega) this).mp c)
            rw [if_neg hq]
            exact ⟨M', c', q', b1, b2, b3⟩
    · have q12 := op.2.2.1
      obtain ⟨M2, a1, a2, a3⟩ := cl_lenOP ht hv hi2 op e
      have g3 := n_3 q (by omega) (by omega)
      have g4 := n_4 q (by omega) (by omega)
      rw [e]
      simp only [g3, g4, if_false, if_true]
      rw [a1, Option.bind_some]
      obtain ⟨M', c', q', b1, b2, b3⟩ := ih (i + 1) M2 q f (by omega) (by omega) (tc_fr rfl rfl a3.1 ht) (Or.inr ⟨c, a2⟩)
      exact ⟨M', c', q', b1, f5_tr a3 b2, b3⟩

section SCN
variable {M : Mm} {tb : Nat → Nat} {n : Nat}
def TKs (M : Mm) (tb : Nat → Nat) (n c : Nat) : Prop := M.1 (3, 0, 0) 5 = nI (c + 1) ∧ c ≤ 800 ∧ (∀ j, j ≤ c → tkOK M tb n j) ∧ (∀ j, j < c → tkK tb n (tE tb n j) ≠ 0) ∧ tkK tb n (tE tb n c) = 0
theorem cl_scan {M : Mm} {tb : Nat → Nat} {n : Nat} (ht : TCl M tb n) (hv : TV tb n) : ∃ M' c, fX7_scan M = some M' ∧ TKs M' tb n c ∧ M'.1 (3, 0, 0) 6 = nI 0 ∧ M'.1 (3, 0, 0) 7 = 0 ∧ M'.1 (3, 0, 0) 8 = -1 ∧ TCl M' tb n ∧ Fr sTk M M' := by
  have hn := hv.1
  have hF0 : Fr sTk M (putI (putI (putI (putI M (3, 0, 0) 7 (0 : Int32)) (3, 0, 0) 8 (-1 : Int32)) (3, 0, 0) 5 (0 : Int32)) (3, 0, 0) 6 (0 : Int32)) := fr_pI (fr_pI (fr_pI (fr_putI rfl) rfl) rfl) rfl
  have hg : ∀ j, (putI (putI (putI (putI M (3, 0, 0) 7 (0 : Int32)) (3, 0, 0) 8 (-1 : Int32)) (3, 0, 0) 5 (0 : Int32)) (3, 0, 0) 6 (0 : Int32)).1 (3, 0, 0) j = if j = 6 then 0 else if j = 5 then 0 else if j = 8 then -1 else if j = 7 then 0 else M.1 (3, 0, 0) j := fun j => by
    rw [g_row, upd, g_row, upd, g_row, upd, g_row, upd]
  obtain ⟨M1, c, q', a1, a2, a3⟩ := cl_scanL hv (K := fun w23 w24 M25 => (fX7_putToken M25 (0 : Int32) (M25.1 (1, 0, 0) 1)).bind fun q26 => some q26) n 0 _ 4 NF (by omega) (by unfold NF; omega) (tc_fr rfl rfl hF0 ht) (Or.inl ⟨⟨0, by rw [hg]; rfl, Nat.le_refl _, Nat.zero_le _, fun k h1 h2 => by omega, fun j hj => by omega⟩, Or.inl rfl⟩)
  obtain ⟨a2, a4⟩ := a2
  obtain ⟨x1, x2, x3, x4, x5⟩ := a1
  have ht1 := tc_fr rfl rfl a2 (tc_fr rfl rfl hF0 ht)
  have hB : tkB tb n (tE tb n c) = n := rn_eq x3 (Nat.le_refl _) x4 (Or.inl rfl)
  have hK : tkK tb n (tE tb n c) = 0 := by rw [tkK, hB, if_pos (Nat.le_refl _)]
  have hE : tE tb n (c + 1) = n := by rw [tE, tkE, hB, if_pos (Nat.le_refl _)]
  obtain ⟨p0, p1, p2, p3, p5⟩ := pTok_g (M := M1) (c := c) (k := 0) (s := nI n)
  refine ⟨pTok M1 c 0 (nI n), c, ?_, ⟨p5, by omega, fun j hj => ?_, fun j hj => (x5 j hj).2, hK⟩, ?_, ?_, ?_, tc_fr rfl rfl pTok_fr ht1, fr_tr (fr_tr hF0 a2) pTok_fr⟩
  · refine (show fX7_scan M = _ from a3).trans ?_
    rw [ht1.1, cl_pTok x1 (by omega)]
    rfl
  · by_cases e : j = c
    · subst e
      exact ⟨by rw [hK]; exact p0, by rw [hB]; exact p1, by rw [hE]; exact p2, fun c => by omega⟩
    · exact pTok_old (by omega) (x5 j (by omega)).1
  · rw [pTok, g_row, upd_o (by decide), putI_ne (by decide), putI_ne (by decide), putI_ne (by decide), putI_ne (by decide), a4 6 (by decide), hg]; rfl
  · rw [pTok, g_row, upd_o (by decide), putI_ne (by decide), putI_ne (by decide), putI_ne (by decide), putI_ne (by decide), a4 7 (by decide), hg]; rfl
  · rw [pTok, g_row, upd_o (by decide), putI_ne (by decide), putI_ne (by decide), putI_ne (by decide), putI_ne (by decide), a4 8 (by decide), hg]; rfl
theorem by_ne {b c : Nat} {L : Int32} (hb : b < 256) (hc : c < 256) (hL : L = nI c) (h : b ≠ c) : ¬ nI b = L := by
  subst hL
  exact fun e => h ((nI_eq (by omega) (by omega)).mp e)
end SCN
