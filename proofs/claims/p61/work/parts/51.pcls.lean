/-! the class's box: reading -/
section PC
variable {M : Mm} {T i : Nat} {g : GF} {P : PF}
theorem cl_hasPin {m t s : Nat} (h : BX M T i g P) (hm : m < 3) (ht : t < 12) (hs : s < 64) : fX3_hasPin M i (nI m) (nI t) (nI s) = some (bI (P m t s)) := by
  rw [fX3_hasPin, if_neg (nI_pos (by omega)), if_neg (show ¬ (3 : Int32) ≤ nI m from nI_ge (b := 3) hm (by decide)), if_neg (nI_pos (by omega)), if_neg (show ¬ (12 : Int32) ≤ nI t from nI_ge (b := 12) ht (by decide)), ix12, if_neg (nI_in (by omega) (by decide)), nI_clamp (by omega), bL_bit s hs, h.2 m hm t ht s hs]
  cases P m t s
  · rw [if_pos ((lgc0 _).mpr (if_neg (by decide)))]; rfl
  · rw [if_neg (fun c => absurd ((lgc0 _).mp c) (by decide))]; rfl
theorem cl_holds {m t : Nat} (hm : m < 3) (ht : t < 12) : fX3_holds M (nI m) (nI t) = 1 := by
  rw [fX3_holds, if_neg (nI_pos (by omega)), if_neg (show ¬ (3 : Int32) ≤ nI m from nI_ge (b := 3) hm (by decide)), if_neg (nI_pos (by omega)), if_neg (show ¬ (12 : Int32) ≤ nI t from nI_ge (b := 12) ht (by decide))]
theorem cl_row {m t : Nat} (hm : m < 3) (ht : t < 12) : fX3_row M i (nI m) (nI t) = some (M.2 (11, i, 0) (12 * m + t)) := by
  rw [fX3_row, cl_holds hm ht, if_neg (by decide), ix12, if_neg (nI_in (by omega) (by decide)), nI_clamp (by omega)]
theorem cl_setRow {m t : Nat} {x : Int64} (hm : m < 3) (ht : t < 12) : fX3_setRow M i (nI m) (nI t) x = some (putL M (11, i, 0) (12 * m + t) x) := by
  rw [fX3_setRow, cl_holds hm ht, if_neg (by decide), ix12, if_neg (nI_in (by omega) (by decide)), nI_clamp (by omega)]
theorem cl_broken {t : Nat} (h : BX M T i g P) (ht : t < T) : fX8_brokenNow M i t = if g (16 + 6 * t + 4) < g (16 + 6 * t + 3) then 0 else 1 := by
  rw [fX8_brokenNow, bx_t h ht (by decide), bx_t h ht (by decide)]
theorem cl_damped {t : Nat} (h : BX M T i g P) (ht : t < T) : fX8_dampedNow M i t = if g (16 + 6 * t + 5) < g (16 + 6 * t + 2) then 0 else 1 := by
  rw [fX8_dampedNow, bx_t h ht (by decide), bx_t h ht (by decide)]
/-- what the next step does to a tooth -/
def sndS (g : GF) (P : PF) (m p t : Nat) : Int32 := if P m t p = true then (if g (16 + 6 * t + 4) < g (16 + 6 * t + 3) then (if g (16 + 6 * t + 5) < g (16 + 6 * t + 2) then 3 else 2) else 1) else 0
theorem cl_soundOf {m p t : Nat} (h : BX M T i g P) (h4 : g 4 = nI m) (h5 : g 5 = nI p) (hm : m < 3) (hp : p < 64) (ht : t < T) (hT : T ≤ 12) : fX0_soundOf M i (nI t) = some (sndS g P m p t) := by
  rw [fX0_soundOf, show M.1 (10, i, 0) 3 = nI m from (h.1 4 (vk_s rfl)).trans h4, show M.1 (10, i, 0) 2 = nI p from (h.1 5 (vk_s rfl)).trans h5, cl_hasPin h hm (by omega) hp, Option.bind_some]
  have hg : ¬ (nI t < 0 ∨ 12 ≤ (nI t).toNatClampNeg) := nI_in (by omega) (by decide)
  simp only [hg, if_false]
  rw [nI_clamp (by omega), cl_broken h ht, cl_damped h ht, sndS]
  cases P m t p
  · rfl
  · by_cases h1 : g (16 + 6 * t + 4) < g (16 + 6 * t + 3)
    · by_cases h2 : g (16 + 6 * t + 5) < g (16 + 6 * t + 2)
      · simp [h1, h2, bI]
      · simp [h1, h2, bI]
    · simp [h1, bI]
end PC
/-! one step of playing -/
def plS (P : PF) (m p : Nat) (g : GF) (t : Nat) : GF :=
  if sndS g P m p t = 2 then upd (upd (upd g 6 (g 6 + 1)) (16 + 6 * t + 4) (g (16 + 6 * t + 4) + 1)) (16 + 6 * t + 5) 0
  else if sndS g P m p t = 3 then upd (upd (upd g 7 (g 7 + 1)) (16 + 6 * t + 4) (g (16 + 6 * t + 4) + 5)) (16 + 6 * t + 5) 0 else g
def plL (P : PF) (m p : Nat) : Nat → GF → GF
  | 0, g => g
  | n + 1, g => plS P m p (plL P m p n g) n
def mnI (x y : Int32) : Int32 := if y < x then y else x
def psS (g : GF) (t : Nat) : GF := upd g (16 + 6 * t + 5) (mnI 99 (g (16 + 6 * t + 5) + 1))
def psL : Nat → GF → GF
  | 0, g => g
  | n + 1, g => psS (psL n g) n
theorem plS_o {P : PF} {m p t k : Nat} {g : GF} (h : k < 16) (h6 : k ≠ 6) (h7 : k ≠ 7) : plS P m p g t k = g k := by
  unfold plS
  split
  · rw [upd_o (by omega), upd_o (by omega), upd_o h6]
  · split
    · rw [upd_o (by omega), upd_o (by omega), upd_o h7]
    · rfl
theorem plL_o {P : PF} {m p k : Nat} {g : GF} (h : k < 16) (h6 : k ≠ 6) (h7 : k ≠ 7) : ∀ n, plL P m p n g k = g k
  | 0 => rfl
  | n + 1 => by rw [plL, plS_o h h6 h7, plL_o h h6 h7 n]
theorem psL_o {k : Nat} {g : GF} (h : k < 16) : ∀ n, psL n g k = g k
  | 0 => rfl
  | n + 1 => by rw [psL, psS, upd_o (by omega), psL_o h n]
theorem plS_t {P : PF} {m p t t' q : Nat} {g : GF} (hq : q < 4) : plS P m p g t (16 + 6 * t' + q) = g (16 + 6 * t' + q) := by
  unfold plS
  split
  · rw [upd_o (by omega), upd_o (by omega), upd_o (by omega)]
  · split
    · rw [upd_o (by omega), upd_o (by omega), upd_o (by omega)]
    · rfl
theorem plL_t {P : PF} {m p t' q : Nat} {g : GF} (hq : q < 4) : ∀ n, plL P m p n g (16 + 6 * t' + q) = g (16 + 6 * t' + q)
  | 0 => rfl
  | n + 1 => by rw [plL, plS_t hq, plL_t hq n]
theorem psL_t {t' q : Nat} {g : GF} (hq : q < 5) : ∀ n, psL n g (16 + 6 * t' + q) = g (16 + 6 * t' + q)
  | 0 => rfl
  | n + 1 => by rw [psL, psS, upd_o (by omega), psL_t hq n]
/-- one step: the new numbers -/
def stS (P : PF) (S T m : Nat) (g : GF) (p : Nat) : GF :=
  if p + 1 = S then upd (upd (upd (psL T (plL P m p T g)) 5 0) 1 (g 1 - 1)) 8 (g 8 + 1)
  else upd (upd (psL T (plL P m p T g)) 5 (nI (p + 1))) 8 (g 8 + 1)
def nxP (S p : Nat) : Nat := if p + 1 = S then 0 else p + 1
def nxU (S p U : Nat) : Nat := if p + 1 = S then U - 1 else U
theorem stS_iv {g : GF} {P : PF} {S T U A m p : Nat} (h : Iv g P S T U A m p) (hU : 0 < U) : Iv (stS P S T m g p) P S T (nxU S p U) A m (nxP S p) := by
  obtain ⟨h0, h1, h2, h3, h4, h5, h6, h7, h8, h9, h10, h11, h12, h13⟩ := h
  have e : ∀ k, k < 16 → k ≠ 6 → k ≠ 7 → psL T (plL P m p T g) k = g k := fun k a b c => by rw [psL_o a, plL_o a b c]
  have e2 : ∀ t q, q < 4 → psL T (plL P m p T g) (16 + 6 * t + q) = g (16 + 6 * t + q) := fun t q a => by rw [psL_t (by omega), plL_t a]
  unfold stS nxU nxP
  by_cases hp : p + 1 = S
  · rw [if_pos hp, if_pos hp, if_pos hp]
    refine ⟨?_, ?_, ?_, ?_, ?_, ?_, h6, h7, by omega, h9, h10, by omega, fun t ht => ?_, h13⟩
    · rw [upd_o (by decide), upd_o (by decide), upd_o (by decide), e 0 (by decide) (by decide) (by decide), h0]
    · rw [upd_o (by decide), upd_s, h1]
      show nI U - nI 1 = _
      rw [pk_sub hU]
    · rw [upd_o (by decide), upd_o (by decide), upd_o (by decide), e 2 (by decide) (by decide) (by decide), h2]
    · rw [upd_o (by decide), upd_o (by decide), upd_o (by decide), e 3 (by decide) (by decide) (by decide), h3]
    · rw [upd_o (by decide), upd_o (by decide), upd_o (by decide), e 4 (by decide) (by decide) (by decide), h4]
    · rw [upd_o (by decide), upd_o (by decide), upd_s]; rfl
    · have a0 := e2 t 0 (by decide)
      have a1 := e2 t 1 (by decide)
      rw [Nat.add_zero] at a0
      rw [upd_o (by omega), upd_o (by omega), upd_o (by omega), upd_o (by omega), upd_o (by omega), upd_o (by omega), a0, a1]
      exact h12 t ht
  · rw [if_neg hp, if_neg hp, if_neg hp]
    refine ⟨?_, ?_, ?_, ?_, ?_, ?_, h6, h7, h8, h9, h10, by omega, fun t ht => ?_, h13⟩
    · rw [upd_o (by decide), upd_o (by decide), e 0 (by decide) (by decide) (by decide), h0]
    · rw [upd_o (by decide), upd_o (by decide), e 1 (by decide) (by decide) (by decide), h1]
    · rw [upd_o (by decide), upd_o (by decide), e 2 (by decide) (by decide) (by decide), h2]
    · rw [upd_o (by decide), upd_o (by decide), e 3 (by decide) (by decide) (by decide), h3]
    · rw [upd_o (by decide), upd_o (by decide), e 4 (by decide) (by decide) (by decide), h4]
    · rw [upd_o (by decide), upd_s]
    · have a0 := e2 t 0 (by decide)
      have a1 := e2 t 1 (by decide)
      rw [Nat.add_zero] at a0
      rw [upd_o (by omega), upd_o (by omega), upd_o (by omega), upd_o (by omega), a0, a1]
      exact h12 t ht
theorem cl_pluck {M : Mm} {T i t : Nat} {g : GF} {P : PF} {x : Int32} (h : BX M T i g P) (ht : t < T) : BX (fX8_pluck M i t x) T i (upd (upd g (16 + 6 * t + 4) (g (16 + 6 * t + 4) + x)) (16 + 6 * t + 5) 0) P ∧ Fr (sBx i) M (fX8_pluck M i t x) := by
  rw [fX8_pluck, bx_t h ht (by decide)]
  exact ⟨bx_putT ht (by decide) (bx_putT ht (by decide) h), fr_pI (fr_putI (sBx_1 rfl)) (sBx_1 rfl)⟩
theorem cl_pl {T i m p : Nat} {g : GF} {P : PF} {K : Int32 → Mm → Option Mm} (h3 : g 3 = nI T) (h4 : g 4 = nI m) (h5 : g 5 = nI p) (hm : m < 3) (hp : p < 64) (hT : T ≤ 12) : ∀ (d t : Nat) (M : Mm) (n : Nat), t + d = T → d < n → BX M T i (plL P m p t g) P →
    ∃ M', BX M' T i (plL P m p T g) P ∧ Fr (sBx i) M M' ∧ fX0_playStep_L2 i K n (nI t) M = K (nI T) M' := by
  intro d
  induction d with
  | zero =>
    intro t M n ht hn h
    have e : t = T := by omega
    subst e
    obtain ⟨n, rfl⟩ : ∃ q, n = q + 1 := ⟨n - 1, by omega⟩
    refine ⟨M, h, fr_rf, ?_⟩
    have e1 : M.1 (9, i, 0) 2 = nI t := (h.1 3 (vk_s rfl)).trans ((plL_o (by decide) (by decide) (by decide) t).trans h3)
    rw [fX0_playStep_L2, e1, if_pos (nI_le (Nat.le_refl _) (by omega))]
  | succ d ih =>
    intro t M n ht hn h
    obtain ⟨n, rfl⟩ : ∃ q, n = q + 1 := ⟨n - 1, by omega⟩
    have e1 : M.1 (9, i, 0) 2 = nI T := (h.1 3 (vk_s rfl)).trans ((plL_o (by decide) (by decide) (by decide) t).trans h3)
    have e4 := (plL_o (P := P) (m := m) (p := p) (g := g) (k := 4) (by decide) (by decide) (by decide) t).trans h4
    have e5 := (plL_o (P := P) (m := m) (p := p) (g := g) (k := 5) (by decide) (by decide) (by decide) t).trans h5
    rw [fX0_playStep_L2, e1, if_neg (nI_ge (by omega) (by omega)), if_neg (nI_g12 (by omega)), cl_soundOf h e4 e5 hm hp (by omega) hT, Option.bind_some]
    have hg : ¬ (nI t < 0 ∨ 12 ≤ (nI t).toNatClampNeg) := nI_in (by omega) (by decide)
    simp only [hg, if_false]
    rw [nI_clamp (by omega), ← nI_succ]
    have e6 : plL P m p (t + 1) g = plS P m p (plL P m p t g) t := rfl
    unfold plS at e6
    by_cases c2 : sndS (plL P m p t g) P m p t = 2
    · rw [if_pos c2]
      rw [if_pos c2] at e6
      have h1 : BX (putI M (9, i, 0) 5 (M.1 (9, i, 0) 5 + 1)) T i _ P := bx_put (k := 6) (v := M.1 (9, i, 0) 5 + 1) (vk_s rfl) h
      have h2 := cl_pluck (x := 1) (t := t) h1 (by omega)
      rw [show M.1 (9, i, 0) 5 = plL P m p t g 6 from h.1 6 (vk_s rfl), upd_o (show 16 + 6 * t + 4 ≠ 6 by omega)] at h2
      rw [← e6] at h2
      obtain ⟨M', a1, a2, a3⟩ := ih (t + 1) _ n (by omega) (by omega) h2.1
      refine ⟨M', a1, fr_tr (fr_tr (fr_putI (sBx_1 rfl)) h2.2) a2, ?_⟩
      rw [show M.1 (9, i, 0) 5 = plL P m p t g 6 from h.1 6 (vk_s rfl)]
      exact a3
    · rw [if_neg c2]
      rw [if_neg c2] at e6
      by_cases c3 : sndS (plL P m p t g) P m p t = 3
      · rw [if_pos c3]
        rw [if_pos c3] at e6
        have h1 : BX (putI M (9, i, 0) 6 (M.1 (9, i, 0) 6 + 1)) T i _ P := bx_put (k := 7) (v := M.1 (9, i, 0) 6 + 1) (vk_s rfl) h
        have h2 := cl_pluck (x := 5) (t := t) h1 (by omega)
        rw [show M.1 (9, i, 0) 6 = plL P m p t g 7 from h.1 7 (vk_s rfl), upd_o (show 16 + 6 * t + 4 ≠ 7 by omega)] at h2
        rw [← e6] at h2
        obtain ⟨M', a1, a2, a3⟩ := ih (t + 1) _ n (by omega) (by omega) h2.1
        refine ⟨M', a1, fr_tr (fr_tr (fr_putI (sBx_1 rfl)) h2.2) a2, ?_⟩
        rw [show M.1 (9, i, 0) 6 = plL P m p t g 7 from h.1 7 (vk_s rfl)]
        exact a3
      · rw [if_neg c3]
        rw [if_neg c3] at e6
        rw [← e6] at h
        exact ih (t + 1) M n (by omega) (by omega) h
theorem cl_ps {T i : Nat} {g : GF} {P : PF} {K : Int32 → Mm → Option Mm} (h3 : g 3 = nI T) (hT : T ≤ 12) : ∀ (d t : Nat) (M : Mm) (n : Nat), t + d = T → d < n → BX M T i (psL t g) P →
    ∃ M', BX M' T i (psL T g) P ∧ Fr (sBx i) M M' ∧ fX0_playStep_L83 i K n (nI t) M = K (nI T) M' := by
  intro d
  induction d with
  | zero =>
    intro t M n ht hn h
    have e : t = T := by omega
    subst e
    obtain ⟨n, rfl⟩ : ∃ q, n = q + 1 := ⟨n - 1, by omega⟩
    refine ⟨M, h, fr_rf, ?_⟩
    have e1 : M.1 (9, i, 0) 2 = nI t := (h.1 3 (vk_s rfl)).trans ((psL_o (by decide) t).trans h3)
    rw [fX0_playStep_L83, e1, if_pos (nI_le (Nat.le_refl _) (by omega))]
  | succ d ih =>
    intro t M n ht hn h
    obtain ⟨n, rfl⟩ : ∃ q, n = q + 1 := ⟨n - 1, by omega⟩
    have e1 : M.1 (9, i, 0) 2 = nI T := (h.1 3 (vk_s rfl)).trans ((psL_o (by decide) t).trans h3)
    rw [fX0_playStep_L83, e1, if_neg (nI_ge (by omega) (by omega)), if_neg (nI_g12 (by omega)), if_neg (nI_in (by omega) (by decide)), nI_clamp (by omega), ← nI_succ, fX8_passStep, bx_t h (show t < T by omega) (show 5 < 6 by decide)]
    have h1 : BX (putI M (13, i, t) 5 (fJ9_min_7cf53 M 99 (psL t g (16 + 6 * t + 5) + 1))) T i (psL (t + 1) g) P := bx_putT (by omega) (by decide) h
    obtain ⟨M', a1, a2, a3⟩ := ih (t + 1) _ n (by omega) (by omega) h1
    exact ⟨M', a1, fr_tr (fr_putI (sBx_1 rfl)) a2, a3⟩
theorem bx_put' {M : Mm} {T i k j a b : Nat} {g : GF} {P : PF} {v : Int32} (h : BX M T i g P) (hk : vk T k) (e : lc i k = ((a, i, b), j)) : BX (putI M (a, i, b) j v) T i (upd g k v) P := by
  have h1 := bx_put (v := v) hk h
  rw [e] at h1
  exact h1
theorem cl_playStep {M : Mm} {S T U A m p i : Nat} {g : GF} {P : PF} (h : BX M T i g P) (hI : Iv g P S T U A m p) : ∃ M', fX0_playStep M i = some M' ∧ BX M' T i (stS P S T m g p) P ∧ Fr (sBx i) M M' := by
  obtain ⟨h0, h1, h2, h3, h4, h5, h6, h7, h8, h9, h10, h11, h12, h13⟩ := hI
  obtain ⟨M1, a1, a2, a3⟩ := cl_pl (i := i) (P := P) (K := fun w8 M9 => fX0_playStep_L83 i (fun w12 M13 => (fX3_goOn M13 i).bind fun q14 => if q14.1 = 0 then some (putI q14.2 (9, i, 0) 7 ((q14.2.1 (9, i, 0) 7) + (1 : Int32))) else some (putI (putI q14.2 (9, i, 0) 3 ((q14.2.1 (9, i, 0) 3) - (1 : Int32))) (9, i, 0) 7 ((q14.2.1 (9, i, 0) 7) + (1 : Int32)))) NF (0 : Int32) M9) h3 h4 h5 h10 (by omega) h7.2 T 0 M NF (by omega) (by unfold NF; omega) h
  have e3 := (plL_o (P := P) (m := m) (p := p) (g := g) (k := 3) (by decide) (by decide) (by decide) T).trans h3
  obtain ⟨M2, b1, b2, b3⟩ := cl_ps (i := i) (P := P) (K := fun w12 M13 => (fX3_goOn M13 i).bind fun q14 => if q14.1 = 0 then some (putI q14.2 (9, i, 0) 7 ((q14.2.1 (9, i, 0) 7) + (1 : Int32))) else some (putI (putI q14.2 (9, i, 0) 3 ((q14.2.1 (9, i, 0) 3) - (1 : Int32))) (9, i, 0) 7 ((q14.2.1 (9, i, 0) 7) + (1 : Int32)))) e3 h7.2 T 0 M1 NF (by omega) (by unfold NF; omega) a1
  have e : ∀ k, k < 16 → k ≠ 6 → k ≠ 7 → psL T (plL P m p T g) k = g k := fun k a b c => by rw [psL_o a, plL_o a b c]
  have f0 : M2.1 (10, i, 0) 1 = nI S := (b1.1 0 (vk_s rfl)).trans ((e 0 (by decide) (by decide) (by decide)).trans h0)
  have f5 : M2.1 (10, i, 0) 2 = nI p := (b1.1 5 (vk_s rfl)).trans ((e 5 (by decide) (by decide) (by decide)).trans h5)
  have f1 : M2.1 (9, i, 0) 3 = g 1 := (b1.1 1 (vk_s rfl)).trans (e 1 (by decide) (by decide) (by decide))
  have f8 : M2.1 (9, i, 0) 7 = g 8 := (b1.1 8 (vk_s rfl)).trans (e 8 (by decide) (by decide) (by decide))
  rw [show fX0_playStep M i = _ from a3.trans b3]
  rw [fX3_goOn, f0, f5, ← nI_succ]
  unfold stS
  by_cases hp : p + 1 = S
  · rw [if_pos hp, if_pos (nI_le (by omega) (by omega)), Option.bind_some]
    refine ⟨_, if_neg (show ¬ (1 : Int32) = 0 by decide), ?_, ?_⟩
    · refine bx_g (fun k hk => ?_) (bx_put' (k := 8) (bx_put' (k := 1) (bx_put' (k := 5) (bx_put' (k := 5) b1 (vk_s rfl) rfl) (vk_s rfl) rfl) (vk_s rfl) rfl) (vk_s rfl) rfl)
      simp only [g_put]
      simp [f1, f8, upd]
      by_cases k5 : k = 5 <;> simp [k5]
    · exact fr_pI (fr_pI (fr_pI (fr_pI (fr_tr a2 b2) (sBx_1 rfl)) (sBx_1 rfl)) (sBx_1 rfl)) (sBx_1 rfl)
  · rw [if_neg hp, if_neg (nI_ge (by omega) (by omega)), Option.bind_some]
    refine ⟨_, if_pos rfl, ?_, ?_⟩
    · refine bx_g (fun k hk => ?_) (bx_put' (k := 8) (bx_put' (k := 5) b1 (vk_s rfl) rfl) (vk_s rfl) rfl)
      simp only [g_put]
      simp [f8, upd]
    · exact fr_pI (fr_pI (fr_tr a2 b2) (sBx_1 rfl)) (sBx_1 rfl)

