/-! the reference's box: reading, one step -/
theorem rx_pI {M : Mm} {g : GF} {P : PF} {k : Nat} {v : Int32} (hk : k < 88) (h : RX (M.1 NW) g P) : RX ((putI M NW k v).1 NW) (upd g k v) P := by
  rw [g_row]
  exact rx_put hk h
theorem rx_c {f f' g : GF} {P : PF} (hf : ∀ k, k < 280 → f k = f' k) (h : RX f g P) : RX f' g P := ⟨fun k hk => (hf k (by omega)).symm.trans (h.1 k hk), fun m hm s hs t ht => by rw [← hf _ (by omega)]; exact h.2 m hm s hs t ht⟩
theorem rx_g {f g g' : GF} {P : PF} (hg : ∀ k, k < 88 → g k = g' k) (h : RX f g P) : RX f g' P := ⟨fun k hk => (h.1 k hk).trans (hg k hk), h.2⟩
theorem rx_fr {M M' : Mm} {g : GF} {P : PF} {S : Rf → Bool} {r : Rf} (hS : S r = false) (hF : Fr S M M') (h : RX (M.1 r) g P) : RX (M'.1 r) g P := by
  rw [(hF r hS).1]
  exact h
theorem sNW_1 : sNW NW = true := rfl
section PR
variable {M : Mm} {S T U A m0 p0 : Nat} {g : GF} {P : PF}
theorem rf_of {t p : Nat} {q : Int32} (h : RX (M.1 NW) g P) (ht : t < 12) (hp : p < 6) (hq : q = nI p) : fX10_of M (nI t) q = some (g (16 + 6 * t + p)) := by
  subst hq
  rw [fX10_of, ix16, if_neg (nI_in (by omega) (by decide)), nI_clamp (by omega), h.1 _ (by omega)]
theorem rf_puts {t p : Nat} {q v : Int32} (ht : t < 12) (hp : p < 6) (hq : q = nI p) : fX10_puts M (nI t) q v = some (putI M NW (16 + 6 * t + p) v) := by
  subst hq
  rw [fX10_puts, ix16, if_neg (nI_in (by omega) (by decide)), nI_clamp (by omega)]
theorem rf_set {m s : Nat} (hm : m < 3) (hs : s < 64) : fX10_set M (nI m) (nI s) = some (M.1 NW (88 + 64 * m + s)) := by
  rw [fX10_set, ix88, if_neg (nI_in (by omega) (by decide)), nI_clamp (by omega)]
theorem rf_putSet {m s : Nat} {v : Int32} (hm : m < 3) (hs : s < 64) : fX10_putSet M (nI m) (nI s) v = some (putI M NW (88 + 64 * m + s) v) := by
  rw [fX10_putSet, ix88, if_neg (nI_in (by omega) (by decide)), nI_clamp (by omega)]
theorem rf_has {m t s : Nat} (h : RX (M.1 NW) g P) (hm : m < 3) (ht : t < 32) (hs : s < 64) : fX10_has M (nI m) (nI t) (nI s) = some (bI (P m t s)) := by
  rw [fX10_has, rf_set hm hs, Option.bind_some, b_bit t ht, h.2 m hm s hs t ht]
  cases P m t s
  · rw [if_neg (by decide)]; rfl
  · rw [if_pos (if_pos rfl)]; rfl
theorem rf_chord {m s : Nat} (h : RX (M.1 NW) g P) (hP : ∀ m t s, P m t s = true → m < 3 ∧ t < T ∧ s < S) (hT : T ≤ 12) (hm : m < 3) (hs : s < 64) : M.1 NW (88 + 64 * m + s) = chS P m s 12 := by
  refine b_ext fun t ht => ?_
  rw [h.2 m hm s hs t ht, chS_b 12 (by decide) t ht]
  by_cases c : t < 12
  · rw [decide_eq_true c, Bool.true_and]
  · rw [decide_eq_false c, Bool.false_and]
    cases e : P m t s with
    | false => rfl
    | true => have := hP _ _ _ e; omega
theorem rf_bad {t : Nat} (h : RX (M.1 NW) g P) (ht : t < 12) : fX10_isBad M (nI t) = some (bI (brS g t)) := by
  rw [fX10_isBad, rf_of (p := 4) (q := 4) h ht (by decide) rfl, Option.bind_some, rf_of (p := 3) (q := 3) h ht (by decide) rfl, Option.bind_some, brS]
  by_cases c : g (16 + 6 * t + 4) < g (16 + 6 * t + 3)
  · rw [if_pos c, decide_eq_true c]; rfl
  · rw [if_neg c, decide_eq_false c]; rfl
theorem rf_sound {m p t : Nat} (h : RX (M.1 NW) g P) (h4 : g 4 = nI m) (h5 : g 5 = nI p) (hm : m < 3) (hp : p < 64) (ht : t < 12) : fX10_sound M (nI t) = some (sndS g P m p t) := by
  rw [fX10_sound, (h.1 4 (by decide)).trans h4, (h.1 5 (by decide)).trans h5, rf_has h hm (by omega) hp, Option.bind_some, rf_bad h ht, Option.bind_some, rf_of (p := 5) (q := 5) h ht (by decide) rfl, Option.bind_some, rf_of (p := 2) (q := 2) h ht (by decide) rfl, Option.bind_some, sndS, brS]
  cases P m t p
  · rfl
  · by_cases h1 : g (16 + 6 * t + 4) < g (16 + 6 * t + 3)
    · by_cases h2 : g (16 + 6 * t + 5) < g (16 + 6 * t + 2)
      · simp [h1, h2, bI]
      · simp [h1, h2, bI]
    · simp [h1, bI]
theorem snd_c (g : GF) (P : PF) (m p t : Nat) : sndS g P m p t = 0 ∨ sndS g P m p t = 1 ∨ sndS g P m p t = 2 ∨ sndS g P m p t = 3 := by
  unfold sndS
  split
  · split
    · split <;> simp
    · simp
  · simp
theorem rf_pluck {m p t : Nat} (h : RX (M.1 NW) g P) (h4 : g 4 = nI m) (h5 : g 5 = nI p) (hm : m < 3) (hp : p < 64) (ht : t < 12) : ∃ M', fX10_plucks M (nI t) = some M' ∧ RX (M'.1 NW) (plS P m p g t) P ∧ Fr sNW M M' := by
  rw [fX10_plucks, rf_sound h h4 h5 hm hp ht, Option.bind_some]
  unfold plS
  rcases snd_c g P m p t with e | e | e | e
  · rw [e, if_neg (by decide), if_neg (by decide), if_neg (by decide)]
    exact ⟨M, rfl, h, fr_rf⟩
  · rw [e, if_neg (by decide), if_neg (by decide), if_neg (by decide)]
    exact ⟨M, rfl, h, fr_rf⟩
  · have h1 := rx_pI (k := 6) (v := M.1 NW 6 + 1) (by decide) h
    rw [e, if_pos (by decide), if_pos rfl, if_pos rfl, rf_of (p := 4) (q := 4) h1 ht (by decide) rfl, Option.bind_some, if_pos rfl, rf_puts (p := 4) (q := 4) ht (by decide) rfl, Option.bind_some, rf_puts (p := 5) (q := 5) ht (by decide) rfl, Option.bind_some]
    refine ⟨_, rfl, ?_, fr_pI (fr_pI (fr_putI rfl) rfl) rfl⟩
    have h2 := rx_pI (k := 16 + 6 * t + 5) (v := 0) (by omega) (rx_pI (k := 16 + 6 * t + 4) (v := upd g 6 (M.1 NW 6 + 1) (16 + 6 * t + 4) + 1) (by omega) h1)
    have e6 : M.1 NW 6 = g 6 := h.1 6 (by decide)
    rw [e6] at h2 ⊢
    rw [show upd g 6 (g 6 + 1) (16 + 6 * t + 4) = g (16 + 6 * t + 4) from upd_o (by omega)] at h2 ⊢
    exact h2
  · have h1 := rx_pI (k := 7) (v := M.1 NW 7 + 1) (by decide) h
    rw [e, if_pos (by decide), if_neg (by decide), if_neg (by decide), if_pos rfl, rf_of (p := 4) (q := 4) h1 ht (by decide) rfl, Option.bind_some, if_neg (by decide), rf_puts (p := 4) (q := 4) ht (by decide) rfl, Option.bind_some, rf_puts (p := 5) (q := 5) ht (by decide) rfl, Option.bind_some]
    refine ⟨_, rfl, ?_, fr_pI (fr_pI (fr_putI rfl) rfl) rfl⟩
    have h2 := rx_pI (k := 16 + 6 * t + 5) (v := 0) (by omega) (rx_pI (k := 16 + 6 * t + 4) (v := upd g 7 (M.1 NW 7 + 1) (16 + 6 * t + 4) + 5) (by omega) h1)
    have e7 : M.1 NW 7 = g 7 := h.1 7 (by decide)
    rw [e7] at h2 ⊢
    rw [show upd g 7 (g 7 + 1) (16 + 6 * t + 4) = g (16 + 6 * t + 4) from upd_o (by omega)] at h2 ⊢
    exact h2
end PR
theorem rf_pl {T m p : Nat} {g : GF} {P : PF} {K : Int32 → Mm → Option Mm} (h3 : g 3 = nI T) (h4 : g 4 = nI m) (h5 : g 5 = nI p) (hm : m < 3) (hp : p < 64) (hT : T ≤ 12) : ∀ (d t : Nat) (M : Mm) (n : Nat), t + d = T → d < n → RX (M.1 NW) (plL P m p t g) P →
    ∃ M', RX (M'.1 NW) (plL P m p T g) P ∧ Fr sNW M M' ∧ fX10_step_L2 K n (nI t) M = K (nI T) M' := by
  intro d
  induction d with
  | zero =>
    intro t M n ht hn h
    have e : t = T := by omega
    subst e
    obtain ⟨n, rfl⟩ : ∃ q, n = q + 1 := ⟨n - 1, by omega⟩
    refine ⟨M, h, fr_rf, ?_⟩
    have e1 : M.1 NW 3 = nI t := (h.1 3 (by decide)).trans ((plL_o (by decide) (by decide) (by decide) t).trans h3)
    rw [fX10_step_L2, e1, if_pos (nI_le (Nat.le_refl _) (by omega))]
  | succ d ih =>
    intro t M n ht hn h
    obtain ⟨n, rfl⟩ : ∃ q, n = q + 1 := ⟨n - 1, by omega⟩
    have e1 : M.1 NW 3 = nI T := (h.1 3 (by decide)).trans ((plL_o (by decide) (by decide) (by decide) t).trans h3)
    obtain ⟨M1, a1, a2, a3⟩ := rf_pluck (t := t) h ((plL_o (by decide) (by decide) (by decide) t).trans h4) ((plL_o (by decide) (by decide) (by decide) t).trans h5) hm hp (by omega)
    obtain ⟨M2, b1, b2, b3⟩ := ih (t + 1) M1 n (by omega) (by omega) a2
    refine ⟨M2, b1, fr_tr a3 b2, ?_⟩
    rw [fX10_step_L2, e1, if_neg (nI_ge (by omega) (by omega)), a1, Option.bind_some, ← nI_succ, b3]
theorem rf_ps {T : Nat} {g : GF} {P : PF} {K : Int32 → Mm → Option Mm} (h3 : g 3 = nI T) (hT : T ≤ 12) : ∀ (d t : Nat) (M : Mm) (n : Nat), t + d = T → d < n → RX (M.1 NW) (psL t g) P →
    ∃ M', RX (M'.1 NW) (psL T g) P ∧ Fr sNW M M' ∧ fX10_step_L25 K n (nI t) M = K (nI T) M' := by
  intro d
  induction d with
  | zero =>
    intro t M n ht hn h
    have e : t = T := by omega
    subst e
    obtain ⟨n, rfl⟩ : ∃ q, n = q + 1 := ⟨n - 1, by omega⟩
    refine ⟨M, h, fr_rf, ?_⟩
    have e1 : M.1 NW 3 = nI t := (h.1 3 (by decide)).trans ((psL_o (by decide) t).trans h3)
    rw [fX10_step_L25, e1, if_pos (nI_le (Nat.le_refl _) (by omega))]
  | succ d ih =>
    intro t M n ht hn h
    obtain ⟨n, rfl⟩ : ∃ q, n = q + 1 := ⟨n - 1, by omega⟩
    have e1 : M.1 NW 3 = nI T := (h.1 3 (by decide)).trans ((psL_o (by decide) t).trans h3)
    have h1 : RX ((putI M NW (16 + 6 * t + 5) (fJ9_min_7cf53 M 99 (psL t g (16 + 6 * t + 5) + 1))).1 NW) (psL (t + 1) g) P := rx_pI (by omega) h
    obtain ⟨M2, b1, b2, b3⟩ := ih (t + 1) _ n (by omega) (by omega) h1
    refine ⟨M2, b1, fr_tr (fr_putI rfl) b2, ?_⟩
    rw [fX10_step_L25, e1, if_neg (nI_ge (by omega) (by omega)), rf_of (p := 5) (q := 5) h (by omega) (by decide) rfl, Option.bind_some, rf_puts (p := 5) (q := 5) (by omega) (by decide) rfl, Option.bind_some, ← nI_succ, b3]
theorem rf_step {M : Mm} {S T U A m p : Nat} {g : GF} {P : PF} (h : RX (M.1 NW) g P) (hI : Iv g P S T U A m p) : ∃ M', fX10_step M = some M' ∧ RX (M'.1 NW) (stS P S T m g p) P ∧ Fr sNW M M' := by
  obtain ⟨h0, h1, h2, h3, h4, h5, h6, h7, h8, h9, h10, h11, h12, h13⟩ := hI
  obtain ⟨M1, a1, a2, a3⟩ := rf_pl (P := P) (K := fun w4 M5 => fX10_step_L25 (fun w11 M12 => if ((M12.1 (19, 0, 0) 5) + (1 : Int32)) = (M12.1 (19, 0, 0) 0) then some (putI (putI (putI (putI M12 (19, 0, 0) 5 ((M12.1 (19, 0, 0) 5) + (1 : Int32))) (19, 0, 0) 5 (0 : Int32)) (19, 0, 0) 1 ((M12.1 (19, 0, 0) 1) - (1 : Int32))) (19, 0, 0) 8 ((M12.1 (19, 0, 0) 8) + (1 : Int32))) else some (putI (putI M12 (19, 0, 0) 5 ((M12.1 (19, 0, 0) 5) + (1 : Int32))) (19, 0, 0) 8 ((M12.1 (19, 0, 0) 8) + (1 : Int32)))) NF (0 : Int32) M5) h3 h4 h5 h10 (by omega) h7.2 T 0 M NF (by omega) (by unfold NF; omega) h
  have e3 := (plL_o (P := P) (m := m) (p := p) (g := g) (k := 3) (by decide) (by decide) (by decide) T).trans h3
  obtain ⟨M2, b1, b2, b3⟩ := rf_ps (P := P) (K := fun w11 M12 => if ((M12.1 (19, 0, 0) 5) + (1 : Int32)) = (M12.1 (19, 0, 0) 0) then some (putI (putI (putI (putI M12 (19, 0, 0) 5 ((M12.1 (19, 0, 0) 5) + (1 : Int32))) (19, 0, 0) 5 (0 : Int32)) (19, 0, 0) 1 ((M12.1 (19, 0, 0) 1) - (1 : Int32))) (19, 0, 0) 8 ((M12.1 (19, 0, 0) 8) + (1 : Int32))) else some (putI (putI M12 (19, 0, 0) 5 ((M12.1 (19, 0, 0) 5) + (1 : Int32))) (19, 0, 0) 8 ((M12.1 (19, 0, 0) 8) + (1 : Int32)))) e3 h7.2 T 0 M1 NF (by omega) (by unfold NF; omega) a1
  have e : ∀ k, k < 16 → k ≠ 6 → k ≠ 7 → psL T (plL P m p T g) k = g k := fun k a b c => by rw [psL_o a, plL_o a b c]
  have f0 : M2.1 NW 0 = nI S := (b1.1 0 (by decide)).trans ((e 0 (by decide) (by decide) (by decide)).trans h0)
  have f5 : M2.1 NW 5 = nI p := (b1.1 5 (by decide)).trans ((e 5 (by decide) (by decide) (by decide)).trans h5)
  have f1 : M2.1 NW 1 = g 1 := (b1.1 1 (by decide)).trans (e 1 (by decide) (by decide) (by decide))
  have f8 : M2.1 NW 8 = g 8 := (b1.1 8 (by decide)).trans (e 8 (by decide) (by decide) (by decide))
  rw [show fX10_step M = _ from a3.trans b3]
  rw [f0, f5, f1, f8, ← nI_succ]
  unfold stS
  by_cases hp : p + 1 = S
  · rw [if_pos hp, if_pos (by rw [hp])]
    refine ⟨_, rfl, ?_, fr_pI (fr_pI (fr_pI (fr_pI (fr_tr a2 b2) rfl) rfl) rfl) rfl⟩
    refine rx_g (fun k hk => ?_) (rx_pI (k := 8) (by decide) (rx_pI (k := 1) (by decide) (rx_pI (k := 5) (by decide) (rx_pI (k := 5) (by decide) b1))))
    simp only [upd]
    by_cases k5 : k = 5 <;> simp [k5]
  · rw [if_neg hp, if_neg (fun c => hp ((nI_eq (by omega) (by omega)).mp c))]
    refine ⟨_, rfl, ?_, fr_pI (fr_pI (fr_tr a2 b2) rfl) rfl⟩
    exact rx_pI (k := 8) (by decide) (rx_pI (k := 5) (by decide) b1)
theorem rf_playL {S T A m : Nat} {P : PF} {K : Int32 → Mm → Option (Int32 × Mm)} : ∀ (d v : Nat) (M : Mm) (g : GF) (p U n : Nat), v + d < 2 ^ 31 → d < n → RX (M.1 NW) g P → Iv g P S T U A m p →
    ∃ M', RX (M'.1 NW) (playN P S T m d g p U).2.1 P ∧ Fr sNW M M' ∧ fX10_steps_L2 (nI (v + d)) K n (nI v) M = K (nI (v + (playN P S T m d g p U).1)) M' := by
  intro d
  induction d with
  | zero =>
    intro v M g p U n hv hn h hI
    obtain ⟨n, rfl⟩ : ∃ q, n = q + 1 := ⟨n - 1, by omega⟩
    exact ⟨M, h, fr_rf, by rw [fX10_steps_L2, if_pos (nI_le (show v + 0 ≤ v from Nat.le_refl _) (by omega))]; rfl⟩
  | succ d ih =>
    intro v M g p U n hv hn h hI
    obtain ⟨n, rfl⟩ : ∃ q, n = q + 1 := ⟨n - 1, by omega⟩
    have hU : U ≤ 20 := hI.2.2.2.2.2.2.2.2.1
    have e1 : M.1 NW 1 = nI U := (h.1 1 (by decide)).trans hI.2.1
    rw [fX10_steps_L2, if_neg (nI_ge (by omega) (by omega)), e1, playN]
    by_cases hU0 : U = 0
    · subst hU0
      rw [if_pos rfl, if_pos (by decide)]
      exact ⟨M, h, fr_rf, rfl⟩
    · rw [if_neg hU0, if_neg (nI_nle (by omega) (by omega))]
      obtain ⟨M1, a1, a2, a3⟩ := rf_step h hI
      obtain ⟨M2, b1, b2, b3⟩ := ih (v + 1) M1 _ _ _ n (by omega) (by omega) a2 (stS_iv hI (by omega))
      refine ⟨M2, b1, fr_tr a3 b2, ?_⟩
      rw [a1, Option.bind_some, ← nI_succ, show v + (d + 1) = v + 1 + d by omega, b3]
      rw [show v + 1 + (playN P S T m d (stS P S T m g p) (nxP S p) (nxU S p U)).1 = v + ((playN P S T m d (stS P S T m g p) (nxP S p) (nxU S p U)).1 + 1) by omega]
theorem rf_steps {S T U A m p k : Nat} {P : PF} {M : Mm} {g : GF} (hk : k ≤ 4000) (h : RX (M.1 NW) g P) (hI : Iv g P S T U A m p) :
    ∃ M', fX10_steps M (nI k) = some (nI (playN P S T m k g p U).1, M') ∧ RX (M'.1 NW) (playN P S T m k g p U).2.1 P ∧ Fr sNW M M' := by
  obtain ⟨M', a1, a2, a3⟩ := rf_playL (K := fun w5 M6 => some (w5, M6)) k 0 M g p U NF (by omega) (by unfold NF; omega) h hI
  refine ⟨M', ?_, a1, a2⟩
  rw [Nat.zero_add, Nat.zero_add] at a3
  exact a3
