/-! Own's step, whole -/
theorem psL_5 {t : Nat} {g : GF} : ∀ n, psL n g (16 + 6 * t + 5) = if t < n then mnI 99 (g (16 + 6 * t + 5) + 1) else g (16 + 6 * t + 5)
  | 0 => by rw [psL, if_neg (Nat.not_lt_zero _)]
  | n + 1 => by
    rw [psL, psS]
    by_cases e : t = n
    · subst e
      rw [upd_s, psL_5 t, if_neg (Nat.lt_irrefl _), if_pos (Nat.lt_succ_self _)]
    · rw [upd_o (by omega), psL_5 n]
      by_cases h : t < n
      · rw [if_pos h, if_pos (by omega)]
      · rw [if_neg h, if_neg (by omega)]
theorem st_off {M : Mm} {k v : Nat} {r : Int32} : Off (owR k) M (stM M k v r) := by
  unfold stM
  exact (((Off.rf.put (by simp [owR])).put (by simp [owR])).put (by simp [owR])).put (by simp [owR])
theorem step_L {k T m p : Nat} {g : GF} {P : PF} {pl : Int32} {K : Int32 → Mm → Option (Int32 × Mm)} (hT : T ≤ 12) (hm : m < 3) (hp : p < 64) (g3 : g 3 = nI T) (g4 : g 4 = nI m) (g5 : g 5 = nI p) (g8 : g 8 = pl) (h0 : 0 ≤ pl) (hb : pl < 100000) :
    ∀ (d n f : Nat) (M : Mm), n + d = T → d + 1 ≤ f → OXm M k T (plL P m p n g) P pl n → ∃ M', fX10_step_L11 k K f (nI n) M = K (nI T) M' ∧ OXm M' k T (plL P m p T g) P pl T ∧ Off (owR k) M M' := by
  intro d
  induction d with
  | zero =>
    intro n f M hn hf h
    obtain ⟨f, rfl⟩ : ∃ q, f = q + 1 := ⟨f - 1, by omega⟩
    have e : n = T := by omega
    subst e
    refine ⟨M, ?_, h, Off.rf⟩
    have e3 : M.1 (18, k, 0) 3 = nI n := (h.1 3 (by decide)).trans ((plL_o (by decide) (by decide) (by decide) n).trans g3)
    rw [fX10_step_L11, e3, if_pos (Int32.le_refl _)]
  | succ d ih =>
    intro n f M hn hf h
    obtain ⟨f, rfl⟩ : ∃ q, f = q + 1 := ⟨f - 1, by omega⟩
    have po : ∀ j, j < 16 → j ≠ 6 → j ≠ 7 → plL P m p n g j = g j := fun j a b c => plL_o a b c n
    have e3 : M.1 (18, k, 0) 3 = nI T := (h.1 3 (by decide)).trans ((po 3 (by decide) (by decide) (by decide)).trans g3)
    have h8 : plL P m p n g 8 = pl := (po 8 (by decide) (by decide) (by decide)).trans g8
    have hs := sound_m (m := m) (p := p) h h8 hT (by omega) hm hp ((po 4 (by decide) (by decide) (by decide)).trans g4) ((po 5 (by decide) (by decide) (by decide)).trans g5)
    rw [stp_1 (by rw [e3]; exact fun c => by have := (nIle (by omega) (by omega)).mp c; omega) (by omega) hs snd_r]
    obtain ⟨M', a1, a2, a3⟩ := ih (n + 1) f _ (by omega) (by omega) (tooth_m (m := m) (p := p) h h8 h0 hb (by omega))
    exact ⟨M', a1, a2, st_off.tr a3⟩
theorem div_ok : ∀ S, S < 65 → 4 ≤ S → ∀ p, p < S → (nI p + 1) / nI S = nI ((p + 1) / S) ∧ (nI p + 1) - (nI p + 1) / nI S * nI S = nI ((p + 1) % S) ∧ ¬ nI S = 0 := by decide +kernel
theorem mn_nI {x : Nat} (h : x < 2 ^ 31) : mnI 99 (nI x) = nI (min 99 x) := by
  unfold mnI
  by_cases hx : x < 99
  · rw [show (99 : Int32) = nI 99 from rfl, if_pos ((nIlt h (by decide)).mpr hx), Nat.min_eq_right (by omega)]
  · rw [show (99 : Int32) = nI 99 from rfl, if_neg (fun c => hx ((nIlt h (by decide)).mp c)), Nat.min_eq_left (by omega)]
theorem slm {pl si : Int32} (h0 : 0 ≤ pl) (hb : pl < 100000) (hs : si ≤ pl) : slO (pl + 1) si = mnI 99 (slO pl si + 1) := by
  unfold slO
  by_cases hc : 0 ≤ si
  · rw [if_pos hc, if_pos hc]
    obtain ⟨b, hb1, rfl⟩ := nI_of (Int32.not_lt.mpr h0)
    obtain ⟨a, ha1, rfl⟩ := nI_of (Int32.not_lt.mpr hc)
    have hb2 : b < 100000 := by
      rw [show (100000 : Int32) = nI 100000 from rfl] at hb
      exact (nIlt hb1 (by decide)).mp hb
    have hab := (nIle ha1 hb1).mp hs
    rw [show nI b + (1 : Int32) = nI (b + 1) from nI_add b 1, show nI (b + 1) - nI a = nI (b + 1 - a) from (Int32.ofNat_sub (b + 1) a (by omega)).symm, show nI b - nI a = nI (b - a) from (Int32.ofNat_sub b a hab).symm, mn_nI (by omega), mn_nI (by omega), show nI (min 99 (b - a)) + (1 : Int32) = nI (min 99 (b - a) + 1) from nI_add _ 1, mn_nI (by omega)]
    exact congrArg nI (by omega)
  · rw [if_neg hc, if_neg hc]
    decide
theorem step_ok {M : Mm} {k S T U A m p : Nat} {g : GF} {P : PF} (h : OX M k T g P) (hI : Iv g P S T U A m p) (hU : 0 < U) (h0 : 0 ≤ g 8) (hb : g 8 < 100000) : ∃ M', fX10_step M k = some (1, M') ∧ OX M' k T (stS P S T m g p) P ∧ Off (owR k) M M' := by
  obtain ⟨i0, i1, i2, i3, i4, i5, i6, i7, i8, i9, i10, i11, -⟩ := hI
  obtain ⟨h1, h2, h3, h4⟩ := h
  have e8 : M.1 (18, k, 0) 8 = g 8 := h1 8 (by decide)
  have hx : OXm M k T (plL P m p 0 g) P (g 8) 0 := by
    refine ⟨h1, h2, fun t ht => ?_, fun t ht _ => by rw [← e8]; exact (h3 t ht).1, h4⟩
    have h5 := h3 t ht
    rw [e8] at h5
    exact ⟨by rw [slm h0 hb h5.2, h5.1]; rfl, h5.2⟩
  obtain ⟨M1, a1, a2, a3⟩ := step_L (K := fun _ M81 => if (M81.1 (18, k, 0) 0) = 0 then none else if (M81.1 (18, k, 0) 0) = 0 then none else some ((1 : Int32), (putI (putI (putI (putI M81 (18, k, 0) 8 ((M81.1 (18, k, 0) 8) + (1 : Int32))) (18, k, 0) 5 ((M81.1 (18, k, 0) 5) + (1 : Int32))) (18, k, 0) 1 ((M81.1 (18, k, 0) 1) - (((M81.1 (18, k, 0) 5) + (1 : Int32)) / (M81.1 (18, k, 0) 0)))) (18, k, 0) 5 (((M81.1 (18, k, 0) 5) + (1 : Int32)) - ((M81.1 (18, k, 0) 5) + (1 : Int32)) / (M81.1 (18, k, 0) 0) * (M81.1 (18, k, 0) 0))))) (by omega : T ≤ 12) i10 (by omega : p < 64) i3 i4 i5 rfl h0 hb T 0 NF M (by omega) (by show T + 1 ≤ 5000; omega) hx
  obtain ⟨b1, b2, b3, -, b5⟩ := a2
  obtain ⟨d1, d2, d3⟩ := div_ok S (by omega) i6.1 p i11
  have po : ∀ j, j < 16 → j ≠ 6 → j ≠ 7 → plL P m p T g j = g j := fun j a b c => plL_o a b c T
  have f0 : M1.1 (18, k, 0) 0 = nI S := (b1 0 (by decide)).trans ((po 0 (by decide) (by decide) (by decide)).trans i0)
  have f5 : M1.1 (18, k, 0) 5 = nI p := (b1 5 (by decide)).trans ((po 5 (by decide) (by decide) (by decide)).trans i5)
  have f1 : M1.1 (18, k, 0) 1 = nI U := (b1 1 (by decide)).trans ((po 1 (by decide) (by decide) (by decide)).trans i1)
  have f8 : M1.1 (18, k, 0) 8 = g 8 := (b1 8 (by decide)).trans (po 8 (by decide) (by decide) (by decide))
  have e1 : M.1 (18, k, 0) 1 = nI U := (h1 1 (by decide)).trans i1
  unfold fX10_step
  rw [e1, if_neg (fun c => by have := nIinj (b := 0) (by omega) (by decide) c; omega)]
  refine ⟨(putI (putI (putI (putI M1 (18, k, 0) 8 ((M1.1 (18, k, 0) 8) + (1 : Int32))) (18, k, 0) 5 ((M1.1 (18, k, 0) 5) + (1 : Int32))) (18, k, 0) 1 ((M1.1 (18, k, 0) 1) - (((M1.1 (18, k, 0) 5) + (1 : Int32)) / (M1.1 (18, k, 0) 0)))) (18, k, 0) 5 (((M1.1 (18, k, 0) 5) + (1 : Int32)) - ((M1.1 (18, k, 0) 5) + (1 : Int32)) / (M1.1 (18, k, 0) 0) * (M1.1 (18, k, 0) 0))), a1.trans ?_, ?_, ?_⟩
  · show (if (M1.1 (18, k, 0) 0) = 0 then none else if (M1.1 (18, k, 0) 0) = 0 then none else some ((1 : Int32), (putI (putI (putI (putI M1 (18, k, 0) 8 ((M1.1 (18, k, 0) 8) + (1 : Int32))) (18, k, 0) 5 ((M1.1 (18, k, 0) 5) + (1 : Int32))) (18, k, 0) 1 ((M1.1 (18, k, 0) 1) - (((M1.1 (18, k, 0) 5) + (1 : Int32)) / (M1.1 (18, k, 0) 0)))) (18, k, 0) 5 (((M1.1 (18, k, 0) 5) + (1 : Int32)) - ((M1.1 (18, k, 0) 5) + (1 : Int32)) / (M1.1 (18, k, 0) 0) * (M1.1 (18, k, 0) 0))))) = some ((1 : Int32), (putI (putI (putI (putI M1 (18, k, 0) 8 ((M1.1 (18, k, 0) 8) + (1 : Int32))) (18, k, 0) 5 ((M1.1 (18, k, 0) 5) + (1 : Int32))) (18, k, 0) 1 ((M1.1 (18, k, 0) 1) - (((M1.1 (18, k, 0) 5) + (1 : Int32)) / (M1.1 (18, k, 0) 0)))) (18, k, 0) 5 (((M1.1 (18, k, 0) 5) + (1 : Int32)) - ((M1.1 (18, k, 0) 5) + (1 : Int32)) / (M1.1 (18, k, 0) 0) * (M1.1 (18, k, 0) 0))))
    rw [if_neg (by rw [f0]; exact d3), if_neg (by rw [f0]; exact d3)]
  · rw [f8, f5, f1, f0, d2, d1]
    have p19 : ∀ q : Nat, ∀ a b c d : Int32, (putI (putI (putI (putI M1 (18, k, 0) 8 a) (18, k, 0) 5 b) (18, k, 0) 1 c) (18, k, 0) 5 d).1 (19, k, q) = M1.1 (19, k, q) := fun q a b c d => by
      rw [putI_ne (by simp), putI_ne (by simp), putI_ne (by simp), putI_ne (by simp)]
    have p20 : ∀ a b c d : Int32, (putI (putI (putI (putI M1 (18, k, 0) 8 a) (18, k, 0) 5 b) (18, k, 0) 1 c) (18, k, 0) 5 d).1 (20, k, 0) = M1.1 (20, k, 0) := fun a b c d => by
      rw [putI_ne (by simp), putI_ne (by simp), putI_ne (by simp), putI_ne (by simp)]
    have p18 : ∀ a b c d : Int32, (putI (putI (putI (putI M1 (18, k, 0) 8 a) (18, k, 0) 5 b) (18, k, 0) 1 c) (18, k, 0) 5 d).1 (18, k, 0) = upd (upd (upd (upd (M1.1 (18, k, 0)) 8 a) 5 b) 1 c) 5 d := fun a b c d => by
      rw [g_row, g_row, g_row, g_row]
    have hst : ∀ t q, q < 6 → stS P S T m g p (16 + 6 * t + q) = psL T (plL P m p T g) (16 + 6 * t + q) := fun t q hq => by
      unfold stS
      split
      · rw [upd_o (by omega), upd_o (by omega), upd_o (by omega)]
      · rw [upd_o (by omega), upd_o (by omega)]
    refine ⟨fun j hj => ?_, fun t ht q hq => ?_, fun t ht => ?_, fun m hm t ht s hs => by rw [p20]; exact b5 m hm t ht s hs⟩
    · rw [p18]
      have ps : psL T (plL P m p T g) j = plL P m p T g j := psL_o (by omega) T
      unfold stS
      by_cases j5 : j = 5
      · subst j5
        rw [upd_s]
        by_cases hS : p + 1 = S
        · rw [if_pos hS, upd_o (by decide), upd_o (by decide), upd_s, hS, Nat.mod_self]; rfl
        · rw [if_neg hS, upd_o (by decide), upd_s, Nat.mod_eq_of_lt (by omega)]
      · rw [upd_o j5]
        by_cases j1 : j = 1
        · subst j1
          rw [upd_s]
          by_cases hS : p + 1 = S
          · rw [if_pos hS, upd_o (by decide), upd_s, hS, Nat.div_self (by omega), i1]; rfl
          · rw [if_neg hS, upd_o (by decide), upd_o (by decide), ps, po 1 (by decide) (by decide) (by decide), i1, Nat.div_eq_of_lt (by omega)]; exact Int32.sub_zero _
        · rw [upd_o j1, upd_o j5]
          by_cases j8 : j = 8
          · subst j8
            rw [upd_s]
            by_cases hS : p + 1 = S
            · rw [if_pos hS, upd_s]
            · rw [if_neg hS, upd_s]
          · rw [upd_o j8, b1 j hj]
            by_cases hS : p + 1 = S
            · rw [if_pos hS, upd_o j8, upd_o j1, upd_o j5, ps]
            · rw [if_neg hS, upd_o j8, upd_o j5, ps]
    · rw [p19, hst t q (by omega), psL_t hq, b2 t ht q hq]
    · rw [p19, p18, hst t 5 (by decide), psL_5, if_pos ht, upd_o (by decide), upd_o (by decide), upd_o (by decide), upd_s]
      refine ⟨(b3 t ht).1, Int32.le_trans (b3 t ht).2 ?_⟩
      obtain ⟨b, hb1, e⟩ := nI_of (Int32.not_lt.mpr h0)
      rw [e] at hb ⊢
      rw [show (100000 : Int32) = nI 100000 from rfl] at hb
      have := (nIlt hb1 (by decide)).mp hb
      rw [show nI b + (1 : Int32) = nI (b + 1) from nI_add b 1]
      exact (nIle hb1 (by omega)).mpr (by omega)
  · exact (((a3.put (by simp [owR])).put (by simp [owR])).put (by simp [owR])).put (by simp [owR])
