/-! Own's step, whole -/
theorem psL_5 {t : Nat} {g : GF} : ∀ n, psL n g (16 + 6 * t + 5) = if t < n then mnI 99 (g (16 + 6 * t + 5) + 1) else g (16 + 6 * t + 5)
  | 0 => by rw [psL, if_neg (Nat.not_lt_zero _)]
  | n + 1 => by
    rw [psL, psS]
    by_cases e : t = n
    · subst e
      rw [upd_s, psL_5 t, if_neg (Nat.lt_irrefl _), if_pos (Nat.lt_succ_self _)]
    · rw [upd_o (by omega), psL_5 n]
      by_cases h : t < n
      · rw [if_pos h, if_pos (by omega)]
      · rw [if_neg h, if_neg (by omega)]
theorem st_off {M : Mm} {k v : Nat} {r : Int32} : Off (owR k) M (stM M k v r) := by
  unfold stM
  exact (((Off.rf.put (by simp [owR])).put (by simp [owR])).put (by simp [owR])).put (by simp [owR])
theorem step_L {k T m p : Nat} {g : GF} {P : PF} {pl : Int32} {K : Int32 → Mm → Option (Int32 × Mm)} (hT : T ≤ 12) (hm : m < 3) (hp : p < 64) (g3 : g 3 = nI T) (g4 : g 4 = nI m) (g5 : g 5 = nI p) (g8 : g 8 = pl) (h0 : 0 ≤ pl) (hb : pl < 100000) :
    ∀ (d n f : Nat) (M : Mm), n + d = T → d + 1 ≤ f → OXm M k T (plL P m p n g) P pl n → ∃ M', fX10_step_L11 k K f (nI n) M = K (nI T) M' ∧ OXm M' k T (plL P m p T g) P pl T ∧ Off (owR k) M M' := by
  intro d
  induction d with
  | zero =>
    intro n f M hn hf h
    obtain ⟨f, rfl⟩ : ∃ q, f = q + 1 := ⟨f - 1, by omega⟩
    have e : n = T := by omega
    subst e
    refine ⟨M, ?_, h, Off.rf⟩
    have e3 : M.1 (18, k, 0) 3 = nI n := (h.1 3 (by decide)).trans ((plL_o (by decide) (by decide) (by decide) n).trans g3)
    rw [fX10_step_L11, e3, if_pos (Int32.le_refl _)]
  | succ d ih =>
    intro n f M hn hf h
    obtain ⟨f, rfl⟩ : ∃ q, f = q + 1 := ⟨f - 1, by omega⟩
    have po : ∀ j, j < 16 → j ≠ 6 → j ≠ 7 → plL P m p n g j = g j := fun j a b c => plL_o a b c n
    have e3 : M.1 (18, k, 0) 3 = nI T := (h.1 3 (by decide)).trans ((po 3 (by decide) (by decide) (by decide)).trans g3)
    have h8 : plL P m p n g 8 = pl := (po 8 (by decide) (by decide) (by decide)).trans g8
    have hs := sound_m (m := m) (p := p) h h8 hT (by omega) hm hp ((po 4 (by decide) (by decide) (by decide)).trans g4) ((po 5 (by decide) (by decide) (by decide)).trans g5)
    rw [stp_1 (by rw [e3]; exact fun c => by have := (nIle (by omega) (by omega)).mp c; omega) (by omega) hs snd_r]
    obtain ⟨M', a1, a2, a3⟩ := ih (n + 1) f _ (by omega) (by omega) (tooth_m (m := m) (p := p) h h8 h0 hb (by omega))
    exact ⟨M', a1, a2, st_off.tr a3⟩
theorem div_ok : ∀ S, S < 65 → 4 ≤ S → ∀ p, p < S → (nI p + 1) / nI S = nI ((p + 1) / S) ∧ (nI p + 1) - (nI p + 1) / nI S * nI S = nI ((p + 1) % S) ∧ ¬ nI S = 0 := by decide +kernel
