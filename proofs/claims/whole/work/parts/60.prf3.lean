/-! the reference: rows that are copied -/
theorem lp_tries {M0 : Mm} {K : Int32 → Mm → Option Mm} : ∀ (d v : Nat) (M : Mm) (n : Nat), v + d = 280 → d < n → (∀ k, k < v → M.1 (19, 1, 0) k = M0.1 NW k) → Fr (fun r => r == (19, 1, 0)) M0 M →
    ∃ M', (∀ k, k < 280 → M'.1 (19, 1, 0) k = M0.1 NW k) ∧ Fr (fun r => r == (19, 1, 0)) M0 M' ∧ fX10_tries_L2 K n (nI v) M = K (nI 280) M' := by
  intro d
  induction d with
  | zero =>
    intro v M n hv hn h hF
    have e : v = 280 := by omega
    subst e
    obtain ⟨n, rfl⟩ : ∃ q, n = q + 1 := ⟨n - 1, by omega⟩
    exact ⟨M, h, hF, by rw [fX10_tries_L2, if_pos (show (280 : Int32) ≤ nI 280 by decide)]⟩
  | succ d ih =>
    intro v M n hv hn h hF
    obtain ⟨n, rfl⟩ : ∃ q, n = q + 1 := ⟨n - 1, by omega⟩
    rw [fX10_tries_L2, if_neg (show ¬ (280 : Int32) ≤ nI v from nI_ge (b := 280) (by omega) (by decide))]
    have hg : ¬ (nI v < 0 ∨ 280 ≤ (nI v).toNatClampNeg) := nI_in (by omega) (by decide)
    simp only [hg, if_false]
    rw [nI_clamp (by omega), ← nI_succ, (hF NW rfl).1]
    exact ih (v + 1) _ n (by omega) (by omega) (fun k hk => by
      rw [g_row]
      by_cases e : k = v
      · rw [e, upd_s]
      · rw [upd_o e]; exact h k (by omega)) (fr_pI hF rfl)
theorem lp_back {c : Int32} {M0 : Mm} {K : Int32 → Mm → Option (Int32 × Mm)} : ∀ (d v : Nat) (M : Mm) (n : Nat), v + d = 280 → d < n → (∀ k, k < v → M.1 NW k = M0.1 (19, 1, 0) k) → Fr (fun r => r == NW) M0 M →
    ∃ M', (∀ k, k < 280 → M'.1 NW k = M0.1 (19, 1, 0) k) ∧ Fr (fun r => r == NW) M0 M' ∧ fX10_back_L2 c K n (nI v) M = K (nI 280) M' := by
  intro d
  induction d with
  | zero =>
    intro v M n hv hn h hF
    have e : v = 280 := by omega
    subst e
    obtain ⟨n, rfl⟩ : ∃ q, n = q + 1 := ⟨n - 1, by omega⟩
    exact ⟨M, h, hF, by rw [fX10_back_L2, if_pos (show (280 : Int32) ≤ nI 280 by decide)]⟩
  | succ d ih =>
    intro v M n hv hn h hF
    obtain ⟨n, rfl⟩ : ∃ q, n = q + 1 := ⟨n - 1, by omega⟩
    rw [fX10_back_L2, if_neg (show ¬ (280 : Int32) ≤ nI v from nI_ge (b := 280) (by omega) (by decide))]
    have hg : ¬ (nI v < 0 ∨ 280 ≤ (nI v).toNatClampNeg) := nI_in (by omega) (by decide)
    simp only [hg, if_false]
    rw [nI_clamp (by omega), ← nI_succ, (hF (19, 1, 0) rfl).1]
    exact ih (v + 1) _ n (by omega) (by omega) (fun k hk => by
      rw [g_row]
      by_cases e : k = v
      · rw [e, upd_s]
      · rw [upd_o e]; exact h k (by omega)) (fr_pI hF rfl)
theorem lp_load {M0 : Mm} {K : Int32 → Mm → Option (Int32 × Mm)} : ∀ (d v : Nat) (M : Mm) (n : Nat), v + d = 280 → d < n → (∀ k, k < v → M.1 NW k = M0.1 (19, 2, 0) k) → Fr (fun r => r == NW) M0 M →
    ∃ M', (∀ k, k < 280 → M'.1 NW k = M0.1 (19, 2, 0) k) ∧ Fr (fun r => r == NW) M0 M' ∧ fX10_load_L56 K n (nI v) M = K (nI 280) M' := by
  intro d
  induction d with
  | zero =>
    intro v M n hv hn h hF
    have e : v = 280 := by omega
    subst e
    obtain ⟨n, rfl⟩ : ∃ q, n = q + 1 := ⟨n - 1, by omega⟩
    exact ⟨M, h, hF, by rw [fX10_load_L56, if_pos (show (280 : Int32) ≤ nI 280 by decide)]⟩
  | succ d ih =>
    intro v M n hv hn h hF
    obtain ⟨n, rfl⟩ : ∃ q, n = q + 1 := ⟨n - 1, by omega⟩
    rw [fX10_load_L56, if_neg (show ¬ (280 : Int32) ≤ nI v from nI_ge (b := 280) (by omega) (by decide))]
    have hg : ¬ (nI v < 0 ∨ 280 ≤ (nI v).toNatClampNeg) := nI_in (by omega) (by decide)
    simp only [hg, if_false]
    rw [nI_clamp (by omega), ← nI_succ, (hF (19, 2, 0) rfl).1]
    exact ih (v + 1) _ n (by omega) (by omega) (fun k hk => by
      rw [g_row]
      by_cases e : k = v
      · rw [e, upd_s]
      · rw [upd_o e]; exact h k (by omega)) (fr_pI hF rfl)
theorem lp_new {M0 : Mm} {K : Int32 → Mm → Option (Int32 × Mm)} : ∀ (d v : Nat) (M : Mm) (n : Nat), v + d = 280 → d < n → ((∀ k, k < v → M.1 (19, 2, 0) k = M0.1 NW k ∧ M.1 NW k = 0) ∧ ∀ k, v ≤ k → M.1 NW k = M0.1 NW k) → Fr (fun r => r == NW || r == (19, 2, 0)) M0 M →
    ∃ M', ((∀ k, k < 280 → M'.1 (19, 2, 0) k = M0.1 NW k ∧ M'.1 NW k = 0) ∧ ∀ k, 280 ≤ k → M'.1 NW k = M0.1 NW k) ∧ Fr (fun r => r == NW || r == (19, 2, 0)) M0 M' ∧ fX10_load_L7 K n (nI v) M = K (nI 280) M' := by
  intro d
  induction d with
  | zero =>
    intro v M n hv hn h hF
    have e : v = 280 := by omega
    subst e
    obtain ⟨n, rfl⟩ : ∃ q, n = q + 1 := ⟨n - 1, by omega⟩
    exact ⟨M, h, hF, by rw [fX10_load_L7, if_pos (show (280 : Int32) ≤ nI 280 by decide)]⟩
  | succ d ih =>
    intro v M n hv hn h hF
    obtain ⟨n, rfl⟩ : ∃ q, n = q + 1 := ⟨n - 1, by omega⟩
    rw [fX10_load_L7, if_neg (show ¬ (280 : Int32) ≤ nI v from nI_ge (b := 280) (by omega) (by decide))]
    have hg : ¬ (nI v < 0 ∨ 280 ≤ (nI v).toNatClampNeg) := nI_in (by omega) (by decide)
    simp only [hg, if_false]
    rw [nI_clamp (by omega), ← nI_succ, h.2 v (Nat.le_refl _)]
    exact ih (v + 1) _ n (by omega) (by omega) ⟨fun k hk => by
      rw [g_row, putI_ne (by decide), g_row, putI_ne (by decide)]
      by_cases e : k = v
      · rw [e, upd_s, upd_s]; exact ⟨rfl, rfl⟩
      · rw [upd_o e, upd_o e]; exact h.1 k (by omega), fun k hk => by
      rw [g_row, putI_ne (by decide), upd_o (by omega)]; exact h.2 k (by omega)⟩ (fr_pI (fr_pI hF rfl) rfl)
theorem lp_keep {u : Nat} {M0 : Mm} (hu : M0.1 R8 7 = nI u) (hu8 : u < 8) {K : Int32 → Mm → Option Mm} : ∀ (d v : Nat) (M : Mm) (n : Nat), v + d = 280 → d < n → ((∀ k, k < v → M.1 (19, 3, 0) (280 * u + k) = M0.1 NW k) ∧ ∀ k, k < 280 * u → M.1 (19, 3, 0) k = M0.1 (19, 3, 0) k) → Fr (fun r => r == (19, 3, 0)) M0 M →
    ∃ M', ((∀ k, k < 280 → M'.1 (19, 3, 0) (280 * u + k) = M0.1 NW k) ∧ ∀ k, k < 280 * u → M'.1 (19, 3, 0) k = M0.1 (19, 3, 0) k) ∧ Fr (fun r => r == (19, 3, 0)) M0 M' ∧ fX10_keeps_L52 K n (nI v) M = K (nI 280) M' := by
  intro d
  induction d with
  | zero =>
    intro v M n hv hn h hF
    have e : v = 280 := by omega
    subst e
    obtain ⟨n, rfl⟩ : ∃ q, n = q + 1 := ⟨n - 1, by omega⟩
    exact ⟨M, h, hF, by rw [fX10_keeps_L52, if_pos (show (280 : Int32) ≤ nI 280 by decide)]⟩
  | succ d ih =>
    intro v M n hv hn h hF
    obtain ⟨n, rfl⟩ : ∃ q, n = q + 1 := ⟨n - 1, by omega⟩
    rw [fX10_keeps_L52, if_neg (show ¬ (280 : Int32) ≤ nI v from nI_ge (b := 280) (by omega) (by decide))]
    have hg : ¬ (nI v < 0 ∨ 280 ≤ (nI v).toNatClampNeg) := nI_in (by omega) (by decide)
    have e7 : M.1 (18, 0, 0) 7 = nI u := by rw [(hF (18, 0, 0) rfl).1]; exact hu
    have ei : (280 : Int32) * nI u + nI v = nI (280 * u + v) := by
      show nI 280 * nI u + nI v = _
      rw [pk_mul, nI_add]
    rw [e7, ei]
    have hg2 : ¬ (nI (280 * u + v) < 0 ∨ 2240 ≤ (nI (280 * u + v)).toNatClampNeg) := nI_in (by omega) (by decide)
    simp only [hg, hg2, if_false]
    rw [nI_clamp (by omega), nI_clamp (by omega), ← nI_succ, (hF (19, 0, 0) rfl).1]
    exact ih (v + 1) _ n (by omega) (by omega) ⟨fun k hk => by
      rw [g_row]
      by_cases e : k = v
      · rw [e, upd_s]
      · rw [upd_o (by omega)]; exact h.1 k (by omega), fun k hk => by
      rw [g_row, upd_o (by omega)]; exact h.2 k hk⟩ (fr_pI hF rfl)
theorem lp_down {M0 : Mm} {K : Int32 → Mm → Option Mm} : ∀ (d v : Nat) (M : Mm) (n : Nat), v + d = 1960 → d < n → ((∀ k, k < v → M.1 (19, 3, 0) k = M0.1 (19, 3, 0) (k + 280)) ∧ ∀ k, v ≤ k → M.1 (19, 3, 0) k = M0.1 (19, 3, 0) k) → Fr (fun r => r == (19, 3, 0)) M0 M →
    ∃ M', ((∀ k, k < 1960 → M'.1 (19, 3, 0) k = M0.1 (19, 3, 0) (k + 280)) ∧ ∀ k, 1960 ≤ k → M'.1 (19, 3, 0) k = M0.1 (19, 3, 0) k) ∧ Fr (fun r => r == (19, 3, 0)) M0 M' ∧ fX10_keeps_L11 K n (nI v) M = K (nI 1960) M' := by
  intro d
  induction d with
  | zero =>
    intro v M n hv hn h hF
    have e : v = 1960 := by omega
    subst e
    obtain ⟨n, rfl⟩ : ∃ q, n = q + 1 := ⟨n - 1, by omega⟩
    exact ⟨M, h, hF, by rw [fX10_keeps_L11, if_pos (show (1960 : Int32) ≤ nI 1960 by decide)]⟩
  | succ d ih =>
    intro v M n hv hn h hF
    obtain ⟨n, rfl⟩ : ∃ q, n = q + 1 := ⟨n - 1, by omega⟩
    rw [fX10_keeps_L11, if_neg (show ¬ (1960 : Int32) ≤ nI v from nI_ge (b := 1960) (by omega) (by decide))]
    have hg : ¬ (nI v < 0 ∨ 1960 ≤ (nI v).toNatClampNeg) := nI_in (by omega) (by decide)
    have ei : nI v + 280 = nI (v + 280) := nI_add v 280
    rw [ei]
    have hg2 : ¬ (nI (v + 280) < 0 ∨ 2240 ≤ (nI (v + 280)).toNatClampNeg) := nI_in (by omega) (by decide)
    have hg3 : ¬ (nI v < 0 ∨ 2240 ≤ (nI v).toNatClampNeg) := nI_in (by omega) (by decide)
    simp only [hg3, hg2, if_false]
    rw [nI_clamp (by omega), nI_clamp (by omega), ← nI_succ, h.2 (v + 280) (by omega)]
    exact ih (v + 1) _ n (by omega) (by omega) ⟨fun k hk => by
      rw [g_row]
      by_cases e : k = v
      · rw [e, upd_s]
      · rw [upd_o (by omega)]; exact h.1 k (by omega), fun k hk => by
      rw [g_row, upd_o (by omega)]; exact h.2 k (by omega)⟩ (fr_pI hF rfl)
theorem lp_undo {u : Nat} {M0 : Mm} (hu : M0.1 R8 7 = nI u) (hu8 : u < 8) {K : Int32 → Mm → Option (Int32 × Mm)} : ∀ (d v : Nat) (M : Mm) (n : Nat), v + d = 280 → d < n → (∀ k, k < v → M.1 NW k = M0.1 (19, 3, 0) (280 * u + k)) → Fr (fun r => r == NW) M0 M →
    ∃ M', (∀ k, k < 280 → M'.1 NW k = M0.1 (19, 3, 0) (280 * u + k)) ∧ Fr (fun r => r == NW) M0 M' ∧ fX10_undo_L39 K n (nI v) M = K (nI 280) M' := by
  intro d
  induction d with
  | zero =>
    intro v M n hv hn h hF
    have e : v = 280 := by omega
    subst e
    obtain ⟨n, rfl⟩ : ∃ q, n = q + 1 := ⟨n - 1, by omega⟩
    exact ⟨M, h, hF, by rw [fX10_undo_L39, if_pos (show (280 : Int32) ≤ nI 280 by decide)]⟩
  | succ d ih =>
    intro v M n hv hn h hF
    obtain ⟨n, rfl⟩ : ∃ q, n = q + 1 := ⟨n - 1, by omega⟩
    rw [fX10_undo_L39, if_neg (show ¬ (280 : Int32) ≤ nI v from nI_ge (b := 280) (by omega) (by decide))]
    have hg : ¬ (nI v < 0 ∨ 280 ≤ (nI v).toNatClampNeg) := nI_in (by omega) (by decide)
    have e7 : M.1 (18, 0, 0) 7 = nI u := by rw [(hF (18, 0, 0) rfl).1]; exact hu
    have ei : (280 : Int32) * nI u + nI v = nI (280 * u + v) := by
      show nI 280 * nI u + nI v = _
      rw [pk_mul, nI_add]
    rw [e7, ei]
    have hg2 : ¬ (nI (280 * u + v) < 0 ∨ 2240 ≤ (nI (280 * u + v)).toNatClampNeg) := nI_in (by omega) (by decide)
    simp only [hg, hg2, if_false]
    rw [nI_clamp (by omega), nI_clamp (by omega), ← nI_succ, (hF (19, 3, 0) rfl).1]
    exact ih (v + 1) _ n (by omega) (by omega) (fun k hk => by
      rw [g_row]
      by_cases e : k = v
      · rw [e, upd_s]
      · rw [upd_o (by omega)]; exact h k (by omega)) (fr_pI hF rfl)
theorem lp_save {c : Nat} {M0 : Mm} (hc : c < 2) {K : Int32 → Mm → Option (Int32 × Mm)} : ∀ (d v : Nat) (M : Mm) (n : Nat), v + d = 280 → d < n → ((∀ k, k < v → M.1 (19, 4, 0) (280 * c + k) = M0.1 NW k) ∧ ∀ k, (k < 280 * c ∨ 280 * c + 280 ≤ k) → M.1 (19, 4, 0) k = M0.1 (19, 4, 0) k) → Fr (fun r => r == (19, 4, 0)) M0 M →
    ∃ M', ((∀ k, k < 280 → M'.1 (19, 4, 0) (280 * c + k) = M0.1 NW k) ∧ ∀ k, (k < 280 * c ∨ 280 * c + 280 ≤ k) → M'.1 (19, 4, 0) k = M0.1 (19, 4, 0) k) ∧ Fr (fun r => r == (19, 4, 0)) M0 M' ∧ fX10_save_L23 (nI c) K n (nI v) M = K (nI 280) M' := by
  intro d
  induction d with
  | zero =>
    intro v M n hv hn h hF
    have e : v = 280 := by omega
    subst e
    obtain ⟨n, rfl⟩ : ∃ q, n = q + 1 := ⟨n - 1, by omega⟩
    exact ⟨M, h, hF, by rw [fX10_save_L23, if_pos (show (280 : Int32) ≤ nI 280 by decide)]⟩
  | succ d ih =>
    intro v M n hv hn h hF
    obtain ⟨n, rfl⟩ : ∃ q, n = q + 1 := ⟨n - 1, by omega⟩
    rw [fX10_save_L23, if_neg (show ¬ (280 : Int32) ≤ nI v from nI_ge (b := 280) (by omega) (by decide))]
    have hg : ¬ (nI v < 0 ∨ 280 ≤ (nI v).toNatClampNeg) := nI_in (by omega) (by decide)
    have ei : (280 : Int32) * nI c + nI v = nI (280 * c + v) := by
      show nI 280 * nI c + nI v = _
      rw [pk_mul, nI_add]
    rw [ei]
    have hg2 : ¬ (nI (280 * c + v) < 0 ∨ 560 ≤ (nI (280 * c + v)).toNatClampNeg) := nI_in (by omega) (by decide)
    simp only [hg, hg2, if_false]
    rw [nI_clamp (by omega), nI_clamp (by omega), ← nI_succ, (hF (19, 0, 0) rfl).1]
    exact ih (v + 1) _ n (by omega) (by omega) ⟨fun k hk => by
      rw [g_row]
      by_cases e : k = v
      · rw [e, upd_s]
      · rw [upd_o (by omega)]; exact h.1 k (by omega), fun k hk => by
      rw [g_row, upd_o (by omega)]; exact h.2 k hk⟩ (fr_pI hF rfl)
theorem lp_rest {c : Nat} {M0 : Mm} (hc : c < 2) {K : Int32 → Mm → Option (Int32 × Mm)} : ∀ (d v : Nat) (M : Mm) (n : Nat), v + d = 280 → d < n → (∀ k, k < v → M.1 NW k = M0.1 (19, 4, 0) (280 * c + k)) → Fr (fun r => r == NW) M0 M →
    ∃ M', (∀ k, k < 280 → M'.1 NW k = M0.1 (19, 4, 0) (280 * c + k)) ∧ Fr (fun r => r == NW) M0 M' ∧ fX10_restore_L37 (nI c) K n (nI v) M = K (nI 280) M' := by
  intro d
  induction d with
  | zero =>
    intro v M n hv hn h hF
    have e : v = 280 := by omega
    subst e
    obtain ⟨n, rfl⟩ : ∃ q, n = q + 1 := ⟨n - 1, by omega⟩
    exact ⟨M, h, hF, by rw [fX10_restore_L37, if_pos (show (280 : Int32) ≤ nI 280 by decide)]⟩
  | succ d ih =>
    intro v M n hv hn h hF
    obtain ⟨n, rfl⟩ : ∃ q, n = q + 1 := ⟨n - 1, by omega⟩
    rw [fX10_restore_L37, if_neg (show ¬ (280 : Int32) ≤ nI v from nI_ge (b := 280) (by omega) (by decide))]
    have hg : ¬ (nI v < 0 ∨ 280 ≤ (nI v).toNatClampNeg) := nI_in (by omega) (by decide)
    have ei : (280 : Int32) * nI c + nI v = nI (280 * c + v) := by
      show nI 280 * nI c + nI v = _
      rw [pk_mul, nI_add]
    rw [ei]
    have hg2 : ¬ (nI (280 * c + v) < 0 ∨ 560 ≤ (nI (280 * c + v)).toNatClampNeg) := nI_in (by omega) (by decide)
    simp only [hg, hg2, if_false]
    rw [nI_clamp (by omega), nI_clamp (by omega), ← nI_succ, (hF (19, 4, 0) rfl).1]
    exact ih (v + 1) _ n (by omega) (by omega) (fun k hk => by
      rw [g_row]
      by_cases e : k = v
      · rw [e, upd_s]
      · rw [upd_o (by omega)]; exact h k (by omega)) (fr_pI hF rfl)
/-! the reference: tunes that are copied, turned, moved -/
section TUN
variable {S T m : Nat} {g : GF} {P : PF}
theorem rf_copyL {a b : Nat} (ha : a < 3) (hb : b < 3) (hab : a ≠ b) (h0 : g 0 = nI S) (hS : S ≤ 64) {K : Int32 → Mm → Option (Int32 × Mm)} : ∀ (d v : Nat) (M : Mm) (n : Nat), v + d = S → d < n → RX (M.1 NW) g (pTune P b (fun t s => if s < v then P a t s else P b t s)) →
    ∃ M', RX (M'.1 NW) g (pTune P b (fun t s => if s < S then P a t s else P b t s)) ∧ Fr sNW M M' ∧ fX10_copyTune_L60 (nI a) (nI b) K n (nI v) M = K (nI S) M' := by
  intro d
  induction d with
  | zero =>
    intro v M n hv hn h
    have e : v = S := by omega
    subst e
    obtain ⟨n, rfl⟩ : ∃ q, n = q + 1 := ⟨n - 1, by omega⟩
    exact ⟨M, h, fr_rf, by rw [fX10_copyTune_L60, (h.1 0 (by decide)).trans h0, if_pos (nI_le (Nat.le_refl _) (by omega))]⟩
  | succ d ih =>
    intro v M n hv hn h
    obtain ⟨n, rfl⟩ : ∃ q, n = q + 1 := ⟨n - 1, by omega⟩
    rw [fX10_copyTune_L60, (h.1 0 (by decide)).trans h0, if_neg (nI_ge (by omega) (by omega)), rf_set ha (by omega), Option.bind_some, rf_putSet hb (by omega), Option.bind_some, ← nI_succ]
    obtain ⟨M', a1, a2, a3⟩ := ih (v + 1) (putI M NW (88 + 64 * b + v) (M.1 NW (88 + 64 * a + v))) n (by omega) (by omega) (by
      rw [g_row]
      refine rx_P (fun m' t' s' _ _ _ => ?_) (rx_set (q := fun t => P a t v) (m := b) (s := v) (by omega) (fun t ht => ?_) h)
      · unfold pTune
        by_cases e1 : m' = b
        · subst e1
          by_cases e2 : s' = v
          · subst e2; simp
          · by_cases e3 : s' < v
            · simp [e2, e3, show s' < v + 1 by omega]
            · simp [e2, e3, show ¬ s' < v + 1 by omega]
        · simp [e1]
      · rw [h.2 a ha v (by omega) t ht, pTune, if_neg hab])
    exact ⟨M', a1, fr_tr (fr_putI rfl) a2, a3⟩
theorem rf_turn1 {k : Nat} {M0 : Mm} (h0 : M0.1 NW 0 = nI S) (hS : 0 < S ∧ S ≤ 64) (hm : m < 3) (hk : k < 64) {K : Int32 → Mm → Option (Int32 × Mm)} : ∀ (d v : Nat) (M : Mm) (n : Nat), v + d = S → d < n → (∀ s, s < S → (s + S - k % S) % S < v → M.1 (19, 5, 0) s = M0.1 NW (88 + 64 * m + (s + S - k % S) % S)) → Fr (fun r => r == (19, 5, 0)) M0 M →
    ∃ M', (∀ s, s < S → M'.1 (19, 5, 0) s = M0.1 NW (88 + 64 * m + (s + S - k % S) % S)) ∧ Fr (fun r => r == (19, 5, 0)) M0 M' ∧ fX10_shift_L31 (nI m) (nI k) K n (nI v) M = K (nI S) M' := by
  intro d
  induction d with
  | zero =>
    intro v M n hv hn h hF
    have e : v = S := by omega
    subst e
    obtain ⟨n, rfl⟩ : ∃ q, n = q + 1 := ⟨n - 1, by omega⟩
    exact ⟨M, fun s hs => h s hs (Nat.mod_lt _ hS.1), hF, by rw [fX10_shift_L31, (hF NW rfl).1, h0, if_pos (nI_le (Nat.le_refl _) (by omega))]⟩
  | succ d ih =>
    intro v M n hv hn h hF
    obtain ⟨n, rfl⟩ : ∃ q, n = q + 1 := ⟨n - 1, by omega⟩
    have hm2 := Nat.mod_lt (v + k) hS.1
    rw [fX10_shift_L31, (hF NW rfl).1, h0, if_neg (nI_ge (by omega) (by omega)), if_neg (nI_ne0 hS.1 (by omega)), rf_set hm (by omega), Option.bind_some, nI_add, pk_rem (by omega) hS.1 (by omega), if_neg (nI_in (by omega) (by decide)), nI_clamp (by omega), ← nI_succ, (hF NW rfl).1]
    refine ih (v + 1) _ n (by omega) (by omega) (fun s hs h1 => ?_) (fr_pI hF rfl)
    have hix := turn_ix (S := S) (f := k % S) (b := s) (v := v) (Nat.mod_lt _ hS.1) hs (by omega)
    have ht : (if v + k % S < S then v + k % S else v + k % S - S) = (v + k) % S := by
      have e1 : (v + k) % S = (v + k % S) % S := by rw [Nat.add_mod_mod]
      have hk2 := Nat.mod_lt k hS.1
      rw [e1]
      generalize k % S = f at hk2
      by_cases c : v + f < S
      · rw [if_pos c, Nat.mod_eq_of_lt c]
      · rw [if_neg c, Nat.mod_eq_sub_mod (by omega), Nat.mod_eq_of_lt (show v + f - S < S by omega)]
    rw [ht] at hix
    rw [g_row]
    by_cases e : s = (v + k) % S
    · rw [hix.mpr e, e, upd_s]
    · rw [upd_o e]
      refine h s hs ?_
      have : (s + S - k % S) % S ≠ v := fun c => e (hix.mp c)
      omega
theorem rf_turn2 {X : Nat → Int32} {Q : Nat → Nat → Bool} (h0 : g 0 = nI S) (hS : S ≤ 64) (hm : m < 3) (hX : ∀ s, s < S → ∀ t, t < 32 → bt (X s) t = Q t s) {K : Int32 → Mm → Option (Int32 × Mm)} : ∀ (d v : Nat) (M : Mm) (n : Nat), v + d = S → d < n → (∀ s, s < S → M.1 (19, 5, 0) s = X s) → RX (M.1 NW) g (pTune P m (fun t s => if s < v then Q t s else P m t s)) →
    ∃ M', RX (M'.1 NW) g (pTune P m (fun t s => if s < S then Q t s else P m t s)) ∧ Fr sNW M M' ∧ fX10_shift_L70 (nI m) K n (nI v) M = K (nI S) M' := by
  intro d
  induction d with
  | zero =>
    intro v M n hv hn hx h
    have e : v = S := by omega
    subst e
    obtain ⟨n, rfl⟩ : ∃ q, n = q + 1 := ⟨n - 1, by omega⟩
    exact ⟨M, h, fr_rf, by rw [fX10_shift_L70, (h.1 0 (by decide)).trans h0, if_pos (nI_le (Nat.le_refl _) (by omega))]⟩
  | succ d ih =>
    intro v M n hv hn hx h
    obtain ⟨n, rfl⟩ : ∃ q, n = q + 1 := ⟨n - 1, by omega⟩
    rw [fX10_shift_L70, (h.1 0 (by decide)).trans h0, if_neg (nI_ge (by omega) (by omega)), if_neg (nI_in (by omega) (by decide)), nI_clamp (by omega), hx v (by omega), rf_putSet hm (by omega), Option.bind_some, ← nI_succ]
    obtain ⟨M', a1, a2, a3⟩ := ih (v + 1) (putI M NW (88 + 64 * m + v) (X v)) n (by omega) (by omega) (fun s hs => by rw [putI_ne (by decide)]; exact hx s hs) (by
      rw [g_row]
      refine rx_P (fun m' t' s' _ _ _ => ?_) (rx_set (q := fun t => Q t v) (m := m) (s := v) (by omega) (fun t ht => hX v (by omega) t ht) h)
      unfold pTune
      by_cases e1 : m' = m
      · subst e1
        by_cases e2 : s' = v
        · subst e2; simp
        · by_cases e3 : s' < v
          · simp [e2, e3, show s' < v + 1 by omega]
          · simp [e2, e3, show ¬ s' < v + 1 by omega]
      · simp [e1])
    exact ⟨M', a1, fr_tr (fr_putI rfl) a2, a3⟩
theorem rf_moveL {c : Int32} {F : Int32 → Int32} {Q : Nat → Nat → Bool} (h0 : g 0 = nI S) (hS : S ≤ 64) (hm : m < 3) (hF : ∀ (M : Mm) (s : Nat) (x : Int32) (f : Mm → Option (Int32 × Mm)), (if 0 ≤ c then (fX10_putSet M (nI m) (nI s) (x <<< (c &&& 31))).bind f else (fX10_putSet M (nI m) (nI s) (x >>> ((-c) &&& 31))).bind f) = (fX10_putSet M (nI m) (nI s) (F x)).bind f) (hX : ∀ s, s < 64 → ∀ x, (∀ t, t < 32 → bt x t = P m t s) → ∀ t, t < 32 → bt (F x) t = Q t s) {K : Int32 → Mm → Option (Int32 × Mm)} : ∀ (d v : Nat) (M : Mm) (n : Nat), v + d = S → d < n → RX (M.1 NW) g (pTune P m (fun t s => if s < v then Q t s else P m t s)) →
    ∃ M', RX (M'.1 NW) g (pTune P m (fun t s => if s < S then Q t s else P m t s)) ∧ Fr sNW M M' ∧ fX10_transpose_L46 (nI m) c K n (nI v) M = K (nI S) M' := by
  intro d
  induction d with
  | zero =>
    intro v M n hv hn h
    have e : v = S := by omega
    subst e
    obtain ⟨n, rfl⟩ : ∃ q, n = q + 1 := ⟨n - 1, by omega⟩
    exact ⟨M, h, fr_rf, by rw [fX10_transpose_L46, (h.1 0 (by decide)).trans h0, if_pos (nI_le (Nat.le_refl _) (by omega))]⟩
  | succ d ih =>
    intro v M n hv hn h
    obtain ⟨n, rfl⟩ : ∃ q, n = q + 1 := ⟨n - 1, by omega⟩
    rw [fX10_transpose_L46, (h.1 0 (by decide)).trans h0, if_neg (nI_ge (by omega) (by omega)), rf_set hm (by omega), Option.bind_some, Option.bind_some, hF, rf_putSet hm (by omega), Option.bind_some, ← nI_succ]
    obtain ⟨M', a1, a2, a3⟩ := ih (v + 1) (putI M NW (88 + 64 * m + v) (F (M.1 NW (88 + 64 * m + v)))) n (by omega) (by omega) (by
      rw [g_row]
      refine rx_P (fun m' t' s' _ _ _ => ?_) (rx_set (q := fun t => Q t v) (m := m) (s := v) (by omega) (hX v (by omega) _ (fun t ht => ?_)) h)
      · unfold pTune
        by_cases e1 : m' = m
        · subst e1
          by_cases e2 : s' = v
          · subst e2; simp
          · by_cases e3 : s' < v
            · simp [e2, e3, show s' < v + 1 by omega]
            · simp [e2, e3, show ¬ s' < v + 1 by omega]
        · simp [e1]
      · rw [h.2 m hm v (by omega) t ht, pTune, if_pos rfl, if_neg (Nat.lt_irrefl v)])
    exact ⟨M', a1, fr_tr (fr_putI rfl) a2, a3⟩
end TUN
