/-! Own is copied: the pins -/
theorem cp_pins {k q : Nat} (hkq : k ≠ q) {K : Int32 → Mm → Option Mm} : ∀ (d v f : Nat) (M : Mm), v + d = 2304 → d + 1 ≤ f → (∀ i, i < 2304 → bz (M.1 (20, k, 0) i) = M.1 (20, k, 0) i) →
    ∃ M', fX10_copy_L184 k q K f (nI v) M = K (nI 2304) M' ∧ (∀ i, v ≤ i → i < 2304 → M'.1 (20, q, 0) i = M.1 (20, k, 0) i) ∧ (∀ i, i < v → M'.1 (20, q, 0) i = M.1 (20, q, 0) i) ∧ Off [(20, q, 0)] M M' := by
  intro d
  induction d with
  | zero =>
    intro v f M hv hf hb
    obtain ⟨f, rfl⟩ : ∃ x, f = x + 1 := ⟨f - 1, by omega⟩
    have e : v = 2304 := by omega
    subst e
    exact ⟨M, by rw [fX10_copy_L184, show (2304 : Int32) = nI 2304 from rfl, if_pos (Int32.le_refl _)], fun i h1 h2 => absurd h2 (by omega), fun i _ => rfl, Off.rf⟩
  | succ d ih =>
    intro v f M hv hf hb
    obtain ⟨f, rfl⟩ : ∃ x, f = x + 1 := ⟨f - 1, by omega⟩
    have hk : ((20, k, 0) : Rf) ≠ (20, q, 0) := by simp [hkq]
    have hg : ¬ (nI v < 0 ∨ 2304 ≤ v) := fun c => by rcases c with c | c; exact nI_pos (by omega) c; omega
    have p1 : (putI M (20, q, 0) v (M.1 (20, k, 0) v)).1 (20, k, 0) = M.1 (20, k, 0) := putI_ne hk
    obtain ⟨M', b1, b2, b3, b4⟩ := ih (v + 1) f (putI M (20, q, 0) v (M.1 (20, k, 0) v)) (by omega) (by omega) (fun i hi => by rw [p1]; exact hb i hi)
    refine ⟨M', ?_, fun i h1 h2 => ?_, fun i h1 => ?_, (Off.rf.put (by simp)).tr b4⟩
    · rw [fX10_copy_L184, show (2304 : Int32) = nI 2304 from rfl, if_neg (fun c => by have := (nIle (by omega) (by omega)).mp c; omega), nI_clamp (by omega), if_neg hg, if_neg hg, hb v (by omega), show nI v + (1 : Int32) = nI (v + 1) from nI_add v 1]
      exact b1
    · by_cases e : i = v
      · subst e
        rw [b3 i (by omega), g_row, upd_s]
      · rw [b2 i (by omega) h2, p1]
    · rw [b3 i (by omega), g_row, upd_o (by omega)]
/-- a tooth's six numbers -/
def cpT (M : Mm) (k q v : Nat) : Mm := putI (putI (putI (putI (putI (putI M (19, q, 0) v (M.1 (19, k, 0) v)) (19, q, 1) v (M.1 (19, k, 1) v)) (19, q, 2) v (M.1 (19, k, 2) v)) (19, q, 3) v (M.1 (19, k, 3) v)) (19, q, 4) v (M.1 (19, k, 4) v)) (19, q, 5) v (M.1 (19, k, 5) v)
set_option maxHeartbeats 2000000 in
theorem cp_tooth {k q v n : Nat} {M : Mm} (hkq : k ≠ q) (hv : v < 12) {K : Int32 → Mm → Option Mm} : fX10_copy_L98 k q K (n + 1) (nI v) M = fX10_copy_L98 k q K n (nI (v + 1)) (cpT M k q v) := by
  have hg : ¬ (nI v < 0 ∨ 12 ≤ v) := fun c => by rcases c with c | c; exact nI_pos (by omega) c; omega
  have hp : ∀ (M2 : Mm) (a b j : Nat) (x : Int32), (putI M2 (19, q, a) v x).1 (19, k, b) j = M2.1 (19, k, b) j := fun M2 a b j x => congrFun (putI_ne (by simp [hkq])) j
  rw [fX10_copy_L98, show (12 : Int32) = nI 12 from rfl, if_neg (fun c => by have := (nIle (by decide) (by omega)).mp c; omega)]
  simp only [nI_clamp (show v < 2 ^ 31 by omega), if_neg hg, hp, show nI v + (1 : Int32) = nI (v + 1) from nI_add v 1]
  rfl
