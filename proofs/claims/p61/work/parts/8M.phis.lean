/-! the class's history: its latest boxes -/
def sCh (r : Rf) : Bool := r.1 == 9 || r.1 == 10 || r.1 == 11 || r.1 == 13 || r.1 == 14
theorem bx_Ch {i : Nat} {M M' : Mm} (h : Fr (sBx i) M M') : Fr sCh M M' := fr_mono (fun r hr => by
  simp only [sBx, Bool.and_eq_true, Bool.or_eq_true, beq_iff_eq] at hr
  simp only [sCh, Bool.or_eq_true, beq_iff_eq]
  exact Or.inl hr.1) h
theorem dCo (k : Nat) (r : Rf) (hr : r ∈ owR k) : sCh r = false := by
  simp only [owR, List.mem_cons, List.not_mem_nil, or_false] at hr
  rcases hr with rfl | rfl | rfl | rfl | rfl | rfl | rfl | rfl <;> rfl
def HS (M : Mm) (T n c : Nat) (b : Nat → GF × PF) : Prop := M.1 (14, 0, 0) 1 = nI n ∧ n ≤ 8 ∧ ∃ hx, hx < 8 ∧ M.1 (14, 0, 0) 2 = nI hx ∧ ∀ d, 1 ≤ d → d ≤ n → BX M T (2 + (hx + 8 - d) % 8) (b (c - d)).1 (b (c - d)).2
theorem hs_fr {M M' : Mm} {T n c : Nat} {b : Nat → GF × PF} {S : Rf → Bool} (h14 : S (14, 0, 0) = false) (hB : ∀ i, 2 ≤ i → i < 10 → ∀ r, sBx i r = true → S r = false) (hF : Fr S M M') (h : HS M T n c b) : HS M' T n c b := by
  obtain ⟨h1, h2, hx, h3, h4, h5⟩ := h
  refine ⟨by rw [(hF _ h14).1]; exact h1, h2, hx, h3, by rw [(hF _ h14).1]; exact h4, fun d d1 d2 => bx_fr (hB _ (by omega) (by omega)) hF (h5 d d1 d2)⟩
theorem hs_0 {M M' : Mm} {T n c : Nat} {b : Nat → GF × PF} (hF : Fr (sBx 0) M M') (h : HS M T n c b) : HS M' T n c b := hs_fr rfl (fun i h1 _ r hr => sBx_dis (by omega) r hr) hF h
section HIS
variable {M : Mm} {T n c : Nat} {g : GF} {P : PF} {b : Nat → GF × PF}
theorem bx_14 {N : Mm} {i j : Nat} {v : Int32} (h : BX N T i g P) : BX (putI N (14, 0, 0) j v) T i g P := bx_fr (S := fun r => r == (14, 0, 0)) (fun r hr => bx_dis hr rfl) (fr_putI (by simp)) h
theorem rem_ok (hT : T ≤ 12) (hb : BX M T 0 g P) (hH : HS M T n c b) (e1 : (b c).1 = g) (e2 : (b c).2 = P) :
    ∃ M', fX2_remember M 0 = some M' ∧ BX M' T 0 g P ∧ HS M' T (min 8 (n + 1)) (c + 1) b ∧ Fr sCh M M' := by
  obtain ⟨h1, h8, hx, hx8, h2, h3⟩ := hH
  obtain ⟨M1, a1, a2, a3⟩ := cl_copy (i := 2 + hx) (j := 0) (by omega) hT hb
  have c1 : M1.1 (14, 0, 0) 1 = nI n := by rw [(a3 (14, 0, 0) (sBx_0 rfl)).1]; exact h1
  have c2 : M1.1 (14, 0, 0) 2 = nI hx := by rw [(a3 (14, 0, 0) (sBx_0 rfl)).1]; exact h2
  have mn : ∀ N : Mm, fJ9_min_7cf53 N 8 (nI (n + 1)) = nI (min 8 (n + 1)) := fun N => by
    rw [fJ9_min_7cf53]
    by_cases c : n + 1 < 8
    · rw [if_pos (show nI (n + 1) < (8 : Int32) from nI_lt (b := 8) c (by decide)), Nat.min_eq_right (by omega)]
    · rw [if_neg (show ¬ nI (n + 1) < (8 : Int32) from nI_nlt (b := 8) (by omega) (by omega)), Nat.min_eq_left (by omega)]; rfl
  have b0 : BX M1 T 0 g P := bx_fr (sBx_dis (by omega)) a3 hb
  have slots : ∀ (N : Mm) (v : Int32) (hx' : Nat), N.1 (14, 0, 0) = upd (upd (M1.1 (14, 0, 0)) 2 (nI hx')) 1 (nI (min 8 (n + 1))) → hx' = (hx + 1) % 8 → (∀ i T' g' P', BX M1 T' i g' P' → BX N T' i g' P') → HS N T (min 8 (n + 1)) (c + 1) b := by
    intro N v hx' e14 ehx hN
    refine ⟨by rw [e14, upd_s], by omega, hx', by omega, by rw [e14, upd_o (by decide), upd_s], fun d d1 d2 => hN _ _ _ _ ?_⟩
    by_cases ed : d = 1
    · subst ed
      have : (hx' + 8 - 1) % 8 = hx := by omega
      rw [this, show c + 1 - 1 = c from rfl, e1, e2]
      exact a2
    · have := h3 (d - 1) (by omega) (by omega)
      rw [show (hx' + 8 - d) % 8 = (hx + 8 - (d - 1)) % 8 by omega, show c + 1 - d = c - (d - 1) by omega]
      exact bx_fr (sBx_dis (by omega)) a3 this
  have fC : Fr sCh M M1 := bx_Ch a3
  rw [fX2_remember, h2, if_neg (nI_pos (by omega)), if_neg (show ¬ (8 : Int32) ≤ nI hx from nI_ge (b := 8) hx8 (by decide)), if_neg (nI_in hx8 (by decide)), nI_clamp (by omega), a1, Option.bind_some, c1, c2, ← nI_succ, ← nI_succ, mn, mn]
  by_cases c7 : 7 ≤ hx
  · rw [if_pos (show (7 : Int32) ≤ nI hx from nI_le (a := 7) c7 (by omega))]
    refine ⟨_, rfl, bx_14 (bx_14 b0), slots _ 0 0 (by rw [g_row, g_row]; rfl) (by omega) (fun _ _ _ _ h => bx_14 (bx_14 h)), fr_pI (fr_pI fC rfl) rfl⟩
  · rw [if_neg (show ¬ (7 : Int32) ≤ nI hx from nI_ge (b := 7) (by omega) (by decide))]
    refine ⟨_, rfl, bx_14 (bx_14 b0), slots _ 0 (hx + 1) (by rw [g_row, g_row]) (by omega) (fun _ _ _ _ h => bx_14 (bx_14 h)), fr_pI (fr_pI fC rfl) rfl⟩
theorem undo_ok (hT : T ≤ 12) (hn : 0 < n) (hH : HS M T n c b) : ∃ M1, fX9_undo M = some (nI (n - 1), M1) ∧ BX M1 T 0 (b (c - 1)).1 (b (c - 1)).2 ∧ HS M1 T (n - 1) (c - 1) b ∧ Fr sCh M M1 := by
  obtain ⟨h1, h8, hx, hx8, h2, h3⟩ := hH
  have o2 := h3 1 (Nat.le_refl _) hn
  generalize (b (c - 1)).1 = g at *
  generalize (b (c - 1)).2 = P at *
  have e7 : (hx + 8 - 1) % 8 = (hx + 7) % 8 := by omega
  rw [e7] at o2
  have fin : ∀ (v : Int32) (M2 : Mm), v = nI ((hx + 7) % 8) → Fr (sBx 0) (putI M (14, 0, 0) 2 v) M2 → BX M2 T 0 g P → BX (putI M2 (14, 0, 0) 1 (M2.1 (14, 0, 0) 1 - 1)) T 0 g P ∧ HS (putI M2 (14, 0, 0) 1 (M2.1 (14, 0, 0) 1 - 1)) T (n - 1) (c - 1) b ∧ Fr sCh M (putI M2 (14, 0, 0) 1 (M2.1 (14, 0, 0) 1 - 1)) ∧ (putI M2 (14, 0, 0) 1 (M2.1 (14, 0, 0) 1 - 1)).1 (14, 0, 0) 1 = nI (n - 1) := by
    intro v M2 ev hF hB
    have r14 : M2.1 (14, 0, 0) = upd (M.1 (14, 0, 0)) 2 v := by rw [(hF (14, 0, 0) rfl).1, g_row]
    have k1 : M2.1 (14, 0, 0) 1 - 1 = nI (n - 1) := by rw [r14, upd_o (by decide), h1]; exact pk_sub (b := 1) hn
    refine ⟨bx_14 hB, ⟨by rw [g_row, upd_s, k1], by omega, (hx + 7) % 8, by omega, by rw [g_row, upd_o (by decide), r14, upd_s, ev], fun d d1 d2 => bx_14 (bx_fr (sBx_dis (by omega)) hF (bx_14 ?_))⟩, fr_pI (fr_tr (fr_putI rfl) (bx_Ch hF)) rfl, by rw [g_row, upd_s, k1]⟩
    have := h3 (d + 1) (by omega) (by omega)
    rw [show ((hx + 7) % 8 + 8 - d) % 8 = (hx + 8 - (d + 1)) % 8 by omega, show c - 1 - d = c - (d + 1) by omega]
    exact this
  have tk : ∃ M1, fX2_takeBack M 0 = some M1 ∧ BX M1 T 0 g P ∧ HS M1 T (n - 1) (c - 1) b ∧ Fr sCh M M1 ∧ M1.1 (14, 0, 0) 1 = nI (n - 1) := by
    rw [fX2_takeBack, h1, h2, if_pos (show (0 : Int32) < nI n from nI_lt (a := 0) (by omega) (by omega))]
    rcases Nat.eq_zero_or_pos hx with hx0 | hx0
    · subst hx0
      rw [if_pos (show nI 0 ≤ 0 by decide)]
      obtain ⟨M2, c1, c2, c3⟩ := cl_copy (i := 0) (j := 2 + 7) (by omega) hT (bx_14 (j := 2) (v := 7) o2)
      obtain ⟨d1, d2, d3, d4⟩ := fin 7 M2 rfl c3 c2
      exact ⟨_, by rw [if_neg (by decide), if_neg (by decide), show (7 : Int32).toNatClampNeg = 7 from rfl, c1, Option.bind_some], d1, d2, d3, d4⟩
    · rw [if_neg (nI_nle hx0 (by omega)), show nI hx - (1 : Int32) = nI (hx - 1) from pk_sub (b := 1) (by omega), if_neg (nI_pos (by omega)), if_neg (show ¬ (8 : Int32) ≤ nI (hx - 1) from nI_ge (b := 8) (by omega) (by decide)), if_neg (nI_in (N := 8) (by omega) (by decide)), nI_clamp (by omega)]
      have e7 : (hx + 7) % 8 = hx - 1 := by omega
      rw [e7] at o2
      obtain ⟨M2, c1, c2, c3⟩ := cl_copy (i := 0) (j := 2 + (hx - 1)) (by omega) hT (bx_14 (j := 2) (v := nI (hx - 1)) o2)
      obtain ⟨d1, d2, d3, d4⟩ := fin (nI (hx - 1)) M2 (by rw [e7]) c3 c2
      exact ⟨_, by rw [c1, Option.bind_some], d1, d2, d3, d4⟩
  obtain ⟨M1, k1, k2, k3, k4, k5⟩ := tk
  refine ⟨M1, ?_, k2, k3, k4⟩
  rw [fX9_undo, h1, if_neg (nI_ne0 hn (by omega))]
  exact bd rfs_0 (bd k1 (by rw [k5]))
end HIS
