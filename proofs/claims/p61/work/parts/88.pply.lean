/-! Own plays -/
theorem stS_8 {P : PF} {S T m p : Nat} {g : GF} : stS P S T m g p 8 = g 8 + 1 := by
  unfold stS
  split <;> rw [upd_s]
theorem step_0 {M : Mm} {k T : Nat} {g : GF} {P : PF} (h : OX M k T g P) (h1 : g 1 = 0) : fX10_step M k = some (0, M) := by
  unfold fX10_step
  rw [h.1 1 (by decide), h1, if_pos rfl]
theorem plays_L {k S T A m : Nat} {P : PF} {K : Int32 → Mm → Option (Int32 × Mm)} : ∀ (d v : Nat) (M : Mm) (g : GF) (p U n e : Nat), v + d < 2 ^ 31 → d < n → OX M k T g P → Iv g P S T U A m p → g 8 = nI e → e + d < 100000 →
    ∃ M', OX M' k T (playN P S T m d g p U).2.1 P ∧ Off (owR k) M M' ∧ fX10_plays_L2 k (nI (v + d)) K n (nI v) M = K (nI (v + (playN P S T m d g p U).1)) M' := by
  intro d
  induction d with
  | zero =>
    intro v M g p U n e hv hn h hI h8 he
    obtain ⟨n, rfl⟩ : ∃ q, n = q + 1 := ⟨n - 1, by omega⟩
    exact ⟨M, h, Off.rf, by rw [fX10_plays_L2, Nat.add_zero, if_pos (Int32.le_refl _)]; rfl⟩
  | succ d ih =>
    intro v M g p U n e hv hn h hI h8 he
    obtain ⟨n, rfl⟩ : ∃ q, n = q + 1 := ⟨n - 1, by omega⟩
    have hc : ¬ nI (v + (d + 1)) ≤ nI v := fun c => by have := (nIle (by omega) (by omega)).mp c; omega
    by_cases hU : U = 0
    · have h1 : g 1 = 0 := by rw [hI.2.1, hU]; rfl
      refine ⟨M, ?_, Off.rf, ?_⟩
      · rw [playN, if_pos hU]; exact h
      · rw [fX10_plays_L2, if_neg hc, step_0 h h1, playN, if_pos hU]
        rfl
    · have h0 : 0 ≤ g 8 := by rw [h8]; exact nI_0le (by omega)
      have hb : g 8 < 100000 := by rw [h8, show (100000 : Int32) = nI 100000 from rfl, nIlt (by omega) (by decide)]; omega
      obtain ⟨M1, a1, a2, a3⟩ := step_ok h hI (by omega) h0 hb
      obtain ⟨M', b1, b2, b3⟩ := ih (v + 1) M1 (stS P S T m g p) (nxP S p) (nxU S p U) n (e + 1) (by omega) (by omega) a2 (stS_iv hI (by omega)) (by rw [stS_8, h8]; exact nI_add e 1) (by omega)
      refine ⟨M', ?_, a3.tr b2, ?_⟩
      · rw [playN, if_neg hU]; exact b1
      · rw [fX10_plays_L2, if_neg hc, a1]
        show (if (1 : Int32) = 0 then K (nI v) M1 else fX10_plays_L2 k (nI (v + (d + 1))) K n (nI v + (1 : Int32)) M1) = _
        rw [if_neg (by decide), show nI v + (1 : Int32) = nI (v + 1) from nI_add v 1, show v + (d + 1) = v + 1 + d by omega, b3, playN, if_neg hU]
        show K (nI (v + 1 + _)) M' = K (nI (v + (_ + 1))) M'
        rw [show ∀ x : Nat, v + 1 + x = v + (x + 1) from fun x => by omega]
theorem plays_ok {M : Mm} {k S T U A m p d e : Nat} {g : GF} {P : PF} (h : OX M k T g P) (hI : Iv g P S T U A m p) (hd : d < 5000) (h8 : g 8 = nI e) (he : e + d < 100000) :
    ∃ M', fX10_plays M k (nI d) = some (nI (playN P S T m d g p U).1, M') ∧ OX M' k T (playN P S T m d g p U).2.1 P ∧ Off (owR k) M M' := by
  obtain ⟨M', b1, b2, b3⟩ := plays_L (K := fun w5 M6 => some (w5, M6)) d 0 M g p U NF e (by omega) hd h hI h8 he
  refine ⟨M', ?_, b1, b2⟩
  unfold fX10_plays
  rw [Nat.zero_add, Nat.zero_add] at b3
  exact b3
