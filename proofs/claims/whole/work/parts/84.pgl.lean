/-! the class and the reference stand alike -/
def GFr (S : Rf → Bool) (J : Nat → Bool) (M M' : Mm) : Prop := Fr S M M' ∧ ∀ j, J j = false → M'.1 R8 j = M.1 R8 j
theorem gf_rf {S : Rf → Bool} {J : Nat → Bool} {M : Mm} : GFr S J M M := ⟨fr_rf, fun _ _ => rfl⟩
theorem gf_tr {S : Rf → Bool} {J : Nat → Bool} {M N O : Mm} (h : GFr S J M N) (h2 : GFr S J N O) : GFr S J M O := ⟨fr_tr h.1 h2.1, fun j hj => (h2.2 j hj).trans (h.2 j hj)⟩
theorem gf_mono {S S' : Rf → Bool} {J J' : Nat → Bool} {M M' : Mm} (hS : ∀ r, S r = true → S' r = true) (hJ : ∀ j, J j = true → J' j = true) (h : GFr S J M M') : GFr S' J' M M' := ⟨fr_mono hS h.1, fun j hj => h.2 j (by
  cases e : J j with
  | false => rfl
  | true => rw [hJ j e] at hj; cases hj)⟩
theorem gf_fr {S : Rf → Bool} {J : Nat → Bool} {M M' : Mm} (h8 : S R8 = false) (h : Fr S M M') : GFr S J M M' := ⟨h, fun j _ => by rw [(h R8 h8).1]⟩
/-- a box kept in the class's box i and in the reference's row f -/
def OLD (M : Mm) (i : Nat) (f : GF) : Prop := ∃ g P S T U A m p, Iv g P S T U A m p ∧ BX M T i g P ∧ RX f g P
def GT (M : Mm) : Prop := ∃ tb n, TV tb n ∧ TC M tb n ∧ TR M tb n
def GE (M : Mm) : Prop := M.1 (3, 0, 0) 7 = M.1 R8 11 ∧ M.1 (3, 0, 0) 8 = M.1 R8 12
def GHx (M : Mm) (hc hx : Nat) : Prop := hc ≤ 8 ∧ hx < 8 ∧ M.1 (14, 0, 0) 1 = nI hc ∧ M.1 (14, 0, 0) 2 = nI hx ∧ M.1 R8 7 = nI hc ∧ ∀ k, k < hc → OLD M (2 + (hx + 8 - hc + k) % 8) (fun j => M.1 (19, 3, 0) (280 * k + j))
def GH (M : Mm) : Prop := ∃ hc hx, GHx M hc hx
def GSl (M : Mm) : Prop := ∀ c, c < 2 → (M.1 (17, 0, 0) c = 0 ∧ M.1 (20, 0, 0) c = 0) ∨ (M.1 (17, 0, 0) c = 1 ∧ M.1 (20, 0, 0) c = 1 ∧ OLD M (10 + c) (fun j => M.1 (19, 4, 0) (280 * c + j)))
def GO (M : Mm) : Prop := ∃ w, w ≤ 64 ∧ M.1 (1, 1, 0) 1 = nI w ∧ M.1 R8 27 = nI w ∧ ∀ k, k < w → M.1 (2, 1, 0) k = M.1 (19, 11, 0) k
def GL (M : Mm) : Prop := OLD M 0 (M.1 NW) ∧ GT M ∧ GE M ∧ GH M ∧ GSl M ∧ GO M ∧ M.1 R8 25 = 0
theorem old_fr {M M' : Mm} {S : Rf → Bool} {i : Nat} {f f' : GF} (hS : ∀ r, sBx i r = true → S r = false) (hF : Fr S M M') (hf : ∀ k, k < 280 → f k = f' k) (h : OLD M i f) : OLD M' i f' := by
  obtain ⟨g, P, S', T, U, A, m, p, h1, h2, h3⟩ := h
  exact ⟨g, P, S', T, U, A, m, p, h1, bx_fr hS hF h2, rx_c hf h3⟩
section GFR
variable {S : Rf → Bool} {J : Nat → Bool} {M M' : Mm}
theorem gt_fr (h1 : S (1, 0, 0) = false) (h2 : S (2, 0, 0) = false) (h3 : S (19, 6, 0) = false) (hj : J 10 = false) (hF : GFr S J M M') (h : GT M) : GT M' := by
  obtain ⟨tb, n, a1, a2, a3⟩ := h
  exact ⟨tb, n, a1, tc_fr h1 h2 hF.1 a2, by rw [hF.2 10 hj]; exact a3.1, fun k hk h8 => by rw [(hF.1 _ h3).1]; exact a3.2 k hk h8⟩
theorem ge_fr (h1 : S (3, 0, 0) = false) (h2 : J 11 = false) (h3 : J 12 = false) (hF : GFr S J M M') (h : GE M) : GE M' := by
  unfold GE
  rw [(hF.1 _ h1).1, hF.2 11 h2, hF.2 12 h3]
  exact h
theorem gh_fr (h1 : S (14, 0, 0) = false) (h2 : S (19, 3, 0) = false) (h3 : J 7 = false) (hB : ∀ i, 2 ≤ i → i < 10 → ∀ r, sBx i r = true → S r = false) (hF : GFr S J M M') (h : GH M) : GH M' := by
  obtain ⟨hc, hx, a1, a2, a3, a4, a5, a6⟩ := h
  refine ⟨hc, hx, a1, a2, by rw [(hF.1 _ h1).1]; exact a3, by rw [(hF.1 _ h1).1]; exact a4, by rw [hF.2 7 h3]; exact a5, fun k hk => ?_⟩
  exact old_fr (hB _ (by omega) (by omega)) hF.1 (fun j _ => by rw [(hF.1 _ h2).1]) (a6 k hk)
theorem gs_fr (h1 : S (17, 0, 0) = false) (h2 : S (20, 0, 0) = false) (h3 : S (19, 4, 0) = false) (hB : ∀ i, 10 ≤ i → i < 12 → ∀ r, sBx i r = true → S r = false) (hF : GFr S J M M') (h : GSl M) : GSl M' := by
  intro c hc
  rw [(hF.1 _ h1).1, (hF.1 _ h2).1]
  rcases h c hc with h | ⟨a1, a2, a3⟩
  · exact Or.inl h
  · exact Or.inr ⟨a1, a2, old_fr (hB _ (by omega) (by omega)) hF.1 (fun j _ => by rw [(hF.1 _ h3).1]) a3⟩
theorem go_fr (h1 : S (1, 1, 0) = false) (h2 : S (2, 1, 0) = false) (h3 : S (19, 11, 0) = false) (hj : J 27 = false) (hF : GFr S J M M') (h : GO M) : GO M' := by
  obtain ⟨w, a1, a2, a3, a4⟩ := h
  exact ⟨w, a1, by rw [(hF.1 _ h1).1]; exact a2, by rw [hF.2 27 hj]; exact a3, fun k hk => by rw [(hF.1 _ h2).1, (hF.1 _ h3).1]; exact a4 k hk⟩
end GFR
/-! the class remembers a box, the reference keeps it -/
theorem cl_rem {M : Mm} {T hc hx : Nat} {g : GF} {P : PF} (hT : T ≤ 12) (hb : BX M T 0 g P) (h8 : hc ≤ 8) (hx8 : hx < 8) (h1 : M.1 (14, 0, 0) 1 = nI hc) (h2 : M.1 (14, 0, 0) 2 = nI hx) :
    ∃ M', fX2_remember M 0 = some M' ∧ BX M' T 0 g P ∧ BX M' T (2 + hx) g P ∧ Fr (fun r => r == (14, 0, 0) || sBx (2 + hx) r) M M' ∧ M'.1 (14, 0, 0) 1 = nI (min 8 (hc + 1)) ∧ M'.1 (14, 0, 0) 2 = nI ((hx + 1) % 8) := by
  obtain ⟨M1, a1, a2, a3⟩ := cl_copy (i := 2 + hx) (j := 0) (by omega) hT hb
  have e1 : M1.1 (14, 0, 0) 1 = nI hc := by rw [(a3 (14, 0, 0) (sBx_0 rfl)).1]; exact h1
  have e2 : M1.1 (14, 0, 0) 2 = nI hx := by rw [(a3 (14, 0, 0) (sBx_0 rfl)).1]; exact h2
  have mn : ∀ N : Mm, fJ9_min_7cf53 N 8 (nI (hc + 1)) = nI (min 8 (hc + 1)) := fun N => by
    rw [fJ9_min_7cf53]
    by_cases c : hc + 1 < 8
    · rw [if_pos (show nI (hc + 1) < (8 : Int32) from nI_lt (b := 8) c (by decide)), Nat.min_eq_right (by omega)]
    · rw [if_neg (show ¬ nI (hc + 1) < (8 : Int32) from nI_nlt (b := 8) (by omega) (by omega)), Nat.min_eq_left (by omega)]; rfl
  have hF1 : Fr (fun r => r == (14, 0, 0) || sBx (2 + hx) r) M M1 := fr_mono (fun r hr => by rw [hr, Bool.or_true]) a3
  have b0 : BX M1 T 0 g P := bx_fr (sBx_dis (by omega)) a3 hb
  have bp : ∀ {N : Mm} {j i : Nat} {v : Int32}, BX N T i g P → BX (putI N (14, 0, 0) j v) T i g P := fun {N j i v} hN => bx_fr (S := fun r => r == (14, 0, 0)) (fun r hr => by
    cases er : (r == ((14, 0, 0) : Rf)) with
    | false => rfl
    | true =>
      have : r = (14, 0, 0) := by simpa using er
      subst this
      cases hr) (fr_putI (by simp)) hN
  rw [fX2_remember, h2, if_neg (nI_pos (by omega)), if_neg (show ¬ (8 : Int32) ≤ nI hx from nI_ge (b := 8) hx8 (by decide)), if_neg (nI_in hx8 (by decide)), nI_clamp (by omega), a1, Option.bind_some, e1, e2, ← nI_succ, ← nI_succ, mn, mn]
  by_cases c : 7 ≤ hx
  · rw [if_pos (show (7 : Int32) ≤ nI hx from nI_le (a := 7) c (by omega))]
    refine ⟨_, rfl, bp (bp b0), bp (bp a2), fr_pI (fr_pI hF1 (by simp)) (by simp), by rw [g_row, upd_s], ?_⟩
    rw [g_row, upd_o (by decide), g_row, upd_s, show (hx + 1) % 8 = 0 by omega]; rfl
  · rw [if_neg (show ¬ (7 : Int32) ≤ nI hx from nI_ge (b := 7) (by omega) (by decide))]
    refine ⟨_, rfl, bp (bp b0), bp (bp a2), fr_pI (fr_pI hF1 (by simp)) (by simp), by rw [g_row, upd_s], ?_⟩
    rw [g_row, upd_o (by decide), g_row, upd_s, show (hx + 1) % 8 = hx + 1 by omega]
/-- what the reference's keeping does -/
def KP (hc : Nat) (M N : Mm) : Prop := N.1 R8 7 = nI (min 8 (hc + 1)) ∧ GFr (fun r => r == R8 || r == (19, 3, 0)) (fun j => j == 7) M N ∧
  (∀ k, k < 280 → N.1 (19, 3, 0) (280 * (min 8 (hc + 1) - 1) + k) = M.1 NW k) ∧ (hc < 8 → ∀ k, k < 280 * hc → N.1 (19, 3, 0) k = M.1 (19, 3, 0) k) ∧ (hc = 8 → ∀ k, k < 1960 → N.1 (19, 3, 0) k = M.1 (19, 3, 0) (k + 280))
theorem rf_keeps {M : Mm} {hc : Nat} (h8 : hc ≤ 8) (h7 : M.1 R8 7 = nI hc) : ∃ N, fX10_keeps M = some N ∧ KP hc M N := by
  rw [fX10_keeps, h7]
  by_cases c : hc = 8
  · subst c
    rw [if_pos (show nI 8 = (8 : Int32) from rfl)]
    obtain ⟨N1, ⟨a1, a2⟩, a3, a4⟩ := lp_down (M0 := M) (K := fun w10 M11 => fX10_keeps_L52 (fun w12 M13 => some (putI M13 (18, 0, 0) 7 ((M13.1 (18, 0, 0) 7) + (1 : Int32)))) NF (0 : Int32) (putI M11 (18, 0, 0) 7 ((M11.1 (18, 0, 0) 7) - (1 : Int32)))) 1960 0 M NF rfl (by unfold NF; omega) ⟨fun k hk => by omega, fun _ _ => rfl⟩ fr_rf
    have e7 : N1.1 R8 7 = nI 8 := by rw [(a3 R8 rfl).1]; exact h7
    have e7' : (putI N1 (18, 0, 0) 7 ((N1.1 (18, 0, 0) 7) - (1 : Int32))).1 R8 7 = nI 7 := by rw [g_row, upd_s, e7]; rfl
    obtain ⟨N2, ⟨b1, b2⟩, b3, b4⟩ := lp_keep (M0 := putI N1 (18, 0, 0) 7 ((N1.1 (18, 0, 0) 7) - (1 : Int32))) (K := fun w12 M13 => some (putI M13 (18, 0, 0) 7 ((M13.1 (18, 0, 0) 7) + (1 : Int32)))) (u := 7) e7' (by decide) 280 0 _ NF rfl (by unfold NF; omega) ⟨fun k hk => by omega, fun _ _ => rfl⟩ fr_rf
    refine ⟨putI N2 (18, 0, 0) 7 ((N2.1 (18, 0, 0) 7) + (1 : Int32)), a4.trans b4, ?_, ⟨fr_pI (fr_tr (fr_pI (fr_mono (fun r hr => by rw [hr, Bool.or_true]) a3) rfl) (fr_mono (fun r hr => by rw [hr, Bool.or_true]) b3)) rfl, fun j hj => ?_⟩, fun k hk => ?_, fun c => by omega, fun _ k hk => ?_⟩
    · rw [g_row, upd_s, (b3 R8 rfl).1, e7']; rfl
    · have j7 : j ≠ 7 := by intro c; rw [c] at hj; cases hj
      rw [g_row, upd_o j7, (b3 R8 rfl).1, g_row, upd_o j7, (a3 R8 rfl).1]
    · rw [putI_ne (by decide), show 280 * (min 8 (8 + 1) - 1) + k = 280 * 7 + k by omega, b1 k hk, putI_ne (by decide), (a3 NW rfl).1]
    · rw [putI_ne (by decide), b2 k (by omega), putI_ne (by decide), a1 k hk]
  · rw [if_neg (by_ne (c := 8) (L := 8) (by omega) (by decide) rfl c)]
    obtain ⟨N2, ⟨b1, b2⟩, b3, b4⟩ := lp_keep (M0 := M) (K := fun w5 M6 => some (putI M6 (18, 0, 0) 7 ((M6.1 (18, 0, 0) 7) + (1 : Int32)))) (u := hc) h7 (by omega) 280 0 M NF rfl (by unfold NF; omega) ⟨fun k hk => by omega, fun _ _ => rfl⟩ fr_rf
    refine ⟨putI N2 (18, 0, 0) 7 ((N2.1 (18, 0, 0) 7) + (1 : Int32)), b4, ?_, ⟨fr_pI (fr_mono (fun r hr => by rw [hr, Bool.or_true]) b3) rfl, fun j hj => ?_⟩, fun k hk => ?_, fun _ k hk => ?_, fun c2 => absurd c2 c⟩
    · rw [g_row, upd_s, (b3 R8 rfl).1, h7, Nat.min_eq_right (by omega), nI_succ]
    · have j7 : j ≠ 7 := by intro c; rw [c] at hj; cases hj
      rw [g_row, upd_o j7, (b3 R8 rfl).1]
    · rw [putI_ne (by decide), Nat.min_eq_right (by omega), Nat.add_sub_cancel, b1 k hk]
    · rw [putI_ne (by decide), b2 k hk]
/-- the history behind a change -/
theorem gh_new {M M1 M2 N : Mm} {hc hx T S U A m p : Nat} {g : GF} {P : PF} {S1 S2 : Rf → Bool} (h : GHx M hc hx) (hI : Iv g P S T U A m p) (hX : RX (M.1 NW) g P)
    (b1 : BX M1 T (2 + hx) g P) (f1 : Fr (fun r => r == (14, 0, 0) || sBx (2 + hx) r) M M1) (c1 : M1.1 (14, 0, 0) 1 = nI (min 8 (hc + 1))) (c2 : M1.1 (14, 0, 0) 2 = nI ((hx + 1) % 8))
    (f2 : Fr S1 M1 M2) (hS1 : S1 (14, 0, 0) = false ∧ S1 (19, 3, 0) = false ∧ S1 NW = false ∧ ∀ i, 2 ≤ i → i < 10 → ∀ r, sBx i r = true → S1 r = false) {N1 : Mm} (kp : KP hc M2 N1)
    (f3 : Fr S2 N1 N) (h7 : N.1 R8 7 = N1.1 R8 7) (hS2 : S2 (14, 0, 0) = false ∧ S2 (19, 3, 0) = false ∧ ∀ i, 2 ≤ i → i < 10 → ∀ r, sBx i r = true → S2 r = false) : GHx N (min 8 (hc + 1)) ((hx + 1) % 8) := by
  obtain ⟨a1, a2, a3, a4, a5, a6⟩ := h
  obtain ⟨k1, k2, k3, k4, k5⟩ := kp
  obtain ⟨s1, s3, s4, s5⟩ := hS1
  obtain ⟨t1, t3, t4⟩ := hS2
  have kb : ∀ i, ∀ r, sBx i r = true → (fun r : Rf => r == R8 || r == (19, 3, 0)) r = false := fun i r hr => by
    obtain ⟨x, y, z⟩ := r
    cases e : ((x, y, z) == R8 || (x, y, z) == ((19, 3, 0) : Rf)) with
    | false => exact e
    | true =>
      simp only [Bool.or_eq_true, beq_iff_eq] at e
      rcases e with e | e <;> (rw [e] at hr; cases hr)
  refine ⟨by omega, by omega, ?_, ?_, ?_, fun k hk => ?_⟩
  · rw [(f3 _ t1).1, (k2.1 (14, 0, 0) rfl).1, (f2 _ s1).1]; exact c1
  · rw [(f3 _ t1).1, (k2.1 (14, 0, 0) rfl).1, (f2 _ s1).1]; exact c2
  · rw [h7]; exact k1
  · by_cases kl : k = min 8 (hc + 1) - 1
    · -- the box of this change
      have ei : (((hx + 1) % 8) + 8 - min 8 (hc + 1) + k) % 8 = hx := by omega
      rw [ei]
      refine ⟨g, P, S, T, U, A, m, p, hI, bx_fr (t4 _ (by omega) (by omega)) f3 (bx_fr (kb _) k2.1 (bx_fr (s5 _ (by omega) (by omega)) f2 b1)), rx_c (fun j hj => ?_) hX⟩
      rw [(f3 _ t3).1, kl, k3 j hj, (f2 _ s4).1, (f1 NW rfl).1]
    · -- an older one
      have fr1 : ∀ i, 2 ≤ i → i < 10 → i ≠ 2 + hx → ∀ {T' : Nat} {g' : GF} {P' : PF}, BX M T' i g' P' → BX N T' i g' P' := fun i i1 i2 i3 {T' g' P'} hb =>
        bx_fr (t4 _ i1 i2) f3 (bx_fr (kb _) k2.1 (bx_fr (s5 _ i1 i2) f2 (bx_fr (fun r hr => by
          have h1 := sBx_dis i3 r hr
          cases e : (r == ((14, 0, 0) : Rf)) with
          | false => rw [h1]; rfl
          | true =>
            have : r = (14, 0, 0) := by simpa using e
            rw [this] at hr; cases hr) f1 hb)))
      by_cases h8 : hc < 8
      · obtain ⟨g', P', S', T', U', A', m', p', o1, o2, o3⟩ := a6 k (by omega)
        have ei : (((hx + 1) % 8) + 8 - min 8 (hc + 1) + k) % 8 = (hx + 8 - hc + k) % 8 := by omega
        rw [ei]
        refine ⟨g', P', S', T', U', A', m', p', o1, fr1 _ (by omega) (by omega) (by omega) o2, rx_c (fun j hj => ?_) o3⟩
        rw [(f3 _ t3).1, k4 h8 _ (by omega), (f2 _ s3).1, (f1 _ rfl).1]
      · have h8e : hc = 8 := by omega
        obtain ⟨g', P', S', T', U', A', m', p', o1, o2, o3⟩ := a6 (k + 1) (by omega)
        have ei : (((hx + 1) % 8) + 8 - min 8 (hc + 1) + k) % 8 = (hx + 8 - hc + (k + 1)) % 8 := by omega
        rw [ei]
        refine ⟨g', P', S', T', U', A', m', p', o1, fr1 _ (by omega) (by omega) (by omega) o2, rx_c (fun j hj => ?_) o3⟩
        rw [(f3 _ t3).1, k5 h8e _ (by omega), (f2 _ s3).1, (f1 _ rfl).1, show 280 * k + j + 280 = 280 * (k + 1) + j by omega]
