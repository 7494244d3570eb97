/-! the law over pure functions, whole -/
theorem begins_ok {L : Nat} {xs : Nat → Int32} {M0 : Mm} (hL : L ≤ 260) (h1 : M0.1 (1, 0, 0) 1 = 0) (h14 : M0.1 (14, 0, 0) 2 = 0) : ∃ M' S T g P, fL_begins (ow0M (mN M0 (18, 0, 0)) 0) 0 L xs = some (1, M') ∧ STA M' S T g P := by
  have go := fun (a U A d : Nat) (ha : a < 61) (hU : U < 21) (hA : A < 91) (hd : d < 12) =>
    beg_tail (L := L) (xs := xs) (S := 4 + a) (T := 1 + d) (U := U) (A := A) (M := mN (putI (putI (putI (putI (ow0M (mN M0 (18, 0, 0)) 0) (18, 0, 0) 0 (nI (4 + a))) (18, 0, 0) 1 (nI U)) (18, 0, 0) 2 (nI A)) (18, 0, 0) 3 (nI (1 + d))) (24, 0, 0)) hL ⟨by omega, by omega⟩ ⟨by omega, by omega⟩ (by omega) (by omega)
      (by simp [mN, putI, ow0M, h1]) (by simp [mN, putI, ow0M, h14]) ⟨⟨by simp [mN, putI], by simp [mN, putI], by simp [mN, putI], by simp [mN, putI]⟩, fun j j1 j2 => by
        have c0 : j ≠ 0 := by omega
        have c1 : j ≠ 1 := by omega
        have c2 : j ≠ 2 := by omega
        have c3 : j ≠ 3 := by omega
        simp [mN, putI, ow0M, c0, c1, c2, c3], fun u hu => absurd hu (Nat.not_lt_zero u), fun u => by simp [mN, putI, ow0M], fun i => by simp [mN, putI, ow0M]⟩ (by simp [mN])
  have p2 := pick_ok (L := L) (xs := xs) (k := 0) (n := 2) hL (by decide) (by decide) (by decide)
  have pa := pick_ok (L := L) (xs := xs) (k := 0) (n := 61) hL (by decide) (by decide) (by decide)
  have la := pv_lt (L := L) (xs := xs) (k := 0) (n := 61) hL (by decide) (by decide) (by decide)
  have pb := pick_ok (L := L) (xs := xs) (k := 0) (n := 13) hL (by decide) (by decide) (by decide)
  have lb := pv_lt (L := L) (xs := xs) (k := 0) (n := 13) hL (by decide) (by decide) (by decide)
  have pU := pick_ok (L := L) (xs := xs) (k := 1) (n := 21) hL (by decide) (by decide) (by decide)
  have lU := pv_lt (L := L) (xs := xs) (k := 1) (n := 21) hL (by decide) (by decide) (by decide)
  have pA := pick_ok (L := L) (xs := xs) (k := 2) (n := 91) hL (by decide) (by decide) (by decide)
  have lA := pv_lt (L := L) (xs := xs) (k := 2) (n := 91) hL (by decide) (by decide) (by decide)
  have pd := pick_ok (L := L) (xs := xs) (k := 3) (n := 12) hL (by decide) (by decide) (by decide)
  have ld := pv_lt (L := L) (xs := xs) (k := 3) (n := 12) hL (by decide) (by decide) (by decide)
  generalize pv L xs 0 2 = v2 at *
  generalize pv L xs 0 61 = a at *
  generalize pv L xs 0 13 = b at *
  generalize pv L xs 1 21 = U at *
  generalize pv L xs 2 91 = A at *
  generalize pv L xs 3 12 = d at *
  have e4 : ∀ a, (4 : Int32) + nI a = nI (4 + a) := fun a => nI_add 4 a
  have e1 : (1 : Int32) + nI d = nI (1 + d) := nI_add 1 d
  by_cases c : nI v2 = 0
  · obtain ⟨M', k1, g, P, k2⟩ := go a U A d la lU lA ld
    refine ⟨M', _, _, g, P, ?_, k2⟩
    unfold fL_begins
    refine bd p2 (cy c (bd pa (bd pU (bd pA (bd pd ?_)))))
    (try dsimp only)
    rw [e4, e1]
    exact k1
  · obtain ⟨M', k1, g, P, k2⟩ := go b U A d (by omega) lU lA ld
    refine ⟨M', _, _, g, P, ?_, k2⟩
    unfold fL_begins
    refine bd p2 (cn c (bd pb (bd pU (bd pA (bd pd ?_)))))
    (try dsimp only)
    rw [e4, e1]
    exact k1
def bOK (S T e : Nat) (M : Mm) (p : Nat) (b : Nat → GF × PF) : Prop := ∀ j, j ≤ p → OX M j T (b j).1 (b j).2 ∧ GOOD S T e (b j)
def InvI (t p : Nat) (M : Mm) : Prop := ∃ S T b, BX M T 0 (b p).1 (b p).2 ∧ bOK S T (300 * t) M p b ∧ HS M T (min 8 p) p b
def InvJ (n c : Nat) (M : Mm) : Prop := ∃ S T b, BX M T 0 (b c).1 (b c).2 ∧ bOK S T 12000 M c b ∧ HS M T n c b
theorem good_le {S T e e2 : Nat} {q : GF × PF} (he : e ≤ e2) (h : GOOD S T e q) : GOOD S T e2 q := by
  obtain ⟨h1, h2, e', h3, h4⟩ := h
  exact ⟨h1, h2, e', Nat.le_trans h3 he, h4⟩
theorem bok_fr {S T e p : Nat} {M M' : Mm} {b : Nat → GF × PF} {F : Rf → Bool} (hF : Fr F M M') (hS : ∀ j, j ≤ p → ∀ x, x ∈ owR j → F x = false) (h : bOK S T e M p b) : bOK S T e M' p b := fun j hj => ⟨ox_fr (hS j hj) hF (h j hj).1, (h j hj).2⟩
theorem hs_b {M : Mm} {T n c : Nat} {b b' : Nat → GF × PF} (hn : n ≤ c) (he : ∀ j, j < c → b' j = b j) (h : HS M T n c b) : HS M T n c b' := by
  obtain ⟨h1, h2, hx, h3, h4, h5⟩ := h
  refine ⟨h1, h2, hx, h3, h4, fun d d1 d2 => ?_⟩
  rw [he (c - d) (by omega)]
  exact h5 d d1 d2
theorem min8 {M : Mm} {x : Nat} (hx : x < 1000) : fJ9_min_7cf53 M 8 (nI x) = nI (min 8 x) := by
  rw [fJ9_min_7cf53]
  by_cases c : x < 8
  · rw [if_pos (show nI x < (8 : Int32) from nI_lt (b := 8) c (by decide)), Nat.min_eq_right (by omega)]
  · rw [if_neg (show ¬ nI x < (8 : Int32) from nI_nlt (b := 8) (by omega) (by omega)), Nat.min_eq_left (by omega)]; rfl
theorem ixL (t : Nat) : (126 : Int32) + 5 * nI t = nI (126 + 5 * t) := by
  rw [show (5 : Int32) * nI t = nI (5 * t) from pk_mul 5 t]
  exact nI_add 126 _
section LWP
variable {L : Nat} {xs : Nat → Int32}
theorem bx_hsB {M M' : Mm} {T n c : Nat} {b : Nat → GF × PF} (hF : Fr sB M M') (h : HS M T n c b) : HS M' T n c b := hs_fr rfl (fun i _ _ => dB i) hF h
theorem bx_hsF {M M' : Mm} {T n c : Nat} {b : Nat → GF × PF} (hF : Fr sFo M M') (h : HS M T n c b) : HS M' T n c b := hs_fr rfl (fun i h1 _ => dFo (by omega)) hF h
theorem dOff {q i : Nat} (r : Rf) (hr : sBx i r = true) : r ∉ owR q := fun h => by
  obtain ⟨h1, h2, h3⟩ := owR_i h
  obtain ⟨a, b, c⟩ := r
  have h2' : 18 ≤ a := h2
  simp only [sBx, Bool.and_eq_true, Bool.or_eq_true, beq_iff_eq] at hr
  omega
def sOf (q : Nat) (r : Rf) : Bool := decide (r ∈ owR q)
theorem off_Of {q : Nat} {M M' : Mm} (h : Off (owR q) M M') : Fr (sOf q) M M' := fr_off (fun x hx => decide_eq_true hx) h
theorem law_step (hL : L ≤ 260) {t p : Nat} {M : Mm} (ht : t < 40) (hp : p ≤ t) (h : InvI t p M) : StepOK L xs InvI t p M := by
  obtain ⟨S, T, b, HB, HK, HH⟩ := h
  obtain ⟨HO, ⟨U, A, m, pos, HI⟩, hu, e', he1, he2⟩ := HK p (Nat.le_refl p)
  have hT := HI.hT
  -- isAs
  have i3 : (126 : Int32) + 5 * nI t + 3 = nI (126 + 5 * t + 3) := by rw [ixL]; exact nI_add _ 3
  have i4 : (126 : Int32) + 5 * nI t + 4 = nI (126 + 5 * t + 4) := by rw [ixL]; exact nI_add _ 4
  have p1 := pick_ok (L := L) (xs := xs) (k := 126 + 5 * t + 3) (n := 3) hL (by omega) (by decide) (by decide)
  have l1 := pv_lt (L := L) (xs := xs) (k := 126 + 5 * t + 3) (n := 3) hL (by omega) (by decide) (by decide)
  obtain ⟨M2, a1, a2⟩ := isAs_ok (k := p) HB HO HI hu l1
  have B2 := bx_fr (dB 0) a2 HB
  have O2 := ox_fr (dBo p) a2 HO
  have H2 := bx_hsB a2 HH
  have K2 := bok_fr a2 (fun j _ => dBo j) HK
  have r3 : M2.1 (18, p, 0) 3 = nI T := (O2.1 3 (by decide)).trans HI.2.2.2.1
  -- isForetold, every eighth time
  have fore : ∃ M3, (t % 8 = 7 → ∃ q2 q3 r3 : Int32, pickF L xs (126 + 5 * nI t + 4) (M2.1 (18, p, 0) 3) = some q2 ∧ pickF L xs (126 + 5 * nI t + 4) 301 = some q3 ∧ fL_isForetold M2 p q2 q3 = some (r3, M3) ∧ r3 ≠ 0) ∧ (t % 8 ≠ 7 → M3 = M2) ∧ Fr sFo M2 M3 := by
    by_cases c : t % 8 = 7
    · have pt := pick_ok (L := L) (xs := xs) (k := 126 + 5 * t + 4) (n := T) hL (by omega) (by omega) (by omega)
      have lt := pv_lt (L := L) (xs := xs) (k := 126 + 5 * t + 4) (n := T) hL (by omega) (by omega) (by omega)
      have pn := pick_ok (L := L) (xs := xs) (k := 126 + 5 * t + 4) (n := 301) hL (by omega) (by decide) (by decide)
      have ln := pv_lt (L := L) (xs := xs) (k := 126 + 5 * t + 4) (n := 301) hL (by omega) (by decide) (by decide)
      obtain ⟨M3, f1, f2⟩ := foretold_ok (k := p) (d := pv L xs (126 + 5 * t + 4) 301) (by omega) B2 O2 HI lt (by omega) he2 (by omega)
      exact ⟨M3, fun _ => ⟨_, _, 1, by rw [i4, r3]; exact pt, by rw [i4]; exact pn, f1, by decide⟩, fun h => absurd c h, f2⟩
    · exact ⟨M2, fun h => absurd h c, fun _ => rfl, fr_rf⟩
  obtain ⟨M3, f1, f2, f3⟩ := fore
  have B3 := bx_fr (dFo (by decide)) f3 B2
  have O3 := ox_fr (dFoo (show p < 50 by omega)) f3 O2
  have H3 := bx_hsF f3 H2
  have K3 := bok_fr f3 (fun j hj => dFoo (show j < 50 by omega)) K2
  -- the copy
  obtain ⟨M4, c1, c2, c3⟩ := copy_ok (q := p + 1) O3 hT.2 (by omega)
  have c4 := off_Of c3
  have B4 := bx_fr (S := sOf (p + 1)) (fun r hr => decide_eq_false (dOff r hr)) c4 B3
  have H4 : HS M4 T (min 8 p) p b := hs_fr (S := sOf (p + 1)) (decide_eq_false (fun h => by have := (owR_i h).2.1; exact absurd this (by show ¬ 18 ≤ 14; decide))) (fun i _ _ r hr => decide_eq_false (dOff r hr)) c4 H3
  have K4 := bok_fr c4 (fun j hj x hx => decide_eq_false (fun h => by
    have h1 := (owR_i hx).1
    have h2 := (owR_i h).1
    omega)) K3
  -- the act
  obtain ⟨r4, M5, g1, g2⟩ := acts_ok (a := 126 + 5 * t) (xs := xs) (e := 300 * t) (k := p + 1) hL (by omega) (by omega) B4 c2 HI H4 rfl rfl hu ⟨e', he1, he2⟩ (by omega)
  refine ⟨nI (pv L xs (126 + 5 * t + 3) 3), 1, M2, M3, M4, r4, M5, by rw [i3]; exact p1, a1, by decide, f1, f2, c1, by rw [ixL]; exact g1, ?_, fun hr => ?_, fun hr => ?_⟩
  · rcases g2 with ⟨h, _⟩ | ⟨h, _⟩
    · rw [h]; decide
    · rw [h]; decide
  · rcases g2 with ⟨h, k1⟩ | ⟨h, _⟩
    · refine ⟨S, T, b, bx_fr (dO5 0) k1 B4, fun j hj => ?_, hs_O5 k1 H4⟩
      exact ⟨o5_k (show j < 50 by omega) k1 (K4 j hj).1, good_le (by omega) (K4 j hj).2⟩
    · rw [h] at hr
      exact absurd hr (by decide)
  · rcases g2 with ⟨h, _⟩ | ⟨h, k1, g', P', k2, k3, k4, k5⟩
    · rw [h] at hr
      exact absurd (by decide) hr
    · have em : min 8 (min 8 p + 1) = min 8 (p + 1) := by omega
      rw [em] at k4
      refine ⟨?_, S, T, fun j => if j = p + 1 then (g', P') else b j, ?_, fun j hj => ?_, hs_b (by omega) (fun j hj => if_neg (by omega)) k4⟩
      · rw [min8 (by omega)]
        exact k4.1
      · (try dsimp only)
        rw [if_pos rfl]
        exact k3
      · (try dsimp only)
        by_cases c : j = p + 1
        · rw [if_pos c, c]
          exact ⟨k2, good_le (by omega) k5⟩
        · rw [if_neg c]
          obtain ⟨q1, q2⟩ := K4 j (by omega)
          refine ⟨ox_fr (fun x hx => ?_) k1 q1, good_le (by omega) q2⟩
          unfold sAc
          refine or_f (dCo j x hx) ?_
          have h1 := (owR_i hx).1
          unfold sOw
          have h2 : (x.2.1 == p + 1) = false := by
            cases e : (x.2.1 == p + 1) with
            | false => rfl
            | true => rw [beq_iff_eq] at e; omega
          have h3 : (x.2.1 == 50) = false := by
            cases e : (x.2.1 == 50) with
            | false => rfl
            | true => rw [beq_iff_eq] at e; omega
          rw [h2, h3]
          exact Bool.and_false _
theorem law_fin {p : Nat} {M : Mm} (hp : p ≤ 40) (h : InvI 40 p M) : ∃ (r6 : Int32) (M6 : Mm), fL_isAs M p (M.1 (18, p, 0) 4) = some (r6, M6) ∧ r6 ≠ 0 ∧ fJ9_min_7cf53 M6 8 (nI p) = nI (min 8 p) ∧ InvJ (min 8 p) p M6 := by
  obtain ⟨S, T, b, HB, HK, HH⟩ := h
  obtain ⟨HO, ⟨U, A, m, pos, HI⟩, hu, -⟩ := HK p (Nat.le_refl p)
  obtain ⟨M6, a1, a2⟩ := isAs_ok (k := p) HB HO HI hu HI.hm
  refine ⟨1, M6, ?_, by decide, min8 (by omega), S, T, b, bx_fr (dB 0) a2 HB, bok_fr a2 (fun j _ => dBo j) HK, bx_hsB a2 HH⟩
  rw [HO.1 4 (by decide), HI.2.2.2.2.1]
  exact a1
theorem law_und (hL : L ≤ 260) {n c : Nat} {M : Mm} (hn : 0 < n) (hnc : n ≤ c) (hc : c ≤ 40) (h : InvJ n c M) : UndoOK L xs InvJ n c M := by
  obtain ⟨S, T, b, HB, HK, HH⟩ := h
  obtain ⟨HO, ⟨U, A, m, pos, HI⟩, hu, -⟩ := HK (c - 1) (by omega)
  obtain ⟨M7, u1, u2, u3, u4⟩ := undo_ok HI.hT.2 hn HH
  have K7 : bOK S T 12000 M7 (c - 1) b := fun j hj => ⟨ox_fr (dCo j) u4 (HK j (by omega)).1, (HK j (by omega)).2⟩
  have p1 := pick_ok (L := L) (xs := xs) (k := c - 1) (n := 3) hL (by omega) (by decide) (by decide)
  have l1 := pv_lt (L := L) (xs := xs) (k := c - 1) (n := 3) hL (by omega) (by decide) (by decide)
  obtain ⟨M8, a1, a2⟩ := isAs_ok (k := c - 1) u2 (K7 (c - 1) (Nat.le_refl _)).1 HI hu l1
  exact ⟨M7, _, 1, M8, u1, p1, a1, by decide, S, T, b, bx_fr (dB 0) a2 u2, bok_fr a2 (fun j _ => dBo j) K7, bx_hsB a2 u3⟩
theorem law_pure (hL : L ≤ 260) : ∃ (M0 : Mm) (r1 : Int32) (M1 : Mm), LawPure L xs InvI InvJ M0 r1 M1 := by
  obtain ⟨M0, m1, m2, m3⟩ := first_ok
  obtain ⟨M1, S, T, g, P, b1, hb, ho, hi, hu, h8, h14, h142⟩ := begins_ok (xs := xs) hL m2 m3
  refine ⟨M0, 1, M1, m1, b1, by decide, ?_, fun t p M ht hp h => law_step hL ht hp h, fun p M hp h => law_fin hp h, fun n c M h0 hn hc h => law_und hL h0 hn hc h, fun c M h => ?_⟩
  · have f0 : Fr (fun r => r == (23, 0, 0)) M1 (mN M1 (23, 0, 0)) := fr_off (zs := [(23, 0, 0)]) (fun x hx => by rw [List.mem_singleton.mp hx]; rfl) (Off.rf.mN (by simp))
    have n14 : (mN M1 (23, 0, 0)).1 (14, 0, 0) = M1.1 (14, 0, 0) := (f0 (14, 0, 0) rfl).1
    refine ⟨S, T, fun _ => (g, P), bx_fr (fun r hr => bx_dis hr rfl) f0 hb, fun j hj => ?_, ⟨by rw [n14, h14]; rfl, by decide, 0, by decide, by rw [n14, h142]; rfl, fun d d1 d2 => absurd d2 (by omega)⟩⟩
    have e : j = 0 := by omega
    subst e
    refine ⟨ox_fr (fun x hx => ?_) f0 ho, hi, hu, 0, Nat.le_refl _, h8⟩
    simp only [owR, List.mem_cons, List.not_mem_nil, or_false] at hx
    rcases hx with rfl | rfl | rfl | rfl | rfl | rfl | rfl | rfl <;> rfl
  · obtain ⟨S, T, b, -, -, h1, -⟩ := h
    exact h1
end LWP
