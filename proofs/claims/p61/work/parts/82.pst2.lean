/-! a builder's text as a String; its signs; appended again -/
theorem mN_1 {M : Mm} {r x : Rf} (h : x ≠ r) : (mN M r).1 x = M.1 x := funext fun _ => if_neg h
theorem mvR_1 {M : Mm} {a b x : Rf} (h : x ≠ b) : (mvR M a b).1 x = M.1 x := funext fun _ => if_neg h
theorem toS_ok {M : Mm} {z y B cap : Nat} {bs : List Int32} (h : TX M z bs cap) (hB : cap ≤ B) (hL : B < LG) :
    ∃ M', fJ4_toString M z y B = some M' ∧ SX M' y bs ∧ Off [(28, y, 0), (29, y, 0)] M M' := by
  have hLG := LGv
  obtain ⟨t1, t2, t3, t4, t5, t6, t7⟩ := id h
  have l31 : bs.length < 2 ^ 31 := by omega
  have c31 : cap < 2 ^ 31 := by omega
  have o1 : ∀ r : Rf, r ≠ (28, y, 0) → (putI (mN M (28, y, 0)) (28, y, 0) 1 0).1 r = M.1 r ∧ (putI (mN M (28, y, 0)) (28, y, 0) 1 0).2 r = M.2 r := fun r hr => ⟨(putI_ne hr).trans (funext fun j => if_neg hr), funext fun j => if_neg hr⟩
  have n24 : (mN M (28, y, 0)).1 (24, z, 0) = M.1 (24, z, 0) := mN_1 (by simp)
  have hlat : fJ5_isLatin1_aae02 (mN M (28, y, 0)) z = some 1 := by
    unfold fJ5_isLatin1_aae02
    rw [n24, if_pos t1]
  have p25 : (putI (mN M (28, y, 0)) (28, y, 0) 1 0).1 (25, z, 0) = M.1 (25, z, 0) := (o1 _ (by simp)).1
  have p28 : (putI (mN M (28, y, 0)) (28, y, 0) 1 0).1 (28, y, 0) 1 = 0 := gp1
  have e0 : fJ4_toString M z y B = fJ7_copyOfRange_39247 (putI (mN M (28, y, 0)) (28, y, 0) 1 0) z (nI bs.length) B y := by
    unfold fJ4_toString fJ0_init fJ4_length_8abf5 fJ5_length_8abf5
    rw [n24, t2, hlat]
    rfl
  rw [e0]
  unfold fJ7_copyOfRange_39247
  rw [p25, t3, if_pos (nI_0le c31)]
  by_cases he : nI bs.length = nI cap
  · have hlen : bs.length = cap := nIinj l31 c31 he
    rw [if_pos he, nI_clamp c31, if_pos ⟨t7, hB⟩]
    have q29 : (mvR (putI (mN M (28, y, 0)) (28, y, 0) 1 0) (25, z, 0) (29, y, 0)).1 (29, y, 0) = M.1 (25, z, 0) := (funext fun j => if_pos rfl : (mvR (putI (mN M (28, y, 0)) (28, y, 0) 1 0) (25, z, 0) (29, y, 0)).1 (29, y, 0) = (putI (mN M (28, y, 0)) (28, y, 0) 1 0).1 (25, z, 0)).trans p25
    have q28 : (mvR (putI (mN M (28, y, 0)) (28, y, 0) 1 0) (25, z, 0) (29, y, 0)).1 (28, y, 0) = (putI (mN M (28, y, 0)) (28, y, 0) 1 0).1 (28, y, 0) := mvR_1 (by simp)
    refine ⟨_, rfl, ⟨?_, ?_, by omega, fun i hi => ?_, ?_⟩, fun r hr => ?_⟩
    · rw [q28]; exact p28
    · rw [q29, t3, hlen]
    · rw [q29]; exact t6 i hi
    · rw [q29, hlen]; exact t7
    · simp only [List.mem_cons, List.not_mem_nil, or_false, not_or] at hr
      have h1 := o1 r hr.1
      exact ⟨(funext fun j => if_neg hr.2 : (mvR (putI (mN M (28, y, 0)) (28, y, 0) 1 0) (25, z, 0) (29, y, 0)).1 r = _).trans h1.1, (funext fun j => if_neg hr.2 : (mvR (putI (mN M (28, y, 0)) (28, y, 0) 1 0) (25, z, 0) (29, y, 0)).2 r = _).trans h1.2⟩
  · have hlt : bs.length < cap := by
      rcases Nat.lt_or_ge bs.length cap with h1 | h1
      · exact h1
      · exact absurd (by rw [show bs.length = cap by omega]) he
    rw [if_neg he]
    unfold fJ7_copyOfRangeByte_39247 fJ7_checkLength_df160
    rw [if_pos (nI_0le l31)]
    have hs0 : nI bs.length - (0 : Int32) = nI bs.length := Int32.sub_zero _
    have m25 : (nB (putI (mN M (28, y, 0)) (28, y, 0) 1 0) (29, y, 0) (nI bs.length)).1 (25, z, 0) = M.1 (25, z, 0) := ((nB_o (25, z, 0) (by simp)).1).trans p25
    have hmin : ∀ M2 : Mm, fJ9_min_7cf53 M2 (nI cap) (nI bs.length) = nI bs.length := fun M2 => by
      unfold fJ9_min_7cf53
      rw [if_pos ((nIlt l31 c31).mpr hlt)]
    have hab : abOk (nB (putI (mN M (28, y, 0)) (28, y, 0) 1 0) (29, y, 0) (nI bs.length)) (25, z, 0) (29, y, 0) 0 (nI bs.length) = true := by
      unfold abOk
      rw [m25, t3, nB_L, nI_clamp c31, nI_clamp l31]
      simp only [Bool.and_eq_true, decide_eq_true_eq]
      exact ⟨⟨⟨⟨⟨by decide, nI_pos l31⟩, by omega⟩, by show 0 + bs.length ≤ bs.length; omega⟩, by omega⟩, fitB_of fun i hi => fitB_s t7 i (by omega)⟩
    show ∃ M', ((if ¬ (nI bs.length - (0 : Int32)) < 0 ∧ (nI bs.length - (0 : Int32)).toNatClampNeg ≤ B then _ else none).bind fun q5 => some q5) = some M' ∧ _
    rw [hs0, m25, t3, show nI cap - (0 : Int32) = nI cap from Int32.sub_zero _, hmin, if_pos ⟨nI_pos l31, by rw [nI_clamp l31]; omega⟩, if_pos (nI_0le c31), if_pos hab, nI_clamp l31]
    have c28 := cpB_o (M := nB (putI (mN M (28, y, 0)) (28, y, 0) 1 0) (29, y, 0) (nI bs.length)) (f := M.1 (25, z, 0)) (r := (29, y, 0)) (x := (28, y, 0)) (dp := 0) (n := bs.length) (by simp)
    have b28 := nB_o (M := putI (mN M (28, y, 0)) (28, y, 0) 1 0) (r := (29, y, 0)) (n := nI bs.length) (28, y, 0) (by simp)
    refine ⟨_, rfl, ⟨?_, ?_, by omega, fun i hi => ?_, ?_⟩, fun r hr => ?_⟩
    · rw [c28.1, b28.1]; exact p28
    · rw [cpB_L, nB_L]
    · rw [cpB_at (by omega), if_pos ⟨Nat.zero_le _, by omega⟩, Nat.sub_zero]; exact t6 i hi
    · refine fitB_of fun i hi => ?_
      rw [cpB_at (by omega), if_pos ⟨Nat.zero_le _, by omega⟩, Nat.sub_zero]
      exact fitB_s t7 i (by omega)
    · simp only [List.mem_cons, List.not_mem_nil, or_false, not_or] at hr
      have h1 := o1 r hr.1
      have h2 := nB_o (M := putI (mN M (28, y, 0)) (28, y, 0) 1 0) (r := (29, y, 0)) (n := nI bs.length) r hr.2
      have h3 := cpB_o (M := nB (putI (mN M (28, y, 0)) (28, y, 0) 1 0) (29, y, 0) (nI bs.length)) (f := M.1 (25, z, 0)) (r := (29, y, 0)) (x := r) (dp := 0) (n := bs.length) hr.2
      exact ⟨(h3.1.trans h2.1).trans h1.1, (h3.2.trans h2.2).trans h1.2⟩
theorem b7_c {c : Int32} (h : b7 c) : ((c &&& (255 : Int32)).toUInt32 % 65536).toInt32 = c ∧ narrow .char (.int c) = .int c := by
  obtain ⟨k, hk, rfl⟩ := b7_n h
  exact (by decide +kernel : ∀ k, k < 128 → ((nI k &&& (255 : Int32)).toUInt32 % 65536).toInt32 = nI k ∧ narrow .char (.int (nI k)) = .int (nI k)) k hk
theorem scM_ok {M : Mm} {y i : Nat} {bs : List Int32} (h : SX M y bs) (hi : i < bs.length) (hb : b7 (bs.getD i 0)) : fJ0_charAt_5068eM M y (nI i) = some (bs.getD i 0) := by
  have hLG := LGv
  obtain ⟨h1, h2, h3, h4, h5⟩ := h
  have l31 : bs.length < 2 ^ 31 := by omega
  have i31 : i < 2 ^ 31 := by omega
  obtain ⟨c1, c2⟩ := b7_c hb
  have hc : fJ1_charAt_3b067M M y (nI i) = some (bs.getD i 0) := by
    unfold fJ1_charAt_3b067M
    rw [h2, if_pos (nI_0le l31), if_pos ⟨nI_pos i31, (nIlt i31 l31).mpr hi⟩, nI_clamp l31, nI_clamp i31, if_neg (fun c => by rcases c with c | c; exact nI_pos i31 c; omega), h4 i hi, c1, if_pos c2]
  unfold fJ0_charAt_5068eM fJ0_isLatin1_aae02M
  rw [if_pos h1]
  show ((fJ1_charAt_3b067M M y (nI i)).bind _) = _
  rw [hc]
  show (if narrow .char (.int (bs.getD i 0)) = .int (bs.getD i 0) then some (bs.getD i 0) else none) = _
  rw [if_pos c2]
theorem apM_ok {M : Mm} {z y B cap : Nat} {bs cs : List Int32} (h : TX M z bs cap) (hs : SX M y cs) (hn : bs.length + cs.length ≤ B) (h2 : 2 * cap + 2 ≤ B) (hL : B < LG) :
    ∃ M' cap', fJ5_append_cf1ceM M z y B = some M' ∧ TX M' z (bs ++ cs) cap' ∧ cap ≤ cap' ∧ cap' ≤ max cap (max (bs.length + cs.length) (2 * cap + 2)) ∧ Off (ZB z) M M' := by
  have hLG := LGv
  obtain ⟨t1, t2, t3, t4, t5, t6, t7⟩ := id h
  have l31 : bs.length < 2 ^ 31 := by omega
  obtain ⟨M1, cap1, g1, g2, g3, g4, g5, g6, g7⟩ := ensure_ok h hn h2 hL
  obtain ⟨s1, s2, s3, s4, s5, s6, s7⟩ := id g2
  have c31 : cap1 < 2 ^ 31 := by omega
  have m28 : M1.1 (28, y, 0) = M.1 (28, y, 0) := (g6 (28, y, 0) (by simp [ZB])).1
  have m29 : M1.1 (29, y, 0) = M.1 (29, y, 0) := (g6 (29, y, 0) (by simp [ZB])).1
  obtain ⟨h1, h2', h3, h4, h5⟩ := id hs
  have k31 : cs.length < 2 ^ 31 := by omega
  have hab : abOk M1 (29, y, 0) (25, z, 0) (nI bs.length) (nI cs.length) = true := by
    unfold abOk
    rw [s3, m29, h2', nI_clamp c31, nI_clamp l31, nI_clamp k31]
    simp only [Bool.and_eq_true, decide_eq_true_eq]
    exact ⟨⟨⟨⟨⟨nI_pos l31, nI_pos k31⟩, Nat.le_refl _⟩, g3⟩, by omega⟩, h5⟩
  have hl := lay_ok (cs := cs) (f := M1.1 (29, y, 0)) g2 g3 (fun i hi => by rw [m29]; exact h4 i hi) (by rw [m29]; exact h5)
  refine ⟨_, cap1, ?_, hl, g4, g5, ?_⟩
  · unfold fJ5_append_cf1ceM
    rw [slM_ok hs]
    show ((fJ5_ensureCapacityInternal_d00df M z (M.1 (24, z, 0) 3 + nI cs.length) B).bind _) = _
    rw [t2, show nI bs.length + nI cs.length = nI (bs.length + cs.length) from nI_add _ _, g1]
    show ((fJ5_putStringAt_47b60M M1 z (M1.1 (24, z, 0) 3) y).bind _) = _
    have hp : fJ5_putStringAt_47b60M M1 z (M1.1 (24, z, 0) 3) y = some (cpB M1 (M1.1 (29, y, 0)) (25, z, 0) bs.length cs.length) := by
      unfold fJ5_putStringAt_47b60M fJ5_inflateIfNeededFor_a7421M fJ0_getBytes_840e7M fJ0_coder_7d493M
      rw [s2, if_pos s1, m28, if_pos h1]
      show (if M1.1 (24, z, 0) 1 = (0 : Int32) then ((if (0 : Int32) = (0 : Int32) then (if (0 : Int32) ≤ M1.1 (29, y, 0) LG then (if abOk M1 (29, y, 0) (25, z, 0) (nI bs.length <<< ((0 : Int32) &&& 31)) (M1.1 (29, y, 0) LG) = true then some (cpB M1 (M1.1 (29, y, 0)) (25, z, 0) (nI bs.length <<< ((0 : Int32) &&& 31)).toNatClampNeg (M1.1 (29, y, 0) LG).toNatClampNeg) else none) else none) else if (0 : Int32) ≤ M1.1 (29, y, 0) LG then none else none).bind fun q4 => some q4) else none) = _
      rw [if_pos s1, if_pos rfl, m29, h2', if_pos (nI_0le k31), shl0, if_pos hab, nI_clamp l31, nI_clamp k31]
      rfl
    rw [hp]
    show some (putI (cpB M1 (M1.1 (29, y, 0)) (25, z, 0) bs.length cs.length) (24, z, 0) 3 ((cpB M1 (M1.1 (29, y, 0)) (25, z, 0) bs.length cs.length).1 (24, z, 0) 3 + nI cs.length)) = _
    rw [(cpB_o (M := M1) (f := M1.1 (29, y, 0)) (r := (25, z, 0)) (x := (24, z, 0)) (dp := bs.length) (n := cs.length) (by simp)).1, s2, show nI bs.length + nI cs.length = nI (bs.length + cs.length) from nI_add _ _]
  · refine Off.put (fun r hr => ?_) (by simp [ZB])
    have h6 := g6 r hr
    simp only [ZB, List.mem_cons, List.not_mem_nil, or_false, not_or] at hr
    have h7 := cpB_o (M := M1) (f := M1.1 (29, y, 0)) (dp := bs.length) (n := cs.length) hr.2.1
    exact ⟨h7.1.trans h6.1, h7.2.trans h6.2⟩
