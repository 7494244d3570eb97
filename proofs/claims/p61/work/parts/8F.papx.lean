/-! appends, with the room told exactly (mk8F.py) -/
def ecp (cap n : Nat) : Nat := if n ≤ cap then cap else max n (2 * cap + 2)
theorem ensX {M : Mm} {z n B cap : Nat} {bs : List Int32} (h : TX M z bs cap) (hB : cap ≤ B) (hn : n ≤ B) (h2 : n ≤ cap ∨ 2 * cap + 2 ≤ B) (hL : B < LG) :
    ∃ M', fJ5_ensureCapacityInternal_d00df M z (nI n) B = some M' ∧ TX M' z bs (ecp cap n) ∧ n ≤ ecp cap n ∧ ecp cap n ≤ B ∧ Off (ZB z) M M' ∧ M'.1 (24, z, 0) = M.1 (24, z, 0) := by
  obtain ⟨t1, t2, t3, t4, t5, t6, t7⟩ := id h
  have hLG := LGv
  have c31 : cap < 2 ^ 31 := by omega
  have n31 : n < 2 ^ 31 := by omega
  unfold fJ5_ensureCapacityInternal_d00df
  rw [t3, if_pos (nI_0le c31), if_pos t1]
  by_cases hc : n ≤ cap
  · have e1 : nI n - nI cap ≤ 0 := by
      rw [Int32.le_iff_toInt_le, Int32.toInt_sub, show (nI n).toInt = n from Int32.toInt_ofNat_of_lt n31, show (nI cap).toInt = cap from Int32.toInt_ofNat_of_lt c31, Int.bmod_eq_of_le (by omega) (by omega)]
      show (n : Int) - cap ≤ 0
      omega
    rw [if_pos e1]
    have ec : ecp cap n = cap := if_pos hc
    rw [ec]
    exact ⟨M, rfl, h, hc, hB, Off.rf, rfl⟩
  · have e1 : nI n - nI cap = nI (n - cap) := (Int32.ofNat_sub n cap (by omega)).symm
    rw [e1, if_neg (fun c => by rw [show (0 : Int32) = nI 0 from rfl, nIle (by omega) (by decide)] at c; omega)]
    have h2 : 2 * cap + 2 ≤ B := by omega
    have ec : ecp cap n = cap + max (n - cap) (cap + 2) := (if_neg hc).trans (by omega)
    rw [ec]
    have hm : ∀ M2 : Mm, fJ9_max_7cf53 M2 (nI (n - cap)) (nI (cap + 2)) = nI (max (n - cap) (cap + 2)) := fun M2 => by
      unfold fJ9_max_7cf53
      by_cases hh : n - cap < cap + 2
      · rw [if_pos ((nIlt (by omega) (by omega)).mpr hh), Nat.max_eq_right (by omega)]
      · rw [if_neg (fun c => hh ((nIlt (by omega) (by omega)).mp c)), Nat.max_eq_left (by omega)]
    have hk : cap + max (n - cap) (cap + 2) ≤ B := by omega
    have hnl : fJ8_newLength_cabcc M (nI cap) (nI (n - cap)) (nI (cap + 2)) = some (nI (cap + max (n - cap) (cap + 2))) := by
      unfold fJ8_newLength_cabcc
      rw [hm, nI_add, if_neg (fun c => by rw [show (0 : Int32) = nI 0 from rfl, nIle (by omega) (by decide)] at c; omega), if_neg (fun c => by rw [show (2147483639 : Int32) = nI 2147483639 from rfl, nIlt (by decide) (by omega)] at c; omega)]
    have hnc : fJ5_newCapacity_0f7a4 M z (nI n) = some (nI (cap + max (n - cap) (cap + 2))) := by
      unfold fJ5_newCapacity_0f7a4
      rw [t3, if_pos (nI_0le c31), if_pos t1, if_pos t1, e1, show nI cap + (2 : Int32) = nI (cap + 2) from nI_add cap 2, hnl]
      show (if nI (cap + max (n - cap) (cap + 2)) = (2147483647 : Int32) then none else if M.1 (24, z, 0) 1 = (0 : Int32) then some (nI (cap + max (n - cap) (cap + 2))) else none) = _
      rw [if_neg (fun c => by have := nIinj (b := 2147483647) (by omega) (by decide) c; omega), if_pos t1]
    obtain ⟨M1, g1, g2, g3, g4, g5⟩ := copyOf_ok (n := cap + max (n - cap) (cap + 2)) h (by omega) hk (by omega)
    rw [hnc]
    show ∃ M', (if M.1 (24, z, 0) 1 = (0 : Int32) then ((fJ7_copyOf_9075b M z (nI (cap + max (n - cap) (cap + 2))) B).bind fun q7 => some (mvR q7 (27, 0, 0) (25, z, 0))) else none) = some M' ∧ _
    rw [if_pos t1, g1]
    have mv_o : ∀ r : Rf, r ≠ (25, z, 0) → (mvR M1 (27, 0, 0) (25, z, 0)).1 r = M1.1 r ∧ (mvR M1 (27, 0, 0) (25, z, 0)).2 r = M1.2 r := fun r hr => ⟨funext fun j => if_neg hr, funext fun j => if_neg hr⟩
    have o24 : (mvR M1 (27, 0, 0) (25, z, 0)).1 (24, z, 0) = M.1 (24, z, 0) := (mv_o (24, z, 0) (by simp)).1.trans (g5 (24, z, 0) (by simp)).1
    have o25 : (mvR M1 (27, 0, 0) (25, z, 0)).1 (25, z, 0) = M1.1 (27, 0, 0) := funext fun j => if_pos rfl
    refine ⟨mvR M1 (27, 0, 0) (25, z, 0), rfl, ⟨?_, ?_, ?_, by omega, by omega, ?_, ?_⟩, by omega, by omega, fun r hr => ?_, o24⟩
    · rw [o24]; exact t1
    · rw [o24]; exact t2
    · rw [o25]; exact g2
    · rw [o25]; exact g3
    · rw [o25]; exact g4
    · simp only [ZB, List.mem_cons, List.not_mem_nil, or_false, not_or] at hr
      have h5 := g5 r (by simp [hr.2.2])
      exact ⟨(mv_o r hr.2.1).1.trans h5.1, (mv_o r hr.2.1).2.trans h5.2⟩
theorem apCx {M : Mm} {z B cap : Nat} {bs : List Int32} {c : Int32} (h : TX M z bs cap) (hc : b7 c) (hn : bs.length + 1 ≤ B) (h2 : bs.length + 1 ≤ cap ∨ 2 * cap + 2 ≤ B) (hcB : cap ≤ B) (hL : B < LG) :
    ∃ M', fJ4_append_cf468 M z c B = some M' ∧ TX M' z (bs ++ [c]) (ecp cap (bs.length + 1)) ∧ ecp cap (bs.length + 1) ≤ B ∧ Off (ZB z) M M' := by
  obtain ⟨e1, e2, e3, e4⟩ := b7_b hc
  have hLG := LGv
  obtain ⟨t1, t2, t3, t4, t5, t6, t7⟩ := id h
  have l31 : bs.length < 2 ^ 31 := by omega
  obtain ⟨M1, g1, g2, g3, g5B, g6, g7⟩ := ensX h hcB hn h2 hL
  obtain ⟨s1, s2, s3, s4, s5, s6, s7⟩ := id g2
  have c31 : ecp cap (bs.length + 1) < 2 ^ 31 := by omega
  have p25 : ∀ v : Int32, (putI M1 (24, z, 0) 3 v).1 (25, z, 0) = M1.1 (25, z, 0) := fun v => putI_ne (by simp)
  have hbs : ∀ v : Int32, bsOk (putI M1 (24, z, 0) 3 v) (25, z, 0) (nI bs.length) c = true := fun v => by
    unfold bsOk
    rw [p25, s3, nI_clamp c31, nI_clamp l31]
    simp only [Bool.and_eq_true, decide_eq_true_eq]
    exact ⟨⟨fun hh => by rcases hh with hh | hh; exact nI_pos l31 hh; omega, by omega⟩, e2⟩
  refine ⟨putI (putI M1 (24, z, 0) 3 (nI (bs.length + 1))) (25, z, 0) bs.length c, ?_, ⟨?_, ?_, ?_, ?_, s5, fun i hi => ?_, ?_⟩, g5B, ?_⟩
  · unfold fJ4_append_cf468 fJ5_append_3fe6f
    rw [t2, show nI bs.length + (1 : Int32) = nI (bs.length + 1) from nI_add bs.length 1, g1]
    show (((fJ5_isLatin1_aae02 M1 z).bind _).bind _) = _
    rw [lat_ok g2]
    show (((fJ1_canEncode_fc78d M1 c).bind _).bind _) = _
    unfold fJ1_canEncode_fc78d
    rw [if_neg e4]
    show ((if bsOk (putI M1 (24, z, 0) 3 (M1.1 (24, z, 0) 3 + (1 : Int32))) (25, z, 0) (M1.1 (24, z, 0) 3) c.toInt8.toInt32 = true then some (putI (putI M1 (24, z, 0) 3 (M1.1 (24, z, 0) 3 + (1 : Int32))) (25, z, 0) (M1.1 (24, z, 0) 3).toNatClampNeg c.toInt8.toInt32) else none).bind _) = _
    rw [s2, e1, show nI bs.length + (1 : Int32) = nI (bs.length + 1) from nI_add bs.length 1, if_pos (hbs _), nI_clamp l31]
    rfl
  · rw [show (putI (putI M1 (24, z, 0) 3 (nI (bs.length + 1))) (25, z, 0) bs.length c).1 (24, z, 0) = (putI M1 (24, z, 0) 3 (nI (bs.length + 1))).1 (24, z, 0) from putI_ne (by simp), g_row, upd_o (by decide)]
    exact s1
  · rw [show (putI (putI M1 (24, z, 0) 3 (nI (bs.length + 1))) (25, z, 0) bs.length c).1 (24, z, 0) = (putI M1 (24, z, 0) 3 (nI (bs.length + 1))).1 (24, z, 0) from putI_ne (by simp), g_row, upd_s, List.length_append]
    rfl
  · rw [g_row, upd_o (by omega), p25]
    exact s3
  · rw [List.length_append]
    exact g3
  · rw [g_row, p25]
    rw [List.length_append] at hi
    by_cases hh : i = bs.length
    · rw [hh, upd_s, gd_e]
    · have hi2 : i < bs.length + 1 := hi
      rw [upd_o hh, s6 i (by omega), gd_l (by omega)]
  · refine fitB_of fun i hi => ?_
    rw [g_row, p25]
    by_cases hh : i = bs.length
    · rw [hh, upd_s]; exact e3
    · rw [upd_o hh]; exact fitB_s s7 i hi
  · exact (g6.put (by simp [ZB])).put (by simp [ZB])
theorem apKx {M : Mm} {z B cap j : Nat} {bs : List Int32} (hj : j < 15) (h : TX M z bs cap) (hcB : cap ≤ B) (hn : bs.length + (sby j).length ≤ B) (h2 : bs.length + (sby j).length ≤ cap ∨ 2 * cap + 2 ≤ B) (hL : B < LG) :
    ∃ M', fJ5_append_cf1ceK M z j B = some M' ∧ TX M' z (bs ++ sby j) (ecp cap (bs.length + (sby j).length)) ∧ ecp cap (bs.length + (sby j).length) ≤ B ∧ Off (ZB z) M M' := by
  have hLG := LGv
  obtain ⟨t1, t2, t3, t4, t5, t6, t7⟩ := id h
  have l31 : bs.length < 2 ^ 31 := by omega
  obtain ⟨M1, g1, g2, g3, g5, g6, g7⟩ := ensX h hcB hn h2 hL
  obtain ⟨s1, s2, s3, s4, s5, s6, s7⟩ := id g2
  have c31 : ecp cap (bs.length + (sby j).length) < 2 ^ 31 := by omega
  have hak : akOk M1 j (25, z, 0) (nI bs.length) = true := by
    unfold akOk
    rw [s3, nI_clamp c31, nI_clamp l31]
    simp only [Bool.and_eq_true, decide_eq_true_eq]
    exact ⟨⟨nI_pos l31, g3⟩, by omega⟩
  have hl := lay_ok (cs := sby j) (f := fun i => (sby j).getD i 0) g2 g3 (fun i _ => rfl) (sby_fit j hj)
  refine ⟨_, ?_, hl, g5, ?_⟩
  · unfold fJ5_append_cf1ceK
    rw [t2, show nI bs.length + slen j = nI (bs.length + (sby j).length) from nI_add _ _, g1]
    show ((fJ5_putStringAt_47b60K M1 z (M1.1 (24, z, 0) 3) j).bind _) = _
    have hp : fJ5_putStringAt_47b60K M1 z (M1.1 (24, z, 0) 3) j = some (cpB M1 (fun i => (sby j).getD i 0) (25, z, 0) bs.length (sby j).length) := by
      unfold fJ5_putStringAt_47b60K fJ5_inflateIfNeededFor_a7421K fJ0_getBytes_840e7K
      rw [s2, if_pos s1, if_pos rfl]
      show (if M1.1 (24, z, 0) 1 = (0 : Int32) then ((if (0 : Int32) = (0 : Int32) then (if akOk M1 j (25, z, 0) (nI bs.length <<< ((0 : Int32) &&& 31)) = true then some (cpB M1 (fun i => (sby j).getD i 0) (25, z, 0) (nI bs.length <<< ((0 : Int32) &&& 31)).toNatClampNeg (sby j).length) else none) else none).bind fun q4 => some q4) else none) = _
      rw [if_pos s1, if_pos rfl, shl0, if_pos hak, nI_clamp l31]
      rfl
    rw [hp]
    show some (putI (cpB M1 (fun i => (sby j).getD i 0) (25, z, 0) bs.length (sby j).length) (24, z, 0) 3 ((cpB M1 (fun i => (sby j).getD i 0) (25, z, 0) bs.length (sby j).length).1 (24, z, 0) 3 + slen j)) = _
    rw [(cpB_o (M := M1) (f := fun i => (sby j).getD i 0) (r := (25, z, 0)) (x := (24, z, 0)) (dp := bs.length) (n := (sby j).length) (by simp)).1, s2, show nI bs.length + slen j = nI (bs.length + (sby j).length) from nI_add _ _]
  · refine Off.put (fun r hr => ?_) (by simp [ZB])
    have h6 := g6 r hr
    simp only [ZB, List.mem_cons, List.not_mem_nil, or_false, not_or] at hr
    have h7 := cpB_o (M := M1) (f := fun i => (sby j).getD i 0) (dp := bs.length) (n := (sby j).length) hr.2.1
    exact ⟨h7.1.trans h6.1, h7.2.trans h6.2⟩
theorem apMx {M : Mm} {z y B cap : Nat} {bs cs : List Int32} (h : TX M z bs cap) (hs : SX M y cs) (hcB : cap ≤ B) (hn : bs.length + cs.length ≤ B) (h2 : bs.length + cs.length ≤ cap ∨ 2 * cap + 2 ≤ B) (hL : B < LG) :
    ∃ M', fJ5_append_cf1ceM M z y B = some M' ∧ TX M' z (bs ++ cs) (ecp cap (bs.length + cs.length)) ∧ ecp cap (bs.length + cs.length) ≤ B ∧ Off (ZB z) M M' := by
  have hLG := LGv
  obtain ⟨t1, t2, t3, t4, t5, t6, t7⟩ := id h
  have l31 : bs.length < 2 ^ 31 := by omega
  obtain ⟨M1, g1, g2, g3, g5, g6, g7⟩ := ensX h hcB hn h2 hL
  obtain ⟨s1, s2, s3, s4, s5, s6, s7⟩ := id g2
  have c31 : ecp cap (bs.length + cs.length) < 2 ^ 31 := by omega
  have m28 : M1.1 (28, y, 0) = M.1 (28, y, 0) := (g6 (28, y, 0) (by simp [ZB])).1
  have m29 : M1.1 (29, y, 0) = M.1 (29, y, 0) := (g6 (29, y, 0) (by simp [ZB])).1
  obtain ⟨h1, h2', h3, h4, h5⟩ := id hs
  have k31 : cs.length < 2 ^ 31 := by omega
  have hab : abOk M1 (29, y, 0) (25, z, 0) (nI bs.length) (nI cs.length) = true := by
    unfold abOk
    rw [s3, m29, h2', nI_clamp c31, nI_clamp l31, nI_clamp k31]
    simp only [Bool.and_eq_true, decide_eq_true_eq]
    exact ⟨⟨⟨⟨⟨nI_pos l31, nI_pos k31⟩, Nat.le_refl _⟩, g3⟩, by omega⟩, h5⟩
  have hl := lay_ok (cs := cs) (f := M1.1 (29, y, 0)) g2 g3 (fun i hi => by rw [m29]; exact h4 i hi) (by rw [m29]; exact h5)
  refine ⟨_, ?_, hl, g5, ?_⟩
  · unfold fJ5_append_cf1ceM
    rw [slM_ok hs]
    show ((fJ5_ensureCapacityInternal_d00df M z (M.1 (24, z, 0) 3 + nI cs.length) B).bind _) = _
    rw [t2, show nI bs.length + nI cs.length = nI (bs.length + cs.length) from nI_add _ _, g1]
    show ((fJ5_putStringAt_47b60M M1 z (M1.1 (24, z, 0) 3) y).bind _) = _
    have hp : fJ5_putStringAt_47b60M M1 z (M1.1 (24, z, 0) 3) y = some (cpB M1 (M1.1 (29, y, 0)) (25, z, 0) bs.length cs.length) := by
      unfold fJ5_putStringAt_47b60M fJ5_inflateIfNeededFor_a7421M fJ0_getBytes_840e7M fJ0_coder_7d493M
      rw [s2, if_pos s1, m28, if_pos h1]
      show (if M1.1 (24, z, 0) 1 = (0 : Int32) then ((if (0 : Int32) = (0 : Int32) then (if (0 : Int32) ≤ M1.1 (29, y, 0) LG then (if abOk M1 (29, y, 0) (25, z, 0) (nI bs.length <<< ((0 : Int32) &&& 31)) (M1.1 (29, y, 0) LG) = true then some (cpB M1 (M1.1 (29, y, 0)) (25, z, 0) (nI bs.length <<< ((0 : Int32) &&& 31)).toNatClampNeg (M1.1 (29, y, 0) LG).toNatClampNeg) else none) else none) else if (0 : Int32) ≤ M1.1 (29, y, 0) LG then none else none).bind fun q4 => some q4) else none) = _
      rw [if_pos s1, if_pos rfl, m29, h2', if_pos (nI_0le k31), shl0, if_pos hab, nI_clamp l31, nI_clamp k31]
      rfl
    rw [hp]
    show some (putI (cpB M1 (M1.1 (29, y, 0)) (25, z, 0) bs.length cs.length) (24, z, 0) 3 ((cpB M1 (M1.1 (29, y, 0)) (25, z, 0) bs.length cs.length).1 (24, z, 0) 3 + nI cs.length)) = _
    rw [(cpB_o (M := M1) (f := M1.1 (29, y, 0)) (r := (25, z, 0)) (x := (24, z, 0)) (dp := bs.length) (n := cs.length) (by simp)).1, s2, show nI bs.length + nI cs.length = nI (bs.length + cs.length) from nI_add _ _]
  · refine Off.put (fun r hr => ?_) (by simp [ZB])
    have h6 := g6 r hr
    simp only [ZB, List.mem_cons, List.not_mem_nil, or_false, not_or] at hr
    have h7 := cpB_o (M := M1) (f := M1.1 (29, y, 0)) (dp := bs.length) (n := cs.length) hr.2.1
    exact ⟨h7.1.trans h6.1, h7.2.trans h6.2⟩
theorem apK4 {M M' : Mm} {z j B : Nat} (h : fJ5_append_cf1ceK M z j B = some M') : fJ4_append_15ec4K M z j B = some M' := by
  unfold fJ4_append_15ec4K
  rw [h]
  rfl
theorem apM4 {M M' : Mm} {z y B : Nat} (h : fJ5_append_cf1ceM M z y B = some M') : fJ4_append_15ec4M M z y B = some M' := by
  unfold fJ4_append_15ec4M
  rw [h]
  rfl
/-! an int appended -/
def dgs (a : Nat) : List Int32 := if a < 10 then [nI (48 + a)] else if a < 100 then [nI (48 + a / 10), nI (48 + a % 10)] else [nI (48 + a / 100), nI (48 + a / 10 % 10), nI (48 + a % 10)]
theorem dgs_f : ∀ a, a < 1000 → (-nI a ≤ -10 ↔ 10 ≤ a) ∧ (-nI a ≤ (10 : Int32) * (-10) ↔ 100 ≤ a) ∧ ¬ (-nI a ≤ (10 : Int32) * ((10 : Int32) * (-10))) ∧ (-100 < -nI a ↔ a < 100) ∧ (-9 ≤ -nI a ↔ a < 10) ∧ (-nI a) / 100 = -nI (a / 100) ∧ (-nI a) / 100 * 100 - (-nI a) = nI (a % 100) := by decide +kernel
theorem ss_L {M : Mm} {a n : Nat} {K : Int32 → Int32 → Option Int32} (ha : a < 1000) {c : Int32} : fJ6_stringSize_0f7a4_L16 M (-nI a) c K (n + 3) (-10) 1 = some (nI (dgs a).length + c) := by
  obtain ⟨f1, f2, f3, -⟩ := dgs_f a ha
  rw [fJ6_stringSize_0f7a4_L16, if_neg (by decide)]
  unfold dgs
  by_cases h1 : a < 10
  · rw [if_neg (fun x => by have := f1.mp x; omega), if_pos h1]
    rfl
  · rw [if_pos (f1.mpr (by omega)), fJ6_stringSize_0f7a4_L16, if_neg (by decide), if_neg h1]
    by_cases h2 : a < 100
    · rw [if_neg (fun x => by have := f2.mp x; omega), if_pos h2]
      rfl
    · rw [if_pos (f2.mpr (by omega)), fJ6_stringSize_0f7a4_L16, if_neg (by decide), if_neg f3, if_neg h2]
      rfl
theorem ss_ok {M : Mm} {a : Nat} (ha : a < 1000) : fJ6_stringSize_0f7a4 M (nI a) = some (nI (dgs a).length) := by
  unfold fJ6_stringSize_0f7a4
  rw [if_neg (nI_pos (by omega))]
  have := ss_L (M := M) (n := 4997) (K := fun w6 w7 => some ((10 : Int32) + (0 : Int32))) ha (c := 0)
  exact Eq.trans this (congrArg some (Int32.add_zero _))
theorem neg_f : ∀ a, a < 10 → 1 ≤ a → -nI a < 0 ∧ ¬ 0 ≤ -nI a := by decide +kernel
theorem ss_ng {M : Mm} {a : Nat} (h1 : 1 ≤ a) (ha : a < 10) : fJ6_stringSize_0f7a4 M (-nI a) = some (nI 2) := by
  unfold fJ6_stringSize_0f7a4
  rw [if_pos (neg_f a ha h1).1]
  have := ss_L (M := M) (n := 4997) (K := fun w4 w5 => some ((10 : Int32) + (1 : Int32))) (show a < 1000 by omega) (c := 1)
  rw [show (dgs a).length = 1 by unfold dgs; rw [if_pos ha]; rfl] at this
  exact this
/-- a row of bytes with room -/
def WRo (M : Mm) (z cap : Nat) : Prop := M.1 (25, z, 0) LG = nI cap ∧ cap < LG ∧ fitB (M.1 (25, z, 0)) cap = true
theorem dig_f : ∀ a, a < 100 → b7 (dgt 0 a) ∧ b7 (dgt 1 a) ∧ dgt 0 a = nI (48 + a % 10) ∧ dgt 1 a = nI (48 + a / 10) := by
  unfold b7
  decide +kernel
theorem wr_bs {M : Mm} {z cap p : Nat} {v : Int32} (h : WRo M z cap) (hp : p < cap) (hv : b7 v) : bsOk M (25, z, 0) (nI p) v = true := by
  have hLG := LGv
  obtain ⟨h1, h2, h3⟩ := h
  unfold bsOk
  rw [h1, nI_clamp (by omega), nI_clamp (by omega)]
  simp only [Bool.and_eq_true, decide_eq_true_eq]
  exact ⟨⟨fun c => by rcases c with c | c; exact nI_pos (by omega) c; omega, by omega⟩, (b7_b hv).2.1⟩
theorem wr_put {M : Mm} {z cap p : Nat} {v : Int32} (h : WRo M z cap) (hp : p < cap) (hv : b7 v) : WRo (putI M (25, z, 0) p v) z cap := by
  obtain ⟨h1, h2, h3⟩ := h
  refine ⟨by rw [g_row, upd_o (by omega)]; exact h1, h2, fitB_of fun i hi => ?_⟩
  rw [g_row]
  by_cases e : i = p
  · rw [e, upd_s]; exact (b7_b hv).2.2.1
  · rw [upd_o e]; exact fitB_s h3 i hi
def gcT (z : Nat) (w8 w9 : Int32) (M10 : Mm) : Option (Int32 × Mm) := if (-w8) < 0 ∨ 100 ≤ (-w8).toNatClampNeg then none else (if bsOk M10 (25, z, 0) (w9 + (-1 : Int32)) (dgt 0 (-w8).toNatClampNeg) = true then (if (-9 : Int32) ≤ w8 then some ((w9 + (-1 : Int32)), (putI M10 (25, z, 0) (w9 + (-1 : Int32)).toNatClampNeg (dgt 0 (-w8).toNatClampNeg))) else if (-w8) < 0 ∨ 100 ≤ (-w8).toNatClampNeg then none else (if bsOk (putI M10 (25, z, 0) (w9 + (-1 : Int32)).toNatClampNeg (dgt 0 (-w8).toNatClampNeg)) (25, z, 0) ((w9 + (-1 : Int32)) + (-1 : Int32)) (dgt 1 (-w8).toNatClampNeg) = true then some (((w9 + (-1 : Int32)) + (-1 : Int32)), (putI (putI M10 (25, z, 0) (w9 + (-1 : Int32)).toNatClampNeg (dgt 0 (-w8).toNatClampNeg)) (25, z, 0) ((w9 + (-1 : Int32)) + (-1 : Int32)).toNatClampNeg (dgt 1 (-w8).toNatClampNeg))) else none)) else none)
/-- what is laid: bytes cs from place n on, nothing else -/
def LAID (M M' : Mm) (z cap n : Nat) (cs : List Int32) : Prop := WRo M' z cap ∧ (∀ i, i < n ∨ n + cs.length ≤ i → M'.1 (25, z, 0) i = M.1 (25, z, 0) i) ∧ (∀ i, i < cs.length → M'.1 (25, z, 0) (n + i) = cs.getD i 0) ∧ Off [(25, z, 0)] M M'
theorem laid_0 {M : Mm} {z cap n : Nat} (h : WRo M z cap) : LAID M M z cap n [] := ⟨h, fun _ _ => rfl, fun i hi => absurd hi (Nat.not_lt_zero i), Off.rf⟩
theorem laid_p {M M' : Mm} {z cap n : Nat} {cs : List Int32} {v : Int32} (h : LAID M M' z cap (n + 1) cs) (hp : n < cap) (hv : b7 v) : LAID M (putI M' (25, z, 0) n v) z cap n (v :: cs) := by
  obtain ⟨h1, h2, h3, h4⟩ := h
  refine ⟨wr_put h1 hp hv, fun i hi => ?_, fun i hi => ?_, h4.put (by simp)⟩
  · rw [List.length_cons] at hi
    rw [g_row, upd_o (by omega)]
    exact h2 i (by omega)
  · rw [List.length_cons] at hi
    rw [g_row]
    cases i with
    | zero => rw [Nat.add_zero, upd_s]; rfl
    | succ i =>
      rw [upd_o (by omega), show n + (i + 1) = n + 1 + i by omega, h3 i (by omega)]
      rfl
theorem gcT_ok {M0 M : Mm} {z cap n b : Nat} {cs : List Int32} (hb : b < 100) (h : LAID M0 M z cap (n + (dgs b).length) cs) (hn : n + (dgs b).length ≤ cap) : ∃ p M', gcT z (-nI b) (nI (n + (dgs b).length)) M = some (p, M') ∧ LAID M0 M' z cap n (dgs b ++ cs) := by
  have hLG := LGv
  have hcap : cap < LG := h.1.2.1
  obtain ⟨f1, f2, f3, f4, f5, -⟩ := dgs_f b (by omega)
  obtain ⟨d1, d2, d3, d4⟩ := dig_f b hb
  have e : -(-nI b) = nI b := Int32.neg_neg
  unfold gcT
  rw [e, if_neg (nI_in hb (by decide)), nI_clamp (by omega)]
  by_cases h1 : b < 10
  · have ed : dgs b = [nI (48 + b)] := if_pos h1
    rw [ed] at h hn ⊢
    have hn' : n + 1 ≤ cap := hn
    rw [show nI (n + [nI (48 + b)].length) + (-1 : Int32) = nI n from pk_m1 n, if_pos (wr_bs h.1 (by omega) d1), if_pos (f5.mpr h1), nI_clamp (by omega)]
    refine ⟨_, _, rfl, ?_⟩
    have := laid_p h (by omega) d1
    rw [d3, show b % 10 = b by omega] at this ⊢
    exact this
  · have ed : dgs b = [nI (48 + b / 10), nI (48 + b % 10)] := (if_neg h1).trans (if_pos hb)
    rw [ed] at h hn ⊢
    have hn' : n + 2 ≤ cap := hn
    have hp := laid_p (n := n + 1) h (by omega) d1
    rw [show nI (n + [nI (48 + b / 10), nI (48 + b % 10)].length) + (-1 : Int32) = nI (n + 1) from pk_m1 (n + 1), if_pos (wr_bs h.1 (by omega) d1), if_neg (fun c => h1 (f5.mp c)), if_neg (show ¬ (nI b < 0 ∨ 100 ≤ b) from fun c => by rcases c with c | c; exact nI_pos (by omega) c; omega), show nI (n + 1) + (-1 : Int32) = nI n from pk_m1 n, nI_clamp (by omega), nI_clamp (by omega), if_pos (wr_bs hp.1 (by omega) d2)]
    refine ⟨_, _, rfl, ?_⟩
    have := laid_p hp (by omega) d2
    rw [d4, d3] at this ⊢
    exact this
theorem gc_ok {M : Mm} {z cap n a : Nat} (h : WRo M z cap) (ha : a < 1000) (hn : n + (dgs a).length ≤ cap) : ∃ p M', fJ6_getChars_ba4f3 M (nI a) (nI (n + (dgs a).length)) z = some (p, M') ∧ LAID M M' z cap n (dgs a) := by
  have hLG := LGv
  have hcap : cap < LG := h.2.1
  obtain ⟨f1, f2, f3, f4, f5, f6, f7⟩ := dgs_f a ha
  unfold fJ6_getChars_ba4f3
  rw [if_pos (nI_pos' (by omega))]
  show ∃ p M', fJ6_getChars_ba4f3_L22 z (0 : Int32) (gcT z) (4998 + 2) (-nI a) (nI (n + (dgs a).length)) M = some (p, M') ∧ _
  by_cases h1 : a < 100
  · rw [fJ6_getChars_ba4f3_L22, if_pos (f4.mpr h1)]
    obtain ⟨p, M', g1, g2⟩ := gcT_ok (M0 := M) (cs := []) h1 (laid_0 h) hn
    rw [List.append_nil] at g2
    exact ⟨p, M', g1, g2⟩
  · have ed : dgs a = dgs (a / 100) ++ [nI (48 + a / 10 % 10), nI (48 + a % 10)] := by
      unfold dgs
      rw [if_neg (by omega), if_neg h1, if_pos (show a / 100 < 10 by omega)]
      rfl
    have el : (dgs (a / 100)).length = 1 := by unfold dgs; rw [if_pos (show a / 100 < 10 by omega)]; rfl
    have el2 : (dgs a).length = 3 := by rw [ed, List.length_append, el]; rfl
    rw [el2] at hn ⊢
    obtain ⟨d1, d2, d3, d4⟩ := dig_f (a % 100) (by omega)
    have hp1 := laid_p (n := n + 2) (laid_0 (n := n + 2 + 1) h) (by omega) d1
    have hp2 := laid_p (n := n + 1) hp1 (by omega) d2
    rw [fJ6_getChars_ba4f3_L22, if_neg (fun c => h1 (f4.mp c)), f7, if_neg (nI_in (by omega) (by decide)), show nI (n + 3) + (-1 : Int32) = nI (n + 2) from pk_m1 (n + 2), nI_clamp (show a % 100 < 2 ^ 31 by omega), if_pos (wr_bs h (by omega) d1), if_neg (fun c => by rcases c with c | c; exact nI_pos (by omega) c; omega), show nI (n + 2) + (-1 : Int32) = nI (n + 1) from pk_m1 (n + 1), nI_clamp (show n + 2 < 2 ^ 31 by omega), if_pos (wr_bs hp1.1 (by omega) d2), nI_clamp (show n + 1 < 2 ^ 31 by omega), f6]
    obtain ⟨g1, g2, g3, g4, -⟩ := dgs_f (a / 100) (by omega)
    rw [fJ6_getChars_ba4f3_L22, if_pos (g4.mpr (by omega))]
    rw [show n + 1 = n + (dgs (a / 100)).length by rw [el]] at hp2 ⊢
    obtain ⟨p, M', k1, k2⟩ := gcT_ok (M0 := M) (by omega) hp2 (by rw [el]; omega)
    refine ⟨p, M', k1, ?_⟩
    rw [ed]
    rw [d4, d3, show a % 100 / 10 = a / 10 % 10 by omega, show a % 100 % 10 = a % 10 by omega] at k2
    exact k2
theorem gc_ng {M : Mm} {z cap n a : Nat} (h : WRo M z cap) (h1 : 1 ≤ a) (ha : a < 10) (hn : n + 2 ≤ cap) : ∃ p M', fJ6_getChars_ba4f3 M (-nI a) (nI (n + 2)) z = some (p, M') ∧ LAID M M' z cap n (45 :: dgs a) := by
  have hLG := LGv
  have hcap : cap < LG := h.2.1
  obtain ⟨f1, f2, f3, f4, f5, f6, f7⟩ := dgs_f a (by omega)
  obtain ⟨d1, d2, d3, d4⟩ := dig_f a (by omega)
  have e : -(-nI a) = nI a := Int32.neg_neg
  have ed : dgs a = [nI (48 + a)] := if_pos ha
  have hp1 := laid_p (n := n + 1) (laid_0 (n := n + 1 + 1) h) (by omega) d1
  have hp2 := laid_p hp1 (by omega) (show b7 45 by unfold b7; decide)
  unfold fJ6_getChars_ba4f3
  rw [if_neg (neg_f a ha h1).2]
  unfold NF
  rw [fJ6_getChars_ba4f3_L22, if_pos (f4.mpr (by omega))]
  try dsimp only
  rw [e, if_neg (nI_in (by omega) (by decide)), nI_clamp (show a < 2 ^ 31 by omega), show nI (n + 2) + (-1 : Int32) = nI (n + 1) from pk_m1 (n + 1), if_pos (wr_bs h (by omega) d1), if_pos (f5.mpr ha), show nI (n + 1) + (-1 : Int32) = nI n from pk_m1 n, nI_clamp (show n + 1 < 2 ^ 31 by omega), if_pos (wr_bs hp1.1 (by omega) (show b7 45 by unfold b7; decide)), nI_clamp (show n < 2 ^ 31 by omega)]
  refine ⟨_, _, rfl, ?_⟩
  rw [ed, ← show a % 10 = a by omega, ← d3]
  rw [show a % 10 = a by omega]
  exact hp2
theorem tx_fin {M M' : Mm} {z cap : Nat} {bs cs : List Int32} (h : TX M z bs cap) (hl : LAID M M' z cap bs.length cs) (hn : bs.length + cs.length ≤ cap) : TX (putI M' (24, z, 0) 3 (nI (bs.length + cs.length))) z (bs ++ cs) cap := by
  obtain ⟨s1, s2, s3, s4, s5, s6, s7⟩ := h
  obtain ⟨⟨w1, w2, w3⟩, w4, w5, w6⟩ := hl
  have p24 : M'.1 (24, z, 0) = M.1 (24, z, 0) := (w6 (24, z, 0) (by simp)).1
  have p25 : (putI M' (24, z, 0) 3 (nI (bs.length + cs.length))).1 (25, z, 0) = M'.1 (25, z, 0) := putI_ne (by simp)
  refine ⟨?_, ?_, ?_, ?_, s5, fun i hi => ?_, ?_⟩
  · rw [g_row, upd_o (by decide), p24]; exact s1
  · rw [g_row, upd_s, List.length_append]
  · rw [p25]; exact w1
  · rw [List.length_append]; exact hn
  · rw [List.length_append] at hi
    rw [p25]
    by_cases hh : bs.length ≤ i
    · have := w5 (i - bs.length) (by omega)
      rw [show bs.length + (i - bs.length) = i by omega] at this
      rw [this, gd_r hh]
    · rw [w4 i (by omega), s6 i (by omega), gd_l (by omega)]
  · rw [p25]; exact w3
theorem apI_g {M : Mm} {z B cap : Nat} {bs cs : List Int32} {x : Int32} (h : TX M z bs cap) (hss : fJ6_stringSize_0f7a4 M x = some (nI cs.length)) (hgc : ∀ M1 cap1, WRo M1 z cap1 → bs.length + cs.length ≤ cap1 → ∃ p M', fJ6_getChars_ba4f3 M1 x (nI (bs.length + cs.length)) z = some (p, M') ∧ LAID M1 M' z cap1 bs.length cs) (hcB : cap ≤ B) (hn : bs.length + cs.length ≤ B) (h2 : bs.length + cs.length ≤ cap ∨ 2 * cap + 2 ≤ B) (hL : B < LG) :
    ∃ M', fJ4_append_bf812 M z x B = some M' ∧ TX M' z (bs ++ cs) (ecp cap (bs.length + cs.length)) ∧ ecp cap (bs.length + cs.length) ≤ B ∧ Off (ZB z) M M' := by
  have hLG := LGv
  obtain ⟨t1, t2, t3, t4, t5, t6, t7⟩ := id h
  obtain ⟨M1, g1, g2, g3, g5, g6, g7⟩ := ensX h hcB hn h2 hL
  obtain ⟨p, M2, k1, k2⟩ := hgc M1 _ ⟨g2.2.2.1, g2.2.2.2.2.1, g2.2.2.2.2.2.2⟩ g3
  refine ⟨_, ?_, tx_fin g2 k2 g3, g5, ?_⟩
  · unfold fJ4_append_bf812 fJ5_append_c97b9
    refine bd (bd hss ?_) rfl
    rw [t2, nI_add]
    refine bd g1 (bd (lat_ok g2) (cn one_n0 (bd k1 rfl)))
  · exact (g6.tr (k2.2.2.2.le (by simp [ZB]))).put (by simp [ZB])
theorem apIx {M : Mm} {z B cap a : Nat} {bs : List Int32} (ha : a < 1000) (h : TX M z bs cap) (hcB : cap ≤ B) (hn : bs.length + (dgs a).length ≤ B) (h2 : bs.length + (dgs a).length ≤ cap ∨ 2 * cap + 2 ≤ B) (hL : B < LG) :
    ∃ M', fJ4_append_bf812 M z (nI a) B = some M' ∧ TX M' z (bs ++ dgs a) (ecp cap (bs.length + (dgs a).length)) ∧ ecp cap (bs.length + (dgs a).length) ≤ B ∧ Off (ZB z) M M' := apI_g h (ss_ok ha) (fun _ _ h1 h2 => gc_ok h1 ha h2) hcB hn h2 hL
theorem apIn {M : Mm} {z B cap a : Nat} {bs : List Int32} (h1 : 1 ≤ a) (ha : a < 10) (h : TX M z bs cap) (hcB : cap ≤ B) (hn : bs.length + 2 ≤ B) (h2 : bs.length + 2 ≤ cap ∨ 2 * cap + 2 ≤ B) (hL : B < LG) :
    ∃ M', fJ4_append_bf812 M z (-nI a) B = some M' ∧ TX M' z (bs ++ (45 :: dgs a)) (ecp cap (bs.length + 2)) ∧ ecp cap (bs.length + 2) ≤ B ∧ Off (ZB z) M M' := by
  have el : (45 :: dgs a).length = 2 := by
    have : dgs a = [nI (48 + a)] := if_pos ha
    rw [this]
    rfl
  have := apI_g (cs := 45 :: dgs a) (x := -nI a) h (by rw [el]; exact ss_ng h1 ha) (fun _ _ h3 h4 => by rw [el] at h4 ⊢; exact gc_ng h3 h1 ha h4) hcB (by rw [el]; exact hn) (by rw [el]; exact h2) hL
  rw [el] at this
  exact this
