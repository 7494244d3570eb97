/-! a fresh builder; constants appended; made Strings -/
theorem nSB_ok {M : Mm} {z : Nat} : TX (nSB M z) z [] 16 ∧ Off (ZB z) M (nSB M z) := by
  have hLG := LGv
  have e : nSB M z = putI (nB (mN M (24, z, 0)) (25, z, 0) 16) (24, z, 0) 1 0 := rfl
  have p25 : (nSB M z).1 (25, z, 0) = (nB (mN M (24, z, 0)) (25, z, 0) 16).1 (25, z, 0) := putI_ne (by simp)
  have n24 : (nB (mN M (24, z, 0)) (25, z, 0) 16).1 (24, z, 0) = (mN M (24, z, 0)).1 (24, z, 0) := (nB_o _ (by simp)).1
  refine ⟨⟨?_, ?_, ?_, Nat.zero_le _, by omega, fun i hi => absurd hi (Nat.not_lt_zero i), ?_⟩, fun r hr => ?_⟩
  · rw [e, g_row, upd_s]
  · rw [e, g_row, upd_o (by decide), n24]
    exact if_pos rfl
  · rw [p25]; exact nB_L
  · refine fitB_of fun i hi => ?_
    rw [p25, nB_0 (by omega)]
    decide
  · simp only [ZB, List.mem_cons, List.not_mem_nil, or_false, not_or] at hr
    have h1 := nB_o (M := mN M (24, z, 0)) (n := 16) r hr.2.1
    exact ⟨((putI_ne hr.1).trans h1.1).trans (funext fun j => if_neg hr.1), h1.2.trans (funext fun j => if_neg hr.1)⟩
/-- bytes laid behind the text -/
theorem lay_ok {M : Mm} {z cap : Nat} {bs cs : List Int32} {f : Nat → Int32} (h : TX M z bs cap) (hn : bs.length + cs.length ≤ cap) (hf : ∀ i, i < cs.length → f i = cs.getD i 0) (hb : fitB f cs.length = true) :
    TX (putI (cpB M f (25, z, 0) bs.length cs.length) (24, z, 0) 3 (nI (bs.length + cs.length))) z (bs ++ cs) cap := by
  obtain ⟨s1, s2, s3, s4, s5, s6, s7⟩ := h
  have p24 : (cpB M f (25, z, 0) bs.length cs.length).1 (24, z, 0) = M.1 (24, z, 0) := (cpB_o (by simp)).1
  have p25 : (putI (cpB M f (25, z, 0) bs.length cs.length) (24, z, 0) 3 (nI (bs.length + cs.length))).1 (25, z, 0) = (cpB M f (25, z, 0) bs.length cs.length).1 (25, z, 0) := putI_ne (by simp)
  refine ⟨?_, ?_, ?_, ?_, s5, fun i hi => ?_, ?_⟩
  · rw [g_row, upd_o (by decide), p24]; exact s1
  · rw [g_row, upd_s, List.length_append]
  · rw [p25, cpB_L]; exact s3
  · rw [List.length_append]; exact hn
  · rw [List.length_append] at hi
    rw [p25, cpB_at (by omega)]
    by_cases hh : bs.length ≤ i
    · rw [if_pos ⟨hh, hi⟩, hf _ (by omega), gd_r hh]
    · rw [if_neg (fun c => hh c.1), s6 i (by omega), gd_l (by omega)]
  · refine fitB_of fun i hi => ?_
    rw [p25, cpB_at (by omega)]
    by_cases hh : bs.length ≤ i ∧ i < bs.length + cs.length
    · rw [if_pos hh]; exact fitB_s hb _ (by omega)
    · rw [if_neg hh]; exact fitB_s s7 i hi
theorem shl0 (x : Int32) : x <<< ((0 : Int32) &&& 31) = x := by
  have e : (0 : Int32) &&& 31 = 0 := by decide
  rw [e]
  exact Int32.shiftLeft_zero
theorem apK_ok {M : Mm} {z B cap j : Nat} {bs : List Int32} (hj : j < 15) (h : TX M z bs cap) (hn : bs.length + (sby j).length ≤ B) (h2 : 2 * cap + 2 ≤ B) (hL : B < LG) :
    ∃ M' cap', fJ5_append_cf1ceK M z j B = some M' ∧ TX M' z (bs ++ sby j) cap' ∧ cap ≤ cap' ∧ cap' ≤ max cap (max (bs.length + (sby j).length) (2 * cap + 2)) ∧ Off (ZB z) M M' := by
  have hLG := LGv
  obtain ⟨t1, t2, t3, t4, t5, t6, t7⟩ := id h
  have l31 : bs.length < 2 ^ 31 := by omega
  obtain ⟨M1, cap1, g1, g2, g3, g4, g5, g6, g7⟩ := ensure_ok h hn h2 hL
  obtain ⟨s1, s2, s3, s4, s5, s6, s7⟩ := id g2
  have c31 : cap1 < 2 ^ 31 := by omega
  have hak : akOk M1 j (25, z, 0) (nI bs.length) = true := by
    unfold akOk
    rw [s3, nI_clamp c31, nI_clamp l31]
    simp only [Bool.and_eq_true, decide_eq_true_eq]
    exact ⟨⟨nI_pos l31, g3⟩, by omega⟩
  have hl := lay_ok (cs := sby j) (f := fun i => (sby j).getD i 0) g2 g3 (fun i _ => rfl) (sby_fit j hj)
  refine ⟨_, cap1, ?_, hl, g4, g5, ?_⟩
  · unfold fJ5_append_cf1ceK
    rw [t2, show nI bs.length + slen j = nI (bs.length + (sby j).length) from nI_add _ _, g1]
    show ((fJ5_putStringAt_47b60K M1 z (M1.1 (24, z, 0) 3) j).bind _) = _
    have hp : fJ5_putStringAt_47b60K M1 z (M1.1 (24, z, 0) 3) j = some (cpB M1 (fun i => (sby j).getD i 0) (25, z, 0) bs.length (sby j).length) := by
      unfold fJ5_putStringAt_47b60K fJ5_inflateIfNeededFor_a7421K fJ0_getBytes_840e7K
      rw [s2, if_pos s1, if_pos rfl]
      show (if M1.1 (24, z, 0) 1 = (0 : Int32) then ((if (0 : Int32) = (0 : Int32) then (if akOk M1 j (25, z, 0) (nI bs.length <<< ((0 : Int32) &&& 31)) = true then some (cpB M1 (fun i => (sby j).getD i 0) (25, z, 0) (nI bs.length <<< ((0 : Int32) &&& 31)).toNatClampNeg (sby j).length) else none) else none).bind fun q4 => some q4) else none) = _
      rw [if_pos s1, if_pos rfl, shl0, if_pos hak, nI_clamp l31]
      rfl
    rw [hp]
    show some (putI (cpB M1 (fun i => (sby j).getD i 0) (25, z, 0) bs.length (sby j).length) (24, z, 0) 3 ((cpB M1 (fun i => (sby j).getD i 0) (25, z, 0) bs.length (sby j).length).1 (24, z, 0) 3 + slen j)) = _
    rw [(cpB_o (M := M1) (f := fun i => (sby j).getD i 0) (r := (25, z, 0)) (x := (24, z, 0)) (dp := bs.length) (n := (sby j).length) (by simp)).1, s2, show nI bs.length + slen j = nI (bs.length + (sby j).length) from nI_add _ _]
  · refine Off.put (fun r hr => ?_) (by simp [ZB])
    have h6 := g6 r hr
    simp only [ZB, List.mem_cons, List.not_mem_nil, or_false, not_or] at hr
    have h7 := cpB_o (M := M1) (f := fun i => (sby j).getD i 0) (dp := bs.length) (n := (sby j).length) hr.2.1
    exact ⟨h7.1.trans h6.1, h7.2.trans h6.2⟩
/-! a made String -/
def SX (M : Mm) (y : Nat) (bs : List Int32) : Prop := M.1 (28, y, 0) 1 = 0 ∧ M.1 (29, y, 0) LG = nI bs.length ∧ bs.length < LG ∧ (∀ i, i < bs.length → M.1 (29, y, 0) i = bs.getD i 0) ∧ fitB (M.1 (29, y, 0)) bs.length = true
theorem shr0 (x : Int32) : x >>> ((0 : Int32) &&& 31) = x := by
  have e : (0 : Int32) &&& 31 = 0 := by decide
  rw [e]
  exact Int32.shiftRight_zero
theorem slM_ok {M : Mm} {y : Nat} {bs : List Int32} (h : SX M y bs) : fJ0_length_8abf5M M y = some (nI bs.length) := by
  have hLG := LGv
  obtain ⟨h1, h2, h3, -, -⟩ := h
  unfold fJ0_length_8abf5M fJ0_coder_7d493M
  rw [h2, if_pos (nI_0le (by omega)), if_pos h1]
  show some (nI bs.length >>> ((0 : Int32) &&& 31)) = _
  rw [shr0]
