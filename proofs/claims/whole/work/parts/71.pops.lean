/-! changes: what stands against them, and what they do to the reference's box -/
theorem ix_c (x : Int32) {N : Nat} (hN : N < 2 ^ 31) : (∃ j, j < N ∧ x = nI j) ∨ x < 0 ∨ ∃ j, N ≤ j ∧ j < 2 ^ 31 ∧ x = nI j := by
  by_cases h : x < 0
  · exact Or.inr (Or.inl h)
  · obtain ⟨j, hj, rfl⟩ := nI_of h
    by_cases h2 : j < N
    · exact Or.inl ⟨j, h2, rfl⟩
    · exact Or.inr (Or.inr ⟨j, by omega, hj, rfl⟩)
/-- out of a range of indices -/
def ixB (x : Int32) (N : Nat) : Prop := x < 0 ∨ ∃ j, N ≤ j ∧ j < 2 ^ 31 ∧ x = nI j
theorem ix_d (x : Int32) {N : Nat} (hN : N < 2 ^ 31) : (∃ j, j < N ∧ x = nI j) ∨ ixB x N := ix_c x hN
section OPS
variable {M M1 M2 : Mm} {S T U A m0 p0 i : Nat} {g : GF} {P : PF}
theorem tf_ok {m : Nat} (hm : m < 3) : fX0_tuneFault M i (nI m) = 0 := by
  rw [fX0_tuneFault, if_neg (nI_pos (by omega)), if_pos (show nI m < (3 : Int32) from nI_lt (b := 3) hm (by decide))]
theorem tf_no {x : Int32} (hx : ixB x 3) : fX0_tuneFault M i x = 1 := by
  rw [fX0_tuneFault]
  rcases hx with h | ⟨j, h1, h2, rfl⟩
  · rw [if_pos h]
  · rw [if_neg (nI_pos h2), if_neg (show ¬ nI j < (3 : Int32) from nI_nlt (b := 3) h1 h2)]
theorem thf_ok {t : Nat} (h : M.1 (9, i, 0) 2 = nI T) (hT : T ≤ 12) (ht : t < T) : fX0_toothFault M i (nI t) = 0 := by
  rw [fX0_toothFault, h, if_neg (nI_pos (by omega)), if_neg (nI_ge ht (by omega)), if_pos (show nI t < (12 : Int32) from nI_lt (b := 12) (by omega) (by decide))]
theorem thf_no {x : Int32} (h : M.1 (9, i, 0) 2 = nI T) (hx : ixB x T) : fX0_toothFault M i x = 1 := by
  rw [fX0_toothFault, h]
  rcases hx with h | ⟨j, h1, h2, rfl⟩
  · rw [if_pos h]
  · rw [if_neg (nI_pos h2), if_pos (nI_le h1 h2)]
theorem sf_ok {t : Nat} (h : M.1 (10, i, 0) 1 = nI S) (hT : S < 2 ^ 31) (ht : t < S) : fX0_stepFault M i (nI t) = 0 := by
  rw [fX0_stepFault, h, if_neg (nI_pos (by omega)), if_pos (nI_lt ht hT)]
theorem sf_no {x : Int32} (h : M.1 (10, i, 0) 1 = nI S) (hx : ixB x S) : fX0_stepFault M i x = 1 := by
  rw [fX0_stepFault, h]
  rcases hx with h | ⟨j, h1, h2, rfl⟩
  · rw [if_pos h]
  · rw [if_neg (nI_pos h2), if_neg (nI_nlt h1 h2)]
theorem rin_ok {j N : Nat} (hN : N ≤ 2 ^ 30) (hj : j < N) : fX10_in M (nI j) 0 (nI (N - 1)) = 1 := by
  rw [show (0 : Int32) = nI 0 from rfl, rf_in (by omega) (by decide) (by omega), decide_eq_true (by omega)]; rfl
theorem rin_no {x : Int32} {N : Nat} (hN : 1 ≤ N ∧ N ≤ 2 ^ 30) (hx : ixB x N) : fX10_in M x 0 (nI (N - 1)) = 0 := by
  rcases hx with h | ⟨j, h1, h2, rfl⟩
  · rw [fX10_in, if_pos h]
  · rw [show (0 : Int32) = nI 0 from rfl, rf_in (by omega) (by decide) (by omega), decide_eq_false (by omega)]; rfl
theorem rtu_ok {m : Nat} (hm : m < 3) : fX10_isTune M (nI m) = 1 := by
  rw [fX10_isTune, show (2 : Int32) = nI (3 - 1) from rfl, rin_ok (by decide) hm]; rfl
theorem rtu_no {x : Int32} (hx : ixB x 3) : fX10_isTune M x = 0 := by
  rw [fX10_isTune, show (2 : Int32) = nI (3 - 1) from rfl, rin_no (by decide) hx]; rfl
theorem rto_ok {t : Nat} (h : M.1 (19, 0, 0) 3 = nI T) (hT : 1 ≤ T ∧ T ≤ 12) (ht : t < T) : fX10_isTooth M (nI t) = 1 := by
  rw [fX10_isTooth, h, show nI T - (1 : Int32) = nI (T - 1) from pk_sub (b := 1) hT.1, rin_ok (by omega) ht]; rfl
theorem rto_no {x : Int32} (h : M.1 (19, 0, 0) 3 = nI T) (hT : 1 ≤ T ∧ T ≤ 12) (hx : ixB x T) : fX10_isTooth M x = 0 := by
  rw [fX10_isTooth, h, show nI T - (1 : Int32) = nI (T - 1) from pk_sub (b := 1) hT.1, rin_no (by omega) hx]; rfl
theorem rst_ok {t : Nat} (h : M.1 (19, 0, 0) 0 = nI S) (hT : 4 ≤ S ∧ S ≤ 64) (ht : t < S) : fX10_isStep M (nI t) = 1 := by
  rw [fX10_isStep, h, show nI S - (1 : Int32) = nI (S - 1) from pk_sub (b := 1) (by omega), rin_ok (by omega) ht]; rfl
theorem rst_no {x : Int32} (h : M.1 (19, 0, 0) 0 = nI S) (hT : 4 ≤ S ∧ S ≤ 64) (hx : ixB x S) : fX10_isStep M x = 0 := by
  rw [fX10_isStep, h, show nI S - (1 : Int32) = nI (S - 1) from pk_sub (b := 1) (by omega), rin_no (by omega) hx]; rfl
theorem rr_ok {e : Int32} (h : M.1 R8 8 = 0) : fX10_right M 1 e = some (1, M) := by
  rw [fX10_right, h, if_pos rfl, if_neg one_ne, if_pos rfl]
theorem rr_no {e : Int32} (h : M.1 R8 8 = 0) (he : e ≠ 0) : fX10_right M 0 e = some (0, putI M R8 8 e) := by
  rw [fX10_right, h, if_pos rfl, if_pos rfl, if_neg he]
theorem bx_3 (HB : BX M T i g P) (HI : Iv g P S T U A m0 p0) : M.1 (9, i, 0) 2 = nI T := (HB.1 3 (vk_s rfl)).trans HI.2.2.2.1
theorem bx_0 (HB : BX M T i g P) (HI : Iv g P S T U A m0 p0) : M.1 (10, i, 0) 1 = nI S := (HB.1 0 (vk_s rfl)).trans HI.1
theorem rx_3 (HX : RX (M.1 NW) g P) (HI : Iv g P S T U A m0 p0) : M.1 (19, 0, 0) 3 = nI T := (HX.1 3 (by decide)).trans HI.2.2.2.1
theorem rx_0 (HX : RX (M.1 NW) g P) (HI : Iv g P S T U A m0 p0) : M.1 (19, 0, 0) 0 = nI S := (HX.1 0 (by decide)).trans HI.1
theorem mx_00 : fJ9_max_7cf53 M 0 0 = 0 := by rw [fJ9_max_7cf53, if_neg (by decide)]
theorem mx_1 {x : Int32} (h : x = 0 ∨ x = 1) : fJ9_max_7cf53 M 1 x = 1 := by
  rw [fJ9_max_7cf53]
  rcases h with rfl | rfl <;> decide
theorem mx_01 : fJ9_max_7cf53 M 0 1 = 1 := by rw [fJ9_max_7cf53, if_pos (by decide)]
theorem tf_c {x : Int32} : fX0_tuneFault M i x = 0 ∨ fX0_tuneFault M i x = 1 := by
  rw [fX0_tuneFault]
  split
  · simp
  · split <;> simp
theorem thf_c {x : Int32} : fX0_toothFault M i x = 0 ∨ fX0_toothFault M i x = 1 := by
  rw [fX0_toothFault]
  split
  · simp
  · split
    · simp
    · split <;> simp
theorem sf_c {x : Int32} : fX0_stepFault M i x = 0 ∨ fX0_stepFault M i x = 1 := by
  rw [fX0_stepFault]
  split
  · simp
  · split <;> simp
theorem mx_c {x y : Int32} (hx : x = 0 ∨ x = 1) (hy : y = 0 ∨ y = 1) : fJ9_max_7cf53 M x y = 0 ∨ fJ9_max_7cf53 M x y = 1 := by
  rw [fJ9_max_7cf53]
  split
  · exact hy
  · exact hx
theorem place_ok {m t s : Nat} (HB : BX M T i g P) (HI : Iv g P S T U A m0 p0) (hm : m < 3) (ht : t < T) (hs : s < S) : fX0_placeFault M i (nI m) (nI t) (nI s) = 0 := by
  have hT := HI.2.2.2.2.2.2.2.1
  have hS := HI.2.2.2.2.2.2.1
  rw [fX0_placeFault, tf_ok hm, thf_ok (bx_3 HB HI) (by omega) ht, sf_ok (bx_0 HB HI) (by omega) hs, mx_00, mx_00]
/-- where there is no such place: the class and the reference say so -/
theorem place_no {a b c : Int32} (HB : BX M1 T 0 g P) (HX : RX (M2.1 NW) g P) (HI : Iv g P S T U A m0 p0) :
    (∃ m t s, m < 3 ∧ t < T ∧ s < S ∧ a = nI m ∧ b = nI t ∧ c = nI s) ∨ (fX0_placeFault M1 0 a b c = 1 ∧ (fX10_isTune M2 a = 0 ∨ (fX10_isTune M2 a = 1 ∧ (fX10_isTooth M2 b = 0 ∨ (fX10_isTooth M2 b = 1 ∧ fX10_isStep M2 c = 0))))) := by
  have hT := HI.2.2.2.2.2.2.2.1
  have hS := HI.2.2.2.2.2.2.1
  rcases ix_d a (N := 3) (by decide) with ⟨m, hm, rfl⟩ | ha
  · rcases ix_d b (N := T) (by omega) with ⟨t, ht, rfl⟩ | hb
    · rcases ix_d c (N := S) (by omega) with ⟨s, hs, rfl⟩ | hc
      · exact Or.inl ⟨m, t, s, hm, ht, hs, rfl, rfl, rfl⟩
      · refine Or.inr ⟨?_, Or.inr ⟨rtu_ok hm, Or.inr ⟨rto_ok (rx_3 HX HI) hT ht, rst_no (rx_0 HX HI) hS hc⟩⟩⟩
        rw [fX0_placeFault, tf_ok hm, thf_ok (bx_3 HB HI) (by omega) ht, sf_no (bx_0 HB HI) hc, mx_01, mx_01]
    · refine Or.inr ⟨?_, Or.inr ⟨rtu_ok hm, Or.inl (rto_no (rx_3 HX HI) hT hb)⟩⟩
      rw [fX0_placeFault, tf_ok hm, thf_no (bx_3 HB HI) hb, mx_1 sf_c, mx_01]
  · refine Or.inr ⟨?_, Or.inl (rtu_no ha)⟩
    rw [fX0_placeFault, tf_no ha, mx_1 (mx_c thf_c sf_c)]
theorem iv_add {m t s : Nat} (h : Iv g P S T U A m0 p0) (hm : m < 3) (ht : t < T) (hs : s < S) : Iv g (pAdd P m t s) S T U A m0 p0 := by
  obtain ⟨h0, h1, h2, h3, h4, h5, h6, h7, h8, h9, h10, h11, h12, h13⟩ := h
  refine ⟨h0, h1, h2, h3, h4, h5, h6, h7, h8, h9, h10, h11, h12, fun m' t' s' hp => ?_⟩
  unfold pAdd at hp
  simp only [Bool.or_eq_true, decide_eq_true_eq] at hp
  rcases hp with hp | ⟨rfl, rfl, rfl⟩
  · exact h13 _ _ _ hp
  · exact ⟨hm, ht, hs⟩
theorem iv_sub {P' : PF} (h : Iv g P S T U A m0 p0) (hP : ∀ m t s, P' m t s = true → P m t s = true) : Iv g P' S T U A m0 p0 := by
  obtain ⟨h0, h1, h2, h3, h4, h5, h6, h7, h8, h9, h10, h11, h12, h13⟩ := h
  exact ⟨h0, h1, h2, h3, h4, h5, h6, h7, h8, h9, h10, h11, h12, fun m' t' s' hp => h13 _ _ _ (hP _ _ _ hp)⟩
theorem pDel_le {m t s : Nat} : ∀ m' t' s', pDel P m t s m' t' s' = true → P m' t' s' = true := fun m' t' s' h => by
  unfold pDel at h
  simp only [Bool.and_eq_true] at h
  exact h.1
/-- the reference turns a pin on or off -/
theorem rx_xor {f : GF} {m t s : Nat} (h : RX f g P) (hm : m < 3) (ht : t < 32) (hs : s < 64) : RX (upd f (88 + 64 * m + s) (f (88 + 64 * m + s) ^^^ ((1 : Int32) <<< (nI t &&& 31)))) g (if P m t s = true then pDel P m t s else pAdd P m t s) := by
  refine rx_P (fun m' t' s' _ ht' _ => ?_) (rx_set (m := m) (s := s) (q := fun t' => P m t' s ^^ decide (t' = t)) hs (fun t' ht' => ?_) h)
  · by_cases e : m' = m ∧ s' = s
    · rw [if_pos e, e.1, e.2]
      by_cases et : t' = t
      · subst et
        cases hp : P m t' s <;> simp [pDel, pAdd]
      · cases hp : P m t s <;> simp [pDel, pAdd, et]
    · rw [if_neg e]
      have : ¬ (m' = m ∧ t' = t ∧ s' = s) := fun c => e ⟨c.1, c.2.2⟩
      cases hp : P m t s <;> simp [pDel, pAdd, this]
  · rw [b_xor, h.2 m hm s hs t' ht', b_one t ht ht']
theorem op_pin {a b c x : Int32} {on : Bool} (hx : x = bI on) (HB : BX M1 T 0 g P) (HX : RX (M2.1 NW) g P) (HI : Iv g P S T U A m0 p0) (h8 : M2.1 R8 8 = 0) :
    (fX0_placeFault M1 0 a b c = 1 ∧ fX10_pinning M2 a b c x = some (0, putI M2 R8 8 1)) ∨
    (∃ m t s, m < 3 ∧ t < T ∧ s < S ∧ a = nI m ∧ b = nI t ∧ c = nI s ∧ fX0_placeFault M1 0 a b c = 0 ∧ fX3_hasPin M1 0 a b c = some (bI (P m t s)) ∧
      ((P m t s = on ∧ fX10_pinning M2 a b c x = some (0, putI M2 R8 8 2)) ∨
       (P m t s = !on ∧ ∀ N, fX10_changes M2 = some N → RX (N.1 NW) g P → ∃ N', fX10_pinning M2 a b c x = some (nI (pnS (if P m t s = true then pDel P m t s else pAdd P m t s) S T m), N') ∧ RX (N'.1 NW) g (if P m t s = true then pDel P m t s else pAdd P m t s) ∧ Fr sNW N N'))) := by
  subst hx
  have hT := HI.2.2.2.2.2.2.2.1
  have hS := HI.2.2.2.2.2.2.1
  rcases place_no (a := a) (b := b) (c := c) HB HX HI with ⟨m, t, s, hm, ht, hs, rfl, rfl, rfl⟩ | ⟨h1, h2⟩
  · refine Or.inr ⟨m, t, s, hm, ht, hs, rfl, rfl, rfl, place_ok HB HI hm ht hs, cl_hasPin HB hm (by omega) (by omega), ?_⟩
    have hd : ∀ {r : Option (Int32 × Mm)}, (if bI (P m t s) = bI on then ((fX10_right M2 (0 : Int32) (2 : Int32)).bind fun q94 => if q94.1 = 0 then some ((0 : Int32), q94.2) else (fX10_changes q94.2).bind fun q97 => (fX10_set q97 (nI m) (nI s)).bind fun q99 => (fX10_putSet q97 (nI m) (nI s) (q99 ^^^ ((1 : Int32) <<< (nI t &&& 31)))).bind fun q101 => (fX10_pins q101 (nI m)).bind fun q103 => some (q103, q101)) else (fX10_right M2 (1 : Int32) (2 : Int32)).bind fun q105 => if q105.1 = 0 then some ((0 : Int32), q105.2) else (fX10_changes q105.2).bind fun q108 => (fX10_set q108 (nI m) (nI s)).bind fun q110 => (fX10_putSet q108 (nI m) (nI s) (q110 ^^^ ((1 : Int32) <<< (nI t &&& 31)))).bind fun q112 => (fX10_pins q112 (nI m)).bind fun q114 => some (q114, q112)) = r → fX10_pinning M2 (nI m) (nI t) (nI s) (bI on) = r := fun {r} hr => by
      rw [fX10_pinning, rtu_ok hm, if_neg one_ne, rto_ok (rx_3 HX HI) hT ht, if_neg one_ne, rst_ok (rx_0 HX HI) hS hs, if_neg one_ne, rr_ok h8, Option.bind_some, if_neg one_ne]
      dsimp only
      rw [rf_has HX hm (by omega) (by omega), Option.bind_some]
      exact hr
    by_cases e : P m t s = on
    · refine Or.inl ⟨e, hd ?_⟩
      rw [if_pos (by rw [e]), rr_no h8 (by decide), Option.bind_some, if_pos rfl]
    · refine Or.inr ⟨by cases h3 : P m t s <;> cases on <;> simp_all, fun N hN hNX => ?_⟩
      have ne : ¬ bI (P m t s) = bI on := by
        revert e
        cases P m t s <;> cases on <;> simp [bI]
      have hx := rx_xor (f := N.1 NW) hNX hm (show t < 32 by omega) (show s < 64 by omega)
      rw [← g_row] at hx
      refine ⟨_, hd ?_, hx, fr_putI rfl⟩
      rw [if_neg ne, rr_ok h8, Option.bind_some, if_neg one_ne]
      dsimp only
      rw [hN, Option.bind_some, rf_set hm (by omega), Option.bind_some, rf_putSet hm (by omega), Option.bind_some, rf_pins' hx HI.1 hS.2 HI.2.2.2.1 hT.2 hm, Option.bind_some]
  · refine Or.inl ⟨h1, ?_⟩
    rcases h2 with h2 | ⟨h2, h3 | ⟨h3, h4⟩⟩
    · rw [fX10_pinning, h2, if_pos rfl, rr_no h8 (by decide), Option.bind_some, if_pos rfl]
    · rw [fX10_pinning, h2, if_neg one_ne, h3, if_pos rfl, rr_no h8 (by decide), Option.bind_some, if_pos rfl]
    · rw [fX10_pinning, h2, if_neg one_ne, h3, if_neg one_ne, h4, if_pos rfl, rr_no h8 (by decide), Option.bind_some, if_pos rfl]
/-- values out of a range low .. high -/
theorem rg_c (M : Mm) (x l h : Int32) : (fX9_rangeFault M x l h = 0 ∧ fX10_in M2 x l h = 1 ∧ l ≤ x ∧ x ≤ h) ∨ (fX9_rangeFault M x l h = 2 ∧ fX10_in M2 x l h = 0) := by
  rw [fX9_rangeFault, fX10_in]
  by_cases h1 : x < l
  · rw [if_pos h1, if_pos h1]; exact Or.inr ⟨rfl, rfl⟩
  · rw [if_neg h1, if_neg h1]
    by_cases h2 : x ≤ h
    · rw [if_pos h2, if_neg (Int32.not_lt.mpr h2)]; exact Or.inl ⟨rfl, rfl, Int32.not_lt.mp h1, h2⟩
    · rw [if_neg h2, if_pos (Int32.not_le.mp h2)]; exact Or.inr ⟨rfl, rfl⟩
end OPS
