/-! changes of the comb, the spring, the vane -/
section OP2
variable {M M1 M2 : Mm} {S T U A m0 p0 i : Nat} {g : GF} {P : PF}
theorem tooth_c {b : Int32} (HB : BX M1 T i g P) (HX : RX (M2.1 NW) g P) (HI : Iv g P S T U A m0 p0) : (∃ t, t < T ∧ b = nI t ∧ fX0_toothFault M1 i b = 0 ∧ fX10_isTooth M2 b = 1) ∨ (fX0_toothFault M1 i b = 1 ∧ fX10_isTooth M2 b = 0) := by
  have hT := HI.2.2.2.2.2.2.2.1
  rcases ix_d b (N := T) (by omega) with ⟨t, ht, rfl⟩ | hb
  · exact Or.inl ⟨t, ht, rfl, thf_ok (bx_3 HB HI) (by omega) ht, rto_ok (rx_3 HX HI) hT ht⟩
  · exact Or.inr ⟨thf_no (bx_3 HB HI) hb, rto_no (rx_3 HX HI) hT hb⟩
theorem tune_c {b : Int32} : (∃ m, m < 3 ∧ b = nI m ∧ fX0_tuneFault M1 i b = 0 ∧ fX10_isTune M2 b = 1) ∨ (fX0_tuneFault M1 i b = 1 ∧ fX10_isTune M2 b = 0) := by
  rcases ix_d b (N := 3) (by decide) with ⟨t, ht, rfl⟩ | hb
  · exact Or.inl ⟨t, ht, rfl, tf_ok ht, rtu_ok ht⟩
  · exact Or.inr ⟨tf_no hb, rtu_no hb⟩
/-- a cell of a tooth other than pitch and bend may be anything -/
theorem iv_t {t q : Nat} {v : Int32} (h : Iv g P S T U A m0 p0) (hq : 2 ≤ q ∧ q < 6) : Iv (upd g (16 + 6 * t + q) v) P S T U A m0 p0 := by
  obtain ⟨h0, h1, h2, h3, h4, h5, h6, h7, h8, h9, h10, h11, h12, h13⟩ := h
  refine ⟨(upd_o (by omega)).trans h0, (upd_o (by omega)).trans h1, (upd_o (by omega)).trans h2, (upd_o (by omega)).trans h3, (upd_o (by omega)).trans h4, (upd_o (by omega)).trans h5, h6, h7, h8, h9, h10, h11, fun t' ht' => ?_, h13⟩
  rw [upd_o (by omega), upd_o (by omega)]
  exact h12 t' ht'
theorem iv_k {k : Nat} {v : Int32} (h : Iv g P S T U A m0 p0) (hk : 6 ≤ k ∧ k < 16) : Iv (upd g k v) P S T U A m0 p0 := by
  obtain ⟨h0, h1, h2, h3, h4, h5, h6, h7, h8, h9, h10, h11, h12, h13⟩ := h
  refine ⟨(upd_o (by omega)).trans h0, (upd_o (by omega)).trans h1, (upd_o (by omega)).trans h2, (upd_o (by omega)).trans h3, (upd_o (by omega)).trans h4, (upd_o (by omega)).trans h5, h6, h7, h8, h9, h10, h11, fun t' ht' => ?_, h13⟩
  rw [upd_o (by omega), upd_o (by omega)]
  exact h12 t' ht'
theorem iv_b {t : Nat} {v : Int32} (h : Iv g P S T U A m0 p0) (hv : -3 ≤ v ∧ v ≤ 3) : Iv (upd g (16 + 6 * t + 1) v) P S T U A m0 p0 := by
  obtain ⟨h0, h1, h2, h3, h4, h5, h6, h7, h8, h9, h10, h11, h12, h13⟩ := h
  refine ⟨(upd_o (by omega)).trans h0, (upd_o (by omega)).trans h1, (upd_o (by omega)).trans h2, (upd_o (by omega)).trans h3, (upd_o (by omega)).trans h4, (upd_o (by omega)).trans h5, h6, h7, h8, h9, h10, h11, fun t' ht' => ?_, h13⟩
  rw [upd_o (by omega)]
  refine ⟨(h12 t' ht').1, ?_⟩
  by_cases e : t' = t
  · subst e; rw [upd_s]; exact hv
  · rw [upd_o (by omega)]; exact (h12 t' ht').2
theorem iv_2 {A' : Nat} (h : Iv g P S T U A m0 p0) (hA : A' ≤ 90) : Iv (upd g 2 (nI A')) P S T U A' m0 p0 := by
  obtain ⟨h0, h1, h2, h3, h4, h5, h6, h7, h8, h9, h10, h11, h12, h13⟩ := h
  refine ⟨(upd_o (by omega)).trans h0, (upd_o (by omega)).trans h1, upd_s, (upd_o (by omega)).trans h3, (upd_o (by omega)).trans h4, (upd_o (by omega)).trans h5, h6, h7, h8, hA, h10, h11, fun t' ht' => ?_, h13⟩
  rw [upd_o (by omega), upd_o (by omega)]
  exact h12 t' ht'
theorem iv_1 {U' : Nat} (h : Iv g P S T U A m0 p0) (hU : U' ≤ 20) : Iv (upd g 1 (nI U')) P S T U' A m0 p0 := by
  obtain ⟨h0, h1, h2, h3, h4, h5, h6, h7, h8, h9, h10, h11, h12, h13⟩ := h
  refine ⟨(upd_o (by omega)).trans h0, upd_s, (upd_o (by omega)).trans h2, (upd_o (by omega)).trans h3, (upd_o (by omega)).trans h4, (upd_o (by omega)).trans h5, h6, h7, hU, h9, h10, h11, fun t' ht' => ?_, h13⟩
  rw [upd_o (by omega), upd_o (by omega)]
  exact h12 t' ht'
theorem iv_4 {m' : Nat} (h : Iv g P S T U A m0 p0) (hm : m' < 3) : Iv (upd g 4 (nI m')) P S T U A m' p0 := by
  obtain ⟨h0, h1, h2, h3, h4, h5, h6, h7, h8, h9, h10, h11, h12, h13⟩ := h
  refine ⟨(upd_o (by omega)).trans h0, (upd_o (by omega)).trans h1, (upd_o (by omega)).trans h2, (upd_o (by omega)).trans h3, upd_s, (upd_o (by omega)).trans h5, h6, h7, h8, h9, hm, h11, fun t' ht' => ?_, h13⟩
  rw [upd_o (by omega), upd_o (by omega)]
  exact h12 t' ht'
theorem op_gap {b x : Int32} (HB : BX M1 T 0 g P) (HX : RX (M2.1 NW) g P) (HI : Iv g P S T U A m0 p0) (h8 : M2.1 R8 8 = 0) :
    (fX0_gapFault M1 0 b x = 1 ∧ fX10_gapping M2 b x = some (0, putI M2 R8 8 1)) ∨ (fX0_gapFault M1 0 b x = 2 ∧ fX10_gapping M2 b x = some (0, putI M2 R8 8 2)) ∨
    (∃ t, t < T ∧ b = nI t ∧ fX0_gapFault M1 0 b x = 0 ∧ ∀ N, fX10_changes M2 = some N → RX (N.1 NW) g P → ∃ N', fX10_gapping M2 b x = some (g (16 + 6 * t + 2), N') ∧ RX (N'.1 NW) (upd g (16 + 6 * t + 2) x) P ∧ Fr sNW N N') := by
  have hT := HI.2.2.2.2.2.2.2.1
  rcases tooth_c (b := b) HB HX HI with ⟨t, ht, rfl, f1, f2⟩ | ⟨f1, f2⟩
  · rcases rg_c (M2 := M2) M1 x 1 9 with ⟨r1, r2, -⟩ | ⟨r1, r2⟩
    · refine Or.inr (Or.inr ⟨t, ht, rfl, by rw [fX0_gapFault, f1, if_pos rfl, r1], fun N hN hNX => ?_⟩)
      refine ⟨_, ?_, rx_pI (k := 16 + 6 * t + 2) (v := x) (by omega) hNX, fr_putI rfl⟩
      rw [fX10_gapping, f2, rr_ok h8, Option.bind_some, if_neg one_ne]
      dsimp only
      rw [r2, rr_ok h8, Option.bind_some, if_neg one_ne]
      dsimp only
      rw [hN, Option.bind_some, rf_of (p := 2) (q := 2) hNX (by omega) (by decide) rfl, Option.bind_some, rf_puts (p := 2) (q := 2) (by omega) (by decide) rfl, Option.bind_some]
    · refine Or.inr (Or.inl ⟨by rw [fX0_gapFault, f1, if_pos rfl, r1], ?_⟩)
      rw [fX10_gapping, f2, rr_ok h8, Option.bind_some, if_neg one_ne]
      dsimp only
      rw [r2, rr_no h8 (by decide), Option.bind_some, if_pos rfl]
  · refine Or.inl ⟨by rw [fX0_gapFault, f1, if_neg (by decide)], ?_⟩
    rw [fX10_gapping, f2, rr_no h8 (by decide), Option.bind_some, if_pos rfl]
theorem in3_c (M : Mm) (x : Int32) : (x < -3 ∨ ¬ x ≤ 3) ∧ fX10_in M x (-3) 3 = 0 ∨ (¬ x < -3 ∧ x ≤ 3) ∧ fX10_in M x (-3) 3 = 1 := by
  rw [fX10_in]
  by_cases h1 : x < -3
  · rw [if_pos h1]; exact Or.inl ⟨Or.inl h1, rfl⟩
  · rw [if_neg h1]
    by_cases h2 : x ≤ 3
    · rw [if_neg (Int32.not_lt.mpr h2)]; exact Or.inr ⟨⟨h1, h2⟩, rfl⟩
    · rw [if_pos (Int32.not_le.mp h2)]; exact Or.inl ⟨Or.inr h2, rfl⟩
/-- what a bend makes of the numbers -/
def bnS (g : GF) (t : Nat) (x : Int32) : GF := upd (upd (upd g (16 + 6 * t + 1) (g (16 + 6 * t + 1) + x)) (16 + 6 * t + 4) (g (16 + 6 * t + 4) + 3)) 9 (g 9 + 1)
theorem op_bend {b x : Int32} (HB : BX M1 T 0 g P) (HX : RX (M2.1 NW) g P) (HI : Iv g P S T U A m0 p0) (h8 : M2.1 R8 8 = 0) :
    (∃ f, (f = 1 ∨ f = 2 ∨ f = 3) ∧ fX0_bendFault M1 0 b x = some f ∧ fX10_bending M2 b x = some (0, putI M2 R8 8 f)) ∨
    (∃ t, t < T ∧ b = nI t ∧ fX0_bendFault M1 0 b x = some 0 ∧ (-3 ≤ g (16 + 6 * t + 1) + x ∧ g (16 + 6 * t + 1) + x ≤ 3) ∧ ∀ N, fX10_changes M2 = some N → RX (N.1 NW) g P → ∃ N', fX10_bending M2 b x = some (g (16 + 6 * t + 1) + x, N') ∧ RX (N'.1 NW) (bnS g t x) P ∧ Fr sNW N N') := by
  have hT := HI.2.2.2.2.2.2.2.1
  rcases tooth_c (b := b) HB HX HI with ⟨t, ht, rfl, f1, f2⟩ | ⟨f1, f2⟩
  · have hg : ¬ (nI t < 0 ∨ 12 ≤ (nI t).toNatClampNeg) := nI_in (by omega) (by decide)
    have hcl : (nI t).toNatClampNeg = t := nI_clamp (by omega)
    have hbr := cl_brB HB ht
    have hbd := bx_t HB ht (show 1 < 6 by decide)
    have hfb := rf_bad HX (show t < 12 by omega)
    have hof := rf_of (p := 1) (q := 1) HX (show t < 12 by omega) (by decide) rfl
    have hcls : ∀ {r : Option Int32}, (if x = 0 then some (2 : Int32) else if x < -3 then some 2 else if x ≤ 3 then (if bI (brS g t) = 0 then (if (g (16 + 6 * t + 1) + x) < -3 then some 3 else if (g (16 + 6 * t + 1) + x) ≤ 3 then some 0 else some 3) else some 3) else some 2) = r → fX0_bendFault M1 0 (nI t) x = r := fun {r} hr => by
      rw [fX0_bendFault, f1, if_pos rfl]
      simp only [hg, if_false]
      rw [hcl, hbr, hbd]
      exact hr
    have bad2 : (x = 0 ∨ x < -3 ∨ ¬ x ≤ 3) → fX10_bending M2 (nI t) x = some (0, putI M2 R8 8 2) := by
      intro hx
      rw [fX10_bending, f2, rr_ok h8, Option.bind_some, if_neg one_ne]
      dsimp only
      rcases in3_c M2 x with ⟨c1, c2⟩ | ⟨c1, c2⟩
      · rw [c2, if_pos rfl, rr_no h8 (by decide), Option.bind_some, if_pos rfl]
      · have e0 : x = 0 := by
          rcases hx with h | h | h
          · exact h
          · exact absurd h c1.1
          · exact absurd c1.2 h
        rw [c2, if_neg one_ne, if_pos e0, rr_no h8 (by decide), Option.bind_some, if_pos rfl]
    by_cases x0 : x = 0
    · exact Or.inl ⟨2, by decide, hcls (if_pos x0), bad2 (Or.inl x0)⟩
    · by_cases x1 : x < -3
      · exact Or.inl ⟨2, by decide, hcls (by rw [if_neg x0, if_pos x1]), bad2 (Or.inr (Or.inl x1))⟩
      · by_cases x2 : x ≤ 3
        · have c2 : fX10_in M2 x (-3) 3 = 1 := by
            rcases in3_c M2 x with ⟨c1, c2⟩ | ⟨c1, c2⟩
            · rcases c1 with c1 | c1
              · exact absurd c1 x1
              · exact absurd x2 c1
            · exact c2
          have hr : ∀ {r : Option (Int32 × Mm)}, (if bI (brS g t) = 0 then ((fX10_of M2 (nI t) (1 : Int32)).bind fun q135 => if (fX10_in M2 (q135 + x) (-3 : Int32) (3 : Int32)) = 0 then some ((0 : Int32), putI M2 R8 8 3) else (fX10_right M2 (1 : Int32) (3 : Int32)).bind fun q153 => if q153.1 = 0 then some ((0 : Int32), q153.2) else (fX10_changes q153.2).bind fun q156 => (fX10_of q156 (nI t) (1 : Int32)).bind fun q158 => (fX10_puts q156 (nI t) (1 : Int32) (q158 + x)).bind fun q160 => (fX10_of q160 (nI t) (4 : Int32)).bind fun q162 => (fX10_puts q160 (nI t) (4 : Int32) (q162 + (3 : Int32))).bind fun q164 => (fX10_of (putI q164 (19, 0, 0) 9 ((q164.1 (19, 0, 0) 9) + (1 : Int32))) (nI t) (1 : Int32)).bind fun q166 => some (q166, (putI q164 (19, 0, 0) 9 ((q164.1 (19, 0, 0) 9) + (1 : Int32))))) else some ((0 : Int32), putI M2 R8 8 3)) = r → fX10_bending M2 (nI t) x = r := fun {r} hr => by
            rw [fX10_bending, f2, rr_ok h8, Option.bind_some, if_neg one_ne]
            dsimp only
            rw [c2, if_neg one_ne, if_neg x0, rr_ok h8, Option.bind_some, if_neg one_ne]
            dsimp only
            rw [hfb, Option.bind_some, rr_no h8 (by decide), Option.bind_some, if_pos rfl]
            exact hr
          cases hb : brS g t with
          | true =>
            rw [hb] at hr hcls
            exact Or.inl ⟨3, by decide, hcls (by rw [if_neg x0, if_neg x1, if_pos x2, if_neg (by decide)]), hr (by rw [if_neg (by decide)])⟩
          | false =>
            rw [hb] at hr hcls
            rcases in3_c M2 (g (16 + 6 * t + 1) + x) with ⟨d1, d2⟩ | ⟨d1, d2⟩
            · refine Or.inl ⟨3, by decide, hcls ?_, hr ?_⟩
              · rw [if_neg x0, if_neg x1, if_pos x2, if_pos (bI_0.mpr rfl)]
                rcases d1 with d1 | d1
                · rw [if_pos d1]
                · rw [if_neg d1]; split <;> rfl
              · rw [if_pos (bI_0.mpr rfl), hof, Option.bind_some, d2, if_pos rfl]
            · refine Or.inr ⟨t, ht, rfl, hcls ?_, ⟨Int32.not_lt.mp d1.1, d1.2⟩, fun N hN hNX => ?_⟩
              · rw [if_neg x0, if_neg x1, if_pos x2, if_pos (bI_0.mpr rfl), if_neg d1.1, if_pos d1.2]
              · have n1 := rx_pI (k := 16 + 6 * t + 1) (v := g (16 + 6 * t + 1) + x) (by omega) hNX
                have n2 := rx_pI (k := 16 + 6 * t + 4) (v := g (16 + 6 * t + 4) + 3) (by omega) n1
                have n3 := rx_pI (k := 9) (v := g 9 + 1) (by decide) n2
                have o4 := rf_of (p := 4) (q := 4) n1 (show t < 12 by omega) (by decide) rfl
                rw [upd_o (by omega)] at o4
                have o1 := rf_of (p := 1) (q := 1) n3 (show t < 12 by omega) (by decide) rfl
                rw [upd_o (by omega), upd_o (by omega), upd_s] at o1
                have e9 : (putI (putI N NW (16 + 6 * t + 1) (g (16 + 6 * t + 1) + x)) NW (16 + 6 * t + 4) (g (16 + 6 * t + 4) + 3)).1 NW 9 = g 9 := (n2.1 9 (by decide)).trans (by rw [upd_o (by omega), upd_o (by omega)])
                refine ⟨putI (putI (putI N NW (16 + 6 * t + 1) (g (16 + 6 * t + 1) + x)) NW (16 + 6 * t + 4) (g (16 + 6 * t + 4) + 3)) NW 9 (g 9 + 1), hr ?_, n3, fr_pI (fr_pI (fr_putI rfl) rfl) rfl⟩
                rw [if_pos (bI_0.mpr rfl), hof, Option.bind_some, d2, if_neg one_ne, rr_ok h8, Option.bind_some, if_neg one_ne]
                dsimp only
                rw [hN, Option.bind_some, rf_of (p := 1) (q := 1) hNX (show t < 12 by omega) (by decide) rfl, Option.bind_some, rf_puts (p := 1) (q := 1) (by omega) (by decide) rfl, Option.bind_some, o4, Option.bind_some, rf_puts (p := 4) (q := 4) (by omega) (by decide) rfl, Option.bind_some, e9, o1, Option.bind_some]
        · exact Or.inl ⟨2, by decide, hcls (by rw [if_neg x0, if_neg x1, if_neg x2]), bad2 (Or.inr (Or.inr x2))⟩
  · refine Or.inl ⟨1, by decide, by rw [fX0_bendFault, f1, if_neg (by decide)], ?_⟩
    rw [fX10_bending, f2, rr_no h8 (by decide), Option.bind_some, if_pos rfl]
/-- a tooth is replaced -/
def mdS (g : GF) (t : Nat) : GF := upd (upd (upd (upd g 10 (g 10 + g (16 + 6 * t + 4))) (16 + 6 * t + 1) 0) (16 + 6 * t + 4) 0) (16 + 6 * t + 5) 99
theorem op_mend {b : Int32} (HB : BX M1 T 0 g P) (HX : RX (M2.1 NW) g P) (HI : Iv g P S T U A m0 p0) (h8 : M2.1 R8 8 = 0) :
    (fX0_toothFault M1 0 b = 1 ∧ fX10_replacing M2 b = some (0, putI M2 R8 8 1)) ∨
    (∃ t, t < T ∧ b = nI t ∧ fX0_toothFault M1 0 b = 0 ∧ ∀ N, fX10_changes M2 = some N → RX (N.1 NW) g P → ∃ N', fX10_replacing M2 b = some (g (16 + 6 * t + 4), N') ∧ RX (N'.1 NW) (mdS g t) P ∧ Fr sNW N N') := by
  have hT := HI.2.2.2.2.2.2.2.1
  rcases tooth_c (b := b) HB HX HI with ⟨t, ht, rfl, f1, f2⟩ | ⟨f1, f2⟩
  · refine Or.inr ⟨t, ht, rfl, f1, fun N hN hNX => ?_⟩
    have e10 : N.1 (19, 0, 0) 10 = g 10 := hNX.1 10 (by decide)
    have n1 := rx_pI (k := 10) (v := g 10 + g (16 + 6 * t + 4)) (by decide) hNX
    have n2 := rx_pI (k := 16 + 6 * t + 5) (v := 99) (by omega) (rx_pI (k := 16 + 6 * t + 4) (v := 0) (by omega) (rx_pI (k := 16 + 6 * t + 1) (v := 0) (by omega) n1))
    refine ⟨_, ?_, n2, fr_pI (fr_pI (fr_pI (fr_putI rfl) rfl) rfl) rfl⟩
    rw [fX10_replacing, f2, rr_ok h8, Option.bind_some, if_neg one_ne]
    dsimp only
    rw [hN, Option.bind_some, rf_of (p := 4) (q := 4) hNX (by omega) (by decide) rfl, Option.bind_some, e10, rf_puts (p := 1) (q := 1) (by omega) (by decide) rfl, Option.bind_some, rf_puts (p := 4) (q := 4) (by omega) (by decide) rfl, Option.bind_some, rf_puts (p := 5) (q := 5) (by omega) (by decide) rfl, Option.bind_some]
  · refine Or.inl ⟨f1, ?_⟩
    rw [fX10_replacing, f2, rr_no h8 (by decide), Option.bind_some, if_pos rfl]
theorem op_vane {x : Int32} (HX : RX (M2.1 NW) g P) (h8 : M2.1 R8 8 = 0) :
    (fX9_rangeFault M1 x 0 90 = 2 ∧ fX10_vaning M2 x = some (0, putI M2 R8 8 1)) ∨
    (∃ a, a ≤ 90 ∧ x = nI a ∧ fX9_rangeFault M1 x 0 90 = 0 ∧ ∀ N, fX10_changes M2 = some N → RX (N.1 NW) g P → ∃ N', fX10_vaning M2 x = some (g 2, N') ∧ RX (N'.1 NW) (upd g 2 x) P ∧ Fr sNW N N') := by
  rcases rg_c (M2 := M2) M1 x 0 90 with ⟨r1, r2, r3, r4⟩ | ⟨r1, r2⟩
  · obtain ⟨a, ha, rfl⟩ := nI_of2 (x := x) (M := 90) (n := 90) (by decide) (Int32.not_lt.mpr r3) r4
    refine Or.inr ⟨a, ha, rfl, r1, fun N hN hNX => ⟨_, ?_, rx_pI (k := 2) (v := nI a) (by decide) hNX, fr_putI rfl⟩⟩
    rw [fX10_vaning, r2, rr_ok h8, Option.bind_some, if_neg one_ne]
    dsimp only
    rw [hN, Option.bind_some, show N.1 (19, 0, 0) 2 = g 2 from hNX.1 2 (by decide)]
  · refine Or.inl ⟨r1, ?_⟩
    rw [fX10_vaning, r2, rr_no h8 (by decide), Option.bind_some, if_pos rfl]
theorem op_wind {x : Int32} (HB : BX M1 T 0 g P) (HX : RX (M2.1 NW) g P) (HI : Iv g P S T U A m0 p0) (h8 : M2.1 R8 8 = 0) :
    (fX0_windFault M1 0 x = 2 ∧ fX10_winding M2 x = some (0, putI M2 R8 8 1)) ∨ (fX0_windFault M1 0 x = 3 ∧ fX10_winding M2 x = some (0, putI M2 R8 8 2)) ∨
    (∃ w, U + w ≤ 20 ∧ x = nI w ∧ fX0_windFault M1 0 x = 0 ∧ ∀ N, fX10_changes M2 = some N → RX (N.1 NW) g P → ∃ N', fX10_winding M2 x = some (nI (U + w), N') ∧ RX (N'.1 NW) (upd g 1 (nI (U + w))) P ∧ Fr sNW N N') := by
  have e1 : M1.1 (9, 0, 0) 3 = nI U := (HB.1 1 (vk_s rfl)).trans HI.2.1
  have e2 : M2.1 (19, 0, 0) 1 = nI U := (HX.1 1 (by decide)).trans HI.2.1
  have hU : U ≤ 20 := HI.2.2.2.2.2.2.2.2.1
  rw [fX0_windFault, e1]
  rcases rg_c (M2 := M2) M1 x 1 20 with ⟨r1, r2, r3, r4⟩ | ⟨r1, r2⟩
  · obtain ⟨w, hw, rfl⟩ := nI_of2 (x := x) (M := 20) (n := 20) (by decide) (Int32.not_lt.mpr (Int32.le_trans (by decide) r3)) r4
    rw [if_neg (Int32.not_lt.mpr r3), if_pos r4, nI_add]
    by_cases c : U + w ≤ 20
    · rw [if_pos (show nI (U + w) ≤ (20 : Int32) from nI_le (b := 20) c (by decide))]
      refine Or.inr (Or.inr ⟨w, c, rfl, rfl, fun N hN hNX => ⟨_, ?_, rx_pI (k := 1) (v := nI (U + w)) (by decide) hNX, fr_putI rfl⟩⟩)
      have e3 : N.1 (19, 0, 0) 1 = nI U := (hNX.1 1 (by decide)).trans HI.2.1
      rw [fX10_winding, r2, rr_ok h8, Option.bind_some, if_neg one_ne]
      dsimp only
      rw [e2, nI_add, if_neg (show ¬ (20 : Int32) < nI (U + w) from nI_nlt (a := 20) c (by decide)), rr_ok h8, Option.bind_some, if_neg one_ne]
      dsimp only
      rw [hN, Option.bind_some, e3, nI_add]
    · rw [if_neg (show ¬ nI (U + w) ≤ (20 : Int32) from nI_ge (a := 20) (by omega) (by omega))]
      refine Or.inr (Or.inl ⟨rfl, ?_⟩)
      rw [fX10_winding, r2, rr_ok h8, Option.bind_some, if_neg one_ne]
      dsimp only
      rw [e2, nI_add, if_pos (show (20 : Int32) < nI (U + w) from nI_lt (a := 20) (by omega) (by omega)), rr_no h8 (by decide), Option.bind_some, if_pos rfl]
  · refine Or.inl ⟨?_, ?_⟩
    · rw [fX9_rangeFault] at r1
      by_cases h1 : x < 1
      · rw [if_pos h1]
      · rw [if_neg h1] at r1 ⊢
        by_cases h2 : x ≤ 20
        · rw [if_pos h2] at r1; exact absurd r1 (by decide)
        · rw [if_neg h2]
    · rw [fX10_winding, r2, rr_no h8 (by decide), Option.bind_some, if_pos rfl]
theorem op_tune {x : Int32} (HX : RX (M2.1 NW) g P) (h8 : M2.1 R8 8 = 0) :
    (fX0_tuneFault M1 0 x = 1 ∧ fX10_selecting M2 x = some (0, putI M2 R8 8 1)) ∨
    (∃ m, m < 3 ∧ x = nI m ∧ fX0_tuneFault M1 0 x = 0 ∧ ∀ N, fX10_changes M2 = some N → RX (N.1 NW) g P → ∃ N', fX10_selecting M2 x = some (g 4, N') ∧ RX (N'.1 NW) (upd g 4 x) P ∧ Fr sNW N N') := by
  rcases tune_c (M1 := M1) (M2 := M2) (i := 0) (b := x) with ⟨m, hm, rfl, f1, f2⟩ | ⟨f1, f2⟩
  · refine Or.inr ⟨m, hm, rfl, f1, fun N hN hNX => ⟨_, ?_, rx_pI (k := 4) (v := nI m) (by decide) hNX, fr_putI rfl⟩⟩
    rw [fX10_selecting, f2, rr_ok h8, Option.bind_some, if_neg one_ne]
    dsimp only
    rw [hN, Option.bind_some, show N.1 (19, 0, 0) 4 = g 4 from hNX.1 4 (by decide)]
  · refine Or.inl ⟨f1, ?_⟩
    rw [fX10_selecting, f2, rr_no h8 (by decide), Option.bind_some, if_pos rfl]
theorem op_play {x : Int32} (HB : BX M1 T 0 g P) (HX : RX (M2.1 NW) g P) (HI : Iv g P S T U A m0 p0) (h8 : M2.1 R8 8 = 0) :
    (fX0_playFault M1 0 x = 2 ∧ fX10_playing M2 x = some (0, putI M2 R8 8 1)) ∨ (fX0_playFault M1 0 x = 3 ∧ fX10_playing M2 x = some (0, putI M2 R8 8 2)) ∨
    (∃ w, w ≤ 300 ∧ x = nI w ∧ fX0_playFault M1 0 x = 0 ∧ ∀ N, fX10_changes M2 = some N → RX (N.1 NW) g P → ∃ N', fX10_playing M2 x = some (nI (playN P S T m0 w g p0 U).1, N') ∧ RX (N'.1 NW) (playN P S T m0 w g p0 U).2.1 P ∧ Fr sNW N N') := by
  have e1 : M1.1 (9, 0, 0) 3 = nI U := (HB.1 1 (vk_s rfl)).trans HI.2.1
  have e2 : M2.1 (19, 0, 0) 1 = nI U := (HX.1 1 (by decide)).trans HI.2.1
  have hU : U ≤ 20 := HI.2.2.2.2.2.2.2.2.1
  rw [fX0_playFault, e1]
  rcases rg_c (M2 := M2) M1 x 1 300 with ⟨r1, r2, r3, r4⟩ | ⟨r1, r2⟩
  · obtain ⟨w, hw, rfl⟩ := nI_of2 (x := x) (M := 300) (n := 300) (by decide) (Int32.not_lt.mpr (Int32.le_trans (by decide) r3)) r4
    rw [if_neg (Int32.not_lt.mpr r3), if_pos r4]
    by_cases c : U = 0
    · rw [if_pos (by rw [c]; rfl)]
      refine Or.inr (Or.inl ⟨rfl, ?_⟩)
      rw [fX10_playing, r2, rr_ok h8, Option.bind_some, if_neg one_ne]
      dsimp only
      rw [e2, if_pos (by rw [c]; decide), rr_no h8 (by decide), Option.bind_some, if_pos rfl]
    · rw [if_neg (nI_ne0 (by omega) (by omega))]
      refine Or.inr (Or.inr ⟨w, hw, rfl, rfl, fun N hN hNX => ?_⟩)
      obtain ⟨N', n1, n2, n3⟩ := rf_steps (k := w) (by omega) hNX HI
      refine ⟨N', ?_, n2, n3⟩
      rw [fX10_playing, r2, rr_ok h8, Option.bind_some, if_neg one_ne]
      dsimp only
      rw [e2, if_neg (nI_nle (by omega) (by omega)), rr_ok h8, Option.bind_some, if_neg one_ne]
      dsimp only
      rw [hN, Option.bind_some, n1, Option.bind_some]
  · refine Or.inl ⟨?_, ?_⟩
    · rw [fX9_rangeFault] at r1
      by_cases h1 : x < 1
      · rw [if_pos h1]
      · rw [if_neg h1] at r1 ⊢
        by_cases h2 : x ≤ 300
        · rw [if_pos h2] at r1; exact absurd r1 (by decide)
        · rw [if_neg h2]
    · rw [fX10_playing, r2, rr_no h8 (by decide), Option.bind_some, if_pos rfl]
/-! the class's own part in them -/
theorem cl_bend {t : Nat} {x : Int32} (HB : BX M T i g P) (hT : T ≤ 12) (ht : t < T) : ∃ M', fX0_bendTooth M i (nI t) x = some M' ∧ BX M' T i (bnS g t x) P ∧ Fr (sBx i) M M' ∧ M'.1 (13, i, t) 1 = g (16 + 6 * t + 1) + x := by
  have hg : ¬ (nI t < 0 ∨ 12 ≤ (nI t).toNatClampNeg) := nI_in (by omega) (by decide)
  rw [fX0_bendTooth]
  simp only [hg, if_false]
  rw [nI_clamp (by omega), bx_t HB ht (by decide), bx_t HB ht (by decide), show M.1 (9, i, 0) 8 = g 9 from HB.1 9 (vk_s rfl)]
  refine ⟨_, rfl, bx_put' (k := 9) (bx_putT ht (by decide) (bx_putT ht (by decide) HB)) (vk_s rfl) rfl, fr_pI (fr_pI (fr_putI (sBx_1 rfl)) (sBx_1 rfl)) (sBx_1 rfl), ?_⟩
  rw [putI_ne (fun c => by cases c), g_row, upd_o (by decide), g_row, upd_s]
theorem cl_mend {t : Nat} (HB : BX M T i g P) (hT : T ≤ 12) (ht : t < T) : ∃ M', fX0_mendTooth M i (nI t) = some M' ∧ BX M' T i (mdS g t) P ∧ Fr (sBx i) M M' := by
  have hg : ¬ (nI t < 0 ∨ 12 ≤ (nI t).toNatClampNeg) := nI_in (by omega) (by decide)
  rw [fX0_mendTooth]
  simp only [hg, if_false]
  rw [nI_clamp (by omega), bx_t HB ht (by decide), show M.1 (9, i, 0) 9 = g 10 from HB.1 10 (vk_s rfl), fX8_renew]
  exact ⟨_, rfl, bx_putT ht (by decide) (bx_putT ht (by decide) (bx_putT ht (by decide) (bx_put' (k := 10) HB (vk_s rfl) rfl))), fr_pI (fr_pI (fr_pI (fr_putI (sBx_1 rfl)) (sBx_1 rfl)) (sBx_1 rfl)) (sBx_1 rfl)⟩
theorem iv_bn {t : Nat} {x : Int32} (HI : Iv g P S T U A m0 p0) (h : -3 ≤ g (16 + 6 * t + 1) + x ∧ g (16 + 6 * t + 1) + x ≤ 3) : Iv (bnS g t x) P S T U A m0 p0 := iv_k (iv_t (iv_b HI h) (by decide)) (by decide)
theorem iv_md {t : Nat} (HI : Iv g P S T U A m0 p0) : Iv (mdS g t) P S T U A m0 p0 := iv_t (iv_t (iv_b (iv_k HI (by decide)) (by decide)) (by decide)) (by decide)
end OP2
