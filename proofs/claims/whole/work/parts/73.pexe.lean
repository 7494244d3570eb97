/-! a script is run, side by side: one command -/
def XS (M1 M2 : Mm) (g : GF) (P : PF) (S T U A m p ex : Nat) : Prop := BX M1 T 0 g P ∧ RX (M2.1 NW) g P ∧ Iv g P S T U A m p ∧ M1.1 (7, 0, 0) 5 = nI ex ∧ M2.1 R8 24 = nI ex ∧ M2.1 R8 25 = 1 ∧ ex ≤ 40
def sE1 (r : Rf) : Bool := r == (7, 0, 0) || sBx 0 r
def sE2 (r : Rf) : Bool := r == R8 || r == NW
def FE (M M' : Mm) : Prop := Fr sE2 M M' ∧ ∀ j, j ≠ 8 → j ≠ 24 → M'.1 R8 j = M.1 R8 j
theorem fe_rf {M : Mm} : FE M M := ⟨fr_rf, fun _ _ _ => rfl⟩
theorem fe_tr {M N O : Mm} (h : FE M N) (h2 : FE N O) : FE M O := ⟨fr_tr h.1 h2.1, fun j a b => (h2.2 j a b).trans (h.2 j a b)⟩
theorem fe_n {M N : Mm} (h : Fr sNW M N) : FE M N := ⟨fr_mono (fun r hr => by unfold sNW at hr; unfold sE2; rw [hr]; cases (r == R8) <;> rfl) h, fun j _ _ => by rw [(h R8 rfl).1]⟩
theorem fe_p {M N : Mm} {j : Nat} {v : Int32} (h : FE M N) (hj : j = 8 ∨ j = 24) : FE M (putI N R8 j v) := ⟨fr_pI h.1 rfl, fun k a b => by rw [g_row, upd_o (by omega)]; exact h.2 k a b⟩
theorem e1_B {M N : Mm} (h : Fr (sBx 0) M N) : Fr sE1 M N := fr_mono (fun r hr => by unfold sE1; rw [hr]; cases (r == (7, 0, 0)) <;> rfl) h
section EXE
variable {M1 M2 : Mm} {S T U A m p : Nat} {g : GF} {P : PF}
theorem rf_chg {M : Mm} (h : M.1 R8 25 = 1) : fX10_changes M = some M := by
  rw [fX10_changes, h, if_neg one_ne]
/-- one command that isn't a repeat -/
theorem st_do {j : Nat} (hj : j < 30) (hd : DC M1 M2 j) (h9 : M1.1 (8, 0, 0) j ≠ 9) (HB : BX M1 T 0 g P) (HX : RX (M2.1 NW) g P) (HI : Iv g P S T U A m p) (h25 : M2.1 R8 25 = 1) :
    (∃ f r M2', f ≠ 0 ∧ fX4_faultOf M1 0 (M1.1 (8, 0, 0) j) (nI j) = some f ∧ fX10_does M2 (nI j) = some (r, M2') ∧ M2'.1 R8 8 ≠ 0 ∧ RX (M2'.1 NW) g P ∧ FE M2 M2' ∧ M2'.1 R8 24 = M2.1 R8 24) ∨
    (∃ M1' r M2' g' P' U' A' m' p', fX4_faultOf M1 0 (M1.1 (8, 0, 0) j) (nI j) = some 0 ∧ fX4_execute M1 0 (M1.1 (8, 0, 0) j) (nI j) = some M1' ∧ fX10_does M2 (nI j) = some (r, M2') ∧ M2'.1 R8 8 = 0 ∧ BX M1' T 0 g' P' ∧ RX (M2'.1 NW) g' P' ∧ Iv g' P' S T U' A' m' p' ∧ Fr (sBx 0) M1 M1' ∧ FE M2 M2' ∧ M2'.1 R8 24 = M2.1 R8 24) := by
  obtain ⟨K, hK9, k1, k2, k3, -⟩ := hd
  have hT := HI.2.2.2.2.2.2.2.1
  have hS := HI.2.2.2.2.2.2.1
  have hne : K ≠ 9 := fun c => h9 (by rw [k1, c]; rfl)
  obtain ⟨d0, d1, d2, d3⟩ := k3 (by omega)
  have hg := hgk hj
  have hcl : (nI j).toNatClampNeg = j := nI_clamp (by omega)
  have Z8 : (putI M2 R8 8 0).1 R8 8 = 0 := by rw [g_row, upd_s]
  have ZX : RX ((putI M2 R8 8 0).1 NW) g P := by rw [putI_ne (by decide)]; exact HX
  have ZC : fX10_changes (putI M2 R8 8 0) = some (putI M2 R8 8 0) := rf_chg (by rw [g_row, upd_o (by decide)]; exact h25)
  have ZE : FE M2 (putI M2 R8 8 0) := fe_p fe_rf (Or.inl rfl)
  have z24 : (putI M2 R8 8 0).1 R8 24 = M2.1 R8 24 := by rw [g_row, upd_o (by decide)]
  have a0 := cl_arg (M := M1) (k := j) (q := 0) (Q := 0) rfl hj (by decide)
  have a1 := cl_arg (M := M1) (k := j) (q := 1) (Q := 1) rfl hj (by decide)
  have a2 := cl_arg (M := M1) (k := j) (q := 2) (Q := 2) rfl hj (by decide)
  rw [Nat.add_zero, d0] at a0
  -- the end of a command that is refused, and of one that is not
  have bad : ∀ (f code : Int32), f ≠ 0 → code ≠ 0 → fX4_faultOf M1 0 (M1.1 (8, 0, 0) j) (nI j) = some f → fX10_does M2 (nI j) = some (0, putI (putI M2 R8 8 0) R8 8 code) → (∃ f r M2', f ≠ 0 ∧ fX4_faultOf M1 0 (M1.1 (8, 0, 0) j) (nI j) = some f ∧ fX10_does M2 (nI j) = some (r, M2') ∧ M2'.1 R8 8 ≠ 0 ∧ RX (M2'.1 NW) g P ∧ FE M2 M2' ∧ M2'.1 R8 24 = M2.1 R8 24) := by
    intro f code hf hc h1 h2
    exact ⟨f, 0, _, hf, h1, h2, by rw [g_row, upd_s]; exact hc, by rw [putI_ne (by decide)]; exact ZX, fe_p ZE (Or.inl rfl), by rw [g_row, upd_o (by decide)]; exact z24⟩
  have good : ∀ (r : Int32) (N M1' : Mm) (g' : GF) (P' : PF) (U' A' m' p' : Nat), fX4_faultOf M1 0 (M1.1 (8, 0, 0) j) (nI j) = some 0 → fX4_execute M1 0 (M1.1 (8, 0, 0) j) (nI j) = some M1' → fX10_does M2 (nI j) = some (r, N) → BX M1' T 0 g' P' → RX (N.1 NW) g' P' → Iv g' P' S T U' A' m' p' → Fr (sBx 0) M1 M1' → Fr sNW (putI M2 R8 8 0) N → (∃ M1' r M2' g' P' U' A' m' p', fX4_faultOf M1 0 (M1.1 (8, 0, 0) j) (nI j) = some 0 ∧ fX4_execute M1 0 (M1.1 (8, 0, 0) j) (nI j) = some M1' ∧ fX10_does M2 (nI j) = some (r, M2') ∧ M2'.1 R8 8 = 0 ∧ BX M1' T 0 g' P' ∧ RX (M2'.1 NW) g' P' ∧ Iv g' P' S T U' A' m' p' ∧ Fr (sBx 0) M1 M1' ∧ FE M2 M2' ∧ M2'.1 R8 24 = M2.1 R8 24) := by
    intro r N M1' g' P' U' A' m' p' h1 h2 h3 h4 h5 h6 h7 h8
    exact ⟨M1', r, N, g', P', U', A', m', p', h1, h2, h3, by rw [(h8 R8 rfl).1]; exact Z8, h4, h5, h6, h7, fe_tr ZE (fe_n h8), by rw [(h8 R8 rfl).1]; exact z24⟩
  have hcase : K = 0 ∨ K = 1 ∨ K = 2 ∨ K = 3 ∨ K = 4 ∨ K = 5 ∨ K = 6 ∨ K = 7 ∨ K = 8 := by omega
  have fo : ∀ {r : Option Int32}, (if nI K = (0 : Int32) then ((fX0_putPinFault M1 0 (M2.1 (19, 8, 0) j) (M1.1 (8, 3, 0) (3 * j + 1)) (M1.1 (8, 3, 0) (3 * j + 2))).bind fun q9 => some q9) else if nI K = (1 : Int32) then ((fX0_takePinFault M1 0 (M2.1 (19, 8, 0) j) (M1.1 (8, 3, 0) (3 * j + 1)) (M1.1 (8, 3, 0) (3 * j + 2))).bind fun q12 => some q12) else if nI K = (2 : Int32) then some (fX0_gapFault M1 0 (M2.1 (19, 8, 0) j) (M1.1 (8, 3, 0) (3 * j + 1))) else if nI K = (3 : Int32) then ((fX0_bendFault M1 0 (M2.1 (19, 8, 0) j) (M1.1 (8, 3, 0) (3 * j + 1) * M1.1 (8, 3, 0) (3 * j + 2))).bind fun q16 => some q16) else if nI K = (4 : Int32) then some (fX0_toothFault M1 0 (M2.1 (19, 8, 0) j)) else if nI K = (5 : Int32) then some (fX9_rangeFault M1 (M2.1 (19, 8, 0) j) 0 90) else if nI K = (6 : Int32) then some (fX0_windFault M1 0 (M2.1 (19, 8, 0) j)) else if nI K = (7 : Int32) then some (fX0_tuneFault M1 0 (M2.1 (19, 8, 0) j)) else some (fX0_playFault M1 0 (M2.1 (19, 8, 0) j))) = r → fX4_faultOf M1 0 (M1.1 (8, 0, 0) j) (nI j) = r := fun {r} hr => by
    rw [fX4_faultOf, a0, Option.bind_some, a1, Option.bind_some, a2, Option.bind_some, k1]
    exact hr
  have xo : ∀ {r : Option Mm}, (if nI K = (0 : Int32) then ((fX3_putPin M1 0 (M2.1 (19, 8, 0) j) (M1.1 (8, 3, 0) (3 * j + 1)) (M1.1 (8, 3, 0) (3 * j + 2))).bind fun q9 => some q9) else if nI K = (1 : Int32) then ((fX3_takePin M1 0 (M2.1 (19, 8, 0) j) (M1.1 (8, 3, 0) (3 * j + 1)) (M1.1 (8, 3, 0) (3 * j + 2))).bind fun q12 => some q12) else if nI K = (2 : Int32) then (if (M2.1 (19, 8, 0) j) < 0 ∨ 12 ≤ (M2.1 (19, 8, 0) j).toNatClampNeg then none else some (putI M1 (13, 0, (M2.1 (19, 8, 0) j).toNatClampNeg) 2 (M1.1 (8, 3, 0) (3 * j + 1)))) else if nI K = (3 : Int32) then ((fX0_bendTooth M1 0 (M2.1 (19, 8, 0) j) (M1.1 (8, 3, 0) (3 * j + 1) * M1.1 (8, 3, 0) (3 * j + 2))).bind fun q17 => some q17) else if nI K = (4 : Int32) then ((fX0_mendTooth M1 0 (M2.1 (19, 8, 0) j)).bind fun q20 => some q20) else if nI K = (5 : Int32) then some (putI M1 (9, 0, 0) 4 (M2.1 (19, 8, 0) j)) else if nI K = (6 : Int32) then some (putI M1 (9, 0, 0) 3 (M1.1 (9, 0, 0) 3 + M2.1 (19, 8, 0) j)) else if nI K = (7 : Int32) then some (putI M1 (10, 0, 0) 3 (M2.1 (19, 8, 0) j)) else (fX0_playSteps M1 0 (M2.1 (19, 8, 0) j)).bind fun q25 => some (q25.2)) = r → fX4_execute M1 0 (M1.1 (8, 0, 0) j) (nI j) = r := fun {r} hr => by
    rw [fX4_execute, a0, Option.bind_some, a1, Option.bind_some, a2, Option.bind_some, k1]
    exact hr
  have dz : ∀ {r : Option (Int32 × Mm)}, (if nI K = (0 : Int32) then ((fX10_pinning (putI M2 R8 8 0) (M2.1 (19, 8, 0) j) (M2.1 (19, 9, 0) j) (M2.1 (19, 10, 0) j) 1).bind fun q6 => some (q6.1, q6.2)) else if nI K = (1 : Int32) then ((fX10_pinning (putI M2 R8 8 0) (M2.1 (19, 8, 0) j) (M2.1 (19, 9, 0) j) (M2.1 (19, 10, 0) j) 0).bind fun q11 => some (q11.1, q11.2)) else if nI K = (2 : Int32) then ((fX10_gapping (putI M2 R8 8 0) (M2.1 (19, 8, 0) j) (M2.1 (19, 9, 0) j)).bind fun q15 => some (q15.1, q15.2)) else if nI K = (3 : Int32) then ((fX10_bending (putI M2 R8 8 0) (M2.1 (19, 8, 0) j) (M2.1 (19, 9, 0) j)).bind fun q19 => some (q19.1, q19.2)) else if nI K = (4 : Int32) then ((fX10_replacing (putI M2 R8 8 0) (M2.1 (19, 8, 0) j)).bind fun q22 => some (q22.1, q22.2)) else if nI K = (5 : Int32) then ((fX10_vaning (putI M2 R8 8 0) (M2.1 (19, 8, 0) j)).bind fun q25 => some (q25.1, q25.2)) else if nI K = (6 : Int32) then ((fX10_winding (putI M2 R8 8 0) (M2.1 (19, 8, 0) j)).bind fun q28 => some (q28.1, q28.2)) else if nI K = (7 : Int32) then ((fX10_selecting (putI M2 R8 8 0) (M2.1 (19, 8, 0) j)).bind fun q31 => some (q31.1, q31.2)) else (fX10_playing (putI M2 R8 8 0) (M2.1 (19, 8, 0) j)).bind fun q33 => some (q33.1, q33.2)) = r → fX10_does M2 (nI j) = r := fun {r} hr => by
    rw [fX10_does]
    simp only [hg, if_false]
    rw [hcl, k2]
    exact hr
  rcases hcase with rfl | rfl | rfl | rfl | rfl | rfl | rfl | rfl | rfl
  · have e1 := d1 (by decide)
    have e2 := d2 (by decide)
    rw [e1, e2] at fo xo
    rcases op_pin (a := M2.1 (19, 8, 0) j) (b := M2.1 (19, 9, 0) j) (c := M2.1 (19, 10, 0) j) (x := 1) (on := true) rfl HB ZX HI Z8 with ⟨f1, f2⟩ | ⟨mm, t, s, hm, ht, hs, x1, x2, x3, f1, f2, f3⟩
    · exact Or.inl (bad 1 1 (by decide) (by decide) (fo (by rw [if_pos (show nI 0 = (0 : Int32) from rfl), fX0_putPinFault, f1, if_neg one_ne]; rfl)) (dz (by rw [if_pos (show nI 0 = (0 : Int32) from rfl), f2]; rfl)))
    · rcases f3 with ⟨y1, y2⟩ | ⟨y1, y2⟩
      · exact Or.inl (bad 3 2 (by decide) (by decide) (fo (by rw [if_pos (show nI 0 = (0 : Int32) from rfl), fX0_putPinFault, f1, if_pos rfl, f2, y1, Option.bind_some, if_neg (by decide)]; rfl)) (dz (by rw [if_pos (show nI 0 = (0 : Int32) from rfl), y2]; rfl)))
      · obtain ⟨N, n1, n2, n3⟩ := y2 _ ZC ZX
        rw [y1] at n1 n2
        obtain ⟨W, w1, w2, w3⟩ := cl_putPin HB hm (show t < 12 by omega) (show s < 64 by omega)
        rw [← x1, ← x2, ← x3] at w1
        exact Or.inr (good _ N W g _ U A m p (fo (by rw [if_pos (show nI 0 = (0 : Int32) from rfl), fX0_putPinFault, f1, if_pos rfl, f2, y1, Option.bind_some, if_pos (by decide)]; rfl)) (xo (by rw [if_pos (show nI 0 = (0 : Int32) from rfl), w1]; rfl)) (dz (by rw [if_pos (show nI 0 = (0 : Int32) from rfl), n1]; rfl)) w2 n2 (iv_add HI hm ht hs) w3 n3)
  · have e1 := d1 (by decide)
    have e2 := d2 (by decide)
    rw [e1, e2] at fo xo
    have i0 : ¬ nI 1 = (0 : Int32) := by decide
    have i1 : nI 1 = (1 : Int32) := rfl
    rcases op_pin (a := M2.1 (19, 8, 0) j) (b := M2.1 (19, 9, 0) j) (c := M2.1 (19, 10, 0) j) (x := 0) (on := false) rfl HB ZX HI Z8 with ⟨f1, f2⟩ | ⟨mm, t, s, hm, ht, hs, x1, x2, x3, f1, f2, f3⟩
    · exact Or.inl (bad 1 1 (by decide) (by decide) (fo (by rw [if_neg i0, if_pos i1, fX0_takePinFault, f1, if_neg one_ne]; rfl)) (dz (by rw [if_neg i0, if_pos i1, f2]; rfl)))
    · rcases f3 with ⟨y1, y2⟩ | ⟨y1, y2⟩
      · exact Or.inl (bad 3 2 (by decide) (by decide) (fo (by rw [if_neg i0, if_pos i1, fX0_takePinFault, f1, if_pos rfl, f2, y1, Option.bind_some, if_pos (bI_0.mpr rfl)]; rfl)) (dz (by rw [if_neg i0, if_pos i1, y2]; rfl)))
      · obtain ⟨N, n1, n2, n3⟩ := y2 _ ZC ZX
        rw [y1] at n1 n2
        obtain ⟨W, w1, w2, w3⟩ := cl_takePin HB hm (show t < 12 by omega) (show s < 64 by omega)
        rw [← x1, ← x2, ← x3] at w1
        exact Or.inr (good _ N W g _ U A m p (fo (by rw [if_neg i0, if_pos i1, fX0_takePinFault, f1, if_pos rfl, f2, y1, Option.bind_some, if_neg (by decide)]; rfl)) (xo (by rw [if_neg i0, if_pos i1, w1]; rfl)) (dz (by rw [if_neg i0, if_pos i1, n1]; rfl)) w2 n2 (iv_sub HI pDel_le) w3 n3)
  · have e1 := d1 (by decide)
    rw [e1] at fo xo
    have i0 : ¬ nI 2 = (0 : Int32) := by decide
    have i1 : ¬ nI 2 = (1 : Int32) := by decide
    have i2 : nI 2 = (2 : Int32) := rfl
    rcases op_gap (b := M2.1 (19, 8, 0) j) (x := M2.1 (19, 9, 0) j) HB ZX HI Z8 with ⟨f1, f2⟩ | ⟨f1, f2⟩ | ⟨t, ht, x1, f1, f2⟩
    · exact Or.inl (bad 1 1 (by decide) (by decide) (fo (by rw [if_neg i0, if_neg i1, if_pos i2, f1])) (dz (by rw [if_neg i0, if_neg i1, if_pos i2, f2]; rfl)))
    · exact Or.inl (bad 2 2 (by decide) (by decide) (fo (by rw [if_neg i0, if_neg i1, if_pos i2, f1])) (dz (by rw [if_neg i0, if_neg i1, if_pos i2, f2]; rfl)))
    · obtain ⟨N, n1, n2, n3⟩ := f2 _ ZC ZX
      have hgt : ¬ (nI t < 0 ∨ 12 ≤ (nI t).toNatClampNeg) := nI_in (by omega) (by decide)
      exact Or.inr (good _ N (putI M1 (13, 0, t) 2 (M2.1 (19, 9, 0) j)) _ P U A m p (fo (by rw [if_neg i0, if_neg i1, if_pos i2, f1])) (xo (by rw [if_neg i0, if_neg i1, if_pos i2, x1, if_neg hgt, nI_clamp (by omega)])) (dz (by rw [if_neg i0, if_neg i1, if_pos i2, n1]; rfl)) (bx_putT ht (by decide) HB) n2 (iv_t HI (by decide)) (fr_putI (sBx_1 rfl)) n3)
  · have e3 := d3 rfl
    rw [e3] at fo xo
    have i0 : ¬ nI 3 = (0 : Int32) := by decide
    have i1 : ¬ nI 3 = (1 : Int32) := by decide
    have i2 : ¬ nI 3 = (2 : Int32) := by decide
    have i3 : nI 3 = (3 : Int32) := rfl
    rcases op_bend (b := M2.1 (19, 8, 0) j) (x := M2.1 (19, 9, 0) j) HB ZX HI Z8 with ⟨f, hf, f1, f2⟩ | ⟨t, ht, x1, f1, f3, f2⟩
    · exact Or.inl (bad f f (by rcases hf with rfl | rfl | rfl <;> decide) (by rcases hf with rfl | rfl | rfl <;> decide) (fo (by rw [if_neg i0, if_neg i1, if_neg i2, if_pos i3, f1]; rfl)) (dz (by rw [if_neg i0, if_neg i1, if_neg i2, if_pos i3, f2]; rfl)))
    · obtain ⟨N, n1, n2, n3⟩ := f2 _ ZC ZX
      obtain ⟨W, w1, w2, w3, -⟩ := cl_bend (x := M2.1 (19, 9, 0) j) HB hT.2 ht
      rw [← x1] at w1
      exact Or.inr (good _ N W _ P U A m p (fo (by rw [if_neg i0, if_neg i1, if_neg i2, if_pos i3, f1]; rfl)) (xo (by rw [if_neg i0, if_neg i1, if_neg i2, if_pos i3, w1]; rfl)) (dz (by rw [if_neg i0, if_neg i1, if_neg i2, if_pos i3, n1]; rfl)) w2 n2 (iv_bn HI f3) w3 n3)
  · have i0 : ¬ nI 4 = (0 : Int32) := by decide
    have i1 : ¬ nI 4 = (1 : Int32) := by decide
    have i2 : ¬ nI 4 = (2 : Int32) := by decide
    have i3 : ¬ nI 4 = (3 : Int32) := by decide
    have i4 : nI 4 = (4 : Int32) := rfl
    rcases op_mend (b := M2.1 (19, 8, 0) j) HB ZX HI Z8 with ⟨f1, f2⟩ | ⟨t, ht, x1, f1, f2⟩
    · exact Or.inl (bad 1 1 (by decide) (by decide) (fo (by rw [if_neg i0, if_neg i1, if_neg i2, if_neg i3, if_pos i4, f1])) (dz (by rw [if_neg i0, if_neg i1, if_neg i2, if_neg i3, if_pos i4, f2]; rfl)))
    · obtain ⟨N, n1, n2, n3⟩ := f2 _ ZC ZX
      obtain ⟨W, w1, w2, w3⟩ := cl_mend HB hT.2 ht
      rw [← x1] at w1
      exact Or.inr (good _ N W _ P U A m p (fo (by rw [if_neg i0, if_neg i1, if_neg i2, if_neg i3, if_pos i4, f1])) (xo (by rw [if_neg i0, if_neg i1, if_neg i2, if_neg i3, if_pos i4, w1]; rfl)) (dz (by rw [if_neg i0, if_neg i1, if_neg i2, if_neg i3, if_pos i4, n1]; rfl)) w2 n2 (iv_md HI) w3 n3)
  · have i0 : ¬ nI 5 = (0 : Int32) := by decide
    have i1 : ¬ nI 5 = (1 : Int32) := by decide
    have i2 : ¬ nI 5 = (2 : Int32) := by decide
    have i3 : ¬ nI 5 = (3 : Int32) := by decide
    have i4 : ¬ nI 5 = (4 : Int32) := by decide
    have i5 : nI 5 = (5 : Int32) := rfl
    rcases op_vane (M1 := M1) (x := M2.1 (19, 8, 0) j) ZX Z8 with ⟨f1, f2⟩ | ⟨a, ha, x1, f1, f2⟩
    · exact Or.inl (bad 2 1 (by decide) (by decide) (fo (by rw [if_neg i0, if_neg i1, if_neg i2, if_neg i3, if_neg i4, if_pos i5, f1])) (dz (by rw [if_neg i0, if_neg i1, if_neg i2, if_neg i3, if_neg i4, if_pos i5, f2]; rfl)))
    · obtain ⟨N, n1, n2, n3⟩ := f2 _ ZC ZX
      refine Or.inr (good _ N (putI M1 (9, 0, 0) 4 (M2.1 (19, 8, 0) j)) _ P U a m p (fo (by rw [if_neg i0, if_neg i1, if_neg i2, if_neg i3, if_neg i4, if_pos i5, f1])) (xo (by rw [if_neg i0, if_neg i1, if_neg i2, if_neg i3, if_neg i4, if_pos i5])) (dz (by rw [if_neg i0, if_neg i1, if_neg i2, if_neg i3, if_neg i4, if_pos i5, n1]; rfl)) (bx_put' (k := 2) HB (vk_s rfl) rfl) n2 (by rw [x1]; exact iv_2 HI ha) (fr_putI (sBx_1 rfl)) n3)
  · have i0 : ¬ nI 6 = (0 : Int32) := by decide
    have i1 : ¬ nI 6 = (1 : Int32) := by decide
    have i2 : ¬ nI 6 = (2 : Int32) := by decide
    have i3 : ¬ nI 6 = (3 : Int32) := by decide
    have i4 : ¬ nI 6 = (4 : Int32) := by decide
    have i5 : ¬ nI 6 = (5 : Int32) := by decide
    have i6 : nI 6 = (6 : Int32) := rfl
    rcases op_wind (x := M2.1 (19, 8, 0) j) HB ZX HI Z8 with ⟨f1, f2⟩ | ⟨f1, f2⟩ | ⟨w, hw, x1, f1, f2⟩
    · exact Or.inl (bad 2 1 (by decide) (by decide) (fo (by rw [if_neg i0, if_neg i1, if_neg i2, if_neg i3, if_neg i4, if_neg i5, if_pos i6, f1])) (dz (by rw [if_neg i0, if_neg i1, if_neg i2, if_neg i3, if_neg i4, if_neg i5, if_pos i6, f2]; rfl)))
    · exact Or.inl (bad 3 2 (by decide) (by decide) (fo (by rw [if_neg i0, if_neg i1, if_neg i2, if_neg i3, if_neg i4, if_neg i5, if_pos i6, f1])) (dz (by rw [if_neg i0, if_neg i1, if_neg i2, if_neg i3, if_neg i4, if_neg i5, if_pos i6, f2]; rfl)))
    · obtain ⟨N, n1, n2, n3⟩ := f2 _ ZC ZX
      have e1 : M1.1 (9, 0, 0) 3 = nI U := (HB.1 1 (vk_s rfl)).trans HI.2.1
      refine Or.inr (good _ N (putI M1 (9, 0, 0) 3 (nI (U + w))) _ P (U + w) A m p (fo (by rw [if_neg i0, if_neg i1, if_neg i2, if_neg i3, if_neg i4, if_neg i5, if_pos i6, f1])) (xo (by rw [if_neg i0, if_neg i1, if_neg i2, if_neg i3, if_neg i4, if_neg i5, if_pos i6, e1, x1, nI_add])) (dz (by rw [if_neg i0, if_neg i1, if_neg i2, if_neg i3, if_neg i4, if_neg i5, if_pos i6, n1]; rfl)) (bx_put' (k := 1) HB (vk_s rfl) rfl) n2 (iv_1 HI hw) (fr_putI (sBx_1 rfl)) n3)
  · have i0 : ¬ nI 7 = (0 : Int32) := by decide
    have i1 : ¬ nI 7 = (1 : Int32) := by decide
    have i2 : ¬ nI 7 = (2 : Int32) := by decide
    have i3 : ¬ nI 7 = (3 : Int32) := by decide
    have i4 : ¬ nI 7 = (4 : Int32) := by decide
    have i5 : ¬ nI 7 = (5 : Int32) := by decide
    have i6 : ¬ nI 7 = (6 : Int32) := by decide
    have i7 : nI 7 = (7 : Int32) := rfl
    rcases op_tune (M1 := M1) (x := M2.1 (19, 8, 0) j) ZX Z8 with ⟨f1, f2⟩ | ⟨a, ha, x1, f1, f2⟩
    · exact Or.inl (bad 1 1 (by decide) (by decide) (fo (by rw [if_neg i0, if_neg i1, if_neg i2, if_neg i3, if_neg i4, if_neg i5, if_neg i6, if_pos i7, f1])) (dz (by rw [if_neg i0, if_neg i1, if_neg i2, if_neg i3, if_neg i4, if_neg i5, if_neg i6, if_pos i7, f2]; rfl)))
    · obtain ⟨N, n1, n2, n3⟩ := f2 _ ZC ZX
      refine Or.inr (good _ N (putI M1 (10, 0, 0) 3 (M2.1 (19, 8, 0) j)) _ P U A a p (fo (by rw [if_neg i0, if_neg i1, if_neg i2, if_neg i3, if_neg i4, if_neg i5, if_neg i6, if_pos i7, f1])) (xo (by rw [if_neg i0, if_neg i1, if_neg i2, if_neg i3, if_neg i4, if_neg i5, if_neg i6, if_pos i7])) (dz (by rw [if_neg i0, if_neg i1, if_neg i2, if_neg i3, if_neg i4, if_neg i5, if_neg i6, if_pos i7, n1]; rfl)) (bx_put' (k := 4) HB (vk_s rfl) rfl) n2 (by rw [x1]; exact iv_4 HI ha) (fr_putI (sBx_1 rfl)) n3)
  · have i0 : ¬ nI 8 = (0 : Int32) := by decide
    have i1 : ¬ nI 8 = (1 : Int32) := by decide
    have i2 : ¬ nI 8 = (2 : Int32) := by decide
    have i3 : ¬ nI 8 = (3 : Int32) := by decide
    have i4 : ¬ nI 8 = (4 : Int32) := by decide
    have i5 : ¬ nI 8 = (5 : Int32) := by decide
    have i6 : ¬ nI 8 = (6 : Int32) := by decide
    have i7 : ¬ nI 8 = (7 : Int32) := by decide
    rcases op_play (x := M2.1 (19, 8, 0) j) HB ZX HI Z8 with ⟨f1, f2⟩ | ⟨f1, f2⟩ | ⟨w, hw, x1, f1, f2⟩
    · exact Or.inl (bad 2 1 (by decide) (by decide) (fo (by rw [if_neg i0, if_neg i1, if_neg i2, if_neg i3, if_neg i4, if_neg i5, if_neg i6, if_neg i7, f1])) (dz (by rw [if_neg i0, if_neg i1, if_neg i2, if_neg i3, if_neg i4, if_neg i5, if_neg i6, if_neg i7, f2]; rfl)))
    · exact Or.inl (bad 3 2 (by decide) (by decide) (fo (by rw [if_neg i0, if_neg i1, if_neg i2, if_neg i3, if_neg i4, if_neg i5, if_neg i6, if_neg i7, f1])) (dz (by rw [if_neg i0, if_neg i1, if_neg i2, if_neg i3, if_neg i4, if_neg i5, if_neg i6, if_neg i7, f2]; rfl)))
    · obtain ⟨N, n1, n2, n3⟩ := f2 _ ZC ZX
      obtain ⟨W, w1, w2, w3⟩ := cl_playSteps (k := w) (by omega) HB HI
      rw [← x1] at w1
      exact Or.inr (good _ N W _ P _ A m _ (fo (by rw [if_neg i0, if_neg i1, if_neg i2, if_neg i3, if_neg i4, if_neg i5, if_neg i6, if_neg i7, f1])) (xo (by rw [if_neg i0, if_neg i1, if_neg i2, if_neg i3, if_neg i4, if_neg i5, if_neg i6, if_neg i7, w1]; rfl)) (dz (by rw [if_neg i0, if_neg i1, if_neg i2, if_neg i3, if_neg i4, if_neg i5, if_neg i6, if_neg i7, n1]; rfl)) w2 n2 (playN_iv w g p U HI) w3 n3)
end EXE
