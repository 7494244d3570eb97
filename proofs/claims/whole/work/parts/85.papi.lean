/-! calls that only tell -/
def sOut (r : Rf) : Bool := r == (21, 0, 0) || r == (22, 0, 0)
def sCl (r : Rf) : Bool := decide (r.1 < 18)
def sRf (r : Rf) : Bool := decide (18 ≤ r.1 ∧ r.1 < 21)
def AG (cs : List Nat) (res : Int32 ⊕ Nat) (r th : Int32) : Prop := match res with
  | .inl x => th = 0 ∧ r = x
  | .inr e => ∃ i, i < 3 ∧ cs[i]? = some e ∧ (∀ j, j < i → cs[j]? ≠ some e) ∧ th = nI (i + 1)
/-- a call that may throw -/
def API (cs : List Nat) (o1 : Option ((Int32 ⊕ Nat) × Mm)) (f2 : Mm → Option (Int32 × Mm)) (M : Mm) : Prop := ∃ res M1, o1 = some (res, M1) ∧ Fr sCl M M1 ∧ ∀ N, Fr sOut M1 N → ∃ r M2, f2 N = some (r, M2) ∧ GL M2 ∧ Fr sRf N M2 ∧ AG cs res r (M2.1 R8 8)
/-- one that may not -/
def API0 (o1 : Option (Int32 × Mm)) (f2 : Mm → Option (Int32 × Mm)) (M : Mm) : Prop := ∃ v M1 M2, o1 = some (v, M1) ∧ Fr sCl M M1 ∧ f2 M1 = some (v, M2) ∧ GL M2 ∧ Fr sRf M1 M2
theorem gl_fr {M M' : Mm} (hF : GFr (fun r => sOut r || s8 r) (fun j => j == 8) M M') (h : GL M) : GL M' := by
  obtain ⟨h1, h2, h3, h4, h5, h6, h7⟩ := h
  have hB : ∀ i, ∀ r, sBx i r = true → (fun r => sOut r || s8 r) r = false := fun i r hr => by
    obtain ⟨x, y, z⟩ := r
    cases e : (sOut (x, y, z) || s8 (x, y, z)) with
    | false => exact e
    | true =>
      unfold sOut s8 at e
      simp only [Bool.or_eq_true, beq_iff_eq] at e
      rcases e with (e | e) | e <;> (rw [e] at hr; cases hr)
  exact ⟨old_fr (hB 0) hF.1 (fun k _ => by rw [(hF.1 NW rfl).1]) h1, gt_fr rfl rfl rfl rfl hF h2, ge_fr rfl rfl rfl hF h3, gh_fr rfl rfl rfl (fun i _ _ => hB i) hF h4, gs_fr rfl rfl rfl (fun i _ _ => hB i) hF h5, go_fr rfl rfl rfl rfl hF h6, by rw [hF.2 25 rfl]; exact h7⟩
theorem gl_8 {M N : Mm} {v : Int32} (h : GL M) (hF : Fr sOut M N) : GL (putI N R8 8 v) := gl_fr ⟨fr_pI (fr_mono (fun r hr => by rw [hr]; rfl) hF) rfl, fun j hj => by
  have j8 : j ≠ 8 := by intro c; rw [c] at hj; cases hj
  rw [g_row, upd_o j8, (hF R8 rfl).1]⟩ h
theorem gl_88 {M N : Mm} {v w : Int32} (h : GL M) (hF : Fr sOut M N) : GL (putI (putI N R8 8 v) R8 8 w) := by
  refine gl_fr ⟨fr_pI (fr_pI (fr_mono (fun r hr => by rw [hr]; rfl) hF) rfl) rfl, fun j hj => ?_⟩ h
  have j8 : j ≠ 8 := by intro c; rw [c] at hj; cases hj
  rw [g_row, upd_o j8, g_row, upd_o j8, (hF R8 rfl).1]
theorem thr_0 {α : Type} {M : Mm} {k : Option ((α ⊕ Nat) × Mm)} : thr (rfz 0) M k = k := by rw [show rfz 0 = none by decide]; rfl
theorem thr_1 {α : Type} {M : Mm} {k : Option ((α ⊕ Nat) × Mm)} : thr (rfz 1) M k = some (.inr 2, M) := by rw [show rfz 1 = some 2 by decide]; rfl
theorem thr_2 {α : Type} {M : Mm} {k : Option ((α ⊕ Nat) × Mm)} : thr (rfz 2) M k = some (.inr 1, M) := by rw [show rfz 2 = some 1 by decide]; rfl
theorem thr_3 {α : Type} {M : Mm} {k : Option ((α ⊕ Nat) × Mm)} : thr (rfz 3) M k = some (.inr 0, M) := by rw [show rfz 3 = some 0 by decide]; rfl
theorem bz_1 : bz 1 = 1 := by decide
theorem bz_0 : bz 0 = 0 := by decide
theorem ag_1 {cs : List Nat} {e : Nat} {r : Int32} (h : cs[0]? = some e) : AG cs (.inr e) r 1 := ⟨0, by decide, h, fun j hj => by omega, rfl⟩
theorem ag_2 {cs : List Nat} {e : Nat} {r : Int32} (h0 : cs[0]? ≠ some e) (h : cs[1]? = some e) : AG cs (.inr e) r 2 := ⟨1, by decide, h, fun j hj => by rw [show j = 0 by omega]; exact h0, rfl⟩
theorem ag_3 {cs : List Nat} {e : Nat} {r : Int32} (h0 : cs[0]? ≠ some e) (h1 : cs[1]? ≠ some e) (h : cs[2]? = some e) : AG cs (.inr e) r 3 := ⟨2, by decide, h, fun j hj => by
  have : j = 0 ∨ j = 1 := by omega
  rcases this with rfl | rfl
  · exact h0
  · exact h1, rfl⟩
section FIND
variable {N : Mm} {S T U A m0 p0 : Nat} {g : GF} {P : PF}
theorem z_8 {v : Int32} : (putI N R8 8 v).1 R8 8 = v := by rw [g_row, upd_s]
theorem z_X {v : Int32} (HX : RX (N.1 NW) g P) : RX ((putI N R8 8 v).1 NW) g P := by rw [putI_ne (by decide)]; exact HX
theorem ft_ok {m : Nat} (hm : m < 3) : fX10_findsTune N (nI m) = some (1, putI N R8 8 0) := by
  rw [fX10_findsTune, rtu_ok hm, rr_ok z_8, Option.bind_some, bz_1]
theorem ft_no {x : Int32} (hx : ixB x 3) : fX10_findsTune N x = some (0, putI (putI N R8 8 0) R8 8 1) := by
  rw [fX10_findsTune, rtu_no hx, rr_no z_8 (by decide), Option.bind_some, bz_0]
theorem fto_ok {t : Nat} (HX : RX (N.1 NW) g P) (HI : Iv g P S T U A m0 p0) (ht : t < T) : fX10_findsTooth N (nI t) = some (1, putI N R8 8 0) := by
  rw [fX10_findsTooth, rto_ok (rx_3 (z_X HX) HI) HI.2.2.2.2.2.2.2.1 ht, rr_ok z_8, Option.bind_some, bz_1]
theorem fto_no {x : Int32} (HX : RX (N.1 NW) g P) (HI : Iv g P S T U A m0 p0) (hx : ixB x T) : fX10_findsTooth N x = some (0, putI (putI N R8 8 0) R8 8 1) := by
  rw [fX10_findsTooth, rto_no (rx_3 (z_X HX) HI) HI.2.2.2.2.2.2.2.1 hx, rr_no z_8 (by decide), Option.bind_some, bz_0]
theorem fp_c {M : Mm} {a b c : Int32} (HB : BX M T 0 g P) (HI : Iv g P S T U A m0 p0) :
    (∃ m t s, m < 3 ∧ t < T ∧ s < S ∧ a = nI m ∧ b = nI t ∧ c = nI s ∧ fX0_placeFault M 0 a b c = 0 ∧ ∀ N, RX (N.1 NW) g P → fX10_isThere N a b c = some (1, putI N R8 8 0)) ∨ (fX0_placeFault M 0 a b c = 1 ∧ ∀ N, RX (N.1 NW) g P → fX10_isThere N a b c = some (0, putI (putI N R8 8 0) R8 8 1)) := by
  have hT := HI.2.2.2.2.2.2.2.1
  have hS := HI.2.2.2.2.2.2.1
  rcases ix_d a (N := 3) (by decide) with ⟨m, hm, rfl⟩ | ha
  · rcases ix_d b (N := T) (by omega) with ⟨t, ht, rfl⟩ | hb
    · rcases ix_d c (N := S) (by omega) with ⟨s, hs, rfl⟩ | hc
      · refine Or.inl ⟨m, t, s, hm, ht, hs, rfl, rfl, rfl, place_ok HB HI hm ht hs, fun N HX => ?_⟩
        rw [fX10_isThere, rtu_ok hm, if_neg one_ne, rto_ok (rx_3 (z_X HX) HI) hT ht, if_neg one_ne, rst_ok (rx_0 (z_X HX) HI) hS hs, if_neg one_ne, rr_ok z_8, Option.bind_some, bz_1]
      · refine Or.inr ⟨?_, fun N HX => ?_⟩
        · rw [fX0_placeFault, tf_ok hm, thf_ok (bx_3 HB HI) (by omega) ht, sf_no (bx_0 HB HI) hc, mx_01, mx_01]
        · rw [fX10_isThere, rtu_ok hm, if_neg one_ne, rto_ok (rx_3 (z_X HX) HI) hT ht, if_neg one_ne, rst_no (rx_0 (z_X HX) HI) hS hc, if_pos rfl, rr_no z_8 (by decide), Option.bind_some, bz_0]
    · refine Or.inr ⟨?_, fun N HX => ?_⟩
      · rw [fX0_placeFault, tf_ok hm, thf_no (bx_3 HB HI) hb, mx_1 sf_c, mx_01]
      · rw [fX10_isThere, rtu_ok hm, if_neg one_ne, rto_no (rx_3 (z_X HX) HI) hT hb, if_pos rfl, rr_no z_8 (by decide), Option.bind_some, bz_0]
  · refine Or.inr ⟨?_, fun N HX => ?_⟩
    · rw [fX0_placeFault, tf_no ha, mx_1 (mx_c thf_c sf_c)]
    · rw [fX10_isThere, rtu_no ha, if_pos rfl, rr_no z_8 (by decide), Option.bind_some, bz_0]
theorem rx_o {M : Mm} (hF : Fr sOut M N) (h : RX (M.1 NW) g P) : RX (N.1 NW) g P := rx_fr (S := sOut) rfl hF h
theorem rf_8 {v : Int32} : Fr sRf N (putI N R8 8 v) := fr_putI rfl
theorem rf_88 {v w : Int32} : Fr sRf N (putI (putI N R8 8 v) R8 8 w) := fr_pI (fr_putI rfl) rfl
end FIND
section GET
variable {M : Mm}
theorem api_stepCount (G : GL M) : API0 (some (fX9_stepCount M, M)) fX10_stepCount M := by
  obtain ⟨g, P, S, T, U, A, m, p, HI, HB, HX⟩ := G.1
  refine ⟨_, M, putI M R8 8 0, rfl, fr_rf, ?_, gl_8 G fr_rf, rf_8⟩
  rw [fX10_stepCount, fX10_tells, if_neg (show ¬ ((0 : Int32) < 0 ∨ 280 ≤ (0 : Int32).toNatClampNeg) by decide), Option.bind_some, show (0 : Int32).toNatClampNeg = 0 from rfl, show M.1 (19, 0, 0) 0 = g 0 from HX.1 0 (by decide)]
  exact congrArg (fun v => some (v, putI M R8 8 0)) (HB.1 0 (vk_s rfl)).symm
theorem api_selectedTune (G : GL M) : API0 (some (fX9_selectedTune M, M)) fX10_selectedTune M := by
  obtain ⟨g, P, S, T, U, A, m, p, HI, HB, HX⟩ := G.1
  refine ⟨_, M, putI M R8 8 0, rfl, fr_rf, ?_, gl_8 G fr_rf, rf_8⟩
  rw [fX10_selectedTune, fX10_tells, if_neg (show ¬ ((4 : Int32) < 0 ∨ 280 ≤ (4 : Int32).toNatClampNeg) by decide), Option.bind_some, show (4 : Int32).toNatClampNeg = 4 from rfl, show M.1 (19, 0, 0) 4 = g 4 from HX.1 4 (by decide)]
  exact congrArg (fun v => some (v, putI M R8 8 0)) (HB.1 4 (vk_s rfl)).symm
theorem api_position (G : GL M) : API0 (some (fX9_position M, M)) fX10_position M := by
  obtain ⟨g, P, S, T, U, A, m, p, HI, HB, HX⟩ := G.1
  refine ⟨_, M, putI M R8 8 0, rfl, fr_rf, ?_, gl_8 G fr_rf, rf_8⟩
  rw [fX10_position, fX10_tells, if_neg (show ¬ ((5 : Int32) < 0 ∨ 280 ≤ (5 : Int32).toNatClampNeg) by decide), Option.bind_some, show (5 : Int32).toNatClampNeg = 5 from rfl, show M.1 (19, 0, 0) 5 = g 5 from HX.1 5 (by decide)]
  exact congrArg (fun v => some (v, putI M R8 8 0)) (HB.1 5 (vk_s rfl)).symm
theorem api_toothCount (G : GL M) : API0 (some (fX9_toothCount M, M)) fX10_toothCount M := by
  obtain ⟨g, P, S, T, U, A, m, p, HI, HB, HX⟩ := G.1
  refine ⟨_, M, putI M R8 8 0, rfl, fr_rf, ?_, gl_8 G fr_rf, rf_8⟩
  rw [fX10_toothCount, fX10_tells, if_neg (show ¬ ((3 : Int32) < 0 ∨ 280 ≤ (3 : Int32).toNatClampNeg) by decide), Option.bind_some, show (3 : Int32).toNatClampNeg = 3 from rfl, show M.1 (19, 0, 0) 3 = g 3 from HX.1 3 (by decide)]
  exact congrArg (fun v => some (v, putI M R8 8 0)) (HB.1 3 (vk_s rfl)).symm
theorem api_turnsLeft (G : GL M) : API0 (some (fX9_turnsLeft M, M)) fX10_turnsLeft M := by
  obtain ⟨g, P, S, T, U, A, m, p, HI, HB, HX⟩ := G.1
  refine ⟨_, M, putI M R8 8 0, rfl, fr_rf, ?_, gl_8 G fr_rf, rf_8⟩
  rw [fX10_turnsLeft, fX10_tells, if_neg (show ¬ ((1 : Int32) < 0 ∨ 280 ≤ (1 : Int32).toNatClampNeg) by decide), Option.bind_some, show (1 : Int32).toNatClampNeg = 1 from rfl, show M.1 (19, 0, 0) 1 = g 1 from HX.1 1 (by decide)]
  exact congrArg (fun v => some (v, putI M R8 8 0)) (HB.1 1 (vk_s rfl)).symm
theorem api_vane (G : GL M) : API0 (some (fX9_vane M, M)) fX10_vane M := by
  obtain ⟨g, P, S, T, U, A, m, p, HI, HB, HX⟩ := G.1
  refine ⟨_, M, putI M R8 8 0, rfl, fr_rf, ?_, gl_8 G fr_rf, rf_8⟩
  rw [fX10_vane, fX10_tells, if_neg (show ¬ ((2 : Int32) < 0 ∨ 280 ≤ (2 : Int32).toNatClampNeg) by decide), Option.bind_some, show (2 : Int32).toNatClampNeg = 2 from rfl, show M.1 (19, 0, 0) 2 = g 2 from HX.1 2 (by decide)]
  exact congrArg (fun v => some (v, putI M R8 8 0)) (HB.1 2 (vk_s rfl)).symm
theorem api_noteCount (G : GL M) : API0 (some (fX9_noteCount M, M)) fX10_noteCount M := by
  obtain ⟨g, P, S, T, U, A, m, p, HI, HB, HX⟩ := G.1
  refine ⟨_, M, putI M R8 8 0, rfl, fr_rf, ?_, gl_8 G fr_rf, rf_8⟩
  rw [fX10_noteCount, fX10_tells, if_neg (show ¬ ((6 : Int32) < 0 ∨ 280 ≤ (6 : Int32).toNatClampNeg) by decide), Option.bind_some, show (6 : Int32).toNatClampNeg = 6 from rfl, show M.1 (19, 0, 0) 6 = g 6 from HX.1 6 (by decide)]
  exact congrArg (fun v => some (v, putI M R8 8 0)) (HB.1 6 (vk_s rfl)).symm
theorem api_squeakCount (G : GL M) : API0 (some (fX9_squeakCount M, M)) fX10_squeakCount M := by
  obtain ⟨g, P, S, T, U, A, m, p, HI, HB, HX⟩ := G.1
  refine ⟨_, M, putI M R8 8 0, rfl, fr_rf, ?_, gl_8 G fr_rf, rf_8⟩
  rw [fX10_squeakCount, fX10_tells, if_neg (show ¬ ((7 : Int32) < 0 ∨ 280 ≤ (7 : Int32).toNatClampNeg) by decide), Option.bind_some, show (7 : Int32).toNatClampNeg = 7 from rfl, show M.1 (19, 0, 0) 7 = g 7 from HX.1 7 (by decide)]
  exact congrArg (fun v => some (v, putI M R8 8 0)) (HB.1 7 (vk_s rfl)).symm
theorem api_stepsPlayed (G : GL M) : API0 (some (fX9_stepsPlayed M, M)) fX10_stepsPlayed M := by
  obtain ⟨g, P, S, T, U, A, m, p, HI, HB, HX⟩ := G.1
  refine ⟨_, M, putI M R8 8 0, rfl, fr_rf, ?_, gl_8 G fr_rf, rf_8⟩
  rw [fX10_stepsPlayed, fX10_tells, if_neg (show ¬ ((8 : Int32) < 0 ∨ 280 ≤ (8 : Int32).toNatClampNeg) by decide), Option.bind_some, show (8 : Int32).toNatClampNeg = 8 from rfl, show M.1 (19, 0, 0) 8 = g 8 from HX.1 8 (by decide)]
  exact congrArg (fun v => some (v, putI M R8 8 0)) (HB.1 8 (vk_s rfl)).symm
theorem api_errorCode (G : GL M) : API0 (some (fX9_errorCode M, M)) fX10_errorCode M := ⟨_, M, putI M R8 8 0, rfl, fr_rf, by rw [fX10_errorCode, fX9_errorCode, G.2.2.1.1], gl_8 G fr_rf, rf_8⟩
theorem api_errorPosition (G : GL M) : API0 (some (fX9_errorPosition M, M)) fX10_errorPosition M := ⟨_, M, putI M R8 8 0, rfl, fr_rf, by rw [fX10_errorPosition, fX9_errorPosition, G.2.2.1.2], gl_8 G fr_rf, rf_8⟩
theorem api_undoCount (G : GL M) : API0 (some (fX9_undoCount M, M)) fX10_undoCount M := by
  obtain ⟨hc, hx, -, -, h1, -, h7, -⟩ := G.2.2.2.1
  exact ⟨_, M, putI M R8 8 0, rfl, fr_rf, by rw [fX10_undoCount, fX9_undoCount, h1, h7], gl_8 G fr_rf, rf_8⟩
theorem spd_eq {M N : Mm} {g : GF} (h1 : M.1 (9, 0, 0) 3 = g 1) (h2 : M.1 (9, 0, 0) 4 = g 2) (h3 : N.1 (19, 0, 0) 1 = g 1) (h4 : N.1 (19, 0, 0) 2 = g 2) : fX10_speed N = fX0_stepsPerMinute M 0 := by
  rw [fX10_speed, fX0_stepsPerMinute, h1, h2, h3, h4]
theorem api_tempo (G : GL M) : API0 (some (fX9_tempo M, M)) fX10_tempo M := by
  obtain ⟨g, P, S, T, U, A, m, p, HI, HB, HX⟩ := G.1
  refine ⟨_, M, putI M R8 8 0, rfl, fr_rf, ?_, gl_8 G fr_rf, rf_8⟩
  rw [fX10_tempo, fX9_tempo, spd_eq (HB.1 1 (vk_s rfl)) (HB.1 2 (vk_s rfl)) ((z_X HX).1 1 (by decide)) ((z_X HX).1 2 (by decide))]
theorem api_stepsLeft (G : GL M) : API0 (some (fX9_stepsLeft M, M)) fX10_stepsLeft M := by
  obtain ⟨g, P, S, T, U, A, m, p, HI, HB, HX⟩ := G.1
  refine ⟨_, M, putI M R8 8 0, rfl, fr_rf, ?_, gl_8 G fr_rf, rf_8⟩
  rw [fX10_stepsLeft, fX9_stepsLeft, fX0_playableSteps, show M.1 (19, 0, 0) 1 = g 1 from HX.1 1 (by decide), show M.1 (19, 0, 0) 0 = g 0 from HX.1 0 (by decide), show M.1 (19, 0, 0) 5 = g 5 from HX.1 5 (by decide), show M.1 (9, 0, 0) 3 = g 1 from HB.1 1 (vk_s rfl), show M.1 (10, 0, 0) 1 = g 0 from HB.1 0 (vk_s rfl), show M.1 (10, 0, 0) 2 = g 5 from HB.1 5 (vk_s rfl)]
  split <;> rfl
theorem api_brokenTeeth (G : GL M) : API0 ((fX9_brokenTeeth M).map fun v => (v, M)) fX10_brokenTeeth M := by
  obtain ⟨g, P, S, T, U, A, m, p, HI, HB, HX⟩ := G.1
  have hT := HI.2.2.2.2.2.2.2.1
  refine ⟨_, M, putI M R8 8 0, by rw [fX9_brokenTeeth, cl_brokenCount HB HI.2.2.2.1 hT.2]; rfl, fr_rf, ?_, gl_8 G fr_rf, rf_8⟩
  exact rf_brL (M := putI M R8 8 0) (z_X HX) HI.2.2.2.1 hT.2 (K := fun w5 _ => some (w5, putI M R8 8 0)) T 0 NF (by omega) (by unfold NF; omega)
theorem i32_x (a b c d e : Int32) : a + e - (b * 1 + c * 5 + d * 3) = a - b - 5 * c - 3 * d + e := by
  simp only [Int32.sub_eq_add_neg, Int32.mul_one, Int32.neg_add, Int32.mul_comm c 5, Int32.mul_comm d 3]
  ac_rfl
theorem api_contradictions (G : GL M) : API0 ((fX9_contradictions M).map fun v => (v, M)) fX10_contradictions M := by
  obtain ⟨g, P, S, T, U, A, m, p, HI, HB, HX⟩ := G.1
  have hT := HI.2.2.2.2.2.2.2.1
  refine ⟨abI (uwS g T) + 0, M, putI M R8 8 0, by rw [fX9_contradictions, cl_wear HB HI.2.2.2.1 hT.2, Option.bind_some, cl_early HB HI.2.2.2.1 hT.2]; rfl, fr_rf, ?_, gl_8 G fr_rf, rf_8⟩
  have := rf_wearL (M := putI M R8 8 0) (z_X HX) HI.2.2.2.1 hT.2 (a := g 10 - g 6 - 5 * g 7 - 3 * g 9) (K := fun w4 _ => some (fJ9_abs_0f7a4 (putI M R8 8 0) w4, putI M R8 8 0)) T 0 NF (by omega) (by unfold NF; omega)
  rw [show sI (fun t => g (16 + 6 * t + 4)) 0 = 0 from rfl, Int32.add_zero] at this
  rw [fX10_contradictions, show M.1 (19, 0, 0) 10 = g 10 from HX.1 10 (by decide), show M.1 (19, 0, 0) 6 = g 6 from HX.1 6 (by decide), show M.1 (19, 0, 0) 7 = g 7 from HX.1 7 (by decide), show M.1 (19, 0, 0) 9 = g 9 from HX.1 9 (by decide), Int32.add_zero, uwS, i32_x]
  exact this
/-! with a tune, a tooth or a step -/
theorem api_isPin (G : GL M) (a b c : Int32) : API [2] (fX9_isPin M a b c) (fun N => fX10_isPin N a b c) M := by
  obtain ⟨g, P, S, T, U, A, m0, p, HI, HB, HX⟩ := G.1
  have hT := HI.2.2.2.2.2.2.2.1
  have hS := HI.2.2.2.2.2.2.1
  rcases fp_c (a := a) (b := b) (c := c) HB HI with ⟨m, t, s, hm, ht, hs, rfl, rfl, rfl, f1, f2⟩ | ⟨f1, f2⟩
  · refine ⟨.inl (bI (P m t s)), M, ?_, fr_rf, fun N hN => ⟨bI (P m t s), putI N R8 8 0, ?_, gl_8 G hN, rf_8, z_8, rfl⟩⟩
    · rw [fX9_isPin, f1, thr_0, cl_hasPin HB hm (by omega) (by omega), Option.bind_some]
      cases P m t s
      · rw [show bI false = 0 from rfl, bz_0]
      · rw [show bI true = 1 from rfl, bz_1]
    · dsimp only
      rw [fX10_isPin, f2 N (rx_o hN HX), Option.bind_some, if_neg one_ne]
      dsimp only
      rw [rf_has (z_X (rx_o hN HX)) hm (by omega) (by omega), Option.bind_some]
      cases P m t s
      · rw [if_pos (bI_0.mpr rfl)]; rfl
      · rw [if_neg (by decide)]; rfl
  · refine ⟨.inr 2, M, by rw [fX9_isPin, f1, thr_1], fr_rf, fun N hN => ⟨0, putI (putI N R8 8 0) R8 8 1, ?_, gl_88 G hN, rf_88, ?_⟩⟩
    · dsimp only
      rw [fX10_isPin, f2 N (rx_o hN HX), Option.bind_some, if_pos rfl]
    · rw [z_8]; exact ag_1 rfl
theorem api_distance (G : GL M) (a b c : Int32) : API [2, 3] (fX9_distance M a b c) (fun N => fX10_distance N a b c) M := by
  obtain ⟨g, P, S, T, U, A, m0, p, HI, HB, HX⟩ := G.1
  have hT := HI.2.2.2.2.2.2.2.1
  have hS := HI.2.2.2.2.2.2.1
  rcases fp_c (a := a) (b := b) (c := c) HB HI with ⟨m, t, s, hm, ht, hs, rfl, rfl, rfl, f1, f2⟩ | ⟨f1, f2⟩
  · have c1 := cl_hasPin HB hm (show t < 12 by omega) (show s < 64 by omega)
    cases hp : P m t s with
    | true =>
      rw [hp] at c1
      refine ⟨.inl (nI (dsS P S m t s)), M, ?_, fr_rf, fun N hN => ⟨nI (dsS P S m t s), putI N R8 8 0, ?_, gl_8 G hN, rf_8, z_8, rfl⟩⟩
      · rw [fX9_distance, f1, thr_0, c1, Option.bind_some, if_neg (by decide), cl_back HB HI hm (by omega) hs, Option.bind_some]
      · dsimp only
        rw [fX10_distance, f2 N (rx_o hN HX), Option.bind_some, if_neg one_ne]
        dsimp only
        rw [rf_has (z_X (rx_o hN HX)) hm (by omega) (by omega), hp, Option.bind_some, show bI true = 1 from rfl, rr_ok z_8, Option.bind_some, if_neg one_ne]
        dsimp only
        rw [rf_far (z_X (rx_o hN HX)) HI hm (by omega) hs, Option.bind_some]
    | false =>
      rw [hp] at c1
      refine ⟨.inr 3, M, ?_, fr_rf, fun N hN => ⟨0, putI (putI N R8 8 0) R8 8 2, ?_, gl_88 G hN, rf_88, ?_⟩⟩
      · rw [fX9_distance, f1, thr_0, c1, Option.bind_some, if_pos (bI_0.mpr rfl)]
      · dsimp only
        rw [fX10_distance, f2 N (rx_o hN HX), Option.bind_some, if_neg one_ne]
        dsimp only
        rw [rf_has (z_X (rx_o hN HX)) hm (by omega) (by omega), hp, Option.bind_some, show bI false = 0 from rfl, rr_no z_8 (by decide), Option.bind_some, if_pos rfl]
      · rw [z_8]; exact ag_2 (by decide) rfl
  · refine ⟨.inr 2, M, by rw [fX9_distance, f1, thr_1], fr_rf, fun N hN => ⟨0, putI (putI N R8 8 0) R8 8 1, ?_, gl_88 G hN, rf_88, ?_⟩⟩
    · dsimp only
      rw [fX10_distance, f2 N (rx_o hN HX), Option.bind_some, if_pos rfl]
    · rw [z_8]; exact ag_1 rfl
theorem api_pinCount (G : GL M) (a : Int32) : API [2] (fX9_pinCount M a) (fun N => fX10_pinCount N a) M := by
  obtain ⟨g, P, S, T, U, A, m0, p, HI, HB, HX⟩ := G.1
  have hT := HI.2.2.2.2.2.2.2.1
  have hS := HI.2.2.2.2.2.2.1
  rcases ix_d a (N := 3) (by decide) with ⟨m, hm, rfl⟩ | ha
  · refine ⟨.inl (nI (pnS P S T m)), M, ?_, fr_rf, fun N hN => ⟨nI (pnS P S T m), putI N R8 8 0, ?_, gl_8 G hN, rf_8, z_8, rfl⟩⟩
    · rw [fX9_pinCount, tf_ok hm, thr_0, cl_pins HB HI hm, Option.bind_some]
    · dsimp only
      rw [fX10_pinCount, ft_ok hm, Option.bind_some, if_neg one_ne]
      dsimp only
      have HZ := z_X (v := 0) (rx_o hN HX)
      rw [rf_pins HZ HI hm, Option.bind_some]
  · refine ⟨.inr 2, M, by rw [fX9_pinCount, tf_no ha, thr_1], fr_rf, fun N hN => ⟨0, putI (putI N R8 8 0) R8 8 1, ?_, gl_88 G hN, rf_88, ?_⟩⟩
    · dsimp only
      rw [fX10_pinCount, ft_no ha, Option.bind_some, if_pos rfl]
    · rw [z_8]; exact ag_1 rfl
theorem api_closePins (G : GL M) (a : Int32) : API [2] (fX9_closePins M a) (fun N => fX10_closePins N a) M := by
  obtain ⟨g, P, S, T, U, A, m0, p, HI, HB, HX⟩ := G.1
  have hT := HI.2.2.2.2.2.2.2.1
  have hS := HI.2.2.2.2.2.2.1
  rcases ix_d a (N := 3) (by decide) with ⟨m, hm, rfl⟩ | ha
  · refine ⟨.inl (nI (mSm (fun t => mCt (clS g P S m t) S) T)), M, ?_, fr_rf, fun N hN => ⟨nI (mSm (fun t => mCt (clS g P S m t) S) T), putI N R8 8 0, ?_, gl_8 G hN, rf_8, z_8, rfl⟩⟩
    · rw [fX9_closePins, tf_ok hm, thr_0, cl_closePins HB HI hm, Option.bind_some]
    · dsimp only
      rw [fX10_closePins, ft_ok hm, Option.bind_some, if_neg one_ne]
      dsimp only
      have HZ := z_X (v := 0) (rx_o hN HX)
      exact rf_closeO HZ HI hm (K := fun w11 _ => some (w11, putI N R8 8 0)) S 0 NF (by omega) (by unfold NF; omega)
  · refine ⟨.inr 2, M, by rw [fX9_closePins, tf_no ha, thr_1], fr_rf, fun N hN => ⟨0, putI (putI N R8 8 0) R8 8 1, ?_, gl_88 G hN, rf_88, ?_⟩⟩
    · dsimp only
      rw [fX10_closePins, ft_no ha, Option.bind_some, if_pos rfl]
    · rw [z_8]; exact ag_1 rfl
theorem api_longestRest (G : GL M) (a : Int32) : API [2] (fX9_longestRest M a) (fun N => fX10_longestRest N a) M := by
  obtain ⟨g, P, S, T, U, A, m0, p, HI, HB, HX⟩ := G.1
  have hT := HI.2.2.2.2.2.2.2.1
  have hS := HI.2.2.2.2.2.2.1
  rcases ix_d a (N := 3) (by decide) with ⟨m, hm, rfl⟩ | ha
  · refine ⟨.inl (rsS P S m), M, ?_, fr_rf, fun N hN => ⟨rsS P S m, putI N R8 8 0, ?_, gl_8 G hN, rf_8, z_8, rfl⟩⟩
    · rw [fX9_longestRest, tf_ok hm, thr_0, cl_rest HB HI hm, Option.bind_some]
    · dsimp only
      rw [fX10_longestRest, ft_ok hm, Option.bind_some, if_neg one_ne]
      dsimp only
      have HZ := z_X (v := 0) (rx_o hN HX)
      refine (rf_restL HZ HI hm (K := fun w9 _ _ => some ((fJ9_min_7cf53 (putI N R8 8 0) w9 ((putI N R8 8 0).1 (19, 0, 0) 0)), putI N R8 8 0)) (2 * S) 0 NF (by omega) (by unfold NF; omega)).trans ?_
      rw [rx_0 HZ HI]
      rfl
  · refine ⟨.inr 2, M, by rw [fX9_longestRest, tf_no ha, thr_1], fr_rf, fun N hN => ⟨0, putI (putI N R8 8 0) R8 8 1, ?_, gl_88 G hN, rf_88, ?_⟩⟩
    · dsimp only
      rw [fX10_longestRest, ft_no ha, Option.bind_some, if_pos rfl]
    · rw [z_8]; exact ag_1 rfl
theorem api_chord (G : GL M) (a b : Int32) : API [2] (fX9_chord M a b) (fun N => fX10_chord N a b) M := by
  obtain ⟨g, P, S, T, U, A, m0, p, HI, HB, HX⟩ := G.1
  have hT := HI.2.2.2.2.2.2.2.1
  have hS := HI.2.2.2.2.2.2.1
  rcases ix_d a (N := 3) (by decide) with ⟨m, hm, rfl⟩ | ha
  · rcases ix_d b (N := S) (by omega) with ⟨s, hs, rfl⟩ | hb
    · refine ⟨.inl (chS P m s 12), M, ?_, fr_rf, fun N hN => ⟨chS P m s 12, putI N R8 8 0, ?_, gl_8 G hN, rf_8, z_8, rfl⟩⟩
      · rw [fX9_chord, tf_ok hm, sf_ok (bx_0 HB HI) (by omega) hs, mx_00, thr_0, cl_teethAt HB hm (by omega), Option.bind_some]
      · have HZ := z_X (v := 0) (rx_o hN HX)
        dsimp only
        rw [fX10_chord, ft_ok hm, Option.bind_some, if_neg one_ne]
        dsimp only
        rw [rst_ok (rx_0 HZ HI) hS hs, rr_ok z_8, Option.bind_some, if_neg one_ne]
        dsimp only
        rw [rf_set hm (by omega), Option.bind_some, rf_chord HZ HI.2.2.2.2.2.2.2.2.2.2.2.2.2 hT.2 hm (by omega)]
    · refine ⟨.inr 2, M, by rw [fX9_chord, tf_ok hm, sf_no (bx_0 HB HI) hb, mx_01, thr_1], fr_rf, fun N hN => ⟨0, putI (putI N R8 8 0) R8 8 1, ?_, gl_88 G hN, rf_88, ?_⟩⟩
      · dsimp only
        rw [fX10_chord, ft_ok hm, Option.bind_some, if_neg one_ne]
        dsimp only
        rw [rst_no (rx_0 (z_X (v := 0) (rx_o hN HX)) HI) hS hb, rr_no z_8 (by decide), Option.bind_some, if_pos rfl]
      · rw [z_8]; exact ag_1 rfl
  · refine ⟨.inr 2, M, by rw [fX9_chord, tf_no ha, mx_1 sf_c, thr_1], fr_rf, fun N hN => ⟨0, putI (putI N R8 8 0) R8 8 1, ?_, gl_88 G hN, rf_88, ?_⟩⟩
    · dsimp only
      rw [fX10_chord, ft_no ha, Option.bind_some, if_pos rfl]
    · rw [z_8]; exact ag_1 rfl
theorem api_soundingPitch (G : GL M) (a : Int32) : API [2] (fX9_soundingPitch M a) (fun N => fX10_soundingPitch N a) M := by
  obtain ⟨g, P, S, T, U, A, m0, p, HI, HB, HX⟩ := G.1
  have hT := HI.2.2.2.2.2.2.2.1
  have hS := HI.2.2.2.2.2.2.1
  rcases ix_d a (N := T) (by omega) with ⟨t, ht, rfl⟩ | ha
  · refine ⟨.inl (ptS g t), M, ?_, fr_rf, fun N hN => ⟨ptS g t, putI N R8 8 0, ?_, gl_8 G hN, rf_8, z_8, rfl⟩⟩
    · rw [fX9_soundingPitch, thf_ok (bx_3 HB HI) (by omega) ht, thr_0, if_neg (nI_in (c := t) (N := 12) (by omega) (by decide)), nI_clamp (by omega), cl_pitch HB ht]
    · have HZ := z_X (v := 0) (rx_o hN HX)
      dsimp only
      rw [fX10_soundingPitch, fto_ok (rx_o hN HX) HI ht, Option.bind_some, if_neg one_ne]
      dsimp only
      rw [rf_of (p := 0) (q := 0) HZ (by omega) (by decide) rfl, Option.bind_some, rf_of (p := 1) (q := 1) HZ (by omega) (by decide) rfl, Option.bind_some]
      rfl
  · refine ⟨.inr 2, M, by rw [fX9_soundingPitch, thf_no (bx_3 HB HI) ha, thr_1], fr_rf, fun N hN => ⟨0, putI (putI N R8 8 0) R8 8 1, ?_, gl_88 G hN, rf_88, ?_⟩⟩
    · dsimp only
      rw [fX10_soundingPitch, fto_no (rx_o hN HX) HI ha, Option.bind_some, if_pos rfl]
    · rw [z_8]; exact ag_1 rfl
theorem api_bendOf (G : GL M) (a : Int32) : API [2] (fX9_bendOf M a) (fun N => fX10_bendOf N a) M := by
  obtain ⟨g, P, S, T, U, A, m0, p, HI, HB, HX⟩ := G.1
  have hT := HI.2.2.2.2.2.2.2.1
  have hS := HI.2.2.2.2.2.2.1
  rcases ix_d a (N := T) (by omega) with ⟨t, ht, rfl⟩ | ha
  · refine ⟨.inl (g (16 + 6 * t + 1)), M, ?_, fr_rf, fun N hN => ⟨g (16 + 6 * t + 1), putI N R8 8 0, ?_, gl_8 G hN, rf_8, z_8, rfl⟩⟩
    · rw [fX9_bendOf, thf_ok (bx_3 HB HI) (by omega) ht, thr_0, if_neg (nI_in (c := t) (N := 12) (by omega) (by decide)), nI_clamp (by omega), bx_t HB ht (by decide)]
    · have HZ := z_X (v := 0) (rx_o hN HX)
      dsimp only
      rw [fX10_bendOf, fto_ok (rx_o hN HX) HI ht, Option.bind_some, if_neg one_ne]
      dsimp only
      rw [rf_of (p := 1) (q := 1) HZ (by omega) (by decide) rfl, Option.bind_some]
  · refine ⟨.inr 2, M, by rw [fX9_bendOf, thf_no (bx_3 HB HI) ha, thr_1], fr_rf, fun N hN => ⟨0, putI (putI N R8 8 0) R8 8 1, ?_, gl_88 G hN, rf_88, ?_⟩⟩
    · dsimp only
      rw [fX10_bendOf, fto_no (rx_o hN HX) HI ha, Option.bind_some, if_pos rfl]
    · rw [z_8]; exact ag_1 rfl
theorem api_gap (G : GL M) (a : Int32) : API [2] (fX9_gap M a) (fun N => fX10_gap N a) M := by
  obtain ⟨g, P, S, T, U, A, m0, p, HI, HB, HX⟩ := G.1
  have hT := HI.2.2.2.2.2.2.2.1
  have hS := HI.2.2.2.2.2.2.1
  rcases ix_d a (N := T) (by omega) with ⟨t, ht, rfl⟩ | ha
  · refine ⟨.inl (g (16 + 6 * t + 2)), M, ?_, fr_rf, fun N hN => ⟨g (16 + 6 * t + 2), putI N R8 8 0, ?_, gl_8 G hN, rf_8, z_8, rfl⟩⟩
    · rw [fX9_gap, thf_ok (bx_3 HB HI) (by omega) ht, thr_0, if_neg (nI_in (c := t) (N := 12) (by omega) (by decide)), nI_clamp (by omega), bx_t HB ht (by decide)]
    · have HZ := z_X (v := 0) (rx_o hN HX)
      dsimp only
      rw [fX10_gap, fto_ok (rx_o hN HX) HI ht, Option.bind_some, if_neg one_ne]
      dsimp only
      rw [rf_of (p := 2) (q := 2) HZ (by omega) (by decide) rfl, Option.bind_some]
  · refine ⟨.inr 2, M, by rw [fX9_gap, thf_no (bx_3 HB HI) ha, thr_1], fr_rf, fun N hN => ⟨0, putI (putI N R8 8 0) R8 8 1, ?_, gl_88 G hN, rf_88, ?_⟩⟩
    · dsimp only
      rw [fX10_gap, fto_no (rx_o hN HX) HI ha, Option.bind_some, if_pos rfl]
    · rw [z_8]; exact ag_1 rfl
theorem api_wear (G : GL M) (a : Int32) : API [2] (fX9_wear M a) (fun N => fX10_wear N a) M := by
  obtain ⟨g, P, S, T, U, A, m0, p, HI, HB, HX⟩ := G.1
  have hT := HI.2.2.2.2.2.2.2.1
  have hS := HI.2.2.2.2.2.2.1
  rcases ix_d a (N := T) (by omega) with ⟨t, ht, rfl⟩ | ha
  · refine ⟨.inl (g (16 + 6 * t + 4)), M, ?_, fr_rf, fun N hN => ⟨g (16 + 6 * t + 4), putI N R8 8 0, ?_, gl_8 G hN, rf_8, z_8, rfl⟩⟩
    · rw [fX9_wear, thf_ok (bx_3 HB HI) (by omega) ht, thr_0, if_neg (nI_in (c := t) (N := 12) (by omega) (by decide)), nI_clamp (by omega), bx_t HB ht (by decide)]
    · have HZ := z_X (v := 0) (rx_o hN HX)
      dsimp only
      rw [fX10_wear, fto_ok (rx_o hN HX) HI ht, Option.bind_some, if_neg one_ne]
      dsimp only
      rw [rf_of (p := 4) (q := 4) HZ (by omega) (by decide) rfl, Option.bind_some]
  · refine ⟨.inr 2, M, by rw [fX9_wear, thf_no (bx_3 HB HI) ha, thr_1], fr_rf, fun N hN => ⟨0, putI (putI N R8 8 0) R8 8 1, ?_, gl_88 G hN, rf_88, ?_⟩⟩
    · dsimp only
      rw [fX10_wear, fto_no (rx_o hN HX) HI ha, Option.bind_some, if_pos rfl]
    · rw [z_8]; exact ag_1 rfl
theorem api_silence (G : GL M) (a : Int32) : API [2] (fX9_silence M a) (fun N => fX10_silence N a) M := by
  obtain ⟨g, P, S, T, U, A, m0, p, HI, HB, HX⟩ := G.1
  have hT := HI.2.2.2.2.2.2.2.1
  have hS := HI.2.2.2.2.2.2.1
  rcases ix_d a (N := T) (by omega) with ⟨t, ht, rfl⟩ | ha
  · refine ⟨.inl (g (16 + 6 * t + 5)), M, ?_, fr_rf, fun N hN => ⟨g (16 + 6 * t + 5), putI N R8 8 0, ?_, gl_8 G hN, rf_8, z_8, rfl⟩⟩
    · rw [fX9_silence, thf_ok (bx_3 HB HI) (by omega) ht, thr_0, if_neg (nI_in (c := t) (N := 12) (by omega) (by decide)), nI_clamp (by omega), bx_t HB ht (by decide)]
    · have HZ := z_X (v := 0) (rx_o hN HX)
      dsimp only
      rw [fX10_silence, fto_ok (rx_o hN HX) HI ht, Option.bind_some, if_neg one_ne]
      dsimp only
      rw [rf_of (p := 5) (q := 5) HZ (by omega) (by decide) rfl, Option.bind_some]
  · refine ⟨.inr 2, M, by rw [fX9_silence, thf_no (bx_3 HB HI) ha, thr_1], fr_rf, fun N hN => ⟨0, putI (putI N R8 8 0) R8 8 1, ?_, gl_88 G hN, rf_88, ?_⟩⟩
    · dsimp only
      rw [fX10_silence, fto_no (rx_o hN HX) HI ha, Option.bind_some, if_pos rfl]
    · rw [z_8]; exact ag_1 rfl
theorem api_isBroken (G : GL M) (a : Int32) : API [2] (fX9_isBroken M a) (fun N => fX10_isBroken N a) M := by
  obtain ⟨g, P, S, T, U, A, m0, p, HI, HB, HX⟩ := G.1
  have hT := HI.2.2.2.2.2.2.2.1
  have hS := HI.2.2.2.2.2.2.1
  rcases ix_d a (N := T) (by omega) with ⟨t, ht, rfl⟩ | ha
  · refine ⟨.inl (bI (brS g t)), M, ?_, fr_rf, fun N hN => ⟨bI (brS g t), putI N R8 8 0, ?_, gl_8 G hN, rf_8, z_8, rfl⟩⟩
    · rw [fX9_isBroken, thf_ok (bx_3 HB HI) (by omega) ht, thr_0, if_neg (nI_in (c := t) (N := 12) (by omega) (by decide)), nI_clamp (by omega), cl_brB HB ht, show bz (bI (brS g t)) = bI (brS g t) by cases brS g t <;> decide]
    · have HZ := z_X (v := 0) (rx_o hN HX)
      dsimp only
      rw [fX10_isBroken, fto_ok (rx_o hN HX) HI ht, Option.bind_some, if_neg one_ne]
      dsimp only
      rw [rf_bad HZ (by omega), Option.bind_some]
      cases brS g t
      · rw [if_pos (bI_0.mpr rfl)]; rfl
      · rw [if_neg (by decide)]; rfl
  · refine ⟨.inr 2, M, by rw [fX9_isBroken, thf_no (bx_3 HB HI) ha, thr_1], fr_rf, fun N hN => ⟨0, putI (putI N R8 8 0) R8 8 1, ?_, gl_88 G hN, rf_88, ?_⟩⟩
    · dsimp only
      rw [fX10_isBroken, fto_no (rx_o hN HX) HI ha, Option.bind_some, if_pos rfl]
    · rw [z_8]; exact ag_1 rfl
theorem api_nextSound (G : GL M) (a : Int32) : API [2] (fX9_nextSound M a) (fun N => fX10_nextSound N a) M := by
  obtain ⟨g, P, S, T, U, A, m0, p, HI, HB, HX⟩ := G.1
  have hT := HI.2.2.2.2.2.2.2.1
  have hS := HI.2.2.2.2.2.2.1
  rcases ix_d a (N := T) (by omega) with ⟨t, ht, rfl⟩ | ha
  · refine ⟨.inl (sndS g P m0 p t), M, ?_, fr_rf, fun N hN => ⟨sndS g P m0 p t, putI N R8 8 0, ?_, gl_8 G hN, rf_8, z_8, rfl⟩⟩
    · rw [fX9_nextSound, thf_ok (bx_3 HB HI) (by omega) ht, thr_0, cl_soundOf HB HI.2.2.2.2.1 HI.2.2.2.2.2.1 HI.2.2.2.2.2.2.2.2.2.2.1 (by have := HI.2.2.2.2.2.2.2.2.2.2.2.1; omega) ht hT.2, Option.bind_some]
    · have HZ := z_X (v := 0) (rx_o hN HX)
      dsimp only
      rw [fX10_nextSound, fto_ok (rx_o hN HX) HI ht, Option.bind_some, if_neg one_ne]
      dsimp only
      rw [rf_sound HZ HI.2.2.2.2.1 HI.2.2.2.2.2.1 HI.2.2.2.2.2.2.2.2.2.2.1 (by have := HI.2.2.2.2.2.2.2.2.2.2.2.1; omega) (by omega), Option.bind_some]
  · refine ⟨.inr 2, M, by rw [fX9_nextSound, thf_no (bx_3 HB HI) ha, thr_1], fr_rf, fun N hN => ⟨0, putI (putI N R8 8 0) R8 8 1, ?_, gl_88 G hN, rf_88, ?_⟩⟩
    · dsimp only
      rw [fX10_nextSound, fto_no (rx_o hN HX) HI ha, Option.bind_some, if_pos rfl]
    · rw [z_8]; exact ag_1 rfl
end GET
