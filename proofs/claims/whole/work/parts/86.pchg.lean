/-! calls that change the box -/
theorem or_f {a b : Bool} (h1 : a = false) (h2 : b = false) : (a || b) = false := by rw [h1, h2]; rfl
theorem sb_R8 {i : Nat} : sBx i R8 = false := rfl
theorem bx_dis {i : Nat} {r a : Rf} (hr : sBx i r = true) (ha : sBx i a = false) : (r == a) = false := by
  cases e : (r == a) with
  | false => rfl
  | true =>
    have : r = a := by simpa using e
    rw [this, ha] at hr; cases hr
def sNw (r : Rf) : Bool := sNW r || r == (19, 5, 0)
def sC1 (hx : Nat) (r : Rf) : Bool := (r == (14, 0, 0) || sBx (2 + hx) r) || sBx 0 r
def sC2 (r : Rf) : Bool := (r == R8 || r == (19, 3, 0)) || sNw r
theorem sn_n {M N : Mm} (h : Fr sNW M N) : Fr sNw M N := fr_mono (fun r hr => by unfold sNw; rw [hr]; rfl) h
theorem sb_cl {i : Nat} {r : Rf} (h : sBx i r = true) : sCl r = true := by
  obtain ⟨x, y, z⟩ := r
  unfold sCl
  refine decide_eq_true ?_
  unfold sBx at h
  revert h
  simp only [Bool.or_eq_true, Bool.and_eq_true, beq_iff_eq, decide_eq_true_eq]
  omega
theorem nI_inj2 {a b : Nat} (ha : a < 2 ^ 31) (hb : b < 2 ^ 31) (h : nI a = nI b) : a = b := by
  have := congrArg Int32.toNatClampNeg h
  rw [nI_clamp ha, nI_clamp hb] at this
  exact this
section CHG
variable {M : Mm} {g g' : GF} {P P' : PF} {S T U A m0 p S' U' A' m' p' : Nat} {o1 : Option ((Int32 ⊕ Nat) × Mm)} {f2 : Mm → Option (Int32 × Mm)} {v : Int32} {cs : List Nat}
theorem api_err {e : Nat} {k : Int32} (G : GL M) (HX : RX (M.1 NW) g P) (hc : o1 = some (.inr e, M)) (hr : ∀ N, RX (N.1 NW) g P → f2 N = some (0, putI (putI N R8 8 0) R8 8 k)) (hag : AG cs (.inr e) 0 k) : API cs o1 f2 M :=
  ⟨.inr e, M, hc, fr_rf, fun N hN => ⟨0, putI (putI N R8 8 0) R8 8 k, hr N (rx_o hN HX), gl_88 G hN, rf_88, by rw [z_8]; exact hag⟩⟩
theorem api_chg (G : GL M) (HI : Iv g P S T U A m0 p) (HB : BX M T 0 g P) (HX : RX (M.1 NW) g P) (HI' : Iv g' P' S' T U' A' m' p')
    (hc : ∀ M1, fX2_remember M 0 = some M1 → BX M1 T 0 g P → ∃ M2, o1 = some (.inl v, M2) ∧ BX M2 T 0 g' P' ∧ Fr (sBx 0) M1 M2)
    (hr : ∀ N N1, RX (N.1 NW) g P → fX10_changes (putI N R8 8 0) = some N1 → RX (N1.1 NW) g P → N1.1 R8 8 = 0 → ∃ N2, f2 N = some (v, N2) ∧ RX (N2.1 NW) g' P' ∧ Fr sNw N1 N2) : API cs o1 f2 M := by
  have hT := HI.2.2.2.2.2.2.2.1
  obtain ⟨hc0, hx, H⟩ := G.2.2.2.1
  obtain ⟨M1, r1, r2, r3, r4, r5, r6⟩ := cl_rem hT.2 HB H.1 H.2.1 H.2.2.1 H.2.2.2.1
  obtain ⟨M2, s1, s2, s3⟩ := hc M1 r1 r2
  have fC : Fr (sC1 hx) M M2 := fr_tr (fr_mono (fun r hr => by unfold sC1; rw [hr]; rfl) r4) (fr_mono (fun r hr => by unfold sC1; rw [hr, Bool.or_true]) s3)
  refine ⟨.inl v, M2, s1, fr_mono (fun r hr => ?_) fC, fun N hN => ?_⟩
  · unfold sC1 at hr
    rcases Bool.or_eq_true .. |>.mp hr with hr | hr
    · rcases Bool.or_eq_true .. |>.mp hr with hr | hr
      · have : r = (14, 0, 0) := by simpa using hr
        rw [this]; rfl
      · exact sb_cl hr
    · exact sb_cl hr
  have fN : Fr (fun r => sC1 hx r || sOut r) M N := fr_tr (fr_mono (fun r hr => by rw [hr]; rfl) fC) (fr_mono (fun r hr => by rw [hr, Bool.or_true]) hN)
  have XN : RX (N.1 NW) g P := rx_fr (S := fun r => sC1 hx r || sOut r) rfl fN HX
  have n7 : (putI N R8 8 0).1 R8 7 = nI hc0 := by rw [g_row, upd_o (by decide), (fN R8 rfl).1]; exact H.2.2.2.2.1
  have n25 : (putI N R8 8 0).1 R8 25 = 0 := by rw [g_row, upd_o (by decide), (fN R8 rfl).1]; exact G.2.2.2.2.2.2
  obtain ⟨N1, k1, k2⟩ := rf_keeps H.1 n7
  have e1 : fX10_changes (putI N R8 8 0) = some N1 := by rw [fX10_changes, n25, if_pos rfl, k1]; rfl
  have XN1 : RX (N1.1 NW) g P := rx_fr (S := fun r => r == R8 || r == (19, 3, 0)) rfl k2.2.1.1 (z_X XN)
  have z1 : N1.1 R8 8 = 0 := by rw [k2.2.1.2 8 rfl]; exact z_8
  obtain ⟨N2, t1, t2, t3⟩ := hr N N1 XN e1 XN1 z1
  have fR : Fr sC2 N N2 := fr_tr (fr_pI fr_rf rfl) (fr_tr (fr_mono (fun r hr => by unfold sC2; rw [hr]; rfl) k2.2.1.1) (fr_mono (fun r hr => by unfold sC2; rw [hr, Bool.or_true]) t3))
  have z2 : N2.1 R8 8 = 0 := by rw [(t3 R8 rfl).1]; exact z1
  have fA : GFr (fun r => (sC1 hx r || sOut r) || sC2 r) (fun j => j == 7 || j == 8) M N2 := ⟨fr_tr (fr_mono (fun r hr => by rw [hr]; rfl) fN) (fr_mono (fun r hr => by rw [hr, Bool.or_true]) fR), fun j hj => by
    have hj2 : (j == 7 || j == 8) = false := hj
    have j7 : (j == 7) = false := (Bool.or_eq_false_iff.mp hj2).1
    have j8 : j ≠ 8 := by intro c; rw [c] at hj; cases hj
    rw [(t3 R8 rfl).1, k2.2.1.2 j j7, g_row, upd_o j8, (fN R8 rfl).1]⟩
  have dO : ∀ i r, sBx i r = true → sOut r = false := fun i r hr => or_f (bx_dis hr rfl) (bx_dis hr rfl)
  have d2 : ∀ i r, sBx i r = true → sC2 r = false := fun i r hr => or_f (or_f (bx_dis hr rfl) (bx_dis hr rfl)) (or_f (bx_dis hr rfl) (bx_dis hr rfl))
  have d1 : ∀ i, i ≠ 0 → i ≠ 2 + hx → ∀ r, sBx i r = true → sC1 hx r = false := fun i i0 ix r hr => or_f (or_f (bx_dis hr rfl) (sBx_dis ix r hr)) (sBx_dis i0 r hr)
  refine ⟨v, N2, t1, ⟨⟨g', P', S', T, U', A', m', p', HI', bx_fr (d2 0) fR (bx_fr (dO 0) hN s2), t2⟩, gt_fr rfl rfl rfl rfl fA G.2.1, ge_fr rfl rfl rfl fA G.2.2.1, ⟨min 8 (hc0 + 1), (hx + 1) % 8, ?_⟩, ?_, ?_, ?_⟩, fr_mono (fun r hr => ?_) fR, z2, rfl⟩
  · refine gh_new (S1 := fun r => (sBx 0 r || sOut r) || r == R8) (S2 := sNw) H HI HX r3 r4 r5 r6 (fr_tr (fr_mono (fun r hr => by rw [hr]; rfl) s3) (fr_pI (fr_mono (fun r hr => by rw [hr, Bool.or_true]; rfl) hN) rfl)) ⟨rfl, rfl, rfl, fun i i2 _ r hr => or_f (or_f (sBx_dis (by omega) r hr) (dO i r hr)) (bx_dis hr rfl)⟩ k2 t3 (by rw [(t3 R8 rfl).1]) ⟨rfl, rfl, fun i _ _ r hr => or_f (bx_dis hr rfl) (bx_dis hr rfl)⟩
  · exact gs_fr rfl rfl rfl (fun i i1 i2 r hr => or_f (or_f (d1 i (by omega) (by have := H.2.1; omega) r hr) (dO i r hr)) (d2 i r hr)) fA G.2.2.2.2.1
  · exact go_fr rfl rfl rfl rfl fA G.2.2.2.2.2.1
  · rw [fA.2 25 rfl]; exact G.2.2.2.2.2.2
  · obtain ⟨x, y, z⟩ := r
    unfold sC2 sNw sNW at hr
    simp only [Bool.or_eq_true, beq_iff_eq] at hr
    rcases hr with (h | h) | (h | h) <;> (rw [h]; rfl)
theorem api_selectTune (G : GL M) (x : Int32) : API [2] (fX9_selectTune M x) (fun N => fX10_selectTune N x) M := by
  obtain ⟨g, P, S, T, U, A, m0, p, HI, HB, HX⟩ := G.1
  have hT := HI.2.2.2.2.2.2.2.1
  rcases op_tune (M1 := M) (M2 := putI M R8 8 0) (x := x) (z_X HX) z_8 with ⟨f1, -⟩ | ⟨a, ha, x1, f1, -⟩
  · refine api_err G HX (k := 1) (by rw [fX9_selectTune, f1, thr_1]) (fun N HN => ?_) (ag_1 rfl)
    rcases op_tune (M1 := M) (M2 := putI N R8 8 0) (x := x) (z_X HN) z_8 with ⟨-, h⟩ | ⟨_, _, _, h, -⟩
    · rw [fX10_selectTune, h]; rfl
    · exact absurd (f1.symm.trans h) (by decide)
  · refine api_chg G HI HB HX (g' := upd g 4 x) (v := g 4) (by rw [x1]; exact iv_4 HI ha) (fun M1 r1 r2 => ?_) (fun N N1 HN hC HX1 _ => ?_)
    · refine ⟨putI M1 (10, 0, 0) 3 x, ?_, bx_put' (k := 4) r2 (vk_s rfl) rfl, fr_putI (sBx_1 rfl)⟩
      rw [fX9_selectTune, f1, thr_0, r1, Option.bind_some, show M1.1 (10, 0, 0) 3 = g 4 from r2.1 4 (vk_s rfl)]
    · rcases op_tune (M1 := M) (M2 := putI N R8 8 0) (x := x) (z_X HN) z_8 with ⟨h, -⟩ | ⟨a2, _, e2, _, h⟩
      · exact absurd (f1.symm.trans h) (by decide)
      · obtain ⟨N2, n1, n2, n3⟩ := h N1 hC HX1
        exact ⟨N2, by rw [fX10_selectTune, n1]; rfl, n2, sn_n n3⟩
theorem api_setVane (G : GL M) (x : Int32) : API [1] (fX9_setVane M x) (fun N => fX10_setVane N x) M := by
  obtain ⟨g, P, S, T, U, A, m0, p, HI, HB, HX⟩ := G.1
  have hT := HI.2.2.2.2.2.2.2.1
  rcases op_vane (M1 := M) (M2 := putI M R8 8 0) (x := x) (z_X HX) z_8 with ⟨f1, -⟩ | ⟨a, ha, x1, f1, -⟩
  · refine api_err G HX (k := 1) (by rw [fX9_setVane, f1, thr_2]) (fun N HN => ?_) (ag_1 rfl)
    rcases op_vane (M1 := M) (M2 := putI N R8 8 0) (x := x) (z_X HN) z_8 with ⟨-, h⟩ | ⟨_, _, _, h, -⟩
    · rw [fX10_setVane, h]; rfl
    · exact absurd (f1.symm.trans h) (by decide)
  · refine api_chg G HI HB HX (g' := upd g 2 x) (v := g 2) (by rw [x1]; exact iv_2 HI ha) (fun M1 r1 r2 => ?_) (fun N N1 HN hC HX1 _ => ?_)
    · refine ⟨putI M1 (9, 0, 0) 4 x, ?_, bx_put' (k := 2) r2 (vk_s rfl) rfl, fr_putI (sBx_1 rfl)⟩
      rw [fX9_setVane, f1, thr_0, r1, Option.bind_some, show M1.1 (9, 0, 0) 4 = g 2 from r2.1 2 (vk_s rfl)]
    · rcases op_vane (M1 := M) (M2 := putI N R8 8 0) (x := x) (z_X HN) z_8 with ⟨h, -⟩ | ⟨a2, _, e2, _, h⟩
      · exact absurd (f1.symm.trans h) (by decide)
      · obtain ⟨N2, n1, n2, n3⟩ := h N1 hC HX1
        exact ⟨N2, by rw [fX10_setVane, n1]; rfl, n2, sn_n n3⟩
theorem api_setGap (G : GL M) (b x : Int32) : API [2, 1] (fX9_setGap M b x) (fun N => fX10_setGap N b x) M := by
  obtain ⟨g, P, S, T, U, A, m0, p, HI, HB, HX⟩ := G.1
  have hT := HI.2.2.2.2.2.2.2.1
  rcases op_gap (M1 := M) (M2 := putI M R8 8 0) (b := b) (x := x) HB (z_X HX) HI z_8 with ⟨f1, -⟩ | ⟨f1, -⟩ | ⟨t, ht, x1, f1, -⟩
  · refine api_err G HX (k := 1) (by rw [fX9_setGap, f1, thr_1]) (fun N HN => ?_) (ag_1 rfl)
    rcases op_gap (M1 := M) (M2 := putI N R8 8 0) (b := b) (x := x) HB (z_X HN) HI z_8 with ⟨-, h⟩ | ⟨h, -⟩ | ⟨_, _, _, h, -⟩
    · rw [fX10_setGap, h]; rfl
    · exact absurd (f1.symm.trans h) (by decide)
    · exact absurd (f1.symm.trans h) (by decide)
  · refine api_err G HX (k := 2) (by rw [fX9_setGap, f1, thr_2]) (fun N HN => ?_) (ag_2 (by decide) rfl)
    rcases op_gap (M1 := M) (M2 := putI N R8 8 0) (b := b) (x := x) HB (z_X HN) HI z_8 with ⟨h, -⟩ | ⟨-, h⟩ | ⟨_, _, _, h, -⟩
    · exact absurd (f1.symm.trans h) (by decide)
    · rw [fX10_setGap, h]; rfl
    · exact absurd (f1.symm.trans h) (by decide)
  · refine api_chg G HI HB HX (g' := upd g (16 + 6 * t + 2) x) (v := g (16 + 6 * t + 2)) (iv_t HI (by decide)) (fun M1 r1 r2 => ?_) (fun N N1 HN hC HX1 _ => ?_)
    · refine ⟨putI M1 (13, 0, t) 2 x, ?_, bx_putT ht (by decide) r2, fr_putI (sBx_1 rfl)⟩
      have hg : ¬ (nI t < 0 ∨ 12 ≤ (nI t).toNatClampNeg) := nI_in (by omega) (by decide)
      rw [fX9_setGap, f1, thr_0, r1, Option.bind_some, x1]
      simp only [hg, if_false]
      rw [nI_clamp (by omega), bx_t r2 ht (by decide)]
    · rcases op_gap (M1 := M) (M2 := putI N R8 8 0) (b := b) (x := x) HB (z_X HN) HI z_8 with ⟨h, -⟩ | ⟨h, -⟩ | ⟨t2, h2, e2, _, h⟩
      · exact absurd (f1.symm.trans h) (by decide)
      · exact absurd (f1.symm.trans h) (by decide)
      · obtain rfl : t2 = t := nI_inj2 (by omega) (by omega) (e2.symm.trans x1)
        obtain ⟨N2, n1, n2, n3⟩ := h N1 hC HX1
        exact ⟨N2, by rw [fX10_setGap, n1]; rfl, n2, sn_n n3⟩
theorem api_replaceTooth (G : GL M) (b : Int32) : API [2] (fX9_replaceTooth M b) (fun N => fX10_replaceTooth N b) M := by
  obtain ⟨g, P, S, T, U, A, m0, p, HI, HB, HX⟩ := G.1
  have hT := HI.2.2.2.2.2.2.2.1
  rcases op_mend (M1 := M) (M2 := putI M R8 8 0) (b := b) HB (z_X HX) HI z_8 with ⟨f1, -⟩ | ⟨t, ht, x1, f1, -⟩
  · refine api_err G HX (k := 1) (by rw [fX9_replaceTooth, f1, thr_1]) (fun N HN => ?_) (ag_1 rfl)
    rcases op_mend (M1 := M) (M2 := putI N R8 8 0) (b := b) HB (z_X HN) HI z_8 with ⟨-, h⟩ | ⟨_, _, _, h, -⟩
    · rw [fX10_replaceTooth, h]; rfl
    · exact absurd (f1.symm.trans h) (by decide)
  · refine api_chg G HI HB HX (v := g (16 + 6 * t + 4)) (iv_md (t := t) HI) (fun M1 r1 r2 => ?_) (fun N N1 HN hC HX1 _ => ?_)
    · obtain ⟨W, w1, w2, w3⟩ := cl_mend r2 hT.2 ht
      refine ⟨W, ?_, w2, w3⟩
      have hg : ¬ (nI t < 0 ∨ 12 ≤ (nI t).toNatClampNeg) := nI_in (by omega) (by decide)
      rw [fX9_replaceTooth, f1, thr_0, r1, Option.bind_some, x1]
      simp only [hg, if_false]
      rw [w1, Option.bind_some, nI_clamp (by omega), bx_t r2 ht (by decide)]
    · rcases op_mend (M1 := M) (M2 := putI N R8 8 0) (b := b) HB (z_X HN) HI z_8 with ⟨h, -⟩ | ⟨t2, h2, e2, _, h⟩
      · exact absurd (f1.symm.trans h) (by decide)
      · obtain rfl : t2 = t := nI_inj2 (by omega) (by omega) (e2.symm.trans x1)
        obtain ⟨N2, n1, n2, n3⟩ := h N1 hC HX1
        exact ⟨N2, by rw [fX10_replaceTooth, n1]; rfl, n2, sn_n n3⟩
theorem api_wind (G : GL M) (x : Int32) : API [1, 0] (fX9_wind M x) (fun N => fX10_wind N x) M := by
  obtain ⟨g, P, S, T, U, A, m0, p, HI, HB, HX⟩ := G.1
  have hT := HI.2.2.2.2.2.2.2.1
  rcases op_wind (M1 := M) (M2 := putI M R8 8 0) (x := x) HB (z_X HX) HI z_8 with ⟨f1, -⟩ | ⟨f1, -⟩ | ⟨w, hw, x1, f1, -⟩
  · refine api_err G HX (k := 1) (by rw [fX9_wind, f1, thr_2]) (fun N HN => ?_) (ag_1 rfl)
    rcases op_wind (M1 := M) (M2 := putI N R8 8 0) (x := x) HB (z_X HN) HI z_8 with ⟨-, h⟩ | ⟨h, -⟩ | ⟨_, _, _, h, -⟩
    · rw [fX10_wind, h]; rfl
    · exact absurd (f1.symm.trans h) (by decide)
    · exact absurd (f1.symm.trans h) (by decide)
  · refine api_err G HX (k := 2) (by rw [fX9_wind, f1, thr_3]) (fun N HN => ?_) (ag_2 (by decide) rfl)
    rcases op_wind (M1 := M) (M2 := putI N R8 8 0) (x := x) HB (z_X HN) HI z_8 with ⟨h, -⟩ | ⟨-, h⟩ | ⟨_, _, _, h, -⟩
    · exact absurd (f1.symm.trans h) (by decide)
    · rw [fX10_wind, h]; rfl
    · exact absurd (f1.symm.trans h) (by decide)
  · refine api_chg G HI HB HX (v := nI (U + w)) (iv_1 HI hw) (fun M1 r1 r2 => ?_) (fun N N1 HN hC HX1 _ => ?_)
    · refine ⟨putI M1 (9, 0, 0) 3 (nI (U + w)), ?_, bx_put' (k := 1) r2 (vk_s rfl) rfl, fr_putI (sBx_1 rfl)⟩
      rw [fX9_wind, f1, thr_0, r1, Option.bind_some, show M1.1 (9, 0, 0) 3 = nI U from (r2.1 1 (vk_s rfl)).trans HI.2.1, x1, nI_add]
    · rcases op_wind (M1 := M) (M2 := putI N R8 8 0) (x := x) HB (z_X HN) HI z_8 with ⟨h, -⟩ | ⟨h, -⟩ | ⟨t2, h2, e2, _, h⟩
      · exact absurd (f1.symm.trans h) (by decide)
      · exact absurd (f1.symm.trans h) (by decide)
      · obtain rfl : t2 = w := nI_inj2 (by omega) (by omega) (e2.symm.trans x1)
        obtain ⟨N2, n1, n2, n3⟩ := h N1 hC HX1
        exact ⟨N2, by rw [fX10_wind, n1]; rfl, n2, sn_n n3⟩
theorem api_play (G : GL M) (x : Int32) : API [1, 0] (fX9_play M x) (fun N => fX10_play N x) M := by
  obtain ⟨g, P, S, T, U, A, m0, p, HI, HB, HX⟩ := G.1
  have hT := HI.2.2.2.2.2.2.2.1
  rcases op_play (M1 := M) (M2 := putI M R8 8 0) (x := x) HB (z_X HX) HI z_8 with ⟨f1, -⟩ | ⟨f1, -⟩ | ⟨w, hw, x1, f1, -⟩
  · refine api_err G HX (k := 1) (by rw [fX9_play, f1, thr_2]) (fun N HN => ?_) (ag_1 rfl)
    rcases op_play (M1 := M) (M2 := putI N R8 8 0) (x := x) HB (z_X HN) HI z_8 with ⟨-, h⟩ | ⟨h, -⟩ | ⟨_, _, _, h, -⟩
    · rw [fX10_play, h]; rfl
    · exact absurd (f1.symm.trans h) (by decide)
    · exact absurd (f1.symm.trans h) (by decide)
  · refine api_err G HX (k := 2) (by rw [fX9_play, f1, thr_3]) (fun N HN => ?_) (ag_2 (by decide) rfl)
    rcases op_play (M1 := M) (M2 := putI N R8 8 0) (x := x) HB (z_X HN) HI z_8 with ⟨h, -⟩ | ⟨-, h⟩ | ⟨_, _, _, h, -⟩
    · exact absurd (f1.symm.trans h) (by decide)
    · rw [fX10_play, h]; rfl
    · exact absurd (f1.symm.trans h) (by decide)
  · refine api_chg G HI HB HX (v := nI (playN P S T m0 w g p U).1) (playN_iv w g p U HI) (fun M1 r1 r2 => ?_) (fun N N1 HN hC HX1 _ => ?_)
    · obtain ⟨W, w1, w2, w3⟩ := cl_playSteps (k := w) (by omega) r2 HI
      refine ⟨W, ?_, w2, w3⟩
      rw [fX9_play, f1, thr_0, r1, Option.bind_some, x1, w1, Option.bind_some]
    · rcases op_play (M1 := M) (M2 := putI N R8 8 0) (x := x) HB (z_X HN) HI z_8 with ⟨h, -⟩ | ⟨h, -⟩ | ⟨t2, h2, e2, _, h⟩
      · exact absurd (f1.symm.trans h) (by decide)
      · exact absurd (f1.symm.trans h) (by decide)
      · obtain rfl : t2 = w := nI_inj2 (by omega) (by omega) (e2.symm.trans x1)
        obtain ⟨N2, n1, n2, n3⟩ := h N1 hC HX1
        exact ⟨N2, by rw [fX10_play, n1]; rfl, n2, sn_n n3⟩
theorem api_bend (G : GL M) (b x : Int32) : API [2, 1, 0] (fX9_bend M b x) (fun N => fX10_bend N b x) M := by
  obtain ⟨g, P, S, T, U, A, m0, p, HI, HB, HX⟩ := G.1
  have hT := HI.2.2.2.2.2.2.2.1
  rcases op_bend (M1 := M) (M2 := putI M R8 8 0) (b := b) (x := x) HB (z_X HX) HI z_8 with ⟨f, hf, f1, -⟩ | ⟨t, ht, x1, f1, hr, -⟩
  · have hn : f ≠ 0 := by rcases hf with rfl | rfl | rfl <;> decide
    have hr : ∀ N : Mm, RX (N.1 NW) g P → fX10_bend N b x = some (0, putI (putI N R8 8 0) R8 8 f) := fun N HN => by
      rcases op_bend (M1 := M) (M2 := putI N R8 8 0) (b := b) (x := x) HB (z_X HN) HI z_8 with ⟨f', _, h1, h⟩ | ⟨_, _, _, h, -⟩
      · obtain rfl : f' = f := Option.some.inj (h1.symm.trans f1)
        rw [fX10_bend, h]; rfl
      · exact absurd (Option.some.inj (f1.symm.trans h)) hn
    rcases hf with rfl | rfl | rfl
    · exact api_err G HX (k := 1) (by rw [fX9_bend, f1, Option.bind_some, thr_1]) hr (ag_1 rfl)
    · exact api_err G HX (k := 2) (by rw [fX9_bend, f1, Option.bind_some, thr_2]) hr (ag_2 (by decide) rfl)
    · exact api_err G HX (k := 3) (by rw [fX9_bend, f1, Option.bind_some, thr_3]) hr (ag_3 (by decide) (by decide) rfl)
  · refine api_chg G HI HB HX (v := g (16 + 6 * t + 1) + x) (iv_bn HI hr) (fun M1 r1 r2 => ?_) (fun N N1 HN hC HX1 _ => ?_)
    · obtain ⟨W, w1, w2, w3, w4⟩ := cl_bend (x := x) r2 hT.2 ht
      refine ⟨W, ?_, w2, w3⟩
      have hg : ¬ (nI t < 0 ∨ 12 ≤ (nI t).toNatClampNeg) := nI_in (by omega) (by decide)
      rw [fX9_bend, f1, Option.bind_some, thr_0, r1, Option.bind_some, x1, w1, Option.bind_some]
      simp only [hg, if_false]
      rw [nI_clamp (by omega), w4]
    · rcases op_bend (M1 := M) (M2 := putI N R8 8 0) (b := b) (x := x) HB (z_X HN) HI z_8 with ⟨f', hf, h, -⟩ | ⟨t2, h2, e2, _, _, h⟩
      · rw [Option.some.inj (h.symm.trans f1)] at hf
        exact absurd hf (by decide)
      · obtain rfl : t2 = t := nI_inj2 (by omega) (by omega) (e2.symm.trans x1)
        obtain ⟨N2, n1, n2, n3⟩ := h N1 hC HX1
        exact ⟨N2, by rw [fX10_bend, n1]; rfl, n2, sn_n n3⟩
theorem api_addPin (G : GL M) (a b c : Int32) : API [2, 0] (fX9_addPin M a b c) (fun N => fX10_addPin N a b c) M := by
  obtain ⟨g, P, S, T, U, A, m0, p, HI, HB, HX⟩ := G.1
  have hT := HI.2.2.2.2.2.2.2.1
  have hS := HI.2.2.2.2.2.2.1
  rcases op_pin (M1 := M) (M2 := putI M R8 8 0) (a := a) (b := b) (c := c) (x := 1) (on := true) rfl HB (z_X HX) HI z_8 with ⟨f1, -⟩ | ⟨m, t, s, hm, ht, hs, x1, x2, x3, f1, f2, f3⟩
  · refine api_err G HX (k := 1) (by rw [fX9_addPin, fX0_putPinFault, f1, if_neg one_ne, Option.bind_some, thr_1]) (fun N HN => ?_) (ag_1 rfl)
    rcases op_pin (M1 := M) (M2 := putI N R8 8 0) (a := a) (b := b) (c := c) (x := 1) (on := true) rfl HB (z_X HN) HI z_8 with ⟨-, h⟩ | ⟨_, _, _, _, _, _, _, _, _, h, -, -⟩
    · rw [fX10_addPin, h]; rfl
    · exact absurd (f1.symm.trans h) (by decide)
  · subst x1 x2 x3
    have e : P m t s = true ∨ P m t s = !true := by cases P m t s <;> decide
    rcases e with y1 | y1
    · refine api_err G HX (k := 2) (by rw [fX9_addPin, fX0_putPinFault, f1, if_pos rfl, f2, y1, Option.bind_some, if_neg (by decide), Option.bind_some, thr_3]) (fun N HN => ?_) (ag_2 (by decide) rfl)
      rcases op_pin (M1 := M) (M2 := putI N R8 8 0) (a := nI m) (b := nI t) (c := nI s) (x := 1) (on := true) rfl HB (z_X HN) HI z_8 with ⟨h, -⟩ | ⟨m', t', s', hm', ht', hs', e1, e2, e3, -, -, h⟩
      · exact absurd (f1.symm.trans h) (by decide)
      · obtain rfl := nI_inj2 (by omega) (by omega) e1
        obtain rfl := nI_inj2 (by omega) (by omega) e2
        obtain rfl := nI_inj2 (by omega) (by omega) e3
        rcases h with ⟨-, h⟩ | ⟨y2, -⟩
        · rw [fX10_addPin, h]; rfl
        · exact absurd (y1.symm.trans y2) (by decide)
    · refine api_chg G HI HB HX (v := nI (pnS (pAdd P m t s) S T m)) (iv_add HI hm ht hs) (fun M1 r1 r2 => ?_) (fun N N1 HN hC HX1 _ => ?_)
      · obtain ⟨W, w1, w2, w3⟩ := cl_putPin r2 hm (show t < 12 by omega) (show s < 64 by omega)
        refine ⟨W, ?_, w2, w3⟩
        rw [fX9_addPin, fX0_putPinFault, f1, if_pos rfl, f2, y1, Option.bind_some, if_pos (show bI (!true) = 0 from bI_0.mpr rfl), Option.bind_some, thr_0, r1, Option.bind_some, w1, Option.bind_some, cl_pins w2 (iv_add HI hm ht hs) hm, Option.bind_some]
      · rcases op_pin (M1 := M) (M2 := putI N R8 8 0) (a := nI m) (b := nI t) (c := nI s) (x := 1) (on := true) rfl HB (z_X HN) HI z_8 with ⟨h, -⟩ | ⟨m', t', s', hm', ht', hs', e1, e2, e3, -, -, h⟩
        · exact absurd (f1.symm.trans h) (by decide)
        · obtain rfl := nI_inj2 (by omega) (by omega) e1
          obtain rfl := nI_inj2 (by omega) (by omega) e2
          obtain rfl := nI_inj2 (by omega) (by omega) e3
          rcases h with ⟨y2, -⟩ | ⟨-, h⟩
          · exact absurd (y1.symm.trans y2) (by decide)
          · obtain ⟨N2, n1, n2, n3⟩ := h N1 hC HX1
            rw [y1] at n1 n2
            exact ⟨N2, by rw [fX10_addPin, n1]; rfl, n2, sn_n n3⟩
theorem api_removePin (G : GL M) (a b c : Int32) : API [2, 0] (fX9_removePin M a b c) (fun N => fX10_removePin N a b c) M := by
  obtain ⟨g, P, S, T, U, A, m0, p, HI, HB, HX⟩ := G.1
  have hT := HI.2.2.2.2.2.2.2.1
  have hS := HI.2.2.2.2.2.2.1
  rcases op_pin (M1 := M) (M2 := putI M R8 8 0) (a := a) (b := b) (c := c) (x := 0) (on := false) rfl HB (z_X HX) HI z_8 with ⟨f1, -⟩ | ⟨m, t, s, hm, ht, hs, x1, x2, x3, f1, f2, f3⟩
  · refine api_err G HX (k := 1) (by rw [fX9_removePin, fX0_takePinFault, f1, if_neg one_ne, Option.bind_some, thr_1]) (fun N HN => ?_) (ag_1 rfl)
    rcases op_pin (M1 := M) (M2 := putI N R8 8 0) (a := a) (b := b) (c := c) (x := 0) (on := false) rfl HB (z_X HN) HI z_8 with ⟨-, h⟩ | ⟨_, _, _, _, _, _, _, _, _, h, -, -⟩
    · rw [fX10_removePin, h]; rfl
    · exact absurd (f1.symm.trans h) (by decide)
  · subst x1 x2 x3
    have e : P m t s = false ∨ P m t s = !false := by cases P m t s <;> decide
    rcases e with y1 | y1
    · refine api_err G HX (k := 2) (by rw [fX9_removePin, fX0_takePinFault, f1, if_pos rfl, f2, y1, Option.bind_some, if_pos (bI_0.mpr rfl), Option.bind_some, thr_3]) (fun N HN => ?_) (ag_2 (by decide) rfl)
      rcases op_pin (M1 := M) (M2 := putI N R8 8 0) (a := nI m) (b := nI t) (c := nI s) (x := 0) (on := false) rfl HB (z_X HN) HI z_8 with ⟨h, -⟩ | ⟨m', t', s', hm', ht', hs', e1, e2, e3, -, -, h⟩
      · exact absurd (f1.symm.trans h) (by decide)
      · obtain rfl := nI_inj2 (by omega) (by omega) e1
        obtain rfl := nI_inj2 (by omega) (by omega) e2
        obtain rfl := nI_inj2 (by omega) (by omega) e3
        rcases h with ⟨-, h⟩ | ⟨y2, -⟩
        · rw [fX10_removePin, h]; rfl
        · exact absurd (y1.symm.trans y2) (by decide)
    · refine api_chg G HI HB HX (v := nI (pnS (pDel P m t s) S T m)) (iv_sub (P' := pDel P m t s) HI pDel_le) (fun M1 r1 r2 => ?_) (fun N N1 HN hC HX1 _ => ?_)
      · obtain ⟨W, w1, w2, w3⟩ := cl_takePin r2 hm (show t < 12 by omega) (show s < 64 by omega)
        refine ⟨W, ?_, w2, w3⟩
        rw [fX9_removePin, fX0_takePinFault, f1, if_pos rfl, f2, y1, Option.bind_some, if_neg (by decide), Option.bind_some, thr_0, r1, Option.bind_some, w1, Option.bind_some, cl_pins w2 (iv_sub (P' := pDel P m t s) HI pDel_le) hm, Option.bind_some]
      · rcases op_pin (M1 := M) (M2 := putI N R8 8 0) (a := nI m) (b := nI t) (c := nI s) (x := 0) (on := false) rfl HB (z_X HN) HI z_8 with ⟨h, -⟩ | ⟨m', t', s', hm', ht', hs', e1, e2, e3, -, -, h⟩
        · exact absurd (f1.symm.trans h) (by decide)
        · obtain rfl := nI_inj2 (by omega) (by omega) e1
          obtain rfl := nI_inj2 (by omega) (by omega) e2
          obtain rfl := nI_inj2 (by omega) (by omega) e3
          rcases h with ⟨y2, -⟩ | ⟨-, h⟩
          · exact absurd (y1.symm.trans y2) (by decide)
          · obtain ⟨N2, n1, n2, n3⟩ := h N1 hC HX1
            rw [y1] at n1 n2
            exact ⟨N2, by rw [fX10_removePin, n1]; rfl, n2, sn_n n3⟩
end CHG
