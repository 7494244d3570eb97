/-! forecasts -/
def lastS (S U p : Nat) : Nat := if U = 0 then 0 else U * S - p
def sbN (P : PF) (S T m t : Nat) : Nat → GF → Nat → Nat → Nat → Int32
  | 0, _, _, _, _ => -1
  | d + 1, g, p, U, v => if brS g t = true then nI v else if U = 0 then -1 else sbN P S T m t d (stS P S T m g p) (nxP S p) (nxU S p U) (v + 1)
theorem last_nx {S U p : Nat} (hp : p < S) (hU : U ≠ 0) : lastS S (nxU S p U) (nxP S p) + 1 = lastS S U p := by
  unfold lastS nxU nxP
  obtain ⟨u, rfl⟩ : ∃ u, U = u + 1 := ⟨U - 1, by omega⟩
  rw [if_neg hU]
  have e : (u + 1) * S = u * S + S := Nat.succ_mul u S
  by_cases c : p + 1 = S
  · rw [if_pos c, if_pos c]
    show (if u = 0 then 0 else u * S - 0) + 1 = _
    by_cases c2 : u = 0
    · subst c2; rw [if_pos rfl]; omega
    · rw [if_neg c2]; omega
  · rw [if_neg c, if_neg c, if_neg hU]; omega
section FORE
variable {M : Mm} {T S A m t : Nat} {P : PF}
theorem cl_sub {L : Nat} (hL : L < 2000) (ht : t < T) (hT : T ≤ 12) : ∀ (d v : Nat) (M : Mm) (g : GF) (p U n : Nat), d = lastS S U p + 1 → v + d = L + 1 → d < n → BX M T 1 g P → Iv g P S T U A m p →
    ∃ M', fX9_stepsUntilBroken_L32 (nI t) (nI L) (fun w9 M10 => some (.inl (-1 : Int32), M10)) n (nI v) M = some (.inl (sbN P S T m t d g p U v), M') ∧ Fr (sBx 1) M M' := by
  intro d
  induction d with
  | zero => intro v M g p U n h1; omega
  | succ d ih =>
    intro v M g p U n h1 h2 h3 HB HI
    obtain ⟨n, rfl⟩ : ∃ q, n = q + 1 := ⟨n - 1, by omega⟩
    have hg : ¬ (nI t < 0 ∨ 12 ≤ (nI t).toNatClampNeg) := nI_in (by omega) (by decide)
    rw [fX9_stepsUntilBroken_L32, if_neg (nI_nlt (by omega) (by omega)), if_neg hg, nI_clamp (by omega), cl_brB HB ht, sbN]
    cases hb : brS g t with
    | true => exact ⟨M, by rw [if_neg (by decide), if_pos rfl], fr_rf⟩
    | false =>
      rw [if_pos (bI_0.mpr rfl), if_neg (by decide)]
      obtain ⟨M1, a1, a2, a3⟩ := cl_playSteps (k := 1) (by omega) HB HI
      rw [show (1 : Int32) = nI 1 from rfl, a1, Option.bind_some, ← show nI v + 1 = nI v + nI 1 from rfl, ← nI_succ]
      by_cases hU : U = 0
      · subst hU
        rw [if_pos rfl]
        have hd : d = 0 := by unfold lastS at h1; rw [if_pos rfl] at h1; omega
        obtain ⟨n, rfl⟩ : ∃ q, n = q + 1 := ⟨n - 1, by omega⟩
        refine ⟨M1, ?_, a3⟩
        rw [fX9_stepsUntilBroken_L32, if_pos (nI_lt (by omega) (by omega))]
      · rw [if_neg hU]
        have hl := last_nx (S := S) (p := p) HI.2.2.2.2.2.2.2.2.2.2.2.1 hU
        have e : playN P S T m 1 g p U = (1, stS P S T m g p, nxP S p, nxU S p U) := by
          rw [playN, if_neg hU]; rfl
        rw [e] at a2
        obtain ⟨M2, b1, b2⟩ := ih (v + 1) M1 _ _ _ n (by omega) (by omega) (by omega) a2 (stS_iv HI (by omega))
        exact ⟨M2, b1, fr_tr a3 b2⟩
theorem rf_sub (ht : t < T) (hT : T ≤ 12) : ∀ (d v : Nat) (M : Mm) (g : GF) (p U n : Nat), d = lastS S U p + 1 → d < n → RX (M.1 NW) g P → Iv g P S T U A m p →
    ∃ M', fX10_stepsUntilBroken_L16 (nI t) (fun w14 M15 => (fX10_back M15 w14).bind fun q16 => some (q16.1, q16.2)) n (nI v) M = (fX10_back M' (sbN P S T m t d g p U v)).bind (fun q16 => some (q16.1, q16.2)) ∧ Fr sNW M M' := by
  intro d
  induction d with
  | zero => intro v M g p U n h1; omega
  | succ d ih =>
    intro v M g p U n h1 h3 HX HI
    obtain ⟨n, rfl⟩ : ∃ q, n = q + 1 := ⟨n - 1, by omega⟩
    have hU20 : U ≤ 20 := HI.2.2.2.2.2.2.2.2.1
    rw [fX10_stepsUntilBroken_L16, rf_bad HX (by omega), Option.bind_some, sbN]
    cases hb : brS g t with
    | true => exact ⟨M, by rw [if_neg (by decide), if_pos rfl], fr_rf⟩
    | false =>
      rw [if_pos (bI_0.mpr rfl), if_neg (show ¬ false = true by decide), show M.1 (19, 0, 0) 1 = nI U from (HX.1 1 (by decide)).trans HI.2.1]
      by_cases hU : U = 0
      · subst hU
        exact ⟨M, by rw [if_pos nI_0, if_pos rfl], fr_rf⟩
      · have hl := last_nx (S := S) (p := p) HI.2.2.2.2.2.2.2.2.2.2.2.1 hU
        obtain ⟨M1, a1, a2, a3⟩ := rf_step HX HI
        obtain ⟨M2, b1, b2⟩ := ih (v + 1) M1 _ _ _ n (by omega) (by omega) a2 (stS_iv HI (by omega))
        rw [if_neg (nI_ne0 (by omega) (by omega)), if_neg hU, a1, Option.bind_some, ← nI_succ]
        exact ⟨M2, b1, fr_tr a3 b2⟩
theorem rf_tries (M : Mm) : ∃ M', fX10_tries M = some M' ∧ (∀ k, k < 280 → M'.1 (19, 1, 0) k = M.1 NW k) ∧ Fr (fun r => r == (19, 1, 0)) M M' := by
  obtain ⟨M', a1, a2, a3⟩ := lp_tries (M0 := M) (K := fun w4 M5 => some M5) 280 0 M NF (by omega) (by unfold NF; omega) (fun k hk => by omega) fr_rf
  exact ⟨M', a3, a1, a2⟩
theorem rf_backs (M : Mm) (r : Int32) : ∃ M', fX10_back M r = some (r, M') ∧ (∀ k, k < 280 → M'.1 NW k = M.1 (19, 1, 0) k) ∧ Fr sNW M M' := by
  obtain ⟨M', a1, a2, a3⟩ := lp_back (M0 := M) (c := r) (K := fun w4 M5 => some (r, M5)) 280 0 M NF (by omega) (by unfold NF; omega) (fun k hk => by omega) fr_rf
  exact ⟨M', a3, a1, a2⟩
def sF1 (r : Rf) : Bool := (sBx 1 r || sOut r) || ((r == R8 || r == (19, 1, 0)) || r == NW)
theorem dF (i : Nat) (hi : i ≠ 1) (r : Rf) (hr : sBx i r = true) : sF1 r = false := or_f (or_f (sBx_dis hi r hr) (dO i r hr)) (or_f (or_f (bx_dis hr rfl) (bx_dis hr rfl)) (bx_dis hr rfl))
/-- after a trial all stands as before -/
theorem gl_trial {M N : Mm} (G : GL M) (hF : GFr sF1 (fun j => j == 8) M N) (hN : ∀ k, k < 280 → N.1 NW k = M.1 NW k) : GL N :=
  ⟨old_fr (dF 0 (by decide)) hF.1 (fun k hk => (hN k hk).symm) G.1, gt_fr rfl rfl rfl rfl hF G.2.1, ge_fr rfl rfl rfl hF G.2.2.1, gh_fr rfl rfl rfl (fun i i1 _ => dF i (by omega)) hF G.2.2.2.1, gs_fr rfl rfl rfl (fun i i1 _ => dF i (by omega)) hF G.2.2.2.2.1, go_fr rfl rfl rfl rfl hF G.2.2.2.2.2.1, by rw [hF.2 25 rfl]; exact G.2.2.2.2.2.2⟩
/-- a trial that ends well -/
theorem api_trial {cs : List Nat} {g : GF} {o1 : Option ((Int32 ⊕ Nat) × Mm)} {f2 : Mm → Option (Int32 × Mm)} {v : Int32} {M1 : Mm} (G : GL M) (HX : RX (M.1 NW) g P) (h1 : o1 = some (.inl v, M1)) (hC : Fr (sBx 1) M M1)
    (hr : ∀ N N1, RX (N.1 NW) g P → fX10_tries (putI N R8 8 0) = some N1 → RX (N1.1 NW) g P → ∃ N2, f2 N = (fX10_back N2 v).bind (fun q => some (q.1, q.2)) ∧ Fr sNW N1 N2) : API cs o1 f2 M := by
  refine ⟨.inl v, M1, h1, fr_mono (fun r hr => sb_cl hr) hC, fun N hN => ?_⟩
  have XN : RX (N.1 NW) g P := rx_o hN (rx_fr (S := sBx 1) rfl hC HX)
  obtain ⟨N1, a1, a2, a3⟩ := rf_tries (putI N R8 8 0)
  obtain ⟨N2, b1, b2⟩ := hr N N1 XN a1 (rx_fr (S := fun r => r == (19, 1, 0)) rfl a3 (z_X XN))
  obtain ⟨N3, c1, c2, c3⟩ := rf_backs N2 v
  have fR : Fr (fun r => (r == R8 || r == (19, 1, 0)) || r == NW) N N3 := fr_tr (fr_tr (fr_putI rfl) (fr_mono (fun r hr => by rw [hr]; simp) a3)) (fr_mono (fun r hr => by
    have : r = NW := by simpa [sNW] using hr
    rw [this]; rfl) (fr_tr b2 c3))
  have j8 : ∀ j, N3.1 R8 j = (putI N R8 8 0).1 R8 j := fun j => by rw [(c3 R8 rfl).1, (b2 R8 rfl).1, (a3 R8 rfl).1]
  refine ⟨v, N3, by rw [b1, c1]; rfl, gl_trial G ⟨fr_tr (fr_mono (fun r hr => by unfold sF1; rw [hr]; rfl) hC) (fr_tr (fr_mono (fun r hr => by unfold sF1; rw [hr]; simp) hN) (fr_mono (fun r hr => by unfold sF1; rw [hr]; simp) fR)), fun j hj => ?_⟩ (fun k hk => ?_), fr_mono (fun r hr => ?_) fR, by rw [j8]; exact z_8, rfl⟩
  · have h8 : j ≠ 8 := by intro c; rw [c] at hj; cases hj
    rw [j8, g_row, upd_o h8, (hN R8 rfl).1, (hC R8 rfl).1]
  · rw [c2 k hk, (b2 (19, 1, 0) rfl).1, a2 k hk, putI_ne (by decide), (hN NW rfl).1, (hC NW rfl).1]
  · have : r = R8 ∨ r = (19, 1, 0) ∨ r = NW := by simpa [or_assoc] using hr
    rcases this with rfl | rfl | rfl <;> rfl
theorem api_stepsUntilBroken (G : GL M) (a : Int32) : API [2] (fX9_stepsUntilBroken M a) (fun N => fX10_stepsUntilBroken N a) M := by
  obtain ⟨g, P, S, T, U, A, m, p, HI, HB, HX⟩ := G.1
  have hT := HI.2.2.2.2.2.2.2.1
  have hS := HI.2.2.2.2.2.2.1
  have hU : U ≤ 20 := HI.2.2.2.2.2.2.2.2.1
  have hp : p < S := HI.2.2.2.2.2.2.2.2.2.2.2.1
  rcases ix_d a (N := T) (by omega) with ⟨t, ht, rfl⟩ | ha
  · obtain ⟨M1, a1, a2, a3⟩ := cl_copy (i := 1) (j := 0) (by decide) hT.2 HB
    have hUS : U * S ≤ 20 * 64 := Nat.mul_le_mul hU hS.2
    have hl : lastS S U p ≤ 1280 := by unfold lastS; split <;> omega
    have pl : fX0_playableSteps M1 1 = nI (lastS S U p) := by
      rw [fX0_playableSteps, show M1.1 (9, 1, 0) 3 = nI U from (a2.1 1 (vk_s rfl)).trans HI.2.1, show M1.1 (10, 1, 0) 1 = nI S from (a2.1 0 (vk_s rfl)).trans HI.1, show M1.1 (10, 1, 0) 2 = nI p from (a2.1 5 (vk_s rfl)).trans HI.2.2.2.2.2.1, lastS]
      by_cases c : U = 0
      · subst c; rfl
      · have hm : U * S ≥ S := Nat.le_mul_of_pos_left S (by omega)
        rw [if_neg (nI_ne0 (by omega) (by omega)), if_neg c, show nI U * nI S = nI (U * S) from (Int32.ofNat_mul U S).symm, pk_sub (by omega)]
    obtain ⟨M2, b1, b2⟩ := cl_sub (L := lastS S U p) (by omega) ht hT.2 (lastS S U p + 1) 0 M1 g p U NF rfl (by omega) (by unfold NF; omega) a2 HI
    refine api_trial G HX (v := sbN P S T m t (lastS S U p + 1) g p U 0) (M1 := M2) ?_ (fr_tr a3 b2) (fun N N1 HN hC HX1 => ?_)
    · rw [fX9_stepsUntilBroken, thf_ok (bx_3 HB HI) (by omega) ht, thr_0, a1, Option.bind_some, pl]
      exact b1
    · obtain ⟨N2, c1, c2⟩ := rf_sub ht hT.2 (lastS S U p + 1) 0 N1 g p U NF rfl (by unfold NF; omega) HX1 HI
      refine ⟨N2, ?_, c2⟩
      rw [fX10_stepsUntilBroken, fto_ok HN HI ht, Option.bind_some, if_neg one_ne]
      dsimp only
      rw [hC, Option.bind_some]
      exact c1
  · refine api_err G HX (k := 1) (by rw [fX9_stepsUntilBroken, thf_no (bx_3 HB HI) ha, thr_1]) (fun N HN => ?_) (ag_1 rfl)
    rw [fX10_stepsUntilBroken, fto_no HN HI ha, Option.bind_some, if_pos rfl]
theorem rf_after {N : Mm} {x : Int32} {q : Nat} (hq : q < 88) : (∃ k, k ≤ 300 ∧ x = nI k ∧ ∀ N1, fX10_tries (putI N R8 8 0) = some N1 → ∀ N2 c, fX10_steps N1 (nI k) = some (c, N2) → fX10_after N x (nI q) = (fX10_back N2 (N2.1 NW q - N1.1 NW q)).bind (fun q => some (q.1, q.2))) ∨ (fX9_rangeFault M x 0 300 = 2 ∧ fX10_after N x (nI q) = some (0, putI (putI N R8 8 0) R8 8 1)) := by
  have hg : ¬ (nI q < 0 ∨ 280 ≤ (nI q).toNatClampNeg) := nI_in (by omega) (by decide)
  rcases rg_c (M2 := putI N R8 8 0) M x 0 300 with ⟨r1, r2, r3, r4⟩ | ⟨r1, r2⟩
  · obtain ⟨k, hk, rfl⟩ := nI_of2 (x := x) (M := 300) (n := 300) (by decide) (Int32.not_lt.mpr r3) r4
    refine Or.inl ⟨k, hk, rfl, fun N1 h1 N2 c h2 => ?_⟩
    rw [fX10_after, r2, rr_ok z_8, Option.bind_some, if_neg one_ne]
    dsimp only
    rw [h1, Option.bind_some, if_neg hg, h2, Option.bind_some, if_neg hg, nI_clamp (by omega)]
  · refine Or.inr ⟨r1, ?_⟩
    rw [fX10_after, r2, rr_no z_8 (by decide), Option.bind_some, if_pos rfl]
theorem api_notesIn (G : GL M) (x : Int32) : API [1] (fX9_notesIn M x) (fun N => fX10_notesIn N x) M := by
  obtain ⟨g, P, S, T, U, A, m, p, HI, HB, HX⟩ := G.1
  have hT := HI.2.2.2.2.2.2.2.1
  rcases rg_c (M2 := M) M x 0 300 with ⟨r1, r2, r3, r4⟩ | ⟨r1, r2⟩
  · obtain ⟨k, hk, rfl⟩ := nI_of2 (x := x) (M := 300) (n := 300) (by decide) (Int32.not_lt.mpr r3) r4
    obtain ⟨M1, a1, a2, a3⟩ := cl_copy (i := 1) (j := 0) (by decide) hT.2 HB
    obtain ⟨M2, b1, b2, b3⟩ := cl_playSteps (k := k) (by omega) a2 HI
    refine api_trial G HX (v := (playN P S T m k g p U).2.1 6 - g 6) (M1 := M2) ?_ (fr_tr a3 b3) (fun N N1 HN hC HX1 => ?_)
    · rw [fX9_notesIn, r1, thr_0, a1, Option.bind_some, b1, Option.bind_some, show M2.1 (9, 1, 0) 5 = (playN P S T m k g p U).2.1 6 from b2.1 6 (vk_s rfl), (b3 (9, 0, 0) rfl).1, (a3 (9, 0, 0) rfl).1, show M.1 (9, 0, 0) 5 = g 6 from HB.1 6 (vk_s rfl)]
    · obtain ⟨N2, c1, c2, c3⟩ := rf_steps (k := k) (by omega) HX1 HI
      refine ⟨N2, ?_, c3⟩
      rcases rf_after (M := M) (N := N) (x := nI k) (q := 6) (by decide) with ⟨k', hk', e, h⟩ | ⟨h, -⟩
      · obtain rfl := nI_inj2 (by omega) (by omega) e
        rw [fX10_notesIn, show (6 : Int32) = nI 6 from rfl, h N1 hC N2 _ c1, show N2.1 NW 6 = (playN P S T m k g p U).2.1 6 from c2.1 6 (by decide), show N1.1 NW 6 = g 6 from HX1.1 6 (by decide)]
        cases fX10_back N2 ((playN P S T m k g p U).2.1 6 - g 6) <;> rfl
      · exact absurd (r1.symm.trans h) (by decide)
  · refine api_err G HX (k := 1) (by rw [fX9_notesIn, r1, thr_2]) (fun N HN => ?_) (ag_1 rfl)
    rcases rf_after (M := M) (N := N) (x := x) (q := 6) (by decide) with ⟨k', hk', e, h⟩ | ⟨-, h⟩
    · exfalso
      subst e
      rw [fX9_rangeFault, if_neg (nI_pos (by omega)), if_pos (show nI k' ≤ (300 : Int32) from nI_le (b := 300) hk' (by omega))] at r1
      cases r1
    · rw [fX10_notesIn, show (6 : Int32) = nI 6 from rfl, h]; rfl
theorem api_squeaksIn (G : GL M) (x : Int32) : API [1] (fX9_squeaksIn M x) (fun N => fX10_squeaksIn N x) M := by
  obtain ⟨g, P, S, T, U, A, m, p, HI, HB, HX⟩ := G.1
  have hT := HI.2.2.2.2.2.2.2.1
  rcases rg_c (M2 := M) M x 0 300 with ⟨r1, r2, r3, r4⟩ | ⟨r1, r2⟩
  · obtain ⟨k, hk, rfl⟩ := nI_of2 (x := x) (M := 300) (n := 300) (by decide) (Int32.not_lt.mpr r3) r4
    obtain ⟨M1, a1, a2, a3⟩ := cl_copy (i := 1) (j := 0) (by decide) hT.2 HB
    obtain ⟨M2, b1, b2, b3⟩ := cl_playSteps (k := k) (by omega) a2 HI
    refine api_trial G HX (v := (playN P S T m k g p U).2.1 7 - g 7) (M1 := M2) ?_ (fr_tr a3 b3) (fun N N1 HN hC HX1 => ?_)
    · rw [fX9_squeaksIn, r1, thr_0, a1, Option.bind_some, b1, Option.bind_some, show M2.1 (9, 1, 0) 6 = (playN P S T m k g p U).2.1 7 from b2.1 7 (vk_s rfl), (b3 (9, 0, 0) rfl).1, (a3 (9, 0, 0) rfl).1, show M.1 (9, 0, 0) 6 = g 7 from HB.1 7 (vk_s rfl)]
    · obtain ⟨N2, c1, c2, c3⟩ := rf_steps (k := k) (by omega) HX1 HI
      refine ⟨N2, ?_, c3⟩
      rcases rf_after (M := M) (N := N) (x := nI k) (q := 7) (by decide) with ⟨k', hk', e, h⟩ | ⟨h, -⟩
      · obtain rfl := nI_inj2 (by omega) (by omega) e
        rw [fX10_squeaksIn, show (7 : Int32) = nI 7 from rfl, h N1 hC N2 _ c1, show N2.1 NW 7 = (playN P S T m k g p U).2.1 7 from c2.1 7 (by decide), show N1.1 NW 7 = g 7 from HX1.1 7 (by decide)]
        cases fX10_back N2 ((playN P S T m k g p U).2.1 7 - g 7) <;> rfl
      · exact absurd (r1.symm.trans h) (by decide)
  · refine api_err G HX (k := 1) (by rw [fX9_squeaksIn, r1, thr_2]) (fun N HN => ?_) (ag_1 rfl)
    rcases rf_after (M := M) (N := N) (x := x) (q := 7) (by decide) with ⟨k', hk', e, h⟩ | ⟨-, h⟩
    · exfalso
      subst e
      rw [fX9_rangeFault, if_neg (nI_pos (by omega)), if_pos (show nI k' ≤ (300 : Int32) from nI_le (b := 300) hk' (by omega))] at r1
      cases r1
    · rw [fX10_squeaksIn, show (7 : Int32) = nI 7 from rfl, h]; rfl
end FORE
