/-! append, truncate, undo, save, restore, outputByte -/
def sT1 (r : Rf) : Bool := (sTx r || sOut r) || sTr r
theorem dO (i : Nat) (r : Rf) (hr : sBx i r = true) : sOut r = false := or_f (bx_dis hr rfl) (bx_dis hr rfl)
theorem dT (i : Nat) (r : Rf) (hr : sBx i r = true) : sT1 r = false := or_f (or_f (or_f (bx_dis hr rfl) (bx_dis hr rfl)) (dO i r hr)) (or_f (bx_dis hr rfl) (bx_dis hr rfl))
section APP
variable {M N : Mm}
theorem gl_text {tb : Nat → Nat} {n : Nat} (hF : GFr sT1 (fun j => j == 8 || j == 10) M N) (G : GL M) (h1 : TV tb n) (h2 : TC N tb n) (h3 : TR N tb n) : GL N :=
  ⟨old_fr (dT 0) hF.1 (fun k _ => by rw [(hF.1 NW rfl).1]) G.1, ⟨tb, n, h1, h2, h3⟩, ge_fr rfl rfl rfl hF G.2.2.1, gh_fr rfl rfl rfl (fun i _ _ => dT i) hF G.2.2.2.1, gs_fr rfl rfl rfl (fun i _ _ => dT i) hF G.2.2.2.2.1, go_fr rfl rfl rfl rfl hF G.2.2.2.2.2.1, by rw [hF.2 25 rfl]; exact G.2.2.2.2.2.2⟩
theorem tr_o {tb : Nat → Nat} {n : Nat} {S : Rf → Bool} (h1 : S R8 = false) (h2 : S (19, 6, 0) = false) (hF : Fr S M N) (h : TR M tb n) : TR N tb n := ⟨by rw [(hF _ h1).1]; exact h.1, fun k hk h8 => by rw [(hF _ h2).1]; exact h.2 k hk h8⟩
theorem tx_c {S : Rf → Bool} (hF : Fr sTx M N) : Fr sCl M N := fr_mono (fun r hr => by
  have : r = (1, 0, 0) ∨ r = (2, 0, 0) := by simpa [sTx] using hr
  rcases this with rfl | rfl <;> rfl) hF
theorem tr_r (hF : Fr sTr M N) : Fr sRf M N := fr_mono (fun r hr => by
  have : r = R8 ∨ r = (19, 6, 0) := by simpa [sTr] using hr
  rcases this with rfl | rfl <;> rfl) hF
theorem api_append (G : GL M) (a b c d e : Int32) : API [0] (fX9_append M a b c d e) (fun N => fX10_append N a b c d e) M := by
  obtain ⟨tb, n, hv, hc, hr⟩ := G.2.1
  have ca := cnW_le a; have cb := cnW_le b; have cc := cnW_le c; have cd := cnW_le d; have ce := cnW_le e
  have hn := hv.1
  let q0 : (Nat → Nat) × Nat := (tb, n)
  let q1 := apW q0 a
  let q2 := apW q1 b
  let q3 := apW q2 c
  let q4 := apW q3 d
  let q5 := apW q4 e
  have n1 : q1.2 = n + cnW a := apW_n q0 a
  have n2 : q2.2 = q1.2 + cnW b := apW_n q1 b
  have n3 : q3.2 = q2.2 + cnW c := apW_n q2 c
  have n4 : q4.2 = q3.2 + cnW d := apW_n q3 d
  have n5 : q5.2 = q4.2 + cnW e := apW_n q4 e
  have hsum : nI n + (nI (cnW a) + nI (cnW b) + nI (cnW c) + nI (cnW d) + nI (cnW e)) = nI q5.2 := by
    rw [nI_add, nI_add, nI_add, nI_add, nI_add]
    congr 1; omega
  have cls : ∀ {r}, (if nI q5.2 ≤ (800 : Int32) then ((fX9_putBytes M a).bind fun q12 => (fX9_putBytes q12 b).bind fun q14 => (fX9_putBytes q14 c).bind fun q16 => (fX9_putBytes q16 d).bind fun q18 => (fX9_putBytes q18 e).bind fun q20 => some (.inl (q20.1 (1, 0, 0) 1), q20)) else some (.inr 0, M)) = r → fX9_append M a b c d e = r := fun {r} h => by
    rw [fX9_append, cl_bytesIn, Option.bind_some, cl_bytesIn, Option.bind_some, cl_bytesIn, Option.bind_some, cl_bytesIn, Option.bind_some, cl_bytesIn, Option.bind_some, hc.1, hsum]
    exact h
  have rfs : ∀ N : Mm, TR N tb n → ∃ N5, TR N5 q5.1 q5.2 ∧ Fr sTr N N5 ∧ (∀ j, j ≠ 10 → N5.1 R8 j = (putI N R8 8 0).1 R8 j) ∧ ∀ {r}, (if (800 : Int32) < nI q5.2 then ((fX10_right N5 (0 : Int32) (1 : Int32)).bind fun q12 => if q12.1 = 0 then some ((0 : Int32), (putI q12.2 (18, 0, 0) 10 (N.1 (18, 0, 0) 10))) else some ((q12.2.1 (18, 0, 0) 10), q12.2)) else (fX10_right N5 (1 : Int32) (1 : Int32)).bind fun q15 => if q15.1 = 0 then some ((0 : Int32), (putI q15.2 (18, 0, 0) 10 (N.1 (18, 0, 0) 10))) else some ((q15.2.1 (18, 0, 0) 10), q15.2)) = r → fX10_append N a b c d e = r := fun N h => by
    obtain ⟨N1, a1, a2, a3, a4⟩ := rf_feedW (q := q0) (x := a) (tr_8 (j := 8) (v := 0) (by decide) h) (show n < 1000 by omega)
    obtain ⟨N2, b1, b2, b3, b4⟩ := rf_feedW (q := q1) (x := b) a2 (by omega)
    obtain ⟨N3, c1, c2, c3, c4⟩ := rf_feedW (q := q2) (x := c) b2 (by omega)
    obtain ⟨N4, d1, d2, d3, d4⟩ := rf_feedW (q := q3) (x := d) c2 (by omega)
    obtain ⟨N5, e1, e2, e3, e4⟩ := rf_feedW (q := q4) (x := e) d2 (by omega)
    refine ⟨N5, e2, fr_tr (fr_putI rfl) (fr_tr a3 (fr_tr b3 (fr_tr c3 (fr_tr d3 e3)))), fun j hj => by rw [e4 j hj, d4 j hj, c4 j hj, b4 j hj, a4 j hj], fun {r} hr => ?_⟩
    rw [fX10_append, a1, Option.bind_some, b1, Option.bind_some, c1, Option.bind_some, d1, Option.bind_some, e1, Option.bind_some, e2.1]
    exact hr
  by_cases h8 : q5.2 ≤ 800
  · obtain ⟨M1, a1, a2, a3⟩ := cl_putW (q := q0) (x := a) hc (show q1.2 ≤ 800 by omega)
    obtain ⟨M2, b1, b2, b3⟩ := cl_putW (q := q1) (x := b) a2 (show q2.2 ≤ 800 by omega)
    obtain ⟨M3, c1, c2, c3⟩ := cl_putW (q := q2) (x := c) b2 (show q3.2 ≤ 800 by omega)
    obtain ⟨M4, d1, d2, d3⟩ := cl_putW (q := q3) (x := d) c2 (show q4.2 ≤ 800 by omega)
    obtain ⟨M5, e1, e2, e3⟩ := cl_putW (q := q4) (x := e) d2 h8
    have fC : Fr sTx M M5 := fr_tr a3 (fr_tr b3 (fr_tr c3 (fr_tr d3 e3)))
    refine ⟨.inl (nI q5.2), M5, cls ?_, tx_c (S := sTx) fC, fun N hN => ?_⟩
    · rw [if_pos (show nI q5.2 ≤ (800 : Int32) from nI_le (b := 800) h8 (by omega)), a1, Option.bind_some, b1, Option.bind_some, c1, Option.bind_some, d1, Option.bind_some, e1, Option.bind_some, e2.1]
    · obtain ⟨N5, f1, f2, f3, f4⟩ := rfs N (tr_o rfl rfl hN (tr_o rfl rfl fC hr))
      have z5 : N5.1 R8 8 = 0 := by rw [f3 8 (by decide)]; exact z_8
      refine ⟨nI q5.2, N5, f4 ?_, ?_, tr_r f2, z5, rfl⟩
      · rw [if_neg (show ¬ (800 : Int32) < nI q5.2 from nI_nlt (a := 800) h8 (by decide)), rr_ok z5, Option.bind_some, if_neg one_ne]
        dsimp only
        rw [f1.1]
      · refine gl_text ⟨fr_tr (fr_tr (fr_mono (fun r hr => by unfold sT1; rw [hr]; rfl) fC) (fr_mono (fun r hr => by unfold sT1; rw [hr, Bool.or_true]; rfl) hN)) (fr_mono (fun r hr => by unfold sT1; rw [hr, Bool.or_true]) f2), fun j hj => ?_⟩ G ⟨h8, apW_v (apW_v (apW_v (apW_v (apW_v hv.2))))⟩ (tc_fr (S := fun r => sOut r || sTr r) rfl rfl (fr_tr (fr_mono (fun r hr => by rw [hr]; rfl) hN) (fr_mono (fun r hr => by rw [hr, Bool.or_true]) f2)) e2) f1
        have hj2 : (j == 8 || j == 10) = false := hj
        have j8 : j ≠ 8 := by intro c; rw [c] at hj2; cases hj2
        have j10 : j ≠ 10 := by intro c; rw [c] at hj2; cases hj2
        rw [f3 j j10, g_row, upd_o j8, (hN R8 rfl).1, (fC R8 rfl).1]
  · refine ⟨.inr 0, M, cls (if_neg (show ¬ nI q5.2 ≤ (800 : Int32) from nI_ge (a := 800) (by omega) (by omega))), fr_rf, fun N hN => ?_⟩
    have hrN := tr_o rfl rfl hN hr
    obtain ⟨N5, f1, f2, f3, f4⟩ := rfs N hrN
    have z5 : N5.1 R8 8 = 0 := by rw [f3 8 (by decide)]; exact z_8
    refine ⟨0, putI (putI N5 R8 8 1) R8 10 (N.1 R8 10), f4 ?_, ?_, fr_pI (fr_pI (tr_r f2) rfl) rfl, ?_⟩
    · rw [if_pos (show (800 : Int32) < nI q5.2 from nI_lt (a := 800) (by omega) (by omega)), rr_no z5 (by decide), Option.bind_some, if_pos rfl]
    · refine gl_text ⟨fr_pI (fr_pI (fr_tr (fr_mono (fun r hr => by unfold sT1; rw [hr, Bool.or_true]; rfl) hN) (fr_mono (fun r hr => by unfold sT1; rw [hr, Bool.or_true]) f2)) rfl) rfl, fun j hj => ?_⟩ G hv (tc_fr (S := fun r => sOut r || sTr r) rfl rfl (fr_pI (fr_pI (fr_tr (fr_mono (fun r hr => by rw [hr]; rfl) hN) (fr_mono (fun r hr => by rw [hr, Bool.or_true]) f2)) rfl) rfl) hc) ⟨by rw [g_row, upd_s]; exact hrN.1, fun k hk k8 => ?_⟩
      · have hj2 : (j == 8 || j == 10) = false := hj
        have j8 : j ≠ 8 := by intro c; rw [c] at hj2; cases hj2
        have j10 : j ≠ 10 := by intro c; rw [c] at hj2; cases hj2
        rw [g_row, upd_o j10, g_row, upd_o j8, f3 j j10, g_row, upd_o j8, (hN R8 rfl).1]
      · rw [putI_ne (by decide), putI_ne (by decide), f1.2 k (by omega) k8]
        congr 1
        show q5.1 k = tb k
        rw [apW_lo (q := q4) (by omega), apW_lo (q := q3) (by omega), apW_lo (q := q2) (by omega), apW_lo (q := q1) (by omega), apW_lo (q := q0) hk]
    · rw [g_row, upd_o (by decide), g_row, upd_s]; exact ag_1 rfl
theorem api_truncate (G : GL M) (x : Int32) : API [1] (fX9_truncate M x) (fun N => fX10_truncate N x) M := by
  obtain ⟨tb, n, hv, hc, hr⟩ := G.2.1
  have hn := hv.1
  rcases ix_d x (N := n + 1) (by omega) with ⟨j, hj, rfl⟩ | hx
  · refine ⟨.inl (nI (n - j)), putI M (1, 0, 0) 1 (nI j), ?_, fr_putI rfl, fun N hN => ?_⟩
    · rw [fX9_truncate, hc.1, if_neg (nI_pos (by omega)), if_pos (nI_le (by omega) (by omega)), pk_sub (by omega)]
    · have hrN := tr_o rfl rfl hN (tr_o (S := fun r => r == (1, 0, 0)) rfl rfl (fr_putI rfl) hr)
      refine ⟨nI (n - j), putI (putI N R8 8 0) R8 10 (nI j), ?_, ?_, fr_pI (fr_putI rfl) rfl, by rw [g_row, upd_o (by decide)]; exact z_8, rfl⟩
      · dsimp only
        rw [fX10_truncate, hrN.1, show fX10_in (putI N R8 8 0) (nI j) 0 (nI n) = 1 from rin_ok (N := n + 1) (by omega) hj, rr_ok z_8, Option.bind_some, if_neg one_ne]
        dsimp only
        rw [(tr_8 (j := 8) (v := 0) (by decide) hrN).1, pk_sub (by omega)]
      · refine gl_text ⟨fr_pI (fr_pI (fr_tr (fr_putI (S := sT1) rfl) (fr_mono (fun r hr => by unfold sT1; rw [hr, Bool.or_true]; rfl) hN)) rfl) rfl, fun i hi => ?_⟩ G (n := j) ⟨by omega, fun k hk => hv.2 k (by omega)⟩ ⟨?_, fun k hk => ?_⟩ ⟨by rw [g_row, upd_s], fun k hk h8 => ?_⟩
        · have hj2 : (i == 8 || i == 10) = false := hi
          have j8 : i ≠ 8 := by intro c; rw [c] at hj2; cases hj2
          have j10 : i ≠ 10 := by intro c; rw [c] at hj2; cases hj2
          rw [g_row, upd_o j10, g_row, upd_o j8, (hN R8 rfl).1, putI_ne (by decide)]
        · rw [putI_ne (by decide), putI_ne (by decide), (hN (1, 0, 0) rfl).1, g_row, upd_s]
        · rw [putI_ne (by decide), putI_ne (by decide), (hN (2, 0, 0) rfl).1, putI_ne (by decide)]; exact hc.2 k (by omega)
        · rw [putI_ne (by decide), putI_ne (by decide)]; exact hrN.2 k (by omega) h8
  · refine ⟨.inr 1, M, ?_, fr_rf, fun N hN => ⟨0, putI (putI N R8 8 0) R8 8 1, ?_, gl_88 G hN, rf_88, by rw [z_8]; exact ag_1 rfl⟩⟩
    · rw [fX9_truncate, hc.1]
      rcases hx with h | ⟨j, h1, h2, rfl⟩
      · rw [if_pos h]
      · rw [if_neg (nI_pos h2), if_neg (nI_ge (by omega) h2)]
    · dsimp only
      rw [fX10_truncate, (tr_o rfl rfl hN hr).1, show fX10_in (putI N R8 8 0) x 0 (nI n) = 0 from rin_no (N := n + 1) (by omega) hx, rr_no z_8 (by decide), Option.bind_some, if_pos rfl]
theorem api_outputByte (G : GL M) (x : Int32) : API0 ((fX9_outputByte M x).map fun v => (v, M)) (fun N => fX10_outputByte N x) M := by
  obtain ⟨w, hw, h1, h2, h3⟩ := G.2.2.2.2.2.1
  have hb : Int32.ofNat (bl 1) = nI 64 := by decide
  have b64 : bl 1 = 64 := by decide
  have hcv : w = 0 → nI w - (1 : Int32) = -1 := by rintro rfl; decide
  have i_c : (∃ j, j < w ∧ x = nI j) ∨ (x < 0 ∨ ∃ j, w ≤ j ∧ j < 2 ^ 31 ∧ x = nI j) := ix_c x (by omega)
  rcases i_c with ⟨j, hj, rfl⟩ | hx
  · refine ⟨M.1 (2, 1, 0) j, M, putI M R8 8 0, ?_, fr_rf, ?_, gl_8 G fr_rf, rf_8⟩
    · rw [fX9_outputByte, fX1_at, h1, if_neg (nI_pos (by omega)), if_neg (nI_ge (by omega) (by omega)), hb, if_neg (nI_ge (by omega) (by omega)), b64, if_neg (nI_in (N := 64) (by omega) (by decide)), nI_clamp (by omega)]; rfl
    · dsimp only
      rw [fX10_outputByte, h2, show nI w - (1 : Int32) = nI (w - 1) from pk_sub (b := 1) (by omega), rin_ok (by omega) hj, if_neg one_ne, if_neg (nI_in (by omega) (by decide)), nI_clamp (by omega), h3 j hj]
  · refine ⟨-1, M, putI M R8 8 0, ?_, fr_rf, ?_, gl_8 G fr_rf, rf_8⟩
    · rw [fX9_outputByte, fX1_at, h1]
      rcases hx with h | ⟨j, h1, h2, rfl⟩
      · rw [if_pos h]; rfl
      · rw [if_neg (nI_pos h2), if_pos (nI_le h1 h2)]; rfl
    · dsimp only
      rw [fX10_outputByte, h2]
      have : fX10_in (putI M R8 8 0) x 0 (nI w - 1) = 0 := by
        rcases Nat.eq_zero_or_pos w with h0 | h0
        · rw [hcv h0, fX10_in]
          rcases hx with h | ⟨j, a1, a2, rfl⟩
          · rw [if_pos h]
          · rw [if_neg (nI_pos a2), if_pos (Int32.lt_of_lt_of_le (by decide) (Int32.not_lt.mp (nI_pos a2)))]
        · rw [show nI w - (1 : Int32) = nI (w - 1) from pk_sub (b := 1) (by omega)]
          exact rin_no (by omega) hx
      rw [this, if_pos rfl]
def sU1 (r : Rf) : Bool := (sBx 0 r || r == (14, 0, 0)) || (sOut r || sE2 r)
theorem dU (i : Nat) (hi : i ≠ 0) (r : Rf) (hr : sBx i r = true) : sU1 r = false := or_f (or_f (sBx_dis hi r hr) (bx_dis hr rfl)) (or_f (dO i r hr) (or_f (bx_dis hr rfl) (bx_dis hr rfl)))
theorem c14_c {v : Int32} {j : Nat} {M1 : Mm} (h : Fr (sBx 0) M M1) : Fr sCl M (putI M1 (14, 0, 0) j v) := fr_pI (fr_mono (fun r hr => sb_cl hr) h) rfl
theorem e2_r (hF : Fr sE2 M N) : Fr sRf M N := fr_mono (fun r hr => by
  have : r = R8 ∨ r = NW := by simpa [sE2] using hr
  rcases this with rfl | rfl <;> rfl) hF
theorem api_undo (G : GL M) : API [0] (fX9_undo M) fX10_undo M := by
  obtain ⟨hc, hx, a1, a2, a3, a4, a5, a6⟩ := G.2.2.2.1
  rcases Nat.eq_zero_or_pos hc with h0 | h0
  · subst h0
    refine ⟨.inr 0, M, by rw [fX9_undo, a3, if_pos nI_0, thr_3], fr_rf, fun N hN => ⟨0, putI (putI N R8 8 0) R8 8 1, ?_, gl_88 G hN, rf_88, by rw [z_8]; exact ag_1 rfl⟩⟩
    rw [fX10_undo, show N.1 (18, 0, 0) 7 = nI 0 by rw [(hN R8 rfl).1]; exact a5, if_pos (show nI 0 ≤ 0 by decide), rr_no z_8 (by decide), Option.bind_some, if_pos rfl]
  · obtain ⟨g, P, S, T, U, A, m, p, o1, o2, o3⟩ := a6 (hc - 1) (by omega)
    have hT := o1.2.2.2.2.2.2.2.1
    have ei : (hx + 8 - hc + (hc - 1)) % 8 = (hx + 7) % 8 := by omega
    rw [ei] at o2
    obtain ⟨M1, b1, b2, b3, b4⟩ : ∃ M1, fX2_takeBack M 0 = some M1 ∧ BX M1 T 0 g P ∧ Fr (fun r => sBx 0 r || r == (14, 0, 0)) M M1 ∧ M1.1 (14, 0, 0) 1 = nI (hc - 1) ∧ M1.1 (14, 0, 0) 2 = nI ((hx + 7) % 8) := by
      have nb : ∀ {v : Int32}, BX (putI M (14, 0, 0) 2 v) T (2 + (hx + 7) % 8) g P := fun {v} => bx_fr (S := fun r => r == (14, 0, 0)) (fun r hr => bx_dis hr rfl) (fr_putI (by simp)) o2
      have fin : ∀ {v : Int32} {M2 : Mm}, Fr (sBx 0) (putI M (14, 0, 0) 2 v) M2 → BX M2 T 0 g P → BX (putI M2 (14, 0, 0) 1 (M2.1 (14, 0, 0) 1 - 1)) T 0 g P ∧ Fr (fun r => sBx 0 r || r == (14, 0, 0)) M (putI M2 (14, 0, 0) 1 (M2.1 (14, 0, 0) 1 - 1)) ∧ (putI M2 (14, 0, 0) 1 (M2.1 (14, 0, 0) 1 - 1)).1 (14, 0, 0) 1 = nI (hc - 1) ∧ (putI M2 (14, 0, 0) 1 (M2.1 (14, 0, 0) 1 - 1)).1 (14, 0, 0) 2 = v := fun {v M2} hF hB => by
        refine ⟨bx_fr (S := fun r => r == (14, 0, 0)) (fun r hr => bx_dis hr rfl) (fr_putI (by simp)) hB, fr_pI (fr_tr (fr_putI (by simp)) (fr_mono (fun r hr => by rw [hr]; rfl) hF)) (by simp), ?_, ?_⟩
        · rw [g_row, upd_s, (hF (14, 0, 0) rfl).1, g_row, upd_o (by decide), a3, show nI hc - (1 : Int32) = nI (hc - 1) from pk_sub (b := 1) (by omega)]
        · rw [g_row, upd_o (by decide), (hF (14, 0, 0) rfl).1, g_row, upd_s]
      rw [fX2_takeBack, a3, a4, if_pos (show (0 : Int32) < nI hc from nI_lt (a := 0) (by omega) (by omega))]
      rcases Nat.eq_zero_or_pos hx with hx0 | hx0
      · subst hx0
        rw [if_pos (show nI 0 ≤ 0 by decide)]
        obtain ⟨M2, c1, c2, c3⟩ := cl_copy (i := 0) (j := 2 + 7) (by omega) hT.2 (nb (v := 7))
        obtain ⟨d1, d2, d3, d4⟩ := fin c3 c2
        exact ⟨_, by rw [if_neg (by decide), if_neg (by decide), show (7 : Int32).toNatClampNeg = 7 from rfl, c1, Option.bind_some], d1, d2, d3, d4⟩
      · rw [if_neg (nI_nle hx0 (by omega)), show nI hx - (1 : Int32) = nI (hx - 1) from pk_sub (b := 1) (by omega), if_neg (nI_pos (by omega)), if_neg (show ¬ (8 : Int32) ≤ nI (hx - 1) from nI_ge (b := 8) (by omega) (by decide)), if_neg (nI_in (N := 8) (by omega) (by decide)), nI_clamp (by omega)]
        have e7 : (hx + 7) % 8 = hx - 1 := by omega
        have nb2 := nb (v := nI (hx - 1))
        rw [e7] at nb2 ⊢
        obtain ⟨M2, c1, c2, c3⟩ := cl_copy (i := 0) (j := 2 + (hx - 1)) (by omega) hT.2 nb2
        obtain ⟨d1, d2, d3, d4⟩ := fin c3 c2
        exact ⟨_, by rw [c1, Option.bind_some], d1, d2, d3, d4⟩
    refine ⟨.inl (nI (hc - 1)), M1, by rw [fX9_undo, a3, if_neg (nI_ne0 h0 (by omega)), thr_0, b1, Option.bind_some, b4.1], fr_mono (fun r hr => ?_) b3, fun N hN => ?_⟩
    · rcases Bool.or_eq_true .. |>.mp hr with hr | hr
      · exact sb_cl hr
      · have : r = (14, 0, 0) := by simpa using hr
        rw [this]; rfl
    have n7 : N.1 (18, 0, 0) 7 = nI hc := by rw [(hN R8 rfl).1, (b3 R8 rfl).1]; exact a5
    have w7 : (putI (putI N R8 8 0) R8 7 (nI (hc - 1))).1 R8 7 = nI (hc - 1) := by rw [g_row, upd_s]
    obtain ⟨N1, c1, c2, c3⟩ := lp_undo (M0 := putI (putI N R8 8 0) R8 7 (nI (hc - 1))) w7 (show hc - 1 < 8 by omega) (K := fun w13 M14 => some ((M14.1 (18, 0, 0) 7), M14)) 280 0 _ NF (by omega) (by unfold NF; omega) (fun k hk => by omega) fr_rf
    have z1 : N1.1 R8 8 = 0 := by rw [(c2 R8 rfl).1, g_row, upd_o (by decide)]; exact z_8
    have fR : Fr sE2 N N1 := fr_tr (fr_pI (fr_putI rfl) rfl) (fr_mono (fun r hr => by unfold sE2; rw [hr, Bool.or_true]) c2)
    have fA : GFr sU1 (fun j => j == 7 || j == 8) M N1 := ⟨fr_tr (fr_mono (fun r hr => by unfold sU1; rw [hr]; rfl) b3) (fr_tr (fr_mono (fun r hr => by unfold sU1; rw [hr]; simp) hN) (fr_mono (fun r hr => by unfold sU1; rw [hr]; simp) fR)), fun j hj => by
      have hj2 : (j == 7 || j == 8) = false := hj
      have j7 : j ≠ 7 := by intro c; rw [c] at hj2; cases hj2
      have j8 : j ≠ 8 := by intro c; rw [c] at hj2; cases hj2
      rw [(c2 R8 rfl).1, g_row, upd_o j7, g_row, upd_o j8, (hN R8 rfl).1, (b3 R8 rfl).1]⟩
    refine ⟨nI (hc - 1), N1, ?_, ⟨⟨g, P, S, T, U, A, m, p, o1, bx_fr (S := fun r => sOut r || sE2 r) (fun r hr => or_f (dO 0 r hr) (or_f (bx_dis hr rfl) (bx_dis hr rfl))) (fr_tr (fr_mono (fun r hr => by rw [hr]; rfl) hN) (fr_mono (fun r hr => by rw [hr, Bool.or_true]) fR)) b2, rx_c (fun k hk => ?_) o3⟩, gt_fr rfl rfl rfl rfl fA G.2.1, ge_fr rfl rfl rfl fA G.2.2.1, ⟨hc - 1, (hx + 7) % 8, by omega, by omega, ?_, ?_, ?_, fun k hk => ?_⟩, gs_fr rfl rfl rfl (fun i i1 _ => dU i (by omega)) fA G.2.2.2.2.1, go_fr rfl rfl rfl rfl fA G.2.2.2.2.2.1, by rw [fA.2 25 rfl]; exact G.2.2.2.2.2.2⟩, e2_r fR, z1, rfl⟩
    · rw [fX10_undo, n7, if_neg (nI_nle h0 (by omega)), rr_ok z_8, Option.bind_some, if_neg one_ne]
      dsimp only
      rw [show (putI N (18, 0, 0) 8 0).1 (18, 0, 0) 7 - 1 = nI (hc - 1) by rw [g_row, upd_o (by decide), n7]; exact pk_sub (b := 1) (by omega)]
      refine c3.trans ?_
      rw [show N1.1 (18, 0, 0) 7 = nI (hc - 1) by rw [(c2 R8 rfl).1, w7]]
    · rw [c1 k hk, putI_ne (by decide), putI_ne (by decide), (hN (19, 3, 0) rfl).1, (b3 (19, 3, 0) rfl).1]
    · rw [(fr_tr (fr_mono (fun r hr => by rw [hr]; rfl) hN) (fr_mono (S := sE2) (S' := fun r => sOut r || sE2 r) (fun r hr => by rw [hr, Bool.or_true]) fR) (14, 0, 0) rfl).1]; exact b4.1
    · rw [(fr_tr (fr_mono (fun r hr => by rw [hr]; rfl) hN) (fr_mono (S := sE2) (S' := fun r => sOut r || sE2 r) (fun r hr => by rw [hr, Bool.or_true]) fR) (14, 0, 0) rfl).1]; exact b4.2
    · rw [(c2 R8 rfl).1, w7]
    · have := a6 k (by omega)
      rw [show (hx + 8 - hc + k) % 8 = ((hx + 7) % 8 + 8 - (hc - 1) + k) % 8 by omega] at this
      exact old_fr (dU _ (by omega)) fA.1 (fun j _ => by rw [(fA.1 (19, 3, 0) rfl).1]) this
end APP
