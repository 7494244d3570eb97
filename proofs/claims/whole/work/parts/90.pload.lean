/-! load -/
def sT2 (r : Rf) : Bool := sSe r || r == (1, 0, 0)
def sTS (r : Rf) : Bool := sT2 r || ((sBx 0 r || r == (14, 0, 0)) || r == (17, 0, 0))
def sLd (r : Rf) : Bool := (r == R8 || r == NW) || (r == (19, 2, 0) || r == (20, 0, 0))
def jLd (j : Nat) : Bool := (j == 7 || j == 8) || decide (10 ≤ j ∧ j ≤ 18)
theorem jld_n {j : Nat} (h : jLd j = false) : j ≠ 7 ∧ j ≠ 8 ∧ (j < 10 ∨ 18 < j) := by
  unfold jLd at h
  simp only [Bool.or_eq_false_iff, beq_eq_false_iff_ne, decide_eq_false_iff_not] at h
  omega
section LOAD
variable {M M1 M2 : Mm} {tb : Nat → Nat} {n : Nat}
theorem st_take (hv : TV tb n) (ht : TC M1 tb n) (hr : TR M2 tb n) (HZ : ∀ k, k < 280 → M2.1 NW k = 0) : ∃ M1' M2' N2, fX9_takeSetup M1 = some M1' ∧ fX10_starts M2 = some N2 ∧ fX10_readsSetup N2 = some M2' ∧ FS M2 M2' ∧ M1'.1 (1, 0, 0) 1 = 0 ∧ Fr sTS M1 M1' ∧
    ((∃ g P S T U A, BX M1' T 0 g P ∧ RX (M2'.1 NW) g P ∧ Iv g P S T U A 0 0 ∧ EC M1' 0 (-1) ∧ M2'.1 R8 17 = 0 ∧ M2'.1 R8 18 = -1 ∧ M1'.1 (14, 0, 0) = upd (M1.1 (14, 0, 0)) 1 0 ∧ M1'.1 (17, 0, 0) 0 = 0 ∧ M1'.1 (17, 0, 0) 1 = 0) ∨ (∃ e p, EC M1' e p ∧ ER M2' e p ∧ Fr sT2 M1 M1')) := by
  obtain ⟨b, A1, M2', N2, s1, s2, s3, s4, s5, s6⟩ := st_setup hv ht hr HZ
  have f2 : Fr sT2 M1 (putI A1 (1, 0, 0) 1 0) := fr_pI (fr_mono (fun r hr => by unfold sT2; rw [hr]; rfl) s5) rfl
  rcases s4 with ⟨rfl, g, P, S, T, U, A, q1, q2, q3, q4, q5, q6⟩ | ⟨rfl, e, p, q1, q2⟩
  · have hT := q3.2.2.2.2.2.2.2.1
    obtain ⟨M3, c1, c2, c3⟩ := cl_copy (M := putI A1 (1, 0, 0) 1 0) (i := 0) (j := 1) (by decide) hT.2 (bx_fr (S := fun r => r == (1, 0, 0)) (fun r hr => bx_dis hr rfl) (fr_putI (by simp)) q1)
    refine ⟨putI (putI (putI M3 (14, 0, 0) 1 0) (17, 0, 0) 0 0) (17, 0, 0) 1 0, M2', N2, ?_, s2, s3, s6, ?_, ?_, Or.inl ⟨g, P, S, T, U, A, ?_, q2, q3, ⟨?_, ?_⟩, q5, q6, ?_, ?_, ?_⟩⟩
    · rw [fX9_takeSetup, s1, Option.bind_some, if_neg one_ne]
      dsimp only
      rw [c1, Option.bind_some, show NF = 4997 + 1 + 1 + 1 from rfl, fX9_takeSetup_L41, if_neg (by decide), if_neg (by decide), fX9_takeSetup_L41, if_neg (by decide), if_neg (by decide), fX9_takeSetup_L41, if_pos (by decide)]
      rfl
    · rw [putI_ne (by decide), putI_ne (by decide), putI_ne (by decide), (c3 (1, 0, 0) rfl).1, g_row, upd_s]
    · exact fr_pI (fr_pI (fr_pI (fr_tr (fr_mono (fun r hr => by unfold sTS; rw [hr]; rfl) f2) (fr_mono (fun r hr => by unfold sTS; rw [hr]; simp) c3)) rfl) rfl) rfl
    · exact bx_fr (S := fun r => r == (14, 0, 0) || r == (17, 0, 0)) (fun r hr => or_f (bx_dis hr rfl) (bx_dis hr rfl)) (fr_pI (fr_pI (fr_putI (by simp)) (by simp)) (by simp)) c2
    · rw [putI_ne (by decide), putI_ne (by decide), putI_ne (by decide), (c3 (3, 0, 0) rfl).1, putI_ne (by decide)]; exact q4.1
    · rw [putI_ne (by decide), putI_ne (by decide), putI_ne (by decide), (c3 (3, 0, 0) rfl).1, putI_ne (by decide)]; exact q4.2
    · rw [putI_ne (by decide), putI_ne (by decide), g_row, (c3 (14, 0, 0) rfl).1, (f2 (14, 0, 0) rfl).1]
    · rw [g_row, upd_o (by decide), g_row, upd_s]
    · rw [g_row, upd_s]
  · refine ⟨putI A1 (1, 0, 0) 1 0, M2', N2, ?_, s2, s3, s6, ?_, fr_mono (fun r hr => by unfold sTS; rw [hr]; rfl) f2, Or.inr ⟨e, p, ⟨?_, ?_⟩, q2, f2⟩⟩
    · rw [fX9_takeSetup, s1, Option.bind_some, if_pos rfl]
    · rw [g_row, upd_s]
    · rw [putI_ne (by decide)]; exact q1.1
    · rw [putI_ne (by decide)]; exact q1.2
theorem st_load (hv : TV tb n) (ht : TC M tb n) (hr : TR M2 tb n) : ∃ v M1 M2', fX9_load M = some (v, M1) ∧ fX10_load M2 = some (v, M2') ∧ M1.1 (1, 0, 0) 1 = 0 ∧ Fr sTS M M1 ∧ GFr sLd jLd M2 M2' ∧ M2'.1 R8 10 = 0 ∧ M1.1 (3, 0, 0) 7 = M2'.1 R8 11 ∧ M1.1 (3, 0, 0) 8 = M2'.1 R8 12 ∧
    ((∃ g P S T U A, BX M1 T 0 g P ∧ RX (M2'.1 NW) g P ∧ Iv g P S T U A 0 0 ∧ M1.1 (14, 0, 0) = upd (M.1 (14, 0, 0)) 1 0 ∧ M1.1 (17, 0, 0) 0 = 0 ∧ M1.1 (17, 0, 0) 1 = 0 ∧ M2'.1 R8 7 = 0 ∧ M2'.1 (20, 0, 0) 0 = 0 ∧ M2'.1 (20, 0, 0) 1 = 0) ∨
     (Fr sT2 M M1 ∧ (∀ k, k < 280 → M2'.1 NW k = M2.1 NW k) ∧ M2'.1 R8 7 = M2.1 R8 7 ∧ M2'.1 (20, 0, 0) = M2.1 (20, 0, 0))) := by
  obtain ⟨N1, ⟨b1, b2⟩, b3, b4⟩ := lp_new (M0 := putI M2 R8 8 0) (K := fun w5 M6 => (fX10_starts M6).bind fun q7 => (fX10_readsSetup q7).bind fun q9 => (fX10_isWhole q9).bind fun q11 => if q11.1 = 0 then (fX10_load_L56 (fun w17 M18 => some ((M18.1 (18, 0, 0) 11), M18)) NF (0 : Int32) q11.2) else some ((0 : Int32), (putI (putI (putI q11.2 (18, 0, 0) 7 (0 : Int32)) (20, 0, 0) 0 (0 : Int32)) (20, 0, 0) 1 (0 : Int32)))) 280 0 _ NF (by omega) (by unfold NF; omega) ⟨fun k hk => by omega, fun _ _ => rfl⟩ fr_rf
  have hr1 : TR N1 tb n := tr_o (S := fun r => r == NW || r == (19, 2, 0)) rfl rfl b3 (tr_8 (j := 8) (by decide) hr)
  obtain ⟨M1, M2', N2, s1, s2, s3, s4, s5, s6, s7⟩ := st_take hv ht hr1 (fun k hk => (b1 k hk).2)
  let W := putI (putI (putI M2' R8 10 0) R8 11 (M2'.1 R8 17)) R8 12 (M2'.1 R8 18)
  have e1 : fX10_load M2 = (fX10_isWhole M2').bind fun q11 => if q11.1 = 0 then (fX10_load_L56 (fun w17 M18 => some ((M18.1 (18, 0, 0) 11), M18)) NF (0 : Int32) q11.2) else some ((0 : Int32), (putI (putI (putI q11.2 (18, 0, 0) 7 (0 : Int32)) (20, 0, 0) 0 (0 : Int32)) (20, 0, 0) 1 (0 : Int32))) := by
    refine (show fX10_load M2 = _ from b4).trans ?_
    rw [s2, Option.bind_some, s3, Option.bind_some]
  have f1 : Fr sLd M2 W := fr_pI (fr_pI (fr_pI (fr_tr (fr_putI rfl) (fr_tr (fr_mono (fun r hr => by
    have : r = NW ∨ r = (19, 2, 0) := by simpa using hr
    rcases this with rfl | rfl <;> rfl) b3) (fr_mono (fun r hr => by
    have : r = R8 ∨ r = NW := by simpa [sS2] using hr
    rcases this with rfl | rfl <;> rfl) s4.1))) rfl) rfl) rfl
  have w8 : ∀ j, j < 10 ∨ 18 < j → W.1 R8 j = (putI M2 R8 8 0).1 R8 j := fun j hj => by
    rw [g_row, upd_o (by omega), g_row, upd_o (by omega), g_row, upd_o (by omega), s4.2 j (by omega), (b3 R8 rfl).1]
  have w10 : W.1 R8 10 = 0 := by rw [g_row, upd_o (by decide), g_row, upd_o (by decide), g_row, upd_s]
  have w11 : W.1 R8 11 = M2'.1 R8 17 := by rw [g_row, upd_o (by decide), g_row, upd_s]
  have w12 : W.1 R8 12 = M2'.1 R8 18 := by rw [g_row, upd_s]
  rcases s7 with ⟨g, P, S, T, U, A, q1, q2, q3, q4, q5, q6, q7, q8, q9⟩ | ⟨e, p, q1, q2, q3⟩
  · refine ⟨0, M1, putI (putI (putI W R8 7 0) (20, 0, 0) 0 0) (20, 0, 0) 1 0, ?_, ?_, s5, s6, ⟨fr_pI (fr_pI (fr_pI f1 rfl) rfl) rfl, fun j hj => ?_⟩, ?_, ?_, ?_, Or.inl ⟨g, P, S, T, U, A, q1, ?_, q3, q7, q8, q9, ?_, ?_, ?_⟩⟩
    · rw [fX9_load, s1, Option.bind_some, q4.1]
    · rw [e1, fX10_isWhole, if_pos (show M2'.1 (18, 0, 0) 17 = 0 from q5), Option.bind_some, if_neg one_ne]
    · have := jld_n hj
      rw [putI_ne (by decide), putI_ne (by decide), g_row, upd_o (by omega), w8 j (by omega), g_row, upd_o (by omega)]
    · rw [putI_ne (by decide), putI_ne (by decide), g_row, upd_o (by decide), w10]
    · rw [putI_ne (by decide), putI_ne (by decide), g_row, upd_o (by decide), w11, q5, q4.1]
    · rw [putI_ne (by decide), putI_ne (by decide), g_row, upd_o (by decide), w12, q6, q4.2]
    · rw [putI_ne (by decide), putI_ne (by decide), putI_ne (by decide), putI_ne (by decide), putI_ne (by decide), putI_ne (by decide)]; exact q2
    · rw [putI_ne (by decide), putI_ne (by decide), g_row, upd_s]
    · rw [g_row, upd_o (by decide), g_row, upd_s]
    · rw [g_row, upd_s]
  · obtain ⟨N3, c1, c2, c3⟩ := lp_load (M0 := W) (K := fun w17 M18 => some ((M18.1 (18, 0, 0) 11), M18)) 280 0 W NF (by omega) (by unfold NF; omega) (fun k hk => by omega) fr_rf
    refine ⟨e, M1, N3, ?_, ?_, s5, s6, ⟨fr_tr f1 (fr_mono (fun r hr => by
      have : r = NW := by simpa using hr
      rw [this]; rfl) c2), fun j hj => ?_⟩, ?_, ?_, ?_, Or.inr ⟨q3, fun k hk => ?_, ?_, ?_⟩⟩
    · rw [fX9_load, s1, Option.bind_some, q1.1]
    · rw [e1, fX10_isWhole, if_neg (show ¬ M2'.1 (18, 0, 0) 17 = 0 by rw [q2.1]; exact q2.2.1), Option.bind_some, if_pos rfl]
      refine c3.trans ?_
      rw [(c2 R8 rfl).1, w11, q2.1]
    · have := jld_n hj
      rw [(c2 R8 rfl).1, w8 j (by omega), g_row, upd_o (by omega)]
    · rw [(c2 R8 rfl).1, w10]
    · rw [(c2 R8 rfl).1, w11, q1.1, q2.1]
    · rw [(c2 R8 rfl).1, w12, q1.2, q2.2.2]
    · rw [c1 k hk, putI_ne (by decide), putI_ne (by decide), putI_ne (by decide), (s4.1 (19, 2, 0) rfl).1, (b1 k hk).1, putI_ne (by decide)]
    · rw [(c2 R8 rfl).1, w8 7 (by decide), g_row, upd_o (by decide)]
    · rw [(c2 (20, 0, 0) rfl).1, putI_ne (by decide), putI_ne (by decide), putI_ne (by decide), (s4.1 (20, 0, 0) rfl).1, (b3 (20, 0, 0) rfl).1, putI_ne (by decide)]
theorem st_cl {r : Rf} (h : sTS r = true) : sCl r = true := by
  unfold sTS sT2 sSe at h
  simp only [Bool.or_eq_true, beq_iff_eq] at h
  rcases h with ((((h | h) | h) | h) | ((h | h) | h))
  · unfold sCl; exact decide_eq_true (by omega)
  · unfold sCl; exact decide_eq_true (by omega)
  · exact sb_cl h
  · rw [h]; rfl
  · exact sb_cl h
  · rw [h]; rfl
  · rw [h]; rfl
theorem dS (i : Nat) (h0 : i ≠ 0) (h1 : i ≠ 1) (r : Rf) (hr : sBx i r = true) : (fun r => sTS r || sLd r) r = false := by
  have h9 : (r.1 == 3) = false ∧ (r.1 == 4) = false := by
    unfold sBx at hr
    simp only [Bool.and_eq_true, Bool.or_eq_true, beq_iff_eq] at hr
    constructor
    · exact beq_eq_false_iff_ne.mpr (by omega)
    · exact beq_eq_false_iff_ne.mpr (by omega)
  exact or_f (or_f (or_f (or_f (or_f h9.1 h9.2) (sBx_dis h1 r hr)) (bx_dis hr rfl)) (or_f (or_f (sBx_dis h0 r hr) (bx_dis hr rfl)) (bx_dis hr rfl))) (or_f (or_f (bx_dis hr rfl) (bx_dis hr rfl)) (or_f (bx_dis hr rfl) (bx_dis hr rfl)))
theorem ld_r {r : Rf} (h : sLd r = true) : sRf r = true := by
  have : r = R8 ∨ r = NW ∨ r = (19, 2, 0) ∨ r = (20, 0, 0) := by simpa [sLd, or_assoc] using h
  rcases this with rfl | rfl | rfl | rfl <;> rfl
theorem api_load (G : GL M) : API0 (fX9_load M) fX10_load M := by
  obtain ⟨tb, n, hv, hc, hr⟩ := G.2.1
  obtain ⟨v0, M1, -, t1, -, -, t4, -⟩ := st_load hv hc hr
  have hr1 : TR M1 tb n := tr_o (S := sTS) rfl rfl t4 hr
  obtain ⟨v, M1', M2, s1, s2, s3, s4, s5, s6, s7, s8, s9⟩ := st_load hv hc hr1
  have e := Option.some.inj (t1.symm.trans s1)
  obtain ⟨rfl, rfl⟩ := Prod.mk.inj e
  have fA : GFr (fun r => sTS r || sLd r) jLd M M2 := ⟨fr_tr (fr_mono (fun r hr => by rw [hr]; rfl) s4) (fr_mono (fun r hr => by rw [hr, Bool.or_true]) s5.1), fun j hj => by rw [s5.2 j hj, (s4 R8 rfl).1]⟩
  have bl : ∀ i r, sBx i r = true → sLd r = false := fun i r hr => or_f (or_f (bx_dis hr rfl) (bx_dis hr rfl)) (or_f (bx_dis hr rfl) (bx_dis hr rfl))
  refine ⟨v0, M1, M2, s1, fr_mono (fun r hr => st_cl hr) s4, s2, ?_, fr_mono (fun r hr => ld_r hr) s5.1⟩
  have gt : GT M2 := ⟨tb, 0, ⟨by omega, fun k hk => by omega⟩, ⟨by rw [(s5.1 (1, 0, 0) rfl).1, s3]; rfl, fun k hk => by omega⟩, ⟨by rw [s6]; rfl, fun k hk => by omega⟩⟩
  have ge : GE M2 := ⟨by rw [(s5.1 (3, 0, 0) rfl).1]; exact s7, by rw [(s5.1 (3, 0, 0) rfl).1]; exact s8⟩
  have go : GO M2 := go_fr (S := fun r => sTS r || sLd r) rfl rfl rfl rfl fA G.2.2.2.2.2.1
  have g25 : M2.1 R8 25 = 0 := by rw [fA.2 25 rfl]; exact G.2.2.2.2.2.2
  rcases s9 with ⟨g, P, S, T, U, A, q1, q2, q3, q7, q8, q9, q10, q11, q12⟩ | ⟨q1, q2, q3, q4⟩
  · obtain ⟨hc0, hx0, H⟩ := G.2.2.2.1
    have h14 : M2.1 (14, 0, 0) = upd (M.1 (14, 0, 0)) 1 0 := by rw [(s5.1 (14, 0, 0) rfl).1, q7]
    refine ⟨⟨g, P, S, T, U, A, 0, 0, q3, bx_fr (bl 0) s5.1 q1, q2⟩, gt, ge, ⟨0, hx0, by omega, H.2.1, ?_, ?_, by rw [q10]; rfl, fun k hk => by omega⟩, fun c hc => Or.inl ?_, go, g25⟩
    · rw [h14, upd_s]; rfl
    · rw [h14, upd_o (by decide)]; exact H.2.2.2.1
    · rw [(s5.1 (17, 0, 0) rfl).1]
      have : c = 0 ∨ c = 1 := by omega
      rcases this with rfl | rfl
      · exact ⟨q8, q11⟩
      · exact ⟨q9, q12⟩
  · have dd : ∀ i, i ≠ 1 → ∀ r, sBx i r = true → (fun r => sT2 r || sLd r) r = false := fun i h1 r hr => by
      have h9 : (r.1 == 3) = false ∧ (r.1 == 4) = false := by
        unfold sBx at hr
        simp only [Bool.and_eq_true, Bool.or_eq_true, beq_iff_eq] at hr
        constructor
        · exact beq_eq_false_iff_ne.mpr (by omega)
        · exact beq_eq_false_iff_ne.mpr (by omega)
      exact or_f (or_f (or_f (or_f h9.1 h9.2) (sBx_dis h1 r hr)) (bx_dis hr rfl)) (bl i r hr)
    have fB : Fr (fun r => sT2 r || sLd r) M M2 := fr_tr (fr_mono (fun r hr => by rw [hr]; rfl) q1) (fr_mono (fun r hr => by rw [hr, Bool.or_true]) s5.1)
    have nw : ∀ k, k < 280 → M2.1 NW k = M.1 NW k := fun k hk => by rw [q2 k hk, (q1 NW rfl).1]
    have r7 : M2.1 R8 7 = M.1 R8 7 := by rw [q3, (q1 R8 rfl).1]
    have r20 : M2.1 (20, 0, 0) = M.1 (20, 0, 0) := by rw [q4, (q1 (20, 0, 0) rfl).1]
    obtain ⟨hc0, hx0, H⟩ := G.2.2.2.1
    refine ⟨old_fr (dd 0 (by decide)) fB (fun k hk => (nw k hk).symm) G.1, gt, ge, ⟨hc0, hx0, H.1, H.2.1, ?_, ?_, by rw [r7]; exact H.2.2.2.2.1, fun k hk => old_fr (dd _ (by omega)) fB (fun j _ => by rw [(fB (19, 3, 0) rfl).1]) (H.2.2.2.2.2 k hk)⟩, fun c hc => ?_, go, g25⟩
    · rw [(fB (14, 0, 0) rfl).1]; exact H.2.2.1
    · rw [(fB (14, 0, 0) rfl).1]; exact H.2.2.2.1
    · rw [(fB (17, 0, 0) rfl).1, r20]
      rcases G.2.2.2.2.1 c hc with h | ⟨y1, y2, y3⟩
      · exact Or.inl h
      · exact Or.inr ⟨y1, y2, old_fr (dd _ (by omega)) fB (fun j _ => by rw [(fB (19, 4, 0) rfl).1]) y3⟩
end LOAD
