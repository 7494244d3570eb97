/-! runScript -/
def sR0 (r : Rf) : Bool := sSc r || r == (1, 0, 0)
def sR1 (hx : Nat) (r : Rf) : Bool := (sR0 r || (r == (14, 0, 0) || sBx (2 + hx) r)) || sE1 r
def sR2 (r : Rf) : Bool := (sQ2 r || r == (19, 3, 0)) || r == NW
def jR (j : Nat) : Bool := (j == 7 || j == 8) || (decide (10 ≤ j ∧ j ≤ 18) || decide (23 ≤ j ∧ j ≤ 25))
theorem jr_n {j : Nat} (h : jR j = false) : j ≠ 7 ∧ j ≠ 8 ∧ (j < 10 ∨ 18 < j) ∧ (j < 23 ∨ 25 < j) := by
  unfold jR at h
  simp only [Bool.or_eq_false_iff, beq_eq_false_iff_ne, decide_eq_false_iff_not] at h
  omega
theorem ex_k {e : Int32} {O2 M2 : Mm} {x : Int32} (he : e = (if O2.1 R8 15 = 0 then (1 : Int32) else 0)) (hm : fX10_must O2 e 1 = some (x, M2)) {f : Int32 × Mm → Option (Int32 × Mm)} : (if (O2.1 (18, 0, 0) 15) = 0 then (fX10_must O2 1 1).bind f else (fX10_must O2 0 1).bind f) = f (x, M2) := by
  by_cases c : O2.1 R8 15 = 0
  · rw [if_pos c] at he ⊢
    subst he
    exact congrArg (fun o => o.bind f) hm
  · rw [if_neg c] at he ⊢
    subst he
    exact congrArg (fun o => o.bind f) hm
section RUNS
variable {M M2 : Mm} {tb : Nat → Nat} {n hc hx T S U A m p : Nat} {g : GF} {P : PF}
theorem st_runS (hv : TV tb n) (ht : TC M tb n) (hr : TR M2 tb n) (HI : Iv g P S T U A m p) (HB : BX M T 0 g P) (HX : RX (M2.1 NW) g P) (h8 : hc ≤ 8) (hx8 : hx < 8) (h1 : M.1 (14, 0, 0) 1 = nI hc) (h2 : M.1 (14, 0, 0) 2 = nI hx) (h7 : M2.1 R8 7 = nI hc) (h25 : M2.1 R8 25 = 0) :
    ∃ v M1 M2', fX9_runScript M = some (v, M1) ∧ fX10_runScript M2 = some (v, M2') ∧ M1.1 (1, 0, 0) 1 = 0 ∧ Fr (sR1 hx) M M1 ∧ GFr sR2 jR M2 M2' ∧ M2'.1 R8 10 = 0 ∧ M1.1 (3, 0, 0) 7 = M2'.1 R8 11 ∧ M1.1 (3, 0, 0) 8 = M2'.1 R8 12 ∧ M2'.1 R8 25 = 0 ∧
      ((∃ g' P' U' A' m' p' Ma Mb K1 K2, BX M1 T 0 g' P' ∧ RX (M2'.1 NW) g' P' ∧ Iv g' P' S T U' A' m' p' ∧ Fr sR0 M Ma ∧ BX Mb T (2 + hx) g P ∧ Fr (fun r => r == (14, 0, 0) || sBx (2 + hx) r) Ma Mb ∧ Mb.1 (14, 0, 0) 1 = nI (min 8 (hc + 1)) ∧ Mb.1 (14, 0, 0) 2 = nI ((hx + 1) % 8) ∧ Fr sE1 Mb M1 ∧ Fr sQ2 M2 K1 ∧ KP hc K1 K2 ∧ Fr sE2 K2 M2' ∧ M2'.1 R8 7 = K2.1 R8 7) ∨
       (Fr sR0 M M1 ∧ Fr sQ2 M2 M2' ∧ M2'.1 R8 7 = M2.1 R8 7)) := by
  have hT := HI.2.2.2.2.2.2.2.1
  obtain ⟨b, A1, N2, O2, e, x, Mp, s1, s2, s3, s4, s5, s6, s7, s8⟩ := st_script hv ht (tr_8 (j := 8) (v := 0) (by decide) hr)
  let Ma := putI A1 (1, 0, 0) 1 0
  let W := putI (putI (putI Mp R8 10 0) R8 11 (Mp.1 R8 17)) R8 12 (Mp.1 R8 18)
  have fa : Fr sR0 M Ma := fr_pI (fr_mono (fun r hr => by unfold sR0; rw [hr]; rfl) s7) rfl
  have ta : Ma.1 (1, 0, 0) 1 = 0 := by rw [g_row, upd_s]
  have a3 : Ma.1 (3, 0, 0) = A1.1 (3, 0, 0) := putI_ne (by decide)
  have fq : Fr sQ2 M2 W := fr_pI (fr_pI (fr_pI (fr_tr (fr_putI rfl) s8.1) rfl) rfl) rfl
  have wj : ∀ j, j < 8 ∨ j = 9 ∨ (18 < j ∧ j ≠ 23) → W.1 R8 j = M2.1 R8 j := fun j hj => by
    rw [g_row, upd_o (by omega), g_row, upd_o (by omega), g_row, upd_o (by omega), s8.2 j (by omega), g_row, upd_o (by omega)]
  have w8 : W.1 R8 8 = 0 := by rw [g_row, upd_o (by decide), g_row, upd_o (by decide), g_row, upd_o (by decide), s8.2 8 (by decide)]; exact z_8
  have w10 : W.1 R8 10 = 0 := by rw [g_row, upd_o (by decide), g_row, upd_o (by decide), g_row, upd_s]
  have w11 : W.1 R8 11 = Mp.1 R8 17 := by rw [g_row, upd_o (by decide), g_row, upd_s]
  have w12 : W.1 R8 12 = Mp.1 R8 18 := by rw [g_row, upd_s]
  have hd : ∀ {r}, ((fX10_isWhole Mp).bind fun q8 => if q8.1 = 0 then some ((-1 : Int32), q8.2) else (fX10_keeps q8.2).bind fun q11 => (gX10_doesAll 6 (putI (putI q11 (18, 0, 0) 25 (1 : Int32)) (18, 0, 0) 24 (0 : Int32)) (0 : Int32) (q11.1 (18, 0, 0) 23)).bind fun q13 => some ((q13.2.1 (18, 0, 0) 24), (putI (putI q13.2 (18, 0, 0) 25 (0 : Int32)) (18, 0, 0) 8 (0 : Int32)))) = r → fX10_runScript M2 = r := fun {r} hr => by
    rw [fX10_runScript, s2, Option.bind_some, s3, Option.bind_some, ← hr]
    exact ex_k s4 s5
  have XW : RX (W.1 NW) g P := rx_fr (S := sQ2) rfl fq HX
  rcases s6 with ⟨rfl, k, hk, q1, q2, q3, ⟨f, q4⟩, q5, q6, q7, q8, q9⟩ | ⟨rfl, er, ep, q1, q2⟩
  · have Ba : BX Ma T 0 g P := bx_fr (S := sR0) (fun r hr => by
      have h9 : (r.1 == 3) = false ∧ (r.1 == 4) = false ∧ (r.1 == 7) = false ∧ (r.1 == 8) = false := by
        unfold sBx at hr
        simp only [Bool.and_eq_true, Bool.or_eq_true, beq_iff_eq] at hr
        refine ⟨beq_eq_false_iff_ne.mpr ?_, beq_eq_false_iff_ne.mpr ?_, beq_eq_false_iff_ne.mpr ?_, beq_eq_false_iff_ne.mpr ?_⟩ <;> omega
      exact or_f (or_f (or_f (or_f h9.1 h9.2.1) h9.2.2.1) h9.2.2.2) (bx_dis hr rfl)) fa HB
    have e1 : Ma.1 (14, 0, 0) 1 = nI hc := by rw [(fa (14, 0, 0) rfl).1]; exact h1
    have e2 : Ma.1 (14, 0, 0) 2 = nI hx := by rw [(fa (14, 0, 0) rfl).1]; exact h2
    obtain ⟨Mb, r1, r2, r3, r4, r5, r6⟩ := cl_rem hT.2 Ba h8 hx8 e1 e2
    have w7 : W.1 R8 7 = nI hc := by rw [wj 7 (by decide)]; exact h7
    obtain ⟨K2, k1, k2⟩ := rf_keeps h8 w7
    let K3 := putI (putI K2 R8 25 1) R8 24 0
    have kj : ∀ j, j ≠ 7 → K2.1 R8 j = W.1 R8 j := fun j hj => k2.2.1.2 j (by simp [hj])
    have b7 : Mb.1 (7, 0, 0) = A1.1 (7, 0, 0) := by rw [(r4 (7, 0, 0) rfl).1]; exact putI_ne (by decide)
    have b8 : ∀ a, Mb.1 (8, a, 0) = A1.1 (8, a, 0) := fun a => by rw [(r4 (8, a, 0) rfl).1]; exact putI_ne (fun c => by cases c)
    have k9 : ∀ a, a = 7 ∨ a = 8 ∨ a = 9 ∨ a = 10 → K3.1 (19, a, 0) = Mp.1 (19, a, 0) := fun a ha => by
      rcases ha with rfl | rfl | rfl | rfl <;> rw [putI_ne (by decide), putI_ne (by decide), (k2.2.1.1 _ rfl).1, putI_ne (by decide), putI_ne (by decide), putI_ne (by decide)]
    have dd : DD Mb K3 k := fun j hj => dc_pv (k := k) hj ⟨fun a _ j _ => by rw [b8], fun i _ => by rw [b8], fun a ha1 ha2 j _ => by rw [k9 a (by omega)]⟩ (q3 j hj)
    have xs : XS Mb K3 g P S T U A m p 0 := ⟨r2, by rw [putI_ne (by decide), putI_ne (by decide)]; exact rx_fr (S := fun r => r == R8 || r == (19, 3, 0)) rfl k2.2.1.1 XW, HI, by rw [b7]; exact q5, by rw [g_row, upd_s]; rfl, by rw [g_row, upd_o (by decide), g_row, upd_s], by decide⟩
    obtain ⟨M1, R2, g', P', U', A', m', p', ex, fl, t1, t2, t3, -, t5, t6⟩ := st_run hk 2 0 rfl 6 6 f 0 k Mb K3 g P U A m p 0 (by decide) (by decide) rfl rfl rfl (by rw [b8, b8, b8]; exact q4) (Nat.le_refl _) dd xs (by rw [b7]; exact q6) (by decide)
    obtain ⟨x1, x2, x3, x4, x5, x6, x7⟩ := t3
    have fR : Fr sE2 K2 (putI (putI R2 R8 25 0) R8 8 0) := fr_pI (fr_pI (fr_tr (fr_pI (fr_putI rfl) rfl) t6.1) rfl) rfl
    have rj : ∀ j, j ≠ 8 → j ≠ 24 → j ≠ 25 → (putI (putI R2 R8 25 0) R8 8 0).1 R8 j = K2.1 R8 j := fun j j1 j2 j3 => by
      rw [g_row, upd_o j1, g_row, upd_o j3, t6.2 j j1 j2, g_row, upd_o j2, g_row, upd_o j3]
    have fM1 : Fr (fun r => (r == (14, 0, 0) || sBx (2 + hx) r) || sE1 r) Ma M1 := fr_tr (fr_mono (fun r hr => by rw [hr]; rfl) r4) (fr_mono (fun r hr => by rw [hr, Bool.or_true]) t5)
    refine ⟨nI ex, M1, putI (putI R2 R8 25 0) R8 8 0, ?_, hd ?_, ?_, ?_, ⟨?_, fun j hj => ?_⟩, ?_, ?_, ?_, ?_, Or.inl ⟨g', P', U', A', m', p', Ma, Mb, W, K2, x1, ?_, x3, fa, r3, r4, r5, r6, t5, fq, k2, fR, rj 7 (by decide) (by decide) (by decide)⟩⟩
    · rw [fX9_runScript, s1, Option.bind_some, if_neg one_ne]
      dsimp only
      rw [r1, Option.bind_some, b7, q1]
      rw [show gX4_runPart 6 Mb 0 0 (nI k) 0 = some M1 from t1, Option.bind_some, x4]
    · rw [fX10_isWhole, if_pos (show Mp.1 (18, 0, 0) 17 = 0 from q8), Option.bind_some, if_neg one_ne]
      dsimp only
      rw [show fX10_keeps (putI (putI (putI Mp (18, 0, 0) 10 0) (18, 0, 0) 11 (Mp.1 (18, 0, 0) 17)) (18, 0, 0) 12 (Mp.1 (18, 0, 0) 18)) = some K2 from k1, Option.bind_some, show K2.1 (18, 0, 0) 23 = nI k by
        rw [kj 23 (by decide), g_row, upd_o (by decide), g_row, upd_o (by decide), g_row, upd_o (by decide)]; exact q2]
      rw [show gX10_doesAll 6 (putI (putI K2 (18, 0, 0) 25 1) (18, 0, 0) 24 0) 0 (nI k) = some (fl, R2) from t2, Option.bind_some, x5]
    · rw [(fM1 (1, 0, 0) rfl).1, ta]
    · exact fr_tr (fr_mono (fun r hr => by unfold sR1; rw [hr]; rfl) fa) (fr_mono (fun r hr => by
        unfold sR1
        rcases Bool.or_eq_true .. |>.mp hr with hr | hr
        · rw [hr]; simp
        · rw [hr]; simp) fM1)
    · exact fr_tr (fr_mono (fun r hr => by unfold sR2; rw [hr]; rfl) fq) (fr_tr (fr_mono (fun r hr => by
        have : r = R8 ∨ r = (19, 3, 0) := by simpa using hr
        rcases this with rfl | rfl <;> rfl) k2.2.1.1) (fr_mono (fun r hr => by
        have : r = R8 ∨ r = NW := by simpa [sE2] using hr
        rcases this with rfl | rfl <;> rfl) fR))
    · have := jr_n hj
      rw [rj j (by omega) (by omega) (by omega), kj j (by omega), wj j (by omega)]
    · rw [rj 10 (by decide) (by decide) (by decide), kj 10 (by decide), w10]
    · rw [rj 11 (by decide) (by decide) (by decide), kj 11 (by decide), w11, q8, (fM1 (3, 0, 0) rfl).1, a3, q7.1]
    · rw [rj 12 (by decide) (by decide) (by decide), kj 12 (by decide), w12, q9, (fM1 (3, 0, 0) rfl).1, a3, q7.2]
    · rw [g_row, upd_o (by decide), g_row, upd_s]
    · rw [putI_ne (by decide), putI_ne (by decide)]; exact x2
  · refine ⟨-1, Ma, W, ?_, hd ?_, ta, fr_mono (fun r hr => by unfold sR1; rw [hr]; rfl) fa, ⟨fr_mono (fun r hr => by unfold sR2; rw [hr]; rfl) fq, fun j hj => ?_⟩, w10, ?_, ?_, ?_, Or.inr ⟨fa, fq, wj 7 (by decide)⟩⟩
    · rw [fX9_runScript, s1, Option.bind_some, if_pos rfl]
    · rw [fX10_isWhole, if_neg (show ¬ Mp.1 (18, 0, 0) 17 = 0 by rw [q2.1]; exact q2.2.1), Option.bind_some, if_pos rfl]
    · have := jr_n hj
      exact wj j (by omega)
    · rw [a3, q1.1, w11, q2.1]
    · rw [a3, q1.2, w12, q2.2.2]
    · rw [wj 25 (by decide)]; exact h25
theorem r1_cl {r : Rf} (h : sR1 hx r = true) : sCl r = true := by
  unfold sR1 sR0 sSc sE1 at h
  simp only [Bool.or_eq_true, beq_iff_eq] at h
  rcases h with (((((h | h) | h) | h) | h) | (h | h)) | (h | h)
  · unfold sCl; exact decide_eq_true (by omega)
  · unfold sCl; exact decide_eq_true (by omega)
  · unfold sCl; exact decide_eq_true (by omega)
  · unfold sCl; exact decide_eq_true (by omega)
  · rw [h]; rfl
  · rw [h]; rfl
  · exact sb_cl h
  · rw [h]; rfl
  · exact sb_cl h
theorem r2_rf {r : Rf} (h : sR2 r = true) : sRf r = true := by
  have : r = R8 ∨ r = (19, 7, 0) ∨ r = (19, 8, 0) ∨ r = (19, 9, 0) ∨ r = (19, 10, 0) ∨ r = (19, 3, 0) ∨ r = NW := by simpa [sR2, sQ2, or_assoc] using h
  rcases this with rfl | rfl | rfl | rfl | rfl | rfl | rfl <;> rfl
theorem dR0 (i : Nat) (r : Rf) (hr : sBx i r = true) : sR0 r = false := by
  have h9 : (r.1 == 3) = false ∧ (r.1 == 4) = false ∧ (r.1 == 7) = false ∧ (r.1 == 8) = false := by
    unfold sBx at hr
    simp only [Bool.and_eq_true, Bool.or_eq_true, beq_iff_eq] at hr
    refine ⟨beq_eq_false_iff_ne.mpr ?_, beq_eq_false_iff_ne.mpr ?_, beq_eq_false_iff_ne.mpr ?_, beq_eq_false_iff_ne.mpr ?_⟩ <;> omega
  exact or_f (or_f (or_f (or_f h9.1 h9.2.1) h9.2.2.1) h9.2.2.2) (bx_dis hr rfl)
theorem dQ2 (i : Nat) (r : Rf) (hr : sBx i r = true) : sQ2 r = false := or_f (or_f (or_f (or_f (bx_dis hr rfl) (bx_dis hr rfl)) (bx_dis hr rfl)) (bx_dis hr rfl)) (bx_dis hr rfl)
theorem dR2 (i : Nat) (r : Rf) (hr : sBx i r = true) : sR2 r = false := or_f (or_f (dQ2 i r hr) (bx_dis hr rfl)) (bx_dis hr rfl)
theorem dR1 (i : Nat) (h0 : i ≠ 0) (h1 : i ≠ 2 + hx) (r : Rf) (hr : sBx i r = true) : sR1 hx r = false := or_f (or_f (dR0 i r hr) (or_f (bx_dis hr rfl) (sBx_dis h1 r hr))) (or_f (bx_dis hr rfl) (sBx_dis h0 r hr))
theorem api_runScript (G : GL M) : API0 (fX9_runScript M) fX10_runScript M := by
  obtain ⟨tb, n, hv, hct, hrt⟩ := G.2.1
  obtain ⟨g, P, S, T, U, A, m, p, HI, HB, HX⟩ := G.1
  obtain ⟨hc, hx, H⟩ := G.2.2.2.1
  obtain ⟨v0, M1, -, t1, -, -, t4, -⟩ := st_runS hv hct hrt HI HB HX H.1 H.2.1 H.2.2.1 H.2.2.2.1 H.2.2.2.2.1 G.2.2.2.2.2.2
  have fR8 : M1.1 R8 = M.1 R8 := (t4 R8 rfl).1
  obtain ⟨v, M1', M2, s1, s2, s3, s4, s5, s6, s7, s8, s25, s9⟩ := st_runS hv hct (tr_o (S := sR1 hx) rfl rfl t4 hrt) HI HB (rx_fr (S := sR1 hx) (M := M) (M' := M1) rfl t4 HX) H.1 H.2.1 H.2.2.1 H.2.2.2.1 (by rw [fR8]; exact H.2.2.2.2.1) (by rw [fR8]; exact G.2.2.2.2.2.2)
  have e := Option.some.inj (t1.symm.trans s1)
  obtain ⟨rfl, rfl⟩ := Prod.mk.inj e
  have fA : GFr (fun r => sR1 hx r || sR2 r) jR M M2 := ⟨fr_tr (fr_mono (fun r hr => by rw [hr]; rfl) s4) (fr_mono (fun r hr => by rw [hr, Bool.or_true]) s5.1), fun j hj => by rw [s5.2 j hj, (s4 R8 rfl).1]⟩
  refine ⟨v0, M1, M2, s1, fr_mono (fun r hr => r1_cl hr) s4, s2, ?_, fr_mono (fun r hr => r2_rf hr) s5.1⟩
  have gt : GT M2 := ⟨tb, 0, ⟨by omega, fun k hk => by omega⟩, ⟨by rw [(s5.1 (1, 0, 0) rfl).1, s3]; rfl, fun k hk => by omega⟩, ⟨by rw [s6]; rfl, fun k hk => by omega⟩⟩
  have ge : GE M2 := ⟨by rw [(s5.1 (3, 0, 0) rfl).1]; exact s7, by rw [(s5.1 (3, 0, 0) rfl).1]; exact s8⟩
  have go : GO M2 := go_fr (S := fun r => sR1 hx r || sR2 r) rfl rfl rfl rfl fA G.2.2.2.2.2.1
  have gs : GSl M2 := gs_fr (S := fun r => sR1 hx r || sR2 r) rfl rfl rfl (fun i i1 i2 r hr => or_f (dR1 i (by omega) (by have := H.2.1; omega) r hr) (dR2 i r hr)) fA G.2.2.2.2.1
  rcases s9 with ⟨g', P', U', A', m', p', Ma, Mb, K1, K2, x1, x2, x3, x4, x5, x6, x7, x8, x9, y1, y2, y3, y4⟩ | ⟨q1, q2, q3⟩
  · have Ha : GHx Ma hc hx := ⟨H.1, H.2.1, by rw [(x4 (14, 0, 0) rfl).1]; exact H.2.2.1, by rw [(x4 (14, 0, 0) rfl).1]; exact H.2.2.2.1, by rw [(x4 R8 rfl).1]; exact H.2.2.2.2.1, fun k hk => old_fr (dR0 _) x4 (fun j _ => by rw [(x4 (19, 3, 0) rfl).1]) (H.2.2.2.2.2 k hk)⟩
    refine ⟨⟨g', P', S, T, U', A', m', p', x3, bx_fr (dR2 0) s5.1 x1, x2⟩, gt, ge, ⟨min 8 (hc + 1), (hx + 1) % 8, ?_⟩, gs, go, s25⟩
    exact gh_new (S1 := fun r => sE1 r || sQ2 r) (S2 := sE2) Ha HI (by rw [(x4 NW rfl).1]; exact HX) x5 x6 x7 x8 (fr_tr (fr_mono (fun r hr => by rw [hr]; rfl) x9) (fr_mono (fun r hr => by rw [hr, Bool.or_true]) y1)) ⟨rfl, rfl, rfl, fun i i2 _ r hr => or_f (or_f (bx_dis hr rfl) (sBx_dis (by omega) r hr)) (dQ2 i r hr)⟩ y2 y3 y4 ⟨rfl, rfl, fun i _ _ r hr => or_f (bx_dis hr rfl) (bx_dis hr rfl)⟩
  · have fB : Fr (fun r => sR0 r || sQ2 r) M M2 := fr_tr (fr_mono (fun r hr => by rw [hr]; rfl) q1) (fr_mono (fun r hr => by rw [hr, Bool.or_true]) q2)
    have dB : ∀ i r, sBx i r = true → (fun r => sR0 r || sQ2 r) r = false := fun i r hr => or_f (dR0 i r hr) (dQ2 i r hr)
    refine ⟨old_fr (dB 0) fB (fun k _ => by rw [(fB NW rfl).1]) G.1, gt, ge, ⟨hc, hx, H.1, H.2.1, ?_, ?_, ?_, fun k hk => old_fr (dB _) fB (fun j _ => by rw [(fB (19, 3, 0) rfl).1]) (H.2.2.2.2.2 k hk)⟩, gs, go, s25⟩
    · rw [(fB (14, 0, 0) rfl).1]; exact H.2.2.1
    · rw [(fB (14, 0, 0) rfl).1]; exact H.2.2.2.1
    · rw [q3, fR8]; exact H.2.2.2.2.1
end RUNS
