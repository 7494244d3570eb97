/-! writePins, writeComb -/
def ao (q : GF × Nat) (x : Int32) : GF × Nat := (fun k => if k = q.2 then x else q.1 k, q.2 + 1)
def WC (M : Mm) (q : GF × Nat) : Prop := M.1 (1, 1, 0) 1 = nI q.2 ∧ ∀ k, k < q.2 → M.1 (2, 1, 0) k = q.1 k
def WR (M : Mm) (q : GF × Nat) : Prop := M.1 R8 27 = nI q.2 ∧ ∀ k, k < q.2 → M.1 (19, 11, 0) k = q.1 k
def sO1 (r : Rf) : Bool := r == (1, 1, 0) || r == (2, 1, 0)
def sO2 (r : Rf) : Bool := r == R8 || r == (19, 11, 0)
def FO (M N : Mm) : Prop := Fr sO2 M N ∧ ∀ j, j ≠ 27 → N.1 R8 j = M.1 R8 j
theorem fo_rf {M : Mm} : FO M M := ⟨fr_rf, fun _ _ => rfl⟩
theorem fo_tr {M N O : Mm} (h : FO M N) (h2 : FO N O) : FO M O := ⟨fr_tr h.1 h2.1, fun j hj => (h2.2 j hj).trans (h.2 j hj)⟩
theorem dO1 (i : Nat) (r : Rf) (hr : sBx i r = true) : sO1 r = false := or_f (bx_dis hr rfl) (bx_dis hr rfl)
section WRT
variable {M : Mm} {q : GF × Nat}
theorem cl_w {x : Int32} (h : WC M q) (hq : q.2 < 64) : ∃ M', fX1_put M 1 x = some M' ∧ WC M' (ao q x) ∧ Fr sO1 M M' := by
  have b64 : bl 1 = 64 := by decide
  have hb : Int32.ofNat (bl 1) = nI 64 := by decide
  rw [fX1_put, h.1, if_neg (nI_pos (by omega)), hb, if_neg (nI_ge (by omega) (by omega)), b64, if_neg (nI_in (by omega) (by decide)), nI_clamp (by omega)]
  refine ⟨_, rfl, ⟨by rw [g_row, upd_s, ← nI_succ]; rfl, fun k hk => ?_⟩, fr_pI (fr_putI rfl) rfl⟩
  have hk2 : k < q.2 + 1 := hk
  rw [putI_ne (by decide), g_row]
  show upd _ _ _ k = if k = q.2 then x else q.1 k
  by_cases e : k = q.2
  · rw [if_pos e, e, upd_s]
  · rw [if_neg e, upd_o e]; exact h.2 k (by omega)
theorem rf_w {x : Int32} (h : WR M q) (hq : q.2 < 64) : ∃ M', fX10_writes M x = some M' ∧ WR M' (ao q x) ∧ FO M M' := by
  have h1 : M.1 (18, 0, 0) 27 = nI q.2 := h.1
  rw [fX10_writes, h1, if_neg (nI_in (by omega) (by decide)), nI_clamp (by omega)]
  refine ⟨_, rfl, ⟨by rw [g_row, upd_s, ← nI_succ]; rfl, fun k hk => ?_⟩, fr_pI (fr_putI rfl) rfl, fun j hj => ?_⟩
  · have hk2 : k < q.2 + 1 := hk
    rw [putI_ne (by decide), g_row]
    show upd _ _ _ k = if k = q.2 then x else q.1 k
    by_cases e : k = q.2
    · rw [if_pos e, e, upd_s]
    · rw [if_neg e, upd_o e]; exact h.2 k (by omega)
  · rw [g_row, upd_o hj, putI_ne (by decide)]
/-- a row of a tune -/
def chP (g : GF) (P : PF) (S m t s : Nat) : Int32 := if P m t s = true then (if clS g P S m t s = true then 33 else 35) else 45
def pwP (g : GF) (P : PF) (S m t : Nat) : Nat → Nat → GF × Nat → GF × Nat
  | 0, _, q => q
  | d + 1, v, q => pwP g P S m t d (v + 1) (ao q (chP g P S m t v))
variable {g : GF} {P : PF} {S T U A m0 p0 : Nat}
theorem pwP_n {m t : Nat} : ∀ (d v : Nat) (q : GF × Nat), (pwP g P S m t d v q).2 = q.2 + d
  | 0, _, _ => rfl
  | d + 1, v, q => by
    rw [pwP, pwP_n d]
    show q.2 + 1 + d = _
    omega
theorem cl_wpL {m t : Nat} (HI : Iv g P S T U A m0 p0) (hm : m < 3) (ht : t < T) {K : Int32 → Mm → Option ((Int32 ⊕ Nat) × Mm)} : ∀ (d v : Nat) (M : Mm) (q : GF × Nat) (n : Nat), v + d = S → d < n → q.2 + d ≤ 64 → BX M T 0 g P → WC M q →
    ∃ M', fX9_writePins_L32 (nI m) (nI t) K n (nI v) M = K (nI S) M' ∧ WC M' (pwP g P S m t d v q) ∧ Fr sO1 M M' := by
  have hT := HI.2.2.2.2.2.2.2.1
  have hS := HI.2.2.2.2.2.2.1
  intro d
  induction d with
  | zero =>
    intro v M q n h1 h2 h3 HB hw
    obtain ⟨n, rfl⟩ : ∃ q, n = q + 1 := ⟨n - 1, by omega⟩
    obtain rfl : v = S := by omega
    exact ⟨M, by rw [fX9_writePins_L32, bx_0 HB HI, if_pos (nI_le (Nat.le_refl _) (by omega))], hw, fr_rf⟩
  | succ d ih =>
    intro v M q n h1 h2 h3 HB hw
    obtain ⟨n, rfl⟩ : ∃ q, n = q + 1 := ⟨n - 1, by omega⟩
    obtain ⟨M1, a1, a2, a3⟩ := cl_w (x := chP g P S m t v) hw (by omega)
    obtain ⟨M2, b1, b2, b3⟩ := ih (v + 1) M1 _ n (by omega) (by omega) (show q.2 + 1 + d ≤ 64 by omega) (bx_fr (dO1 0) a3 HB) a2
    refine ⟨M2, ?_, b2, fr_tr a3 b3⟩
    rw [← b1, fX9_writePins_L32, bx_0 HB HI, if_neg (nI_ge (by omega) (by omega)), cl_hasPin HB hm (by omega) (by omega), Option.bind_some, ← nI_succ]
    unfold chP at a1
    cases hp : P m t v with
    | false =>
      rw [hp, if_neg (by decide)] at a1
      rw [if_pos (bI_0.mpr rfl), a1, Option.bind_some]
    | true =>
      rw [hp, if_pos rfl] at a1
      rw [if_neg (by decide), cl_close HB HI hm ht (by omega), Option.bind_some]
      cases hc : clS g P S m t v with
      | false =>
        rw [hc, if_neg (by decide)] at a1
        rw [if_pos (bI_0.mpr rfl), a1, Option.bind_some]
      | true =>
        rw [hc, if_pos rfl] at a1
        rw [if_neg (by decide), a1, Option.bind_some]
theorem rf_wpL {m t : Nat} (HI : Iv g P S T U A m0 p0) (hm : m < 3) (ht : t < T) {K : Int32 → Mm → Option (Int32 × Mm)} : ∀ (d v : Nat) (M : Mm) (q : GF × Nat) (n : Nat), v + d = S → d < n → q.2 + d ≤ 64 → RX (M.1 NW) g P → WR M q →
    ∃ M', fX10_writePins_L30 (nI m) (nI t) K n (nI v) M = K (nI S) M' ∧ WR M' (pwP g P S m t d v q) ∧ FO M M' := by
  have hT := HI.2.2.2.2.2.2.2.1
  have hS := HI.2.2.2.2.2.2.1
  intro d
  induction d with
  | zero =>
    intro v M q n h1 h2 h3 HX hw
    obtain ⟨n, rfl⟩ : ∃ q, n = q + 1 := ⟨n - 1, by omega⟩
    obtain rfl : v = S := by omega
    exact ⟨M, by rw [fX10_writePins_L30, rx_0 HX HI, if_pos (nI_le (Nat.le_refl _) (by omega))], hw, fo_rf⟩
  | succ d ih =>
    intro v M q n h1 h2 h3 HX hw
    obtain ⟨n, rfl⟩ : ∃ q, n = q + 1 := ⟨n - 1, by omega⟩
    obtain ⟨M1, a1, a2, a3⟩ := rf_w (x := chP g P S m t v) hw (by omega)
    obtain ⟨M2, b1, b2, b3⟩ := ih (v + 1) M1 _ n (by omega) (by omega) (show q.2 + 1 + d ≤ 64 by omega) (rx_fr (S := sO2) rfl a3.1 HX) a2
    refine ⟨M2, ?_, b2, fo_tr a3 b3⟩
    rw [← b1, fX10_writePins_L30, rx_0 HX HI, if_neg (nI_ge (by omega) (by omega)), rf_close HX HI hm ht (by omega), Option.bind_some, ← nI_succ]
    unfold chP at a1
    cases hp : P m t v with
    | false =>
      have hc : clS g P S m t v = false := by unfold clS; rw [hp]; rfl
      rw [hp, if_neg (by decide)] at a1
      rw [hc, if_pos (bI_0.mpr rfl), rf_has HX hm (by omega) (by omega), hp, Option.bind_some, if_pos (bI_0.mpr rfl), a1, Option.bind_some]
    | true =>
      rw [hp, if_pos rfl] at a1
      cases hc : clS g P S m t v with
      | false =>
        rw [hc, if_neg (by decide)] at a1
        rw [if_pos (bI_0.mpr rfl), rf_has HX hm (by omega) (by omega), hp, Option.bind_some, if_neg (by decide), a1, Option.bind_some]
      | true =>
        rw [hc, if_pos rfl] at a1
        rw [if_neg (by decide), a1, Option.bind_some]
def sW1 (r : Rf) : Bool := (sO1 r || sOut r) || sO2 r
theorem dW (i : Nat) (r : Rf) (hr : sBx i r = true) : sW1 r = false := or_f (or_f (dO1 i r hr) (dO i r hr)) (or_f (bx_dis hr rfl) (bx_dis hr rfl))
theorem gl_out {M N : Mm} {q : GF × Nat} (G : GL M) (hF : GFr sW1 (fun j => j == 8 || j == 27) M N) (hq : q.2 ≤ 64) (h1 : WC N q) (h2 : WR N q) : GL N :=
  ⟨old_fr (dW 0) hF.1 (fun k _ => by rw [(hF.1 NW rfl).1]) G.1, gt_fr rfl rfl rfl rfl hF G.2.1, ge_fr rfl rfl rfl hF G.2.2.1, gh_fr rfl rfl rfl (fun i _ _ => dW i) hF G.2.2.2.1, gs_fr rfl rfl rfl (fun i _ _ => dW i) hF G.2.2.2.2.1, ⟨q.2, hq, h1.1, h2.1, fun k hk => (h1.2 k hk).trans (h2.2 k hk).symm⟩, by rw [hF.2 25 rfl]; exact G.2.2.2.2.2.2⟩
theorem o1_c {r : Rf} (h : sO1 r = true) : sCl r = true := by
  have : r = (1, 1, 0) ∨ r = (2, 1, 0) := by simpa [sO1] using h
  rcases this with rfl | rfl <;> rfl
theorem o2_r {r : Rf} (h : sO2 r = true) : sRf r = true := by
  have : r = R8 ∨ r = (19, 11, 0) := by simpa [sO2] using h
  rcases this with rfl | rfl <;> rfl
def q00 : GF × Nat := (fun _ => 0, 0)
theorem api_writePins (G : GL M) (a b : Int32) : API [2] (fX9_writePins M a b) (fun N => fX10_writePins N a b) M := by
  obtain ⟨g, P, S, T, U, A, m0, p, HI, HB, HX⟩ := G.1
  have hT := HI.2.2.2.2.2.2.2.1
  have hS := HI.2.2.2.2.2.2.1
  rcases ix_d a (N := 3) (by decide) with ⟨m, hm, rfl⟩ | ha
  · rcases ix_d b (N := T) (by omega) with ⟨t, ht, rfl⟩ | hb
    · obtain ⟨M1, a1, a2, a3⟩ := cl_wpL HI hm ht (K := fun w15 M16 => some (.inl (M16.1 (1, 1, 0) 1), M16)) S 0 (putI M (1, 1, 0) 1 0) q00 NF (by omega) (by unfold NF; omega) (show 0 + S ≤ 64 by omega) (bx_fr (dO1 0) (fr_putI rfl) HB) ⟨by rw [g_row, upd_s]; rfl, fun k hk => absurd hk (Nat.not_lt_zero _)⟩
      have fC : Fr sO1 M M1 := fr_tr (fr_putI rfl) a3
      have hn : (pwP g P S m t S 0 q00).2 = S := (pwP_n S 0 q00).trans (Nat.zero_add S)
      refine ⟨.inl (nI S), M1, ?_, fr_mono (fun r hr => o1_c hr) fC, fun N hN => ?_⟩
      · rw [fX9_writePins, tf_ok hm, thf_ok (bx_3 HB HI) (by omega) ht, mx_00, thr_0]
        refine a1.trans ?_
        rw [a2.1, hn]
      · have XN : RX (N.1 NW) g P := rx_o hN (rx_fr (S := sO1) rfl fC HX)
        obtain ⟨N1, b1, b2, b3⟩ := rf_wpL HI hm ht (K := fun w20 M21 => some ((M21.1 (18, 0, 0) 27), M21)) S 0 (putI (putI N R8 8 0) R8 27 0) q00 NF (by omega) (by unfold NF; omega) (show 0 + S ≤ 64 by omega) (by rw [putI_ne (by decide)]; exact z_X XN) ⟨by rw [g_row, upd_s]; rfl, fun k hk => absurd hk (Nat.not_lt_zero _)⟩
        have fR : Fr sO2 N N1 := fr_tr (fr_pI (fr_putI rfl) rfl) b3.1
        have fj : ∀ j, j ≠ 27 → N1.1 R8 j = (putI N R8 8 0).1 R8 j := fun j hj => by rw [b3.2 j hj, g_row, upd_o hj]
        refine ⟨nI S, N1, ?_, gl_out (q := pwP g P S m t S 0 q00) G ⟨fr_tr (fr_mono (fun r hr => by unfold sW1; rw [hr]; rfl) fC) (fr_tr (fr_mono (fun r hr => by unfold sW1; rw [hr]; simp) hN) (fr_mono (fun r hr => by unfold sW1; rw [hr]; simp) fR)), fun j hj => ?_⟩ (by rw [hn]; omega) ⟨?_, fun k hk => ?_⟩ b2, fr_mono (fun r hr => o2_r hr) fR, by rw [fj 8 (by decide)]; exact z_8, rfl⟩
        · dsimp only
          rw [fX10_writePins, ft_ok hm, Option.bind_some, if_neg one_ne]
          dsimp only
          rw [rto_ok (rx_3 (z_X XN) HI) hT ht, rr_ok z_8, Option.bind_some, if_neg one_ne]
          refine b1.trans ?_
          rw [show N1.1 (18, 0, 0) 27 = nI S from b2.1.trans (by rw [hn])]
        · have hj2 : (j == 8 || j == 27) = false := hj
          have j8 : j ≠ 8 := by intro c; rw [c] at hj2; cases hj2
          have j27 : j ≠ 27 := by intro c; rw [c] at hj2; cases hj2
          rw [fj j j27, g_row, upd_o j8, (hN R8 rfl).1, (fC R8 rfl).1]
        · rw [(fR (1, 1, 0) rfl).1, (hN (1, 1, 0) rfl).1]; exact a2.1
        · rw [(fR (2, 1, 0) rfl).1, (hN (2, 1, 0) rfl).1]; exact a2.2 k hk
    · refine api_err G HX (k := 1) (by rw [fX9_writePins, tf_ok hm, thf_no (bx_3 HB HI) hb, mx_01, thr_1]) (fun N HN => ?_) (ag_1 rfl)
      rw [fX10_writePins, ft_ok hm, Option.bind_some, if_neg one_ne]
      dsimp only
      rw [rto_no (rx_3 (z_X HN) HI) hT hb, rr_no z_8 (by decide), Option.bind_some, if_pos rfl]
  · refine api_err G HX (k := 1) (by rw [fX9_writePins, tf_no ha, mx_1 thf_c, thr_1]) (fun N HN => ?_) (ag_1 rfl)
    rw [fX10_writePins, ft_no ha, Option.bind_some, if_pos rfl]
/-- a number -/
def dg2 (q : GF × Nat) (y : Int32) : GF × Nat := if y < 10 then ao q (48 + (y - y / 10 * 10)) else ao (ao q (48 + y / 10)) (48 + (y - y / 10 * 10))
def nmN (q : GF × Nat) (x : Int32) : GF × Nat := if 0 ≤ x then dg2 q x else dg2 (ao q 45) (-x)
theorem dg2_n (q : GF × Nat) (y : Int32) : q.2 + 1 ≤ (dg2 q y).2 ∧ (dg2 q y).2 ≤ q.2 + 2 := by
  unfold dg2
  split
  · exact ⟨Nat.le_refl _, Nat.le_succ _⟩
  · exact ⟨Nat.le_succ _, Nat.le_refl _⟩
theorem nmN_n (q : GF × Nat) (x : Int32) : (nmN q x).2 ≤ q.2 + 3 := by
  unfold nmN
  split
  · have := dg2_n q x; omega
  · have := dg2_n (ao q 45) (-x)
    have e : (ao q 45).2 = q.2 + 1 := rfl
    omega
theorem cl_dg {y : Int32} (h : WC M q) (hq : q.2 + 2 ≤ 64) : ∃ M', (if y < (10 : Int32) then ((fX1_put M 1 ((48 : Int32) + (y - y / (10 : Int32) * (10 : Int32)))).bind fun q4 => some q4) else (fX1_put M 1 ((48 : Int32) + (y / (10 : Int32)))).bind fun q6 => (fX1_put q6 1 ((48 : Int32) + (y - y / (10 : Int32) * (10 : Int32)))).bind fun q8 => some q8) = some M' ∧ WC M' (dg2 q y) ∧ Fr sO1 M M' := by
  unfold dg2
  by_cases c : y < 10
  · rw [if_pos c, if_pos c]
    obtain ⟨M1, a1, a2, a3⟩ := cl_w (x := 48 + (y - y / 10 * 10)) h (by omega)
    exact ⟨M1, by rw [a1]; rfl, a2, a3⟩
  · rw [if_neg c, if_neg c]
    obtain ⟨M1, a1, a2, a3⟩ := cl_w (x := 48 + y / 10) h (by omega)
    obtain ⟨M2, b1, b2, b3⟩ := cl_w (x := 48 + (y - y / 10 * 10)) a2 (show q.2 + 1 < 64 by omega)
    exact ⟨M2, by rw [a1, Option.bind_some, b1]; rfl, b2, fr_tr a3 b3⟩
theorem cl_num {x : Int32} (h : WC M q) (hq : q.2 + 3 ≤ 64) : ∃ M', fX1_putNumber M 1 x = some M' ∧ WC M' (nmN q x) ∧ Fr sO1 M M' := by
  unfold nmN
  by_cases c : 0 ≤ x
  · rw [fX1_putNumber, if_pos c, if_pos c, if_pos c]
    exact cl_dg h (by omega)
  · rw [fX1_putNumber, if_neg c, if_neg c, if_neg c]
    obtain ⟨M1, a1, a2, a3⟩ := cl_w (x := 45) h (by omega)
    obtain ⟨M2, b1, b2, b3⟩ := cl_dg (y := -x) a2 (show q.2 + 1 + 2 ≤ 64 by omega)
    exact ⟨M2, by rw [a1, Option.bind_some]; exact b1, b2, fr_tr a3 b3⟩
theorem le9 {y : Int32} : y ≤ 9 ↔ y < 10 := by
  rw [Int32.le_iff_toInt_le, Int32.lt_iff_toInt_lt, show (9 : Int32).toInt = 9 by decide, show (10 : Int32).toInt = 10 by decide]
  omega
theorem rf_dg {y : Int32} (h : WR M q) (hq : q.2 + 2 ≤ 64) : ∃ M', (if y ≤ (9 : Int32) then ((fX10_writes M ((48 : Int32) + (y - y / (10 : Int32) * (10 : Int32)))).bind fun q4 => some q4) else (fX10_writes M ((48 : Int32) + (y / (10 : Int32)))).bind fun q6 => (fX10_writes q6 ((48 : Int32) + (y - y / (10 : Int32) * (10 : Int32)))).bind fun q8 => some q8) = some M' ∧ WR M' (dg2 q y) ∧ FO M M' := by
  unfold dg2
  by_cases c : y < 10
  · rw [if_pos c, if_pos (le9.mpr c)]
    obtain ⟨M1, a1, a2, a3⟩ := rf_w (x := 48 + (y - y / 10 * 10)) h (by omega)
    exact ⟨M1, by rw [a1]; rfl, a2, a3⟩
  · rw [if_neg c, if_neg (fun h => c (le9.mp h))]
    obtain ⟨M1, a1, a2, a3⟩ := rf_w (x := 48 + y / 10) h (by omega)
    obtain ⟨M2, b1, b2, b3⟩ := rf_w (x := 48 + (y - y / 10 * 10)) a2 (show q.2 + 1 < 64 by omega)
    exact ⟨M2, by rw [a1, Option.bind_some, b1]; rfl, b2, fo_tr a3 b3⟩
theorem abs_p {N : Mm} {x : Int32} (c : 0 ≤ x) : fJ9_abs_0f7a4 N x = x := if_pos c
theorem abs_n {N : Mm} {x : Int32} (c : ¬ 0 ≤ x) : fJ9_abs_0f7a4 N x = -x := if_neg c
theorem rf_nm2 {x : Int32} (h : WR M q) (hq : q.2 + 3 ≤ 64) : ∃ M', fX10_writesNumber M x = some M' ∧ WR M' (nmN q x) ∧ FO M M' := by
  unfold nmN
  by_cases c : 0 ≤ x
  · rw [fX10_writesNumber, if_pos c, if_pos c, abs_p c]
    exact rf_dg h (by omega)
  · rw [fX10_writesNumber, if_neg c, if_neg c]
    obtain ⟨M1, a1, a2, a3⟩ := rf_w (x := 45) h (by omega)
    obtain ⟨M2, b1, b2, b3⟩ := rf_dg (y := -x) a2 (show q.2 + 1 + 2 ≤ 64 by omega)
    refine ⟨M2, ?_, b2, fo_tr a3 b3⟩
    rw [a1, Option.bind_some]
    rw [abs_n c]
    exact b1
/-- the comb -/
def cm1 (t : Nat) (q : GF × Nat) : GF × Nat := if t = 0 then q else ao q 32
def cmT (g : GF) (t : Nat) (q : GF × Nat) : GF × Nat := if brS g t = true then ao (cm1 t q) 120 else nmN (cm1 t q) (ptS g t)
def cmN (g : GF) : Nat → Nat → GF × Nat → GF × Nat
  | 0, _, q => q
  | d + 1, v, q => cmN g d (v + 1) (cmT g v q)
theorem cm1_n (t : Nat) (q : GF × Nat) : (cm1 t q).2 ≤ q.2 + 1 := by
  unfold cm1
  split
  · omega
  · exact Nat.le_refl _
theorem cmT_n (t : Nat) (q : GF × Nat) : (cmT g t q).2 ≤ q.2 + 4 := by
  unfold cmT
  have := cm1_n t q
  split
  · show (cm1 t q).2 + 1 ≤ _; omega
  · have := nmN_n (cm1 t q) (ptS g t); omega
theorem cmN_n : ∀ (d v : Nat) (q : GF × Nat), (cmN g d v q).2 ≤ q.2 + 4 * d
  | 0, _, _ => Nat.le_refl _
  | d + 1, v, q => by
    rw [cmN]
    have := cmN_n d (v + 1) (cmT g v q)
    have := cmT_n (g := g) v q
    omega
theorem cl_cmL (HI : Iv g P S T U A m0 p0) {K : Int32 → Mm → Option (Int32 × Mm)} : ∀ (d v : Nat) (M : Mm) (q : GF × Nat) (n : Nat), v + d = T → d < n → q.2 + 4 * d ≤ 64 → BX M T 0 g P → WC M q →
    ∃ M', fX9_writeComb_L10 K n (nI v) M = K (nI T) M' ∧ WC M' (cmN g d v q) ∧ Fr sO1 M M' := by
  have hT := HI.2.2.2.2.2.2.2.1
  intro d
  induction d with
  | zero =>
    intro v M q n h1 h2 h3 HB hw
    obtain ⟨n, rfl⟩ : ∃ q, n = q + 1 := ⟨n - 1, by omega⟩
    obtain rfl : v = T := by omega
    exact ⟨M, by rw [fX9_writeComb_L10, bx_3 HB HI, if_pos (nI_le (Nat.le_refl _) (by omega))], hw, fr_rf⟩
  | succ d ih =>
    intro v M q n h1 h2 h3 HB hw
    obtain ⟨n, rfl⟩ : ∃ q, n = q + 1 := ⟨n - 1, by omega⟩
    have hg : ¬ (nI v < 0 ∨ 12 ≤ (nI v).toNatClampNeg) := nI_in (by omega) (by decide)
    have tail : ∀ (M0 : Mm), BX M0 T 0 g P → WC M0 (cm1 v q) → ∃ M1, (if nI v < 0 ∨ 12 ≤ (nI v).toNatClampNeg then none else if (fX8_brokenNow M0 0 (nI v).toNatClampNeg) = 0 then (if nI v < 0 ∨ 12 ≤ (nI v).toNatClampNeg then none else (fX1_putNumber M0 1 (fX8_pitchNow M0 0 (nI v).toNatClampNeg)).bind fun q6 => fX9_writeComb_L10 K n (nI v + (1 : Int32)) q6) else (fX1_put M0 1 (120 : Int32)).bind fun q8 => fX9_writeComb_L10 K n (nI v + (1 : Int32)) q8) = fX9_writeComb_L10 K n (nI (v + 1)) M1 ∧ WC M1 (cmT g v q) ∧ Fr sO1 M0 M1 := by
      intro M0 HB0 hw0
      have h4 := cm1_n v q
      rw [if_neg hg, if_neg hg, nI_clamp (by omega), cl_brB HB0 (by omega), ← nI_succ, cmT]
      cases hb : brS g v with
      | false =>
        rw [if_pos (bI_0.mpr rfl), if_neg (by decide), cl_pitch HB0 (by omega)]
        obtain ⟨M1, a1, a2, a3⟩ := cl_num (x := ptS g v) hw0 (by omega)
        exact ⟨M1, by rw [a1, Option.bind_some], a2, a3⟩
      | true =>
        rw [if_neg (by decide), if_pos rfl]
        obtain ⟨M1, a1, a2, a3⟩ := cl_w (x := 120) hw0 (by omega)
        exact ⟨M1, by rw [a1, Option.bind_some], a2, a3⟩
    have h5 := cmT_n (g := g) v q
    rw [fX9_writeComb_L10, bx_3 HB HI, if_neg (nI_ge (by omega) (by omega)), if_neg (nI_g12 (by omega)), cmN]
    by_cases c : v = 0
    · have e : cm1 v q = q := if_pos c
      obtain ⟨M1, a1, a2, a3⟩ := tail M HB (by rw [e]; exact hw)
      obtain ⟨M2, b1, b2, b3⟩ := ih (v + 1) M1 _ n (by omega) (by omega) (by omega) (bx_fr (dO1 0) a3 HB) a2
      exact ⟨M2, by rw [if_pos (show nI v ≤ 0 by rw [c]; decide)]; exact a1.trans b1, b2, fr_tr a3 b3⟩
    · have e : cm1 v q = ao q 32 := if_neg c
      obtain ⟨M0, z1, z2, z3⟩ := cl_w (x := 32) hw (by omega)
      obtain ⟨M1, a1, a2, a3⟩ := tail M0 (bx_fr (dO1 0) z3 HB) (by rw [e]; exact z2)
      obtain ⟨M2, b1, b2, b3⟩ := ih (v + 1) M1 _ n (by omega) (by omega) (by omega) (bx_fr (dO1 0) a3 (bx_fr (dO1 0) z3 HB)) a2
      exact ⟨M2, by rw [if_neg (nI_nle (by omega) (by omega)), z1, Option.bind_some]; exact a1.trans b1, b2, fr_tr z3 (fr_tr a3 b3)⟩
theorem rf_cmL (HI : Iv g P S T U A m0 p0) {K : Int32 → Mm → Option (Int32 × Mm)} : ∀ (d v : Nat) (M : Mm) (q : GF × Nat) (n : Nat), v + d = T → d < n → q.2 + 4 * d ≤ 64 → RX (M.1 NW) g P → WR M q →
    ∃ M', fX10_writeComb_L12 K n (nI v) M = K (nI T) M' ∧ WR M' (cmN g d v q) ∧ FO M M' := by
  have hT := HI.2.2.2.2.2.2.2.1
  intro d
  induction d with
  | zero =>
    intro v M q n h1 h2 h3 HX hw
    obtain ⟨n, rfl⟩ : ∃ q, n = q + 1 := ⟨n - 1, by omega⟩
    obtain rfl : v = T := by omega
    exact ⟨M, by rw [fX10_writeComb_L12, rx_3 HX HI, if_pos (nI_le (Nat.le_refl _) (by omega))], hw, fo_rf⟩
  | succ d ih =>
    intro v M q n h1 h2 h3 HX hw
    obtain ⟨n, rfl⟩ : ∃ q, n = q + 1 := ⟨n - 1, by omega⟩
    have tail : ∀ (M0 : Mm), RX (M0.1 NW) g P → WR M0 (cm1 v q) → ∃ M1, ((fX10_isBad M0 (nI v)).bind fun q16 => if q16 = 0 then ((fX10_of M0 (nI v) (0 : Int32)).bind fun q19 => (fX10_of M0 (nI v) (1 : Int32)).bind fun q21 => (fX10_writesNumber M0 (q19 + q21)).bind fun q23 => fX10_writeComb_L12 K n (nI v + (1 : Int32)) q23) else (fX10_writes M0 (120 : Int32)).bind fun q25 => fX10_writeComb_L12 K n (nI v + (1 : Int32)) q25) = fX10_writeComb_L12 K n (nI (v + 1)) M1 ∧ WR M1 (cmT g v q) ∧ FO M0 M1 := by
      intro M0 HX0 hw0
      have h4 := cm1_n v q
      rw [rf_bad HX0 (by omega), Option.bind_some, ← nI_succ, cmT]
      cases hb : brS g v with
      | false =>
        rw [if_pos (bI_0.mpr rfl), if_neg (by decide), rf_of (p := 0) (q := 0) HX0 (by omega) (by decide) rfl, Option.bind_some, rf_of (p := 1) (q := 1) HX0 (by omega) (by decide) rfl, Option.bind_some]
        obtain ⟨M1, a1, a2, a3⟩ := rf_nm2 (x := ptS g v) hw0 (by omega)
        exact ⟨M1, by rw [show g (16 + 6 * v + 0) + g (16 + 6 * v + 1) = ptS g v from rfl, a1, Option.bind_some], a2, a3⟩
      | true =>
        rw [if_neg (by decide), if_pos rfl]
        obtain ⟨M1, a1, a2, a3⟩ := rf_w (x := 120) hw0 (by omega)
        exact ⟨M1, by rw [a1, Option.bind_some], a2, a3⟩
    have h5 := cmT_n (g := g) v q
    rw [fX10_writeComb_L12, rx_3 HX HI, if_neg (nI_ge (by omega) (by omega)), cmN]
    by_cases c : v = 0
    · have e : cm1 v q = q := if_pos c
      obtain ⟨M1, a1, a2, a3⟩ := tail M HX (by rw [e]; exact hw)
      obtain ⟨M2, b1, b2, b3⟩ := ih (v + 1) M1 _ n (by omega) (by omega) (by omega) (rx_fr (S := sO2) rfl a3.1 HX) a2
      exact ⟨M2, by rw [if_pos (show nI v ≤ 0 by rw [c]; decide)]; exact a1.trans b1, b2, fo_tr a3 b3⟩
    · have e : cm1 v q = ao q 32 := if_neg c
      obtain ⟨M0, z1, z2, z3⟩ := rf_w (x := 32) hw (by omega)
      have HX0 := rx_fr (S := sO2) (r := NW) rfl z3.1 HX
      obtain ⟨M1, a1, a2, a3⟩ := tail M0 HX0 (by rw [e]; exact z2)
      obtain ⟨M2, b1, b2, b3⟩ := ih (v + 1) M1 _ n (by omega) (by omega) (by omega) (rx_fr (S := sO2) rfl a3.1 HX0) a2
      exact ⟨M2, by rw [if_neg (nI_nle (by omega) (by omega)), z1, Option.bind_some]; exact a1.trans b1, b2, fo_tr z3 (fo_tr a3 b3)⟩
theorem api_writeComb (G : GL M) : API0 (fX9_writeComb M) fX10_writeComb M := by
  obtain ⟨g, P, S, T, U, A, m0, p, HI, HB, HX⟩ := G.1
  have hT := HI.2.2.2.2.2.2.2.1
  obtain ⟨M1, a1, a2, a3⟩ := cl_cmL HI (K := fun w19 M20 => some ((M20.1 (1, 1, 0) 1), M20)) T 0 (putI M (1, 1, 0) 1 0) q00 NF (by omega) (by unfold NF; omega) (show 0 + 4 * T ≤ 64 by omega) (bx_fr (dO1 0) (fr_putI rfl) HB) ⟨by rw [g_row, upd_s]; rfl, fun k hk => absurd hk (Nat.not_lt_zero _)⟩
  have fC : Fr sO1 M M1 := fr_tr (fr_putI rfl) a3
  have hn := cmN_n (g := g) T 0 q00
  have hn2 : (cmN g T 0 q00).2 ≤ 64 := by have : q00.2 = 0 := rfl; omega
  have XN : RX (M1.1 NW) g P := rx_fr (S := sO1) rfl fC HX
  obtain ⟨N1, b1, b2, b3⟩ := rf_cmL HI (K := fun w27 M28 => some ((M28.1 (18, 0, 0) 27), M28)) T 0 (putI (putI M1 R8 8 0) R8 27 0) q00 NF (by omega) (by unfold NF; omega) (show 0 + 4 * T ≤ 64 by omega) (by rw [putI_ne (by decide)]; exact z_X XN) ⟨by rw [g_row, upd_s]; rfl, fun k hk => absurd hk (Nat.not_lt_zero _)⟩
  have fR : Fr sO2 M1 N1 := fr_tr (fr_pI (fr_putI rfl) rfl) b3.1
  refine ⟨nI (cmN g T 0 q00).2, M1, N1, ?_, fr_mono (fun r hr => o1_c hr) fC, ?_, gl_out (q := cmN g T 0 q00) G ⟨fr_tr (fr_mono (fun r hr => by unfold sW1; rw [hr]; rfl) fC) (fr_mono (fun r hr => by unfold sW1; rw [hr]; simp) fR), fun j hj => ?_⟩ hn2 ⟨?_, fun k hk => ?_⟩ b2, fr_mono (fun r hr => o2_r hr) fR⟩
  · rw [fX9_writeComb]
    refine (show fX9_writeComb_L10 _ NF 0 _ = _ from a1).trans ?_
    rw [a2.1]
  · rw [fX10_writeComb]
    refine (show fX10_writeComb_L12 _ NF 0 _ = _ from b1).trans ?_
    rw [show N1.1 (18, 0, 0) 27 = nI (cmN g T 0 q00).2 from b2.1]
  · have hj2 : (j == 8 || j == 27) = false := hj
    have j8 : j ≠ 8 := by intro c; rw [c] at hj2; cases hj2
    have j27 : j ≠ 27 := by intro c; rw [c] at hj2; cases hj2
    rw [b3.2 j j27, g_row, upd_o j27, g_row, upd_o j8, (fC R8 rfl).1]
  · rw [(fR (1, 1, 0) rfl).1]; exact a2.1
  · rw [(fR (2, 1, 0) rfl).1]; exact a2.2 k hk
end WRT
