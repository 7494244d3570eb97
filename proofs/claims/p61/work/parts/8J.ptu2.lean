/-! isTune, its loops -/
section IT2
variable {k S T U A m0 p0 m : Nat} {g : GF} {P : PF}
/-- what the law has counted ahead of step s of tooth t -/
def clN (g : GF) (P : PF) (S m t s : Nat) : Int32 := nI (mSm (fun t => mCt (clS g P S m t) S) t + mCt (clS g P S m t) s)
def smN (g : GF) (P : PF) (S m t s : Nat) : Int32 := sI (fun t => nI (mCt (fun s => P m t s) S) * ptS g t) t + nI (mCt (fun s => P m t s) s) * ptS g t
theorem clN_s {t s : Nat} : clN g P S m t s + bI (clS g P S m t s) = clN g P S m t (s + 1) := by
  unfold clN
  rw [mCt]
  cases clS g P S m t s with
  | false => exact Int32.add_zero _
  | true =>
    rw [if_pos rfl, show bI true = nI 1 from rfl, nI_add, Nat.add_assoc]
theorem smN_s {t s : Nat} : smN g P S m t s + (if P m t s = true then ptS g t else 0) = smN g P S m t (s + 1) := by
  unfold smN
  rw [mCt]
  by_cases c : P m t s = true
  · rw [if_pos c, if_pos c, nI_succ, Int32.add_mul, Int32.one_mul, Int32.add_assoc]
  · rw [if_neg c, if_neg c, Int32.add_zero, Nat.add_zero]
theorem clN_t {t : Nat} : clN g P S m t S = clN g P S m (t + 1) 0 := by
  unfold clN
  rw [mSm]
  rfl
theorem smN_t {t : Nat} : smN g P S m t S = smN g P S m (t + 1) 0 := by
  unfold smN
  rw [sI, mCt]
  show _ = _ + nI 0 * _
  rw [show nI 0 = 0 from rfl, Int32.zero_mul, Int32.add_zero]
/-- the chords ahead of step s of tooth t -/
def CHN (M : Mm) (P : PF) (S m t s : Nat) : Prop := ∀ s', s' < S → M.1 (26, 0, 0) s' = chS P m s' (if s' < s then t + 1 else t)
theorem it_45 {t : Nat} (HI : Iv g P S T U A m0 p0) (hm : m < 3) (ht : t < T) {c5 c6 : Int32} : ∀ (d s f : Nat) (M : Mm) (cap : Nat), s + d = S → d < f → BX M T 0 g P → OX M k T g P → TX M 0 (rwB g P S m t s) cap → C70 cap → CHN M P S m t s →
    ∃ M' cap', (∀ K : Int32 → Int32 → Int32 → Mm → Option (Int32 × Mm), fL_isTune_L45 k (nI m) c5 c6 (nI t) K f (clN g P S m t s) (smN g P S m t s) (nI s) M = K (clN g P S m t S) (smN g P S m t S) (nI S) M') ∧ TX M' 0 (rwB g P S m t S) cap' ∧ C70 cap' ∧ CHN M' P S m (t + 1) 0 ∧ Fr sA M M' := by
  have hS := HI.hS
  have hT := HI.hT
  intro d
  induction d with
  | zero =>
    intro s f M cap hs hf HB HO hx hc hh
    obtain ⟨f, rfl⟩ : ∃ x, f = x + 1 := ⟨f - 1, by omega⟩
    obtain rfl : s = S := by omega
    refine ⟨M, cap, fun K => ?_, hx, hc, fun s' hs' => ?_, fr_rf⟩
    · rw [fL_isTune_L45, if_pos (by rw [(HO.1 0 (by decide)).trans HI.1]; exact Int32.le_refl _)]
    · rw [hh s' hs', if_pos hs', if_neg (Nat.not_lt_zero _)]
  | succ d ih =>
    intro s f M cap hs hf HB HO hx hc hh
    obtain ⟨f, rfl⟩ : ∃ x, f = x + 1 := ⟨f - 1, by omega⟩
    obtain ⟨M1, a1, a2, a3, a4⟩ := it_step (c5 := c5) (c6 := c6) (v3 := clN g P S m t s) (v4 := smN g P S m t s) (n := f) HB HO HI hm ht (show s < S by omega) hx hc rwB_n
    rw [← rwB_s, rwB_n] at a2
    have hcap : s ≤ cap := by have := hx.2.2.2.1; rw [rwB_n] at this; exact this
    obtain ⟨q1, -⟩ := c70_e (n := s + 1) hc (by omega) (by omega)
    obtain ⟨M', cap', b1, b2, b3, b4, b5⟩ := ih (s + 1) f M1 _ (by omega) (by omega) (bx_fr (dA 0) a4 HB) (ox_fr (dAo k) a4 HO) a2 q1 (fun s' hs' => by
      rw [a3]
      by_cases e : s' = s
      · subst e
        rw [upd_s, hh s' hs', if_neg (Nat.lt_irrefl _), if_pos (Nat.lt_succ_self _), chS_n (by omega)]
      · rw [upd_o e, hh s' hs']
        by_cases c : s' < s
        · rw [if_pos c, if_pos (by omega)]
        · rw [if_neg c, if_neg (by omega)])
    refine ⟨M', cap', fun K => ?_, b2, b3, b4, fr_tr a4 b5⟩
    rw [a1 K, clN_s, smN_s, b1 K]
theorem it_24 (HI : Iv g P S T U A m0 p0) (hm : m < 3) {c5 c6 : Int32} : ∀ (d t f : Nat) (M : Mm), t + d = T → d < f → BX M T 0 g P → OX M k T g P → CHN M P S m t 0 →
    ∃ M', (∀ K : Int32 → Int32 → Int32 → Mm → Option (Int32 × Mm), fL_isTune_L24 k (nI m) c5 c6 K f (clN g P S m t 0) (smN g P S m t 0) (nI t) M = K (clN g P S m T 0) (smN g P S m T 0) (nI T) M') ∧ CHN M' P S m T 0 ∧ Fr sA M M' := by
  have hS := HI.hS
  have hT := HI.hT
  intro d
  induction d with
  | zero =>
    intro t f M ht hf HB HO hh
    obtain ⟨f, rfl⟩ : ∃ x, f = x + 1 := ⟨f - 1, by omega⟩
    obtain rfl : t = T := by omega
    exact ⟨M, fun K => by rw [fL_isTune_L24, if_pos (by rw [(HO.1 3 (by decide)).trans HI.2.2.2.1]; exact Int32.le_refl _)], hh, fr_rf⟩
  | succ d ih =>
    intro t f M ht hf HB HO hh
    obtain ⟨f, rfl⟩ : ∃ x, f = x + 1 := ⟨f - 1, by omega⟩
    obtain ⟨x1, x2⟩ := nSB_ok (M := M) (z := 0)
    have f1 : Fr sA M (nSB M 0) := fr_off zb_A x2
    obtain ⟨M1, cap1, a1, a2, a3, a4, a5⟩ := it_45 (k := k) (c5 := c5) (c6 := c6) HI hm (show t < T by omega) S 0 65 (nSB M 0) 16 (by omega) (by omega) (bx_fr (dA 0) f1 HB) (ox_fr (dAo k) f1 HO) x1 (Or.inl rfl) (fun s' hs' => by rw [(x2 (26, 0, 0) (by simp [ZB])).1]; exact hh s' hs')
    have f2 := fr_tr f1 a5
    obtain ⟨M2, b1, b2, b3⟩ := an_writePins (t := t) (bx_fr (dA 0) f2 HB) HI hm (by omega)
    have hcap : cap1 ≤ 70 := by unfold C70 at a3; omega
    obtain ⟨M3, c1, c2, c3⟩ := toS_ok (y := 0) (B := 70) (tx_eq (b3 (24, 0, 0) rfl).1 (b3 (25, 0, 0) rfl).1 a2) hcap (by decide)
    have c4 := isOut_ok (ou_eq (c3 (1, 1, 0) (by simp)).1 (c3 (2, 1, 0) (by simp)).1 b2) c2 rwB_7
    rw [rwB_n] at c4
    have f3 : Fr sA M M3 := fr_tr f2 (fr_tr (o1_A b3) (fr_off y_A c3))
    obtain ⟨M', d1, d2, d3⟩ := ih (t + 1) f M3 (by omega) (by omega) (bx_fr (dA 0) f3 HB) (ox_fr (dAo k) f3 HO) (fun s' hs' => by
      rw [(c3 (26, 0, 0) (by simp)).1, (b3 (26, 0, 0) rfl).1]
      exact a4 s' hs')
    refine ⟨M', fun K => ?_, d2, fr_tr f3 d3⟩
    rw [fL_isTune_L24]
    refine cn (by rw [(HO.1 3 (by decide)).trans HI.2.2.2.1]; exact nI_ge (by omega) (by omega)) ((a1 _).trans (bd b1 (bd c1 (bd c4 (cn one_n0 ?_)))))
    show fL_isTune_L24 k (nI m) c5 c6 K f (clN g P S m t S) (smN g P S m t S) (nI t + (1 : Int32)) M3 = _
    rw [show nI t + (1 : Int32) = nI (t + 1) from nI_add t 1, clN_t, smN_t]
    exact d1 K
theorem it_260 {M : Mm} (HI : Iv g P S T U A m0 p0) (HO : OX M k T g P) (hh : CHN M P S m T 0) {s : Nat} (hs : s < S) {c3 c4 c5 c6 : Int32} {K : Int32 → Mm → Option (Int32 × Mm)} : ∀ (d n f : Nat), n + d = S → d < f → fL_isTune_L260 k (nI m) c3 c4 c5 c6 (nI s) K f (nI n) M = K (nI (crF (zS P m) S s d n)) M := by
  have hS := HI.hS
  have hT := HI.hT
  have e0 : M.1 (18, k, 0) 0 = nI S := (HO.1 0 (by decide)).trans HI.1
  intro d
  induction d with
  | zero =>
    intro n f hn hf
    obtain ⟨f, rfl⟩ : ∃ x, f = x + 1 := ⟨f - 1, by omega⟩
    obtain rfl : n = S := by omega
    rw [fL_isTune_L260, if_pos (by rw [e0]; exact Int32.le_refl _)]
    rfl
  | succ d ih =>
    intro n f hn hf
    obtain ⟨f, rfl⟩ : ∃ x, f = x + 1 := ⟨f - 1, by omega⟩
    have hmod : (s + n) % S < S := Nat.mod_lt _ (by omega)
    have hz : M.1 (26, 0, 0) ((s + n) % S) = chS P m ((s + n) % S) 12 := by
      rw [hh _ hmod, if_neg (Nat.not_lt_zero _), chS_T hT.2 HI.hP]
    rw [fL_isTune_L260, e0, if_neg (nI_ge (by omega) (by omega)), if_neg (nI_ne0 (by omega) (by omega)), nI_add, pk_rem (by omega) (by omega) (by omega), if_neg (nI_in (by omega) (by decide)), nI_clamp (by omega), hz, crF]
    by_cases c : chS P m ((s + n) % S) 12 = 0
    · rw [if_pos c, if_pos (show zS P m ((s + n) % S) = true from decide_eq_true c), show nI n + (1 : Int32) = nI (n + 1) from nI_add n 1]
      exact ih (n + 1) f (by omega) (by omega)
    · rw [if_neg c, if_neg (show ¬ zS P m ((s + n) % S) = true from fun x => c (of_decide_eq_true x))]
theorem it_248 {M : Mm} (HI : Iv g P S T U A m0 p0) (HB : BX M T 0 g P) (HO : OX M k T g P) (hm : m < 3) (hh : CHN M P S m T 0) {c3 c4 c6 : Int32} {K : Int32 → Int32 → Mm → Option (Int32 × Mm)} : ∀ (d s f : Nat), s + d = S → d < f → fL_isTune_L248 k (nI m) c3 c4 c6 K f (nI (mxR (zS P m) S s)) (nI s) M = K (nI (mxR (zS P m) S S)) (nI S) M := by
  have hS := HI.hS
  have hT := HI.hT
  have e0 : M.1 (18, k, 0) 0 = nI S := (HO.1 0 (by decide)).trans HI.1
  intro d
  induction d with
  | zero =>
    intro s f hs hf
    obtain ⟨f, rfl⟩ : ∃ x, f = x + 1 := ⟨f - 1, by omega⟩
    obtain rfl : s = S := by omega
    rw [fL_isTune_L248, if_pos (by rw [e0]; exact Int32.le_refl _)]
  | succ d ih =>
    intro s f hs hf
    obtain ⟨f, rfl⟩ : ∃ x, f = x + 1 := ⟨f - 1, by omega⟩
    have h1 := mxR_le (z := zS P m) (S := S) s
    have h2 := crF_le (z := zS P m) (S := S) (s := s) S 0
    rw [fL_isTune_L248, e0, if_neg (nI_ge (by omega) (by omega))]
    have e := it_260 (c3 := c3) (c4 := c4) (c5 := nI (mxR (zS P m) S s)) (c6 := c6) (K := fun w345 M346 => (fX9_chord M346 (nI m) (nI s)).bind fun q347 => if nI s < 0 ∨ 64 ≤ (nI s).toNatClampNeg then none else if q347.1 = (q347.2.1 (26, 0, 0) (nI s).toNatClampNeg) then fL_isTune_L248 k (nI m) c3 c4 c6 K f (fJ9_max_7cf53 M346 (nI (mxR (zS P m) S s)) w345) (nI s + (1 : Int32)) q347.2 else some ((0 : Int32), q347.2)) HI HO hh (show s < S by omega) S 0 NF (by omega) (by unfold NF; omega)
    refine e.trans (bd (an_chord HB HI hm (show s < S by omega)) (cn (nI_in (by omega) (by decide)) (cy ?_ ?_)))
    · show chS P m s 12 = M.1 (26, 0, 0) (nI s).toNatClampNeg
      rw [nI_clamp (by omega), hh s (by omega), if_neg (Nat.not_lt_zero _), chS_T hT.2 HI.hP]
    · show fL_isTune_L248 k (nI m) c3 c4 c6 K f (mxI (nI (mxR (zS P m) S s)) (nI (crF (zS P m) S s S 0))) (nI s + (1 : Int32)) M = _
      rw [mxI_n (by omega) (by omega), show nI s + (1 : Int32) = nI (s + 1) from nI_add s 1]
      exact ih (s + 1) f (by omega) (by omega)
set_option maxRecDepth 20000 in
set_option maxHeartbeats 1000000 in
theorem isTune_ok {M : Mm} (HB : BX M T 0 g P) (HO : OX M k T g P) (HI : Iv g P S T U A m0 p0) (hm : m < 3) : ∃ M', fL_isTune M k (nI m) = some (1, M') ∧ Fr sA M M' := by
  have hS := HI.hS
  have hT := HI.hT
  have f0 : Fr sA M (mN M (26, 0, 0)) := fr_off (zs := [(26, 0, 0)]) (by intro x hx; rw [List.mem_singleton.mp hx]; rfl) (Off.rf.mN (by simp))
  have e1 := pinsOf_ok (m := m) (U := U) (A := A) (m0 := m0) (p0 := p0) HO HI.hP hS.2 hT.2 hm
  have z26 : ∀ j, (mN M (26, 0, 0)).1 (26, 0, 0) j = 0 := fun j => by simp [mN]
  unfold fL_isTune
  obtain ⟨M1, a1, a2, a3⟩ := it_24 (k := k) (c5 := 0) (c6 := nI (pnS P S T m)) HI hm T 0 13 (mN M (26, 0, 0)) (by omega) (by omega) (bx_fr (dA 0) f0 HB) (ox_fr (dAo k) f0 HO) (fun s' hs' => by rw [z26, if_neg (Nat.not_lt_zero _)]; rfl)
  have f1 := fr_tr f0 a3
  have B1 := bx_fr (dA 0) f1 HB
  have O1 := ox_fr (dAo k) f1 HO
  have ec : clN g P S m T 0 = nI (mSm (fun t => mCt (clS g P S m t) S) T) := rfl
  have es : smN g P S m T 0 = mpS g P S T m := by
    unfold smN mpS
    show _ + nI 0 * _ = _
    rw [show nI 0 = 0 from rfl, Int32.zero_mul, Int32.add_zero]
  have ec0 : clN g P S m 0 0 = 0 := rfl
  have es0 : smN g P S m 0 0 = 0 := by
    unfold smN
    show (0 : Int32) + nI 0 * _ = _
    rw [show nI 0 = 0 from rfl, Int32.zero_mul, Int32.add_zero]
  rw [ec0, es0, show nI 0 = 0 from rfl] at a1
  refine ⟨M1, bd e1 ?_, f1⟩
  refine (a1 _).trans ?_
  try dsimp only
  rw [ec, es]
  refine (it_248 (c3 := nI (mSm (fun t => mCt (clS g P S m t) S) T)) (c4 := mpS g P S T m) HI B1 O1 hm a2 S 0 NF (by omega) (by unfold NF; omega)).trans ?_
  have e0 : M1.1 (18, k, 0) 0 = nI S := (O1.1 0 (by decide)).trans HI.1
  have e3 : M1.1 (18, k, 0) 3 = nI T := (O1.1 3 (by decide)).trans HI.2.2.2.1
  have hr := an_longestRest B1 HI hm
  rw [rsS_n hS.2] at hr
  have hden := an_density B1 HI hm
  refine bd (an_pinCount B1 HI hm) (cy rfl (bd (an_closePins B1 HI hm) (cy rfl (bd hr (cy rfl ?_)))))
  by_cases h0 : nI (pnS P S T m) = 0
  · refine bd (an_mean0 B1 HI hm h0) (cy h0 (cy (cmp_self (x := FP.dconst0) (by decide)) (bd hden ?_)))
    try dsimp only
    rw [e0, e3]
    exact cy (den_no HI) (cy rfl rfl)
  · refine bd (an_mean1 B1 HI hm h0) (cn h0 (cy (dv_ok h0) (cy (cmp_self (dv_ok h0)) (bd hden ?_))))
    try dsimp only
    rw [e0, e3]
    exact cy (den_no HI) (cy rfl rfl)
end IT2
