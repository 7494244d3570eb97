/-! forecasts -/
def lastS (S U p : Nat) : Nat := if U = 0 then 0 else U * S - p
def sbN (P : PF) (S T m t : Nat) : Nat → GF → Nat → Nat → Nat → Int32
  | 0, _, _, _, _ => -1
  | d + 1, g, p, U, v => if brS g t = true then nI v else if U = 0 then -1 else sbN P S T m t d (stS P S T m g p) (nxP S p) (nxU S p U) (v + 1)
theorem last_nx {S U p : Nat} (hp : p < S) (hU : U ≠ 0) : lastS S (nxU S p U) (nxP S p) + 1 = lastS S U p := by
  unfold lastS nxU nxP
  obtain ⟨u, rfl⟩ : ∃ u, U = u + 1 := ⟨U - 1, by omega⟩
  rw [if_neg hU]
  have e : (u + 1) * S = u * S + S := Nat.succ_mul u S
  by_cases c : p + 1 = S
  · rw [if_pos c, if_pos c]
    show (if u = 0 then 0 else u * S - 0) + 1 = _
    by_cases c2 : u = 0
    · subst c2; rw [if_pos rfl]; omega
    · rw [if_neg c2]; omega
  · rw [if_neg c, if_neg c, if_neg hU]; omega
section FORE
variable {S T U A m p k t : Nat} {P : PF} {g : GF}
theorem cl_sub {L : Nat} (hL : L < 2000) (ht : t < T) (hT : T ≤ 12) : ∀ (d v : Nat) (M : Mm) (g : GF) (p U n : Nat), d = lastS S U p + 1 → v + d = L + 1 → d < n → BX M T 1 g P → Iv g P S T U A m p →
    ∃ M', fX9_stepsUntilBroken_L32 (nI t) (nI L) (fun w9 M10 => some ((-1 : Int32), M10)) n (nI v) M = some (sbN P S T m t d g p U v, M') ∧ Fr (sBx 1) M M' := by
  intro d
  induction d with
  | zero => intro v M g p U n h1; omega
  | succ d ih =>
    intro v M g p U n h1 h2 h3 HB HI
    obtain ⟨n, rfl⟩ : ∃ q, n = q + 1 := ⟨n - 1, by omega⟩
    have hg : ¬ (nI t < 0 ∨ 12 ≤ (nI t).toNatClampNeg) := nI_in (by omega) (by decide)
    rw [fX9_stepsUntilBroken_L32, if_neg (nI_nlt (by omega) (by omega)), if_neg hg, nI_clamp (by omega), cl_brB HB ht, sbN]
    cases hb : brS g t with
    | true => exact ⟨M, by rw [if_neg (by decide), if_pos rfl], fr_rf⟩
    | false =>
      rw [if_pos (bI_0.mpr rfl), if_neg (by decide)]
      obtain ⟨M1, a1, a2, a3⟩ := cl_playSteps (k := 1) (by omega) HB HI
      rw [show (1 : Int32) = nI 1 from rfl, a1, Option.bind_some, ← show nI v + 1 = nI v + nI 1 from rfl, ← nI_succ]
      by_cases hU : U = 0
      · subst hU
        rw [if_pos rfl]
        have hd : d = 0 := by unfold lastS at h1; rw [if_pos rfl] at h1; omega
        obtain ⟨n, rfl⟩ : ∃ q, n = q + 1 := ⟨n - 1, by omega⟩
        refine ⟨M1, ?_, a3⟩
        rw [fX9_stepsUntilBroken_L32, if_pos (nI_lt (by omega) (by omega))]
      · rw [if_neg hU]
        have hl := last_nx (S := S) (p := p) HI.hp hU
        have e : playN P S T m 1 g p U = (1, stS P S T m g p, nxP S p, nxU S p U) := by
          rw [playN, if_neg hU]; rfl
        rw [e] at a2
        obtain ⟨M2, b1, b2⟩ := ih (v + 1) M1 _ _ _ n (by omega) (by omega) (by omega) a2 (stS_iv HI (by omega))
        exact ⟨M2, b1, fr_tr a3 b2⟩
theorem last_le (HI : Iv g P S T U A m p) : lastS S U p ≤ 1280 := by
  have hUS : U * S ≤ 20 * 64 := Nat.mul_le_mul HI.hU HI.hS.2
  unfold lastS
  split <;> omega
theorem an_sub {M : Mm} (HB : BX M T 0 g P) (HI : Iv g P S T U A m p) (ht : t < T) : ∃ M', fX9_stepsUntilBroken M (nI t) = some (sbN P S T m t (lastS S U p + 1) g p U 0, M') ∧ Fr (sBx 1) M M' := by
  have hT := HI.hT
  have hS := HI.hS
  have hU := HI.hU
  have hp := HI.hp
  have hl := last_le HI
  obtain ⟨M1, a1, a2, a3⟩ := cl_copy (i := 1) (j := 0) (by decide) hT.2 HB
  have pl : fX0_playableSteps M1 1 = nI (lastS S U p) := by
    rw [fX0_playableSteps, show M1.1 (9, 1, 0) 3 = nI U from (a2.1 1 (vk_s rfl)).trans HI.2.1, show M1.1 (10, 1, 0) 1 = nI S from (a2.1 0 (vk_s rfl)).trans HI.1, show M1.1 (10, 1, 0) 2 = nI p from (a2.1 5 (vk_s rfl)).trans HI.g5, lastS]
    by_cases c : U = 0
    · subst c; rfl
    · have hm : U * S ≥ S := Nat.le_mul_of_pos_left S (by omega)
      rw [if_neg (nI_ne0 (by omega) (by omega)), if_neg c, pk_mul, pk_sub (by omega)]
  obtain ⟨M2, b1, b2⟩ := cl_sub (L := lastS S U p) (by omega) ht hT.2 (lastS S U p + 1) 0 M1 g p U NF rfl (by omega) (by unfold NF; omega) a2 HI
  refine ⟨M2, ?_, fr_tr a3 b2⟩
  rw [fX9_stepsUntilBroken, thf_ok (bx_3 HB HI) (by omega) ht]
  refine bd rfs_0 (bd a1 ?_)
  rw [pl]
  exact b1
theorem an_notesIn {M : Mm} {d : Nat} (HB : BX M T 0 g P) (HI : Iv g P S T U A m p) (hd : d ≤ 300) : ∃ M', fX9_notesIn M (nI d) = some ((playN P S T m d g p U).2.1 6 - g 6, M') ∧ Fr (sBx 1) M M' := by
  obtain ⟨M1, a1, a2, a3⟩ := cl_copy (i := 1) (j := 0) (by decide) HI.hT.2 HB
  obtain ⟨M2, b1, b2, b3⟩ := cl_playSteps (k := d) (by omega) a2 HI
  refine ⟨M2, ?_, fr_tr a3 b3⟩
  rw [fX9_notesIn, rg_ok (nI_pos' (by omega)) (show nI d ≤ (300 : Int32) from nI_le (b := 300) hd (by decide))]
  refine bd rfs_0 (bd a1 (bd b1 ?_))
  rw [show M2.1 (9, 1, 0) 5 = (playN P S T m d g p U).2.1 6 from b2.1 6 (vk_s rfl), (b3 (9, 0, 0) rfl).1, (a3 (9, 0, 0) rfl).1, show M.1 (9, 0, 0) 5 = g 6 from HB.1 6 (vk_s rfl)]
theorem an_squeaksIn {M : Mm} {d : Nat} (HB : BX M T 0 g P) (HI : Iv g P S T U A m p) (hd : d ≤ 300) : ∃ M', fX9_squeaksIn M (nI d) = some ((playN P S T m d g p U).2.1 7 - g 7, M') ∧ Fr (sBx 1) M M' := by
  obtain ⟨M1, a1, a2, a3⟩ := cl_copy (i := 1) (j := 0) (by decide) HI.hT.2 HB
  obtain ⟨M2, b1, b2, b3⟩ := cl_playSteps (k := d) (by omega) a2 HI
  refine ⟨M2, ?_, fr_tr a3 b3⟩
  rw [fX9_squeaksIn, rg_ok (nI_pos' (by omega)) (show nI d ≤ (300 : Int32) from nI_le (b := 300) hd (by decide))]
  refine bd rfs_0 (bd a1 (bd b1 ?_))
  rw [show M2.1 (9, 1, 0) 6 = (playN P S T m d g p U).2.1 7 from b2.1 7 (vk_s rfl), (b3 (9, 0, 0) rfl).1, (a3 (9, 0, 0) rfl).1, show M.1 (9, 0, 0) 6 = g 7 from HB.1 7 (vk_s rfl)]
/-- the law plays its own box on until the tooth breaks -/
theorem ft_15 (ht : t < T) (hT : T ≤ 12) {c3 : Int32} : ∀ (d v : Nat) (M : Mm) (g : GF) (p U n e : Nat), d = lastS S U p + 1 → d < n → OX M 51 T g P → Iv g P S T U A m p → g 8 = nI e → e + d < 100000 → v + d < 100000 →
    ∃ M' w w', (∀ K : Int32 → Int32 → Int32 → Mm → Option (Int32 × Mm), fL_isForetold_L15 k (nI t) c3 K n (-1) (nI v) 1 M = K (sbN P S T m t d g p U v) w w' M') ∧ Off (owR 51) M M' := by
  intro d
  induction d with
  | zero => intro v M g p U n e h1; omega
  | succ d ih =>
    intro v M g p U n e h1 h3 HO HI h8 he hv9
    obtain ⟨n, rfl⟩ : ∃ q, n = q + 1 := ⟨n - 1, by omega⟩
    have hv : nI v + (1 : Int32) = nI (v + 1) := nI_add v 1
    have hbad := bad_b HO hT ht
    have st : ∃ r M1, fX10_step M 51 = some (r, M1) ∧ Off (owR 51) M M1 ∧ (U = 0 → r = 0) ∧ (U ≠ 0 → r = 1 ∧ OX M1 51 T (stS P S T m g p) P) := by
      by_cases hU : U = 0
      · exact ⟨0, M, step_0 HO (by rw [HI.2.1, hU]; rfl), Off.rf, fun _ => rfl, fun h => absurd hU h⟩
      · obtain ⟨M1, a1, a2, a3⟩ := step_ok HO HI (by omega) (by rw [h8]; exact nI_pos' (by omega)) (by rw [h8, show (100000 : Int32) = nI 100000 from rfl, nIlt (by omega) (by decide)]; omega)
        exact ⟨1, M1, a1, a3, fun h => absurd h hU, fun _ => ⟨rfl, a2⟩⟩
    obtain ⟨r, M1, s1, s2, s3, s4⟩ := st
    have one : ∀ K : Int32 → Int32 → Int32 → Mm → Option (Int32 × Mm), fL_isForetold_L15 k (nI t) c3 K (n + 1) (-1) (nI v) 1 M = fL_isForetold_L15 k (nI t) c3 K n (if brS g t = true then nI v else -1) (nI (v + 1)) r M1 := fun K => by
      rw [fL_isForetold_L15]
      refine cn (by decide) (cn (by decide) (bd hbad ?_))
      cases hb : brS g t with
      | false => exact cy rfl (bd s1 (by rw [hv]; rfl))
      | true => exact cn (by decide) (bd s1 (by rw [hv]; rfl))
    rw [sbN]
    cases hb : brS g t with
    | true =>
      obtain ⟨n, rfl⟩ : ∃ q, n = q + 1 := ⟨n - 1, by omega⟩
      refine ⟨M1, nI (v + 1), r, fun K => ?_, s2⟩
      rw [one K, hb, if_pos rfl, if_pos rfl, fL_isForetold_L15]
      by_cases hr : r = 0
      · rw [if_pos hr]
      · rw [if_neg hr]
        rw [if_pos (nI_pos' (show v < 2 ^ 31 by omega))]
    | false =>
      rw [if_neg (by decide)]
      by_cases hU : U = 0
      · obtain ⟨n, rfl⟩ : ∃ q, n = q + 1 := ⟨n - 1, by omega⟩
        refine ⟨M1, nI (v + 1), r, fun K => ?_, s2⟩
        rw [one K, hb, if_neg (by decide), if_pos hU, s3 hU, fL_isForetold_L15, if_pos rfl]
      · obtain ⟨r1, O1⟩ := s4 hU
        have hl := last_nx (S := S) (p := p) HI.hp hU
        obtain ⟨M', w, w', b1, b2⟩ := ih (v + 1) M1 _ _ _ n (e + 1) (by omega) (by omega) O1 (stS_iv HI (by omega)) (by rw [stS_8, h8]; exact nI_add e 1) (by omega) (by omega)
        refine ⟨M', w, w', fun K => ?_, s2.tr b2⟩
        rw [one K, hb, if_neg (by decide), if_neg hU, r1]
        exact b1 K
/-- what isForetold may change -/
def sFo (r : Rf) : Bool := ((Nat.ble 18 r.1 && Nat.ble r.1 20) && (r.2.1 == 51 || r.2.1 == 52)) || sBx 1 r
theorem off_Fo {M M1 : Mm} {q : Nat} (hq : q = 51 ∨ q = 52) (h : Off (owR q) M M1) : Fr sFo M M1 := fr_off (fun x hx => by
  obtain ⟨h1, h2, h3⟩ := owR_i hx
  unfold sFo
  rw [Bool.or_eq_true, Bool.and_eq_true, Bool.and_eq_true, Nat.ble_eq, Nat.ble_eq, Bool.or_eq_true, beq_iff_eq, beq_iff_eq]
  exact Or.inl ⟨⟨h2, h3⟩, by omega⟩) h
theorem b1_Fo {M M1 : Mm} (h : Fr (sBx 1) M M1) : Fr sFo M M1 := fr_mono (fun r hr => by unfold sFo; rw [hr, Bool.or_true]) h
theorem dFo {i : Nat} (hi : i ≠ 1) (r : Rf) (hr : sBx i r = true) : sFo r = false := by
  refine or_f ?_ (sBx_dis hi r hr)
  obtain ⟨a, b, c⟩ := r
  simp only [sBx, Bool.and_eq_true, Bool.or_eq_true, beq_iff_eq] at hr
  rcases hr.1 with ((rfl | rfl) | rfl) | rfl <;> rfl
theorem dFoo {k : Nat} (hk : k < 50) (x : Rf) (hx : x ∈ owR k) : sFo x = false := by
  obtain ⟨h1, h2, h3⟩ := owR_i hx
  refine or_f ?_ ?_
  · cases e : ((Nat.ble 18 x.1 && Nat.ble x.1 20) && (x.2.1 == 51 || x.2.1 == 52)) with
    | false => rfl
    | true =>
      rw [Bool.and_eq_true, Bool.or_eq_true, beq_iff_eq, beq_iff_eq] at e
      omega
  · obtain ⟨a, b, c⟩ := x
    have h2' : 18 ≤ a := h2
    cases e : sBx 1 (a, b, c) with
    | false => rfl
    | true =>
      simp only [sBx, Bool.and_eq_true, Bool.or_eq_true, beq_iff_eq] at e
      omega
set_option maxRecDepth 20000 in
theorem foretold_ok {M : Mm} {d e : Nat} (hk : k < 50) (HB : BX M T 0 g P) (HO : OX M k T g P) (HI : Iv g P S T U A m p) (ht : t < T) (hd : d ≤ 300) (h8 : g 8 = nI e) (he : e < 50000) : ∃ M', fL_isForetold M k (nI t) (nI d) = some (1, M') ∧ Fr sFo M M' := by
  have hT := HI.hT
  have hl := last_le HI
  obtain ⟨M1, a1, a2, a3⟩ := copy_ok (q := 51) HO hT.2 (by omega)
  have f1 := off_Fo (Or.inl rfl) a3
  obtain ⟨M2, w, w', b1, b2⟩ := ft_15 (k := k) (c3 := nI d) ht hT.2 (lastS S U p + 1) 0 M1 g p U NF e rfl (by unfold NF; omega) a2 HI h8 (by omega) (by omega)
  have f2 := fr_tr f1 (off_Fo (Or.inl rfl) b2)
  obtain ⟨M3, c1, c2, c3⟩ := copy_ok (q := 52) (ox_fr (dFoo hk) f2 HO) hT.2 (by omega)
  have f3 := fr_tr f2 (off_Fo (Or.inr rfl) c3)
  obtain ⟨M4, d1, d2, d3⟩ := plays_ok (d := d) c2 HI (by omega) h8 (by omega)
  have f4 := fr_tr f3 (off_Fo (Or.inr rfl) d3)
  obtain ⟨M5, g1, g2⟩ := an_sub (bx_fr (dFo (by decide)) f4 HB) HI ht
  have f5 := fr_tr f4 (b1_Fo g2)
  obtain ⟨M6, k1, k2⟩ := an_notesIn (d := d) (bx_fr (dFo (by decide)) f5 HB) HI hd
  have f6 := fr_tr f5 (b1_Fo k2)
  obtain ⟨M7, l1, l2⟩ := an_squeaksIn (d := d) (bx_fr (dFo (by decide)) f6 HB) HI hd
  have f7 := fr_tr f6 (b1_Fo l2)
  have x1 : ∀ q x : Nat, sBx 1 (18, q, x) = false := fun q x => rfl
  have n52 : ∀ {N : Mm}, Fr (sBx 1) M4 N → N.1 (18, 52, 0) = M4.1 (18, 52, 0) := fun h => (h (18, 52, 0) rfl).1
  have nk : ∀ {N : Mm}, Fr sFo M N → N.1 (18, k, 0) = M.1 (18, k, 0) := fun h => (h _ (dFoo hk _ ow18)).1
  refine ⟨M7, ?_, f7⟩
  unfold fL_isForetold
  refine bd a1 ((b1 _).trans (bd c1 (bd d1 (bd g1 (cy rfl (bd k1 (cy ?_ (bd l1 (cy ?_ rfl)))))))))
  · show (playN P S T m d g p U).2.1 6 - g 6 = M6.1 (18, 52, 0) 6 - M6.1 (18, k, 0) 6
    rw [n52 (fr_tr g2 k2), nk f6, d2.1 6 (by decide), HO.1 6 (by decide)]
  · show (playN P S T m d g p U).2.1 7 - g 7 = M7.1 (18, 52, 0) 7 - M7.1 (18, k, 0) 7
    rw [n52 (fr_tr g2 (fr_tr k2 l2)), nk f7, d2.1 7 (by decide), HO.1 7 (by decide)]
end FORE
