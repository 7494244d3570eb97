/-! the drawn text goes into the class's buffer, and is loaded -/
theorem tb_map {bs : List Nat} {i : Nat} : (bs.map nI).getD i 0 = nI (tbL bs i) := by
  unfold tbL
  rw [List.getD_eq_getElem?_getD, List.getD_eq_getElem?_getD, List.getElem?_map]
  cases bs[i]? with
  | none => rfl
  | some x => rfl
theorem tb_out {bs : List Nat} {i : Nat} (h : bs.length ≤ i) : tbL bs i = 0 := by
  unfold tbL
  rw [List.getD_eq_getElem?_getD, List.getElem?_eq_none h]
  rfl
def BY (bs : List Nat) : Prop := ∀ x ∈ bs, 1 ≤ x ∧ x < 128
theorem tb_in {bs : List Nat} {i : Nat} (hb : BY bs) (h : i < bs.length) : 1 ≤ tbL bs i ∧ tbL bs i < 128 := hb _ (nd_mem h)
theorem tb_lt {bs : List Nat} {i : Nat} (hb : BY bs) : tbL bs i < 128 := by
  by_cases h : i < bs.length
  · exact (tb_in hb h).2
  · rw [tb_out (by omega)]; decide
theorem nI_or (a b : Nat) : nI a ||| nI b = nI (a ||| b) := by
  apply Int32.toBitVec_inj.1
  show BitVec.ofNat 32 a ||| BitVec.ofNat 32 b = BitVec.ofNat 32 (a ||| b)
  apply BitVec.eq_of_getLsbD_eq
  intro i hi
  simp [hi]
theorem sh_or {x b : Nat} (hx : x < 16777216) (hb : b < 256) : (nI x <<< ((8 : Int32) &&& 31)) ||| nI b = nI (x * 256 + b) := by
  rw [pk_shlN ((8 : Int32) &&& 31) 8 (by decide) (by omega), nI_or, show x * 2 ^ 8 = x <<< 8 from (Nat.shiftLeft_eq x 8).symm, ← Nat.shiftLeft_add_eq_or_of_lt (show b < 2 ^ 8 by omega), Nat.shiftLeft_eq]
section FEE
variable {M : Mm} {z : Nat} {bs : List Nat}
theorem four_1 {K : Int32 → Int32 → Mm → Option (Int32 × Mm)} {k j n x : Nat} (hs : SX M z (bs.map nI)) (hb : BY bs) (hj : j < k + 4) (hk : k < 100000) (hx : x < 16777216) : fL_four_L4 z (nI k) K (n + 1) (nI x) (nI j) M = fL_four_L4 z (nI k) K n (nI (x * 256 + tbL bs j)) (nI (j + 1)) M := by
  have hl := hs.2.2.1
  have hLG := LGv
  rw [List.length_map] at hl
  have e1 : nI j + (1 : Int32) = nI (j + 1) := nI_add j 1
  have e4 : nI k + (4 : Int32) = nI (k + 4) := nI_add k 4
  have hlen := slM_ok hs
  rw [List.length_map] at hlen
  have hso := sh_or (x := x) (b := tbL bs j) hx (by have := tb_lt (i := j) hb; omega)
  rw [fL_four_L4, e1, e4]
  refine cn (nI_ge hj (by omega)) (bd hlen ?_)
  by_cases c : bs.length ≤ j
  · refine cy (nI_le c (by omega)) ?_
    rw [← hso, tb_out c]
    rfl
  · have hc := scM_ok (i := j) hs (by rw [List.length_map]; omega) (by
      rw [tb_map]
      exact ⟨nI_pos' (by have := tb_lt (i := j) hb; omega), nI_lt (b := 128) (tb_lt hb) (by decide)⟩)
    rw [tb_map] at hc
    refine cn (nI_ge (by omega) (by omega)) (bd hc ?_)
    rw [hso]
theorem four_ok {k : Nat} (hs : SX M z (bs.map nI)) (hb : BY bs) (hk : k < 100000) : ∃ w, fL_four M z (nI k) = some (w, M) ∧ byN w 24 = tbL bs k ∧ byN w 16 = tbL bs (k + 1) ∧ byN w 8 = tbL bs (k + 2) ∧ byN w 0 = tbL bs (k + 3) := by
  have b0 := tb_lt (i := k) hb
  have b1 := tb_lt (i := k + 1) hb
  have b2 := tb_lt (i := k + 2) hb
  have b3 := tb_lt (i := k + 3) hb
  have b2' := tb_lt (i := k + 1 + 1) hb
  refine ⟨nI ((((0 * 256 + tbL bs k) * 256 + tbL bs (k + 1)) * 256 + tbL bs (k + 2)) * 256 + tbL bs (k + 3)), ?_, ?_, ?_, ?_, ?_⟩
  · unfold fL_four
    rw [show NF = 4995 + 1 + 1 + 1 + 1 + 1 from rfl, show (0 : Int32) = nI 0 from rfl, four_1 (j := k) (x := 0) hs hb (by omega) hk (by decide), four_1 (j := k + 1) (x := 0 * 256 + tbL bs k) hs hb (by omega) hk (by omega), four_1 (j := k + 1 + 1) (x := (0 * 256 + tbL bs k) * 256 + tbL bs (k + 1)) hs hb (by omega) hk (by omega), four_1 (j := k + 1 + 1 + 1) (x := ((0 * 256 + tbL bs k) * 256 + tbL bs (k + 1)) * 256 + tbL bs (k + 1 + 1)) hs hb (by omega) hk (by omega), fL_four_L4, show nI k + (4 : Int32) = nI (k + 4) from nI_add k 4]
    exact cy (Int32.le_refl _) rfl
  all_goals
    unfold byN
    rw [pk_tn (by omega)]
  · show _ / 16777216 % 256 = _
    omega
  · show _ / 65536 % 256 = _
    omega
  · show _ / 256 % 256 = _
    omega
  · show _ / 1 % 256 = _
    omega
def agL (bs : List Nat) (j : Nat) (q : (Nat → Nat) × Nat) : Prop := q.2 = min j bs.length ∧ ∀ i, i < q.2 → q.1 i = tbL bs i
theorem ag_1 {j : Nat} {q : (Nat → Nat) × Nat} (hb : BY bs) (h : agL bs j q) : agL bs (j + 1) (ap1 q (tbL bs j)) := by
  obtain ⟨h1, h2⟩ := h
  unfold ap1
  by_cases c : j < bs.length
  · have := tb_in hb c
    rw [if_neg (by omega)]
    refine ⟨by show q.2 + 1 = _; omega, fun i hi => ?_⟩
    have hi' : i < q.2 + 1 := hi
    show (if i = q.2 then tbL bs j else q.1 i) = _
    by_cases e : i = q.2
    · rw [if_pos e, e, h1, Nat.min_eq_left (by omega)]
    · rw [if_neg e]; exact h2 i (by omega)
  · rw [if_pos (tb_out (by omega))]
    exact ⟨by rw [h1]; omega, h2⟩
theorem ag_4 {j : Nat} {q : (Nat → Nat) × Nat} {w : Int32} (hb : BY bs) (h : agL bs j q) (h1 : byN w 24 = tbL bs j) (h2 : byN w 16 = tbL bs (j + 1)) (h3 : byN w 8 = tbL bs (j + 2)) (h4 : byN w 0 = tbL bs (j + 3)) : agL bs (j + 4) (apW q w) := by
  unfold apW
  rw [h1, h2, h3, h4]
  exact ag_1 hb (ag_1 hb (ag_1 hb (ag_1 hb h)))
theorem an_append {q0 : (Nat → Nat) × Nat} {a b c d e : Int32} (h : TCl M q0.1 q0.2) (h8 : (apW (apW (apW (apW (apW q0 a) b) c) d) e).2 ≤ 800) : ∃ M', fX9_append M a b c d e = some (nI (apW (apW (apW (apW (apW q0 a) b) c) d) e).2, M') ∧ TCl M' (apW (apW (apW (apW (apW q0 a) b) c) d) e).1 (apW (apW (apW (apW (apW q0 a) b) c) d) e).2 ∧ Fr sTx M M' := by
  have ca := cnW_le a; have cb := cnW_le b; have cc := cnW_le c; have cd := cnW_le d; have ce := cnW_le e
  have n1 := apW_n q0 a
  have n2 := apW_n (apW q0 a) b
  have n3 := apW_n (apW (apW q0 a) b) c
  have n4 := apW_n (apW (apW (apW q0 a) b) c) d
  have n5 := apW_n (apW (apW (apW (apW q0 a) b) c) d) e
  obtain ⟨M1, a1, a2, a3⟩ := cl_putW (q := q0) (x := a) h (by omega)
  obtain ⟨M2, b1, b2, b3⟩ := cl_putW (x := b) a2 (by omega)
  obtain ⟨M3, c1, c2, c3⟩ := cl_putW (x := c) b2 (by omega)
  obtain ⟨M4, d1, d2, d3⟩ := cl_putW (x := d) c2 (by omega)
  obtain ⟨M5, e1, e2, e3⟩ := cl_putW (x := e) d2 h8
  refine ⟨M5, ?_, e2, fr_tr a3 (fr_tr b3 (fr_tr c3 (fr_tr d3 e3)))⟩
  rw [fX9_append]
  refine bd (cl_bytesIn M a) (bd (cl_bytesIn M b) (bd (cl_bytesIn M c) (bd (cl_bytesIn M d) (bd (cl_bytesIn M e) (cy ?_ (bd a1 (bd b1 (bd c1 (bd d1 (bd e1 ?_))))))))))
  · rw [h.1, nI_add, nI_add, nI_add, nI_add, nI_add]
    exact nI_le (b := 800) (by omega) (by decide)
  · rw [e2.1]
theorem feeds_L {K : Int32 → Int32 → Mm → Option (Int32 × Mm)} (hb : BY bs) (hn : bs.length ≤ 800) : ∀ (d j f : Nat) (M : Mm) (q : (Nat → Nat) × Nat), bs.length ≤ j + 20 * d → j ≤ 900 → d < f → SX M z (bs.map nI) → TCl M q.1 q.2 → agL bs j q →
    ∃ M' j', fL_feeds_L4 z K f (nI (min j bs.length)) (nI j) M = K (nI bs.length) (nI j') M' ∧ TCl M' (tbL bs) bs.length ∧ SX M' z (bs.map nI) ∧ Fr sTx M M' := by
  intro d
  have hend : ∀ (j f : Nat) (M : Mm) (q : (Nat → Nat) × Nat), bs.length ≤ j → j ≤ 920 → SX M z (bs.map nI) → TCl M q.1 q.2 → agL bs j q → ∃ M' j', fL_feeds_L4 z K (f + 1) (nI (min j bs.length)) (nI j) M = K (nI bs.length) (nI j') M' ∧ TCl M' (tbL bs) bs.length ∧ SX M' z (bs.map nI) ∧ Fr sTx M M' := by
    intro j f M q h1 h2 hs ht ha
    have hlen := slM_ok hs
    rw [List.length_map] at hlen
    have e2 : q.2 = bs.length := by rw [ha.1, Nat.min_eq_right h1]
    refine ⟨M, j, ?_, ⟨by rw [← e2]; exact ht.1, fun k hk => ?_⟩, hs, fr_rf⟩
    · rw [fL_feeds_L4, Nat.min_eq_right h1]
      exact bd hlen (cy (nI_le h1 (by omega)) rfl)
    · rw [ht.2 k (by omega), ha.2 k (by omega)]
  induction d with
  | zero =>
    intro j f M q hj hj9 hf hs ht ha
    obtain ⟨f, rfl⟩ : ∃ x, f = x + 1 := ⟨f - 1, by omega⟩
    exact hend j f M q (by omega) (by omega) hs ht ha
  | succ d ih =>
    intro j f M q hj hj9 hf hs ht ha
    obtain ⟨f, rfl⟩ : ∃ x, f = x + 1 := ⟨f - 1, by omega⟩
    by_cases c : bs.length ≤ j
    · exact hend j f M q c (by omega) hs ht ha
    · have hlen := slM_ok hs
      rw [List.length_map] at hlen
      obtain ⟨w1, x1, x2, x3, x4, x5⟩ := four_ok (k := j) hs hb (by omega)
      obtain ⟨w2, y1, y2, y3, y4, y5⟩ := four_ok (k := j + 4) hs hb (by omega)
      obtain ⟨w3, z1, z2, z3, z4, z5⟩ := four_ok (k := j + 8) hs hb (by omega)
      obtain ⟨w4, u1, u2, u3, u4, u5⟩ := four_ok (k := j + 12) hs hb (by omega)
      obtain ⟨w5, v1, v2, v3, v4, v5⟩ := four_ok (k := j + 16) hs hb (by omega)
      have ag := ag_4 hb (ag_4 hb (ag_4 hb (ag_4 hb (ag_4 hb ha x2 x3 x4 x5) y2 y3 y4 y5) z2 z3 z4 z5) u2 u3 u4 u5) v2 v3 v4 v5
      have ag' : agL bs (j + 20) (apW (apW (apW (apW (apW q w1) w2) w3) w4) w5) := ag
      obtain ⟨M1, a1, a2, a3⟩ := an_append (a := w1) (b := w2) (c := w3) (d := w4) (e := w5) ht (by rw [ag'.1]; omega)
      have hs1 := sx_eq (a3 (28, z, 0) rfl).1 (a3 (29, z, 0) rfl).1 hs
      have fin : ∃ M' j', fL_feeds_L4 z K f (nI (min (j + 20) bs.length)) (nI (j + 20)) M1 = K (nI bs.length) (nI j') M' ∧ TCl M' (tbL bs) bs.length ∧ SX M' z (bs.map nI) ∧ Fr sTx M1 M' := by
        by_cases c2 : bs.length ≤ j + 20
        · obtain ⟨f, rfl⟩ : ∃ x, f = x + 1 := ⟨f - 1, by omega⟩
          exact hend (j + 20) f M1 _ c2 (by omega) hs1 a2 ag'
        · exact ih (j + 20) f M1 _ (by omega) (by omega) (by omega) hs1 a2 ag'
      obtain ⟨M', j', b1, b2, b3, b4⟩ := fin
      refine ⟨M', j', ?_, b2, b3, fr_tr a3 b4⟩
      rw [fL_feeds_L4]
      rw [show nI j + (4 : Int32) = nI (j + 4) from nI_add j 4, show nI j + (8 : Int32) = nI (j + 8) from nI_add j 8, show nI j + (12 : Int32) = nI (j + 12) from nI_add j 12, show nI j + (16 : Int32) = nI (j + 16) from nI_add j 16]
      refine bd hlen (cn (nI_ge (by omega) (by omega)) (bd x1 (bd y1 (bd z1 (bd u1 (bd v1 (bd a1 ?_)))))))
      show fL_feeds_L4 z K f (nI _) (nI j + (20 : Int32)) M1 = _
      rw [ag'.1, show nI j + (20 : Int32) = nI (j + 20) from nI_add j 20]
      exact b1
theorem feeds_ok (hb : BY bs) (hn : bs.length ≤ 800) (hs : SX M z (bs.map nI)) (h0 : M.1 (1, 0, 0) 1 = 0) : ∃ M', fL_feeds M z = some (1, M') ∧ TCl M' (tbL bs) bs.length ∧ Fr sTx M M' := by
  obtain ⟨M', j', a1, a2, a3, a4⟩ := feeds_L (z := z) (K := fun w16 w17 M18 => (fJ0_length_8abf5M M18 z).bind fun q19 => if w16 = q19 then some ((1 : Int32), M18) else some ((0 : Int32), M18)) hb hn 40 0 NF M (fun _ => 0, 0) (by omega) (by omega) (by unfold NF; omega) hs ⟨h0, fun k hk => absurd hk (Nat.not_lt_zero _)⟩ ⟨(Nat.zero_min _).symm, fun i hi => absurd hi (Nat.not_lt_zero _)⟩
  have hlen := slM_ok a3
  rw [List.length_map] at hlen
  refine ⟨M', ?_, a2, a4⟩
  unfold fL_feeds
  rw [Nat.zero_min] at a1
  exact a1.trans (bd hlen (cy rfl rfl))
end FEE
/-- the class loads the drawn text -/
def sTS (r : Rf) : Bool := ((sTk r || sS1 r) || r == (1, 0, 0)) || ((sBx 0 r || r == (14, 0, 0)) || r == (17, 0, 0))
theorem an_load {M : Mm} {S U A : Nat} {q : Tr} {ts ps : List Tr} (hS : 4 ≤ S ∧ S ≤ 64) (hU : U ≤ 20) (hA : A ≤ 90) (hq : ∀ x ∈ q :: ts, tOK x) (hl : ts.length < 12) (hp : pOK S (ts.length + 1) (fun _ _ _ => false) ps) (hpl : ps.length < 800) (hv : TV (tbL (suT S U A (q :: ts) ps)) (suT S U A (q :: ts) ps).length) (ht : TCl M (tbL (suT S U A (q :: ts) ps)) (suT S U A (q :: ts) ps).length) :
    ∃ M', fX9_load M = some (0, M') ∧ fX9_errorPosition M' = -1 ∧ BX M' (ts.length + 1) 0 (gTs (gB S U A) 0 (q :: ts)) (pTs (fun _ _ _ => false) ps) ∧ Jv (gTs (gB S U A) 0 (q :: ts)) (pTs (fun _ _ _ => false) ps) S (ts.length + 1) U A ∧ M'.1 (14, 0, 0) 1 = 0 ∧ M'.1 (14, 0, 0) 2 = M.1 (14, 0, 0) 2 ∧ Fr sTS M M' := by
  obtain ⟨A1, s1, s2, s3, s4, s5, s6⟩ := rd_setup hS hU hA hq hl hp hpl hv ht
  have f2 : Fr sTS M (putI A1 (1, 0, 0) 1 0) := fr_pI (fr_mono (fun r hr => by unfold sTS; rw [hr]; rfl) s6) rfl
  obtain ⟨M3, c1, c2, c3⟩ := cl_copy (M := putI A1 (1, 0, 0) 1 0) (i := 0) (j := 1) (by decide) (show ts.length + 1 ≤ 12 by omega) (bx_fr (S := fun r => r == (1, 0, 0)) (fun r hr => bx_dis hr rfl) (fr_putI (by simp)) s4)
  have r14 : M3.1 (14, 0, 0) 2 = M.1 (14, 0, 0) 2 := by
    rw [(c3 (14, 0, 0) rfl).1, putI_ne (by decide), (s6 (14, 0, 0) rfl).1]
  have r3 : M3.1 (3, 0, 0) = A1.1 (3, 0, 0) := by rw [(c3 (3, 0, 0) rfl).1, putI_ne (by decide)]
  refine ⟨putI (putI (putI M3 (14, 0, 0) 1 0) (17, 0, 0) 0 0) (17, 0, 0) 1 0, ?_, ?_, ?_, s5, ?_, ?_, ?_⟩
  · rw [fX9_load, fX9_takeSetup]
    refine bd (a := putI (putI (putI M3 (14, 0, 0) 1 0) (17, 0, 0) 0 0) (17, 0, 0) 1 0) (bd s1 (cn one_n0 (bd c1 ?_))) ?_
    · rw [show NF = 4997 + 1 + 1 + 1 from rfl, fX9_takeSetup_L41, if_neg (by decide), if_neg (by decide), fX9_takeSetup_L41, if_neg (by decide), if_neg (by decide), fX9_takeSetup_L41, if_pos (by decide)]
      rfl
    · rw [putI_ne (by decide), putI_ne (by decide), putI_ne (by decide), r3, s2]
  · rw [fX9_errorPosition, putI_ne (by decide), putI_ne (by decide), putI_ne (by decide), r3, s3]
  · exact bx_fr (S := fun r => r == (14, 0, 0) || r == (17, 0, 0)) (fun r hr => or_f (bx_dis hr rfl) (bx_dis hr rfl)) (fr_pI (fr_pI (fr_putI (by simp)) (by simp)) (by simp)) c2
  · rw [putI_ne (by decide), putI_ne (by decide), g_row, upd_s]
  · rw [putI_ne (by decide), putI_ne (by decide), g_row, upd_o (by decide)]; exact r14
  · exact fr_pI (fr_pI (fr_pI (fr_tr f2 (fr_mono (fun r hr => by unfold sTS; rw [hr]; simp) c3)) rfl) rfl) rfl
