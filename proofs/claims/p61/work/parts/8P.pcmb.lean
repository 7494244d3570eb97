/-! acts upon the comb -/
def sOw (k : Nat) (r : Rf) : Bool := (Nat.ble 18 r.1 && Nat.ble r.1 20) && (r.2.1 == k || r.2.1 == 50)
def sO5 (r : Rf) : Bool := (Nat.ble 18 r.1 && Nat.ble r.1 20) && r.2.1 == 50
def sAc (k : Nat) (r : Rf) : Bool := sCh r || sOw k r
theorem dOw (k i : Nat) (r : Rf) (hr : sBx i r = true) : sOw k r = false := by
  obtain ⟨a, b, c⟩ := r
  simp only [sBx, Bool.and_eq_true, Bool.or_eq_true, beq_iff_eq] at hr
  rcases hr.1 with ((rfl | rfl) | rfl) | rfl <;> rfl
theorem dO5 (i : Nat) (r : Rf) (hr : sBx i r = true) : sO5 r = false := by
  obtain ⟨a, b, c⟩ := r
  simp only [sBx, Bool.and_eq_true, Bool.or_eq_true, beq_iff_eq] at hr
  rcases hr.1 with ((rfl | rfl) | rfl) | rfl <;> rfl
theorem sOw_k {k a c : Nat} (h : (Nat.ble 18 a && Nat.ble a 20) = true) : sOw k (a, k, c) = true := by
  show ((Nat.ble 18 a && Nat.ble a 20) && (k == k || k == 50)) = true
  rw [h, beq_self_eq_true]
  rfl
/-- what holds of a box of the law's at all times -/
def GOOD (S T e : Nat) (q : GF × PF) : Prop := (∃ U A m p, Iv q.1 q.2 S T U A m p) ∧ uwS q.1 T = 0 ∧ ∃ e', e' ≤ e ∧ q.1 8 = nI e'
def ACT (M : Mm) (k T S e n c : Nat) (b : Nat → GF × PF) (o : Option (Int32 × Mm)) : Prop := ∃ r M', o = some (r, M') ∧ ((r = -1 ∧ Fr sO5 M M') ∨ (r = 1 ∧ Fr (sAc k) M M' ∧ ∃ g' P', OX M' k T g' P' ∧ BX M' T 0 g' P' ∧ HS M' T (min 8 (n + 1)) (c + 1) b ∧ GOOD S T e (g', P')))
section CMB
variable {M : Mm} {k S T U A m0 p0 n c e : Nat} {g : GF} {P : PF} {b : Nat → GF × PF}
theorem act_no : ACT M k T S e n c b (some (-1, M)) := ⟨-1, M, rfl, Or.inl ⟨rfl, fr_rf⟩⟩
theorem act_go {M1 : Mm} {o o2 : Option (Int32 × Mm)} {r : Int32} {g' : GF} {P' : PF} (f1 : Fr (sOw k) M M1) (hO : OX M1 k T g' P') (hC : CH M1 T n c b o r g' P') (hG : GOOD S T e (g', P')) (hk : ∀ M2, o = some (r, M2) → OX M2 k T g' P' → o2 = some (1, M2)) : ACT M k T S e n c b o2 := by
  obtain ⟨M2, a1, a2, a3, a4⟩ := hC
  have O2 := ox_fr (dCo k) a4 hO
  exact ⟨1, M2, hk M2 a1 O2, Or.inr ⟨rfl, fr_tr (fr_mono (fun r hr => by unfold sAc; rw [hr, Bool.or_true]) f1) (fr_mono (fun r hr => by unfold sAc; rw [hr]; rfl) a4), g', P', O2, a2, a3, hG⟩⟩
theorem hs_Ow {M1 : Mm} (f1 : Fr (sOw k) M M1) (h : HS M T n c b) : HS M1 T n c b := hs_fr rfl (fun i _ _ => dOw k i) f1 h
theorem bnt_c {y : Int32} (h3 : -3 ≤ y) (h4 : y ≤ 3) : ∃ b, b < 7 ∧ y = nI b - 3 := by
  have k1 := Int32.le_iff_toInt_le.mp h3
  have k2 := Int32.le_iff_toInt_le.mp h4
  rw [show (-3 : Int32).toInt = -3 by decide] at k1
  rw [show (3 : Int32).toInt = 3 by decide] at k2
  refine ⟨(y.toInt + 3).toNat, by omega, ?_⟩
  apply Int32.toInt_inj.mp
  rw [Int32.toInt_sub, nI_toInt (by omega), show (3 : Int32).toInt = 3 by decide, Int.bmod_eq_of_le (by omega) (by omega)]
  omega
theorem bend_f1 : ∀ bb, bb < 7 → ∀ a, a < 4 → (abI (nI bb - 3 + nI a) ≤ 3 → -3 ≤ nI bb - 3 + nI a ∧ nI bb - 3 + nI a ≤ 3) := by decide +kernel
theorem bend_f2 : ∀ bb, bb < 7 → ∀ a, a < 4 → (abI (nI bb - 3 + -nI a) ≤ 3 → -3 ≤ nI bb - 3 + -nI a ∧ nI bb - 3 + -nI a ≤ 3) := by decide +kernel
theorem bend_f3 : ∀ a, a < 4 → 1 ≤ a → nI a ≠ 0 ∧ -nI a ≠ 0 ∧ (-3 ≤ nI a ∧ nI a ≤ 3) ∧ -3 ≤ -nI a ∧ -nI a ≤ 3 := by decide +kernel
theorem bad_b {M5 : Mm} {t : Nat} (O5 : OX M5 k T g P) (hT : T ≤ 12) (ht : t < T) : fX10_isBad M5 k (nI t) = some (bI (brS g t)) := by
  rw [bad_ok O5 hT ht, brS]
  by_cases c : g (16 + 6 * t + 4) < g (16 + 6 * t + 3)
  · rw [if_pos c, decide_eq_true c]; rfl
  · rw [if_neg c, decide_eq_false c]; rfl
/-- a bend, as the law does it -/
theorem cb_bend {t : Nat} {x : Int32} (HB : BX M T 0 g P) (HO : OX M k T g P) (HI : Iv g P S T U A m0 p0) (HH : HS M T n c b) (e1 : (b c).1 = g) (e2 : (b c).2 = P) (hu : uwS g T = 0) (he : ∃ e', e' ≤ e ∧ g 8 = nI e') (ht : t < T) (hx0 : x ≠ 0) (hx : -3 ≤ x ∧ x ≤ 3) (hax : abI (g (16 + 6 * t + 1) + x) ≤ 3 → -3 ≤ g (16 + 6 * t + 1) + x ∧ g (16 + 6 * t + 1) + x ≤ 3) :
    ACT M k T S e n c b ((fX10_isBad M k (nI t)).bind fun q24 => if q24 = 0 then (if nI t < 0 ∨ 12 ≤ t then none else if (fJ9_abs_0f7a4 M ((M.1 (19, k, 1) t) + x)) ≤ (3 : Int32) then (if nI t < 0 ∨ 12 ≤ t then none else if nI t < 0 ∨ 12 ≤ t then none else if nI t < 0 ∨ 12 ≤ t then none else if nI t < 0 ∨ 12 ≤ t then none else (fX9_bend (putI (putI (putI M (19, k, 1) t ((M.1 (19, k, 1) t) + x)) (19, k, 4) t (((putI M (19, k, 1) t ((M.1 (19, k, 1) t) + x)).1 (19, k, 4) t) + (3 : Int32))) (18, k, 0) 9 ((M.1 (18, k, 0) 9) + (1 : Int32))) (nI t) x).bind fun q33 => if nI t < 0 ∨ 12 ≤ t then none else if q33.1 = (q33.2.1 (19, k, 1) t) then some ((1 : Int32), q33.2) else some ((0 : Int32), q33.2)) else some ((-1 : Int32), M)) else some ((-1 : Int32), M)) := by
  have hT := HI.hT
  have hgt : ¬ (nI t < 0 ∨ 12 ≤ t) := fun c => by rcases c with c | c; exact nI_pos (by omega) c; omega
  have r1 : M.1 (19, k, 1) t = g (16 + 6 * t + 1) := HO.2.1 t ht 1 (by decide)
  have r4 : M.1 (19, k, 4) t = g (16 + 6 * t + 4) := HO.2.1 t ht 4 (by decide)
  have r9 : M.1 (18, k, 0) 9 = g 9 := HO.1 9 (by decide)
  rw [bad_b HO hT.2 ht, Option.bind_some, putI_ne (show ((19, k, 4) : Rf) ≠ (19, k, 1) by simp), r1, r4, r9]
  cases hb : brS g t with
  | true => exact act_no
  | false =>
    rw [if_pos (show bI false = 0 from rfl), if_neg hgt]
    by_cases ha : fJ9_abs_0f7a4 M (g (16 + 6 * t + 1) + x) ≤ 3
    · have hy := hax ha
      rw [if_pos ha]
      have O1 : OX (putI (putI (putI M (19, k, 1) t (g (16 + 6 * t + 1) + x)) (19, k, 4) t (g (16 + 6 * t + 4) + 3)) (18, k, 0) 9 (g 9 + 1)) k T (bnS g t x) P := ox_18 (ox_19 (ox_19 HO (by decide)) (by decide)) (by decide) (by decide)
      have f1 : Fr (sOw k) M (putI (putI (putI M (19, k, 1) t (g (16 + 6 * t + 1) + x)) (19, k, 4) t (g (16 + 6 * t + 4) + 3)) (18, k, 0) 9 (g 9 + 1)) := fr_pI (fr_pI (fr_putI (sOw_k rfl)) (sOw_k rfl)) (sOw_k rfl)
      have HI' := iv_bn (t := t) (x := x) HI hy
      refine act_go f1 O1 (ch_bend (bx_fr (dOw k 0) f1 HB) HI (hs_Ow f1 HH) e1 e2 ht hx0 hx hb hy) ⟨⟨U, A, m0, p0, HI'⟩, uw_bn ht hu, ?_⟩ (fun M2 h2 O2 => cn hgt (cn hgt (cn hgt (cn hgt (bd h2 (cn hgt (cy ?_ rfl)))))))
      · obtain ⟨e', h1, h2⟩ := he
        refine ⟨e', h1, ?_⟩
        show bnS g t x 8 = _
        unfold bnS
        rw [upd_o (by decide), upd_o (by omega), upd_o (by omega)]
        exact h2
      · show g (16 + 6 * t + 1) + x = M2.1 (19, k, 1) t
        rw [O2.2.1 t ht 1 (by decide)]
        unfold bnS
        rw [upd_o (by omega), upd_o (by omega), upd_s]
    · rw [if_neg ha]
      exact act_no
theorem combs_ok {kd t v : Nat} (HB : BX M T 0 g P) (HO : OX M k T g P) (HI : Iv g P S T U A m0 p0) (HH : HS M T n c b) (e1 : (b c).1 = g) (e2 : (b c).2 = P) (hu : uwS g T = 0) (he : ∃ e', e' ≤ e ∧ g 8 = nI e') (heb : e < 100000) (h9 : 9 ≤ kd) (h12 : kd < 13) (ht : t < T) (hv : v < 10000) : ACT M k T S e n c b (fL_combs M k (nI kd) (nI t) (nI v)) := by
  have hT := HI.hT
  have clt := nI_clamp (n := t) (by omega)
  have hgt : ¬ (nI t < 0 ∨ 12 ≤ t) := fun c => by rcases c with c | c; exact nI_pos (by omega) c; omega
  have m9 : nI v - nI v / 9 * 9 = nI (v % 9) := pk_rem (d := 9) (by omega) (by decide) (by decide)
  have m3 : nI v - nI v / 3 * 3 = nI (v % 3) := pk_rem (d := 3) (by omega) (by decide) (by decide)
  have m2 : nI v - nI v / 2 * 2 = nI (v % 2) := pk_rem (d := 2) (by omega) (by decide) (by decide)
  have a9 : (1 : Int32) + nI (v % 9) = nI (1 + v % 9) := nI_add 1 _
  have a3 : nI (v % 3) + (1 : Int32) = nI (v % 3 + 1) := nI_add _ 1
  have he' := he
  obtain ⟨e', hle, he8⟩ := he'
  unfold fL_combs
  rw [m9, m3, m2, a9, a3, clt]
  by_cases k9 : kd = 9
  · rw [if_pos (show nI kd = (9 : Int32) by rw [k9]; rfl), if_neg hgt, if_neg hgt]
    have O1 : OX (putI M (19, k, 2) t (nI (1 + v % 9))) k T (upd g (16 + 6 * t + 2) (nI (1 + v % 9))) P := ox_19 HO (by decide)
    have f1 : Fr (sOw k) M (putI M (19, k, 2) t (nI (1 + v % 9))) := fr_putI (sOw_k rfl)
    refine act_go f1 O1 (ch_gap (bx_fr (dOw k 0) f1 HB) HI (hs_Ow f1 HH) e1 e2 ht (by omega) (by omega)) ⟨⟨U, A, m0, p0, iv_t HI (by decide)⟩, uw_t (by decide) hu, e', hle, ?_⟩ (fun M2 h2 O2 => bd h2 (cy ?_ rfl))
    · exact (upd_o (by omega)).trans he8
    · exact (HO.2.1 t ht 2 (by decide)).symm
  · rw [if_neg (show ¬ nI kd = (9 : Int32) from fun c => k9 (nIinj (b := 9) (by omega) (by decide) c))]
    by_cases k12 : kd = 12
    · rw [if_pos (show (12 : Int32) ≤ nI kd by rw [k12]; decide), if_neg hgt, if_neg hgt, if_neg hgt, if_neg hgt]
      have r4 : M.1 (19, k, 4) t = g (16 + 6 * t + 4) := HO.2.1 t ht 4 (by decide)
      have r10 : M.1 (18, k, 0) 10 = g 10 := HO.1 10 (by decide)
      rw [r4, r10]
      have n4 : (putI (putI (putI M (18, k, 0) 10 (g 10 + g (16 + 6 * t + 4))) (19, k, 4) t 0) (19, k, 1) t 0).1 (18, k, 0) 8 = g 8 := by
        rw [putI_ne (by simp), putI_ne (by simp), g_row, upd_o (by decide)]
        exact HO.1 8 (by decide)
      have O0 := ox_si (t := t) (ox_19 (t := t) (q := 1) (v := 0) (ox_19 (t := t) (q := 4) (v := 0) (ox_18 (j := 10) (v := g 10 + g (16 + 6 * t + 4)) HO (by decide) (by decide)) (by decide)) (by decide)) (by rw [n4, he8]; exact nI_pos' (by omega))
      have O1 : OX _ k T (mdS g t) P := ox_g (fun j hj => by
        unfold mdS
        by_cases j5 : j = 16 + 6 * t + 5
        · subst j5; rw [upd_s, upd_s]
        · rw [upd_o j5, upd_o j5]
          by_cases j4 : j = 16 + 6 * t + 4
          · subst j4; rw [upd_o (by omega), upd_s, upd_s]
          · by_cases j1 : j = 16 + 6 * t + 1
            · subst j1; rw [upd_s, upd_o (by omega), upd_s]
            · rw [upd_o j1, upd_o j4, upd_o j4, upd_o j1]) O0
      have f1 : Fr (sOw k) M (putI (putI (putI (putI M (18, k, 0) 10 (g 10 + g (16 + 6 * t + 4))) (19, k, 4) t 0) (19, k, 1) t 0) (19, k, 5) t (-99)) := fr_pI (fr_pI (fr_pI (fr_putI (sOw_k rfl)) (sOw_k rfl)) (sOw_k rfl)) (sOw_k rfl)
      refine act_go f1 O1 (ch_mend (bx_fr (dOw k 0) f1 HB) HI (hs_Ow f1 HH) e1 e2 ht) ⟨⟨U, A, m0, p0, iv_md HI⟩, uw_md ht hu, e', hle, ?_⟩ (fun M2 h2 O2 => bd h2 (cy rfl rfl))
      show mdS g t 8 = _
      unfold mdS
      rw [upd_o (by omega), upd_o (by omega), upd_o (by omega), upd_o (by decide)]
      exact he8
    · rw [if_neg (show ¬ (12 : Int32) ≤ nI kd from nI_ge (b := 12) (by omega) (by decide))]
      obtain ⟨bb, hbb, eb⟩ := bnt_c (HI.hq t ht).2.1 (HI.hq t ht).2.2
      have f1 := bend_f1 bb hbb (v % 3 + 1) (by omega)
      have f2 := bend_f2 bb hbb (v % 3 + 1) (by omega)
      obtain ⟨f3, f4, f5, f6⟩ := bend_f3 (v % 3 + 1) (by omega) (by omega)
      rw [← eb] at f1 f2
      by_cases c2 : nI (v % 2) = 0
      · rw [if_pos c2]
        exact cb_bend HB HO HI HH e1 e2 hu he ht f3 f5 f1
      · rw [if_neg c2]
        exact cb_bend HB HO HI HH e1 e2 hu he ht f4 f6 f2
end CMB
