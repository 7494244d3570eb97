/-! acts upon the roll, whole -/
theorem up8 {g : GF} {k e' : Nat} {v : Int32} (hk : k ≠ 8) (h : g 8 = nI e') : upd g k v 8 = nI e' := (upd_o (Ne.symm hk)).trans h
section RO2
variable {M : Mm} {k S T U A m0 p0 n c e : Nat} {g : GF} {P : PF} {b : Nat → GF × PF}
theorem act_bd {α : Type} {o : Option α} {a : α} {f : α → Option (Int32 × Mm)} (h : o = some a) (k2 : ACT M k T S e n c b (f a)) : ACT M k T S e n c b (o.bind f) := by rw [h]; exact k2
theorem act_eq {o o' : Option (Int32 × Mm)} (h : o = o') (k2 : ACT M k T S e n c b o') : ACT M k T S e n c b o := by rw [h]; exact k2
theorem act_pre {M1 : Mm} {o : Option (Int32 × Mm)} (f : Fr sO5 M M1) (h : ACT M1 k T S e n c b o) : ACT M k T S e n c b o := by
  obtain ⟨r, M', h1, h2⟩ := h
  refine ⟨r, M', h1, ?_⟩
  rcases h2 with ⟨h2, h3⟩ | ⟨h2, h3, h4⟩
  · exact Or.inl ⟨h2, fr_tr f h3⟩
  · refine Or.inr ⟨h2, fr_tr (fr_mono (fun r hr => ?_) f) h3, h4⟩
    unfold sAc sOw
    unfold sO5 at hr
    rw [Bool.and_eq_true] at hr
    rw [hr.1, hr.2]
    simp
theorem hs_O5 {M1 : Mm} (f1 : Fr sO5 M M1) (h : HS M T n c b) : HS M1 T n c b := hs_fr rfl (fun i _ _ => dO5 i) f1 h
theorem o5_k (hk : k < 50) {M1 : Mm} (f1 : Fr sO5 M M1) (h : OX M k T g P) : OX M1 k T g P := ox_fr (fun x hx => by
  have := (owR_i hx).1
  cases e : sO5 x with
  | false => rfl
  | true =>
    unfold sO5 at e
    rw [Bool.and_eq_true, beq_iff_eq] at e
    omega) f1 h
theorem off_O5 {M1 : Mm} (h : Off (owR 50) M M1) : Fr sO5 M M1 := fr_off (fun x hx => by
  obtain ⟨h1, h2, h3⟩ := owR_i hx
  unfold sO5
  rw [Bool.and_eq_true, Bool.and_eq_true, Nat.ble_eq, Nat.ble_eq, beq_iff_eq]
  exact ⟨⟨h2, h3⟩, h1⟩) h
theorem tr_7 : ∀ r, r < 7 → (3 < r → nI r - 3 = nI (r - 3)) ∧ (r ≤ 3 → nI r - 3 = -nI (3 - r)) := by decide +kernel
theorem tr_i {x : Int32} (h : (∃ k, k < 4 ∧ x = nI k) ∨ ∃ k, k < 4 ∧ x = -nI k) : -11 ≤ x ∧ x ≤ 11 := by
  rcases h with ⟨k, h, rfl⟩ | ⟨k, h, rfl⟩
  · exact (by decide +kernel : ∀ k, k < 4 → -11 ≤ nI k ∧ nI k ≤ 11) k h
  · exact (by decide +kernel : ∀ k, k < 4 → -11 ≤ -nI k ∧ -nI k ≤ 11) k h
/-- the law's transposing, once where the pins come to is known -/
theorem rl_move {m : Nat} {x : Int32} {Q : Nat → Nat → Bool} (hk : k < 50) (HB : BX M T 0 g P) (HO : OX M k T g P) (H5 : OX M 50 T g P) (HI : Iv g P S T U A m0 p0) (HH : HS M T n c b) (e1 : (b c).1 = g) (e2 : (b c).2 = P) (hu : uwS g T = 0) (he : ∃ e', e' ≤ e ∧ g 8 = nI e') (hm : m < 3)
    (hx : -11 ≤ x ∧ x ≤ 11) (hok : ∀ t' s', 0 ≤ t' → P m t' s' = true → okM T x t') (hQ : ∀ t s, Q t s = true → t < T ∧ s < S) (hs : ∀ t, t < T → SRC P T m x Q t) (hf : ∀ t, t < T → okM T x t → fX0_toothFault M 0 (nI t + x) = 0) (hc : ∀ M1, BX M1 T 0 g P → ∃ W, fX3_movePins M1 0 (nI m) x = some W ∧ BX W T 0 g (pTune P m Q) ∧ Fr (sBx 0) M1 W) :
    ACT M k T S e n c b (fL_rolls_L226 k (nI m) x (fun w29 M30 => fL_rolls_L297 k (nI m) x (fun w44 M45 => (fX9_transpose M45 (nI m) x).bind fun q46 => (fX10_pinsOf q46.2 k (nI m)).bind fun q48 => if q46.1 = q48 then some ((1 : Int32), q46.2) else some ((0 : Int32), q46.2)) NF (0 : Int32) M30) NF (0 : Int32) M) := by
  have hS := HI.hS
  have hT := HI.hT
  obtain ⟨M1, a1, a2, a3⟩ := rl_297 (x := x) (Q := Q) hk HI hm hQ hs T 0 NF M (by omega) (by unfold NF; omega) (ox_P (fun m' t' u _ _ _ => by
    unfold pTune mvQ
    by_cases e : m' = m
    · rw [if_pos e, if_neg (fun y => by rcases y with y | y; exact Nat.not_lt_zero _ y; exact Nat.not_lt_zero _ y.2), e]
    · rw [if_neg e]) HO) H5
  refine act_eq ((rl_226 (x := x) HI HO H5 hm T 0 NF (by omega) (by unfold NF; omega)).1 hok) (act_eq (a1 _) ?_)
  have HI' := iv_tune (Q := Q) HI hm hQ
  have f1 := fr_Pk a3
  refine act_go f1 a2 (ch_move (x := x) (Q := Q) (bx_fr (dOw k 0) f1 HB) HI (hs_Ow f1 HH) e1 e2 hm hx hQ (fun t ht hp => ?_) hc) ⟨⟨U, A, m0, p0, HI'⟩, hu, he⟩ (fun M2 h2 O2 => bd h2 (bd (pinsOf_ok (U := U) (A := A) (m0 := m0) (p0 := p0) O2 HI'.hP hS.2 hT.2 hm) (cy rfl rfl)))
  obtain ⟨s, _, hp⟩ := hp
  have h1 := hf t ht (hok t s (Nat.zero_le _) hp)
  rw [show fX0_toothFault M1 0 (nI t + x) = fX0_toothFault M 0 (nI t + x) by
    unfold fX0_toothFault
    rw [(f1 (9, 0, 0) rfl).1]]
  exact h1
set_option maxHeartbeats 1000000 in
theorem rolls_ok {kd m v : Nat} (hk : k < 50) (HB : BX M T 0 g P) (HO : OX M k T g P) (HI : Iv g P S T U A m0 p0) (HH : HS M T n c b) (e1 : (b c).1 = g) (e2 : (b c).2 = P) (hu : uwS g T = 0) (he : ∃ e', e' ≤ e ∧ g 8 = nI e') (hkd : kd < 9) (hm : m < 3) (hv : v < 10000) : ACT M k T S e n c b (fL_rolls M k (nI kd) (nI m) (nI v)) := by
  have hS := HI.hS
  have hT := HI.hT
  unfold fL_rolls
  by_cases k5 : kd < 5
  · rw [if_neg (show ¬ (5 : Int32) ≤ nI kd from nI_ge (b := 5) k5 (by decide))]
    have r3 : M.1 (18, k, 0) 3 = nI T := (HO.1 3 (by decide)).trans HI.2.2.2.1
    have r0 : M.1 (18, k, 0) 0 = nI S := (HO.1 0 (by decide)).trans HI.1
    have mT : nI v - nI v / nI T * nI T = nI (v % T) := pk_rem (by omega) (by omega) (by omega)
    have m12 : nI v / (12 : Int32) = nI (v / 12) := pk_div (d := 12) (by omega) (by decide) (by decide)
    have mS : nI (v / 12) - nI (v / 12) / nI S * nI S = nI (v / 12 % S) := pk_rem (by omega) (by omega) (by omega)
    have ht : v % T < T := Nat.mod_lt _ (by omega)
    have hs : v / 12 % S < S := Nat.mod_lt _ (by omega)
    rw [r3, r0, mT, m12, mS, place_ok, nI_clamp (by omega)]
    generalize v % T = t at *
    generalize v / 12 % S = s at *
    have hg : ¬ (nI (768 * m + 64 * t + s) < 0 ∨ 2304 ≤ 768 * m + 64 * t + s) := fun c => by rcases c with c | c; exact nI_pos (by omega) c; omega
    have hp0 := HO.2.2.2 m hm t (by omega) s (by omega)
    rw [hp0, if_neg (nI_ne0 (by omega) (by omega)), if_neg (nI_ne0 (by omega) (by omega)), if_neg hg]
    cases hp : P m t s with
    | false =>
      rw [if_pos (show bI false = 0 from rfl), if_neg hg, if_pos (show bI false = 0 from rfl)]
      have O1 := ox_20 (m := m) (c := true) HO (show t < 12 by omega) (show s < 64 by omega) rfl
      have O2 : OX (putI M (20, k, 0) (768 * m + 64 * t + s) 1) k T g (pAdd P m t s) := ox_P (fun m' t' s' _ _ _ => by
        unfold pSet pAdd
        by_cases e : m' = m ∧ t' = t ∧ s' = s
        · rw [if_pos e, decide_eq_true e, Bool.or_true]
        · rw [if_neg e, decide_eq_false e, Bool.or_false]) O1
      have f1 : Fr (sOw k) M (putI M (20, k, 0) (768 * m + 64 * t + s) 1) := fr_Pk fp_Pk
      have HI' := iv_add HI hm ht hs
      exact act_go f1 O2 (ch_add (bx_fr (dOw k 0) f1 HB) HI (hs_Ow f1 HH) e1 e2 hm ht hs hp) ⟨⟨U, A, m0, p0, HI'⟩, hu, he⟩ (fun M2 h2 O2 => bd h2 (bd (pinsOf_ok (U := U) (A := A) (m0 := m0) (p0 := p0) O2 HI'.hP hS.2 hT.2 hm) (cy rfl rfl)))
    | true =>
      rw [if_neg (show ¬ bI true = 0 by decide), if_neg hg, if_neg (show ¬ bI true = 0 by decide)]
      have O1 := ox_20 (m := m) (c := false) HO (show t < 12 by omega) (show s < 64 by omega) rfl
      have O2 : OX (putI M (20, k, 0) (768 * m + 64 * t + s) 0) k T g (pDel P m t s) := ox_P (fun m' t' s' _ _ _ => by
        unfold pSet pDel
        by_cases e : m' = m ∧ t' = t ∧ s' = s
        · rw [if_pos e, decide_eq_true e, Bool.not_true, Bool.and_false]
        · rw [if_neg e, decide_eq_false e, Bool.not_false, Bool.and_true]) O1
      have f1 : Fr (sOw k) M (putI M (20, k, 0) (768 * m + 64 * t + s) 0) := fr_Pk fp_Pk
      have HI' := iv_sub HI (pDel_le (m := m) (t := t) (s := s))
      exact act_go f1 O2 (ch_del (bx_fr (dOw k 0) f1 HB) HI (hs_Ow f1 HH) e1 e2 hm ht hs hp) ⟨⟨U, A, m0, p0, HI'⟩, hu, he⟩ (fun M2 h2 O2 => bd h2 (bd (pinsOf_ok (U := U) (A := A) (m0 := m0) (p0 := p0) O2 HI'.hP hS.2 hT.2 hm) (cy rfl rfl)))
  · rw [if_pos (show (5 : Int32) ≤ nI kd from nI_le (a := 5) (by omega) (by omega))]
    obtain ⟨M1, c1, H5, c3⟩ := copy_ok (q := 50) HO hT.2 (by omega)
    have f0 := off_O5 c3
    refine act_pre f0 (act_bd c1 ?_)
    have HB := bx_fr (dO5 0) f0 HB
    have HO := o5_k hk f0 HO
    have HH := hs_O5 f0 HH
    have m64 : nI v - nI v / 64 * 64 = nI (v % 64) := pk_rem (d := 64) (by omega) (by decide) (by decide)
    have m7 : nI v - nI v / 7 * 7 = nI (v % 7) := pk_rem (d := 7) (by omega) (by decide) (by decide)
    have m2 : nI v - nI v / 2 * 2 = nI (v % 2) := pk_rem (d := 2) (by omega) (by decide) (by decide)
    rw [m64, m7, m2]
    by_cases e5 : kd = 5
    · rw [if_pos (show nI kd = (5 : Int32) by rw [e5]; rfl)]
      obtain ⟨M2, a1, a2, a3⟩ := rl_123 hk HI hm (show v % 64 < 64 by omega) T 0 NF M1 (by omega) (by unfold NF; omega) (ox_P (fun m' t' u _ _ _ => by
        unfold pTune tnQ
        by_cases e : m' = m
        · rw [if_pos e, if_neg (Nat.not_lt_zero _), e]
          by_cases e2 : t' = 0
          · rw [if_pos e2, if_neg (fun y => Nat.not_lt_zero _ y.2), e2]
          · rw [if_neg e2]
        · rw [if_neg e]) HO) H5
      refine act_eq (a1 _) ?_
      have HI' := iv_tune HI hm (turn_in (m := m) (k := v % 64) HI)
      have f1 := fr_Pk a3
      exact act_go f1 a2 (ch_shift (bx_fr (dOw k 0) f1 HB) HI (hs_Ow f1 HH) e1 e2 hm (by omega)) ⟨⟨U, A, m0, p0, HI'⟩, hu, he⟩ (fun M2 h2 O2 => bd h2 (bd (pinsOf_ok (U := U) (A := A) (m0 := m0) (p0 := p0) O2 HI'.hP hS.2 hT.2 hm) (cy rfl rfl)))
    · rw [if_neg (show ¬ nI kd = (5 : Int32) from fun c => e5 (nIinj (b := 5) (by omega) (by decide) c))]
      by_cases e6 : kd = 6
      · rw [if_pos (show nI kd = (6 : Int32) by rw [e6]; rfl)]
        obtain ⟨x, hx⟩ : ∃ x, x = nI (v % 7) - 3 := ⟨_, rfl⟩
        rw [← hx]
        by_cases hok : ∀ t' s', 0 ≤ t' → P m t' s' = true → okM T x t'
        · obtain ⟨t1, t2⟩ := tr_7 (v % 7) (by omega)
          by_cases c3 : 3 < v % 7
          · have ex : x = nI (v % 7 - 3) := hx.trans (t1 c3)
            obtain ⟨kk, hkk⟩ : ∃ kk, kk = v % 7 - 3 := ⟨_, rfl⟩
            rw [← hkk] at ex
            have hk0 : 0 < kk := by omega
            have hk4 : kk < 4 := by omega
            have hlt : ∀ t s, P m t s = true → t + kk < T := fun t s hp => by
              have := (hok t s (Nat.zero_le _) hp).2
              rw [ex, nI_add] at this
              have h3 := HI.hP _ _ _ hp
              exact (nIlt (by omega) (by omega)).mp this
            refine rl_move (Q := pUp P m kk) hk HB HO H5 HI HH e1 e2 hu he hm (tr_i (Or.inl ⟨kk, hk4, ex⟩)) hok (fun t s h => ?_) (fun t ht => ?_) (fun t ht h => ?_) (fun M3 h3 => ?_)
            · unfold pUp at h
              rw [Bool.and_eq_true, decide_eq_true_eq] at h
              have h4 := hlt _ _ h.2
              exact ⟨by omega, (HI.hP _ _ _ h.2).2.2⟩
            · unfold SRC pUp
              rw [ex]
              by_cases c : kk ≤ t
              · exact Or.inr (Or.inr ⟨t - kk, by omega, pk_sub c, fun s => by rw [decide_eq_true c, Bool.true_and]⟩)
              · exact Or.inl ⟨pk_sneg (by omega) (by omega), fun s => by rw [decide_eq_false c, Bool.false_and]⟩
            · have h4 := h.2
              rw [ex, nI_add] at h4 ⊢
              exact thf_ok (bx_3 HB HI) hT.2 ((nIlt (by omega) (by omega)).mp h4)
            · rw [ex]
              exact cl_up hm hk0 (by omega) h3
          · have ex : x = -nI (3 - v % 7) := hx.trans (t2 (by omega))
            obtain ⟨kk, hkk⟩ : ∃ kk, kk = 3 - v % 7 := ⟨_, rfl⟩
            rw [← hkk] at ex
            have hk4 : kk < 4 := by omega
            have es : ∀ t, nI t + x = nI t - nI kk := fun t => by rw [ex, Int32.sub_eq_add_neg]
            have hle : ∀ t, t < T → okM T x t → kk ≤ t := fun t ht h => by
              rcases Nat.lt_or_ge t kk with c | c
              · exact absurd (by rw [es]; exact pk_sneg (by omega) c) h.1
              · exact c
            refine rl_move (Q := pDn P m kk) hk HB HO H5 HI HH e1 e2 hu he hm (tr_i (Or.inr ⟨kk, hk4, ex⟩)) hok (fun t s h => ?_) (fun t ht => ?_) (fun t ht h => ?_) (fun M3 h3 => ?_)
            · unfold pDn at h
              have h4 := HI.hP _ _ _ h
              exact ⟨by omega, h4.2.2⟩
            · unfold SRC pDn
              rw [ex, i32_subneg, nI_add]
              by_cases c : t + kk < T
              · exact Or.inr (Or.inr ⟨t + kk, c, rfl, fun s => rfl⟩)
              · refine Or.inr (Or.inl ⟨nI_pos (by omega), nI_le (by omega) (by omega), fun s => ?_⟩)
                cases hp : P m (t + kk) s with
                | false => rfl
                | true => exact absurd (HI.hP _ _ _ hp).2.1 c
            · have h4 := hle t ht h
              rw [es, pk_sub h4]
              exact thf_ok (bx_3 HB HI) hT.2 (by omega)
            · rw [ex]
              exact cl_dn hm (by omega) (fun t s hp => by have := (HI.hP _ _ _ hp).2.1; omega) h3
        · exact act_eq ((rl_226 (x := x) HI HO H5 hm T 0 NF (by omega) (by unfold NF; omega)).2 hok) act_no
      · rw [if_neg (show ¬ nI kd = (6 : Int32) from fun c => e6 (nIinj (b := 6) (by omega) (by decide) c))]
        by_cases e7 : kd = 7
        · rw [if_pos (show nI kd = (7 : Int32) by rw [e7]; rfl)]
          have eto : ((nI m + (1 : Int32)) + nI (v % 2)) - ((nI m + (1 : Int32)) + nI (v % 2)) / (3 : Int32) * (3 : Int32) = nI ((m + 1 + v % 2) % 3) := by
            rw [show nI m + (1 : Int32) = nI (m + 1) from nI_add m 1, nI_add]
            exact pk_rem (d := 3) (by omega) (by decide) (by decide)
          rw [eto]
          have hto : (m + 1 + v % 2) % 3 < 3 := Nat.mod_lt _ (by decide)
          have hne : m ≠ (m + 1 + v % 2) % 3 := by omega
          generalize (m + 1 + v % 2) % 3 = to_ at *
          obtain ⟨M2, a1, a2, a3⟩ := rl_426 (to_ := to_) hk hm hto 768 0 NF M1 rfl (by unfold NF; omega) (ox_P (fun m' t' u _ _ _ => by
            unfold pTune
            by_cases e : m' = to_
            · rw [if_pos e, e]; exact (if_neg (Nat.not_lt_zero _)).symm
            · rw [if_neg e]) HO) H5
          refine act_eq (a1 _) ?_
          have hQ : ∀ t s, P m t s = true → t < T ∧ s < S := fun t s h => ⟨(HI.hP _ _ _ h).2.1, (HI.hP _ _ _ h).2.2⟩
          have HI' := iv_tune HI hto hQ
          have f1 := fr_Pk a3
          exact act_go f1 a2 (ch_copy (bx_fr (dOw k 0) f1 HB) HI (hs_Ow f1 HH) e1 e2 hm hto hne) ⟨⟨U, A, m0, p0, HI'⟩, hu, he⟩ (fun M2 h2 O2 => bd h2 (bd (pinsOf_ok (U := U) (A := A) (m0 := m0) (p0 := p0) O2 HI'.hP hS.2 hT.2 hto) (cy rfl rfl)))
        · rw [if_neg (show ¬ nI kd = (7 : Int32) from fun c => e7 (nIinj (b := 7) (by omega) (by decide) c))]
          have O1 := ox_18 (j := 4) (v := nI m) HO (by decide) (by decide)
          have f1 : Fr (sOw k) M1 (putI M1 (18, k, 0) 4 (nI m)) := fr_putI (sOw_k rfl)
          obtain ⟨e', he1, he2⟩ := he
          refine act_go f1 O1 (ch_tune (bx_fr (dOw k 0) f1 HB) HI (hs_Ow f1 HH) e1 e2 hm) ⟨⟨U, A, m, p0, iv_4 HI hm⟩, uw_o (Or.inl (by decide)) hu, e', he1, up8 (k := 4) (v := nI m) (by decide) he2⟩ (fun M2 h2 O2 => bd h2 (cy (HO.1 4 (by decide)).symm rfl))
end RO2
