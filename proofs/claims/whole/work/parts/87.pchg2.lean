/-! shift, transpose, copyTune -/
theorem i32_11 (x : Int32) (h1 : (-11 : Int32) ≤ x) (h2 : x ≤ (11 : Int32)) : (∃ k, 0 < k ∧ k < 12 ∧ x = nI k) ∨ ∃ k, k < 12 ∧ x = -nI k := by
  have e := Int32.ofInt_toInt x
  rw [Int32.le_iff_toInt_le] at h1 h2
  have a1 : (-11 : Int32).toInt = -11 := by decide
  have a2 : (11 : Int32).toInt = 11 := by decide
  rw [a1] at h1
  rw [a2] at h2
  rw [← e]
  generalize x.toInt = i at h1 h2
  rcases Int.lt_or_le 0 i with c | c
  · obtain ⟨k, rfl⟩ : ∃ k : Nat, i = k := ⟨i.toNat, by omega⟩
    refine Or.inl ⟨k, by omega, by omega, ?_⟩
    exact (by decide +kernel : ∀ k : Nat, k < 12 → Int32.ofInt (k : Int) = nI k) k (by omega)
  · obtain ⟨k, rfl⟩ : ∃ k : Nat, i = -(k : Int) := ⟨(-i).toNat, by omega⟩
    refine Or.inr ⟨k, by omega, ?_⟩
    exact (by decide +kernel : ∀ k : Nat, k < 12 → Int32.ofInt (-(k : Int)) = -nI k) k (by omega)
theorem iv_tune {g : GF} {P : PF} {S T U A m0 p0 m : Nat} {Q : Nat → Nat → Bool} (h : Iv g P S T U A m0 p0) (hm : m < 3) (hQ : ∀ t s, Q t s = true → t < T ∧ s < S) : Iv g (pTune P m Q) S T U A m0 p0 := by
  obtain ⟨h0, h1, h2, h3, h4, h5, h6, h7, h8, h9, h10, h11, h12, h13⟩ := h
  refine ⟨h0, h1, h2, h3, h4, h5, h6, h7, h8, h9, h10, h11, h12, fun m' t' s' hp => ?_⟩
  unfold pTune at hp
  by_cases e : m' = m
  · rw [if_pos e] at hp
    exact ⟨by omega, hQ t' s' hp⟩
  · rw [if_neg e] at hp
    exact h13 _ _ _ hp
theorem iv_out {g : GF} {P : PF} {S T U A m0 p0 m t s : Nat} (h : Iv g P S T U A m0 p0) (hs : S ≤ s) : P m t s = false := by
  cases e : P m t s with
  | false => rfl
  | true => have := h.2.2.2.2.2.2.2.2.2.2.2.2.2 _ _ _ e; omega
section CH2
variable {M : Mm}
theorem rx_cut {f g : GF} {P : PF} {S T U A m0 p m : Nat} {Q : Nat → Nat → Bool} (HI : Iv g P S T U A m0 p) (hQ : ∀ t s, Q t s = true → s < S) (h : RX f g (pTune P m (fun t s => if s < S then Q t s else P m t s))) : RX f g (pTune P m Q) := rx_P (fun m' t' s' _ _ _ => by
  unfold pTune
  dsimp only
  by_cases e : m' = m
  · rw [if_pos e, if_pos e]
    by_cases c : s' < S
    · rw [if_pos c]
    · rw [if_neg c, iv_out HI (by omega)]
      cases e2 : Q t' s' with
      | false => rfl
      | true => exact absurd (hQ _ _ e2) c
  · rw [if_neg e, if_neg e]) h
theorem rx_at0 {f g : GF} {P : PF} {m : Nat} {Q : Nat → Nat → Bool} (h : RX f g P) : RX f g (pTune P m (fun t s => if s < 0 then Q t s else P m t s)) := rx_P (fun m' t' s' _ _ _ => by
  unfold pTune
  dsimp only
  by_cases e : m' = m
  · rw [if_pos e, if_neg (Nat.not_lt_zero _), e]
  · rw [if_neg e]) h
theorem api_shift (G : GL M) (a x : Int32) : API [2, 1] (fX9_shift M a x) (fun N => fX10_shift N a x) M := by
  obtain ⟨g, P, S, T, U, A, m0, p, HI, HB, HX⟩ := G.1
  have hT := HI.2.2.2.2.2.2.2.1
  have hS := HI.2.2.2.2.2.2.1
  rcases ix_d a (N := 3) (by decide) with ⟨m, hm, rfl⟩ | ha
  · rcases rg_c (M2 := M) M x 0 63 with ⟨r1, r2, r3, r4⟩ | ⟨r1, r2⟩
    · obtain ⟨k, hk, rfl⟩ := nI_of2 (x := x) (M := 63) (n := 63) (by decide) (Int32.not_lt.mpr r3) r4
      have hQ : ∀ t s, pTurn P S m (k % S) t s = true → t < T ∧ s < S := fun t s h => by
        unfold pTurn at h
        rw [Bool.and_eq_true, decide_eq_true_eq] at h
        exact ⟨(HI.2.2.2.2.2.2.2.2.2.2.2.2.2 _ _ _ h.2).2.1, h.1⟩
      have HI' := iv_tune (Q := pTurn P S m (k % S)) HI hm hQ
      refine api_chg G HI HB HX (v := nI (pnS (pTune P m (pTurn P S m (k % S))) S T m)) HI' (fun M1 q1 q2 => ?_) (fun N N1 HN hC HX1 _ => ?_)
      · obtain ⟨W, w1, w2, w3⟩ := cl_turn (k := k) hm (by omega) HI.1 ⟨by omega, hS.2⟩ q2
        refine ⟨W, ?_, w2, w3⟩
        rw [fX9_shift, tf_ok hm, thr_0, r1, thr_0, q1, Option.bind_some, w1, Option.bind_some, cl_pins w2 HI' hm, Option.bind_some]
      · have h0 : N1.1 NW 0 = nI S := (HX1.1 0 (by decide)).trans HI.1
        obtain ⟨Na, a1, a2, a3⟩ := rf_turn1 (K := fun w14 M15 => fX10_shift_L70 (nI m) (fun w20 M21 => (fX10_pins M21 (nI m)).bind fun q22 => some (q22, M21)) NF (0 : Int32) M15) h0 ⟨by omega, hS.2⟩ hm (show k < 64 by omega) S 0 N1 NF (by omega) (by unfold NF; omega) (fun s _ h => by omega) fr_rf
        have XN : RX (Na.1 NW) g P := rx_fr (S := fun r => r == (19, 5, 0)) rfl a2 HX1
        obtain ⟨Nb, b1, b2, b3⟩ := rf_turn2 (K := fun w20 M21 => (fX10_pins M21 (nI m)).bind fun q22 => some (q22, M21)) (X := fun s => N1.1 NW (88 + 64 * m + (s + S - k % S) % S)) (Q := fun t s => P m t ((s + S - k % S) % S)) HI.1 hS.2 hm (fun s hs t ht => HX1.2 m hm _ (by have := Nat.mod_lt (s + S - k % S) (show 0 < S by omega); omega) t ht) S 0 Na NF (by omega) (by unfold NF; omega) a1 (rx_at0 XN)
        have b1' : RX (Nb.1 NW) g (pTune P m (pTurn P S m (k % S))) := rx_cut HI (fun t s h => (hQ t s h).2) (rx_P (fun m' t' s' _ _ _ => by
          unfold pTune pTurn
          dsimp only
          by_cases e : m' = m
          · rw [if_pos e, if_pos e]
            by_cases c : s' < S
            · rw [if_pos c, if_pos c, decide_eq_true c, Bool.true_and]
            · rw [if_neg c, if_neg c]
          · rw [if_neg e, if_neg e]) b1)
        refine ⟨Nb, ?_, b1', fr_tr (fr_mono (fun r hr => by unfold sNw; rw [hr, Bool.or_true]) a2) (sn_n b2)⟩
        rw [fX10_shift, ft_ok hm, Option.bind_some, if_neg one_ne]
        dsimp only
        rw [show fX10_in (putI N R8 8 0) (nI k) 0 63 = 1 from r2, rr_ok z_8, Option.bind_some, if_neg one_ne]
        dsimp only
        rw [hC, Option.bind_some]
        refine a3.trans (b3.trans ?_)
        rw [rf_pins b1' HI' hm]; rfl
    · refine api_err G HX (k := 2) (by rw [fX9_shift, tf_ok hm, thr_0, r1, thr_2]) (fun N HN => ?_) (ag_2 (by decide) rfl)
      rw [fX10_shift, ft_ok hm, Option.bind_some, if_neg one_ne]
      dsimp only
      rw [show fX10_in (putI N R8 8 0) x 0 63 = 0 from r2, rr_no z_8 (by decide), Option.bind_some, if_pos rfl]
  · refine api_err G HX (k := 1) (by rw [fX9_shift, tf_no ha, thr_1]) (fun N HN => ?_) (ag_1 rfl)
    rw [fX10_shift, ft_no ha, Option.bind_some, if_pos rfl]
theorem bx_at {i T : Nat} {g : GF} {P : PF} {m : Nat} {Q : Nat → Nat → Bool} {c : Nat → Bool} (hc : ∀ t, t < 12 → c t = false) (h : BX M T i g P) : BX M T i g (pTune P m (fun t s => if c t = true then Q t s else P m t s)) := bx_P (fun m' t' s' _ ht _ => by
  unfold pTune
  dsimp only
  by_cases e : m' = m
  · rw [if_pos e, hc t' ht, if_neg (by decide), e]
  · rw [if_neg e]) h
theorem api_transpose (G : GL M) (a x : Int32) : API [2, 1, 0] (fX9_transpose M a x) (fun N => fX10_transpose N a x) M := by
  obtain ⟨g, P, S, T, U, A, m0, p, HI, HB, HX⟩ := G.1
  have hT := HI.2.2.2.2.2.2.2.1
  have hS := HI.2.2.2.2.2.2.1
  have hP := HI.2.2.2.2.2.2.2.2.2.2.2.2.2
  rcases ix_d a (N := 3) (by decide) with ⟨m, hm, rfl⟩ | ha
  · rcases rg_c (M2 := M) M x (-11) 11 with ⟨r1, r2, r3, r4⟩ | ⟨r1, r2⟩
    · have hd : ∀ N : Mm, ∀ {r : Option (Int32 × Mm)}, ((fX10_fits (putI N R8 8 0) (nI m) x).bind fun q7 => (fX10_right (putI N R8 8 0) q7 (3 : Int32)).bind fun q9 => if q9.1 = 0 then some ((0 : Int32), q9.2) else (fX10_changes q9.2).bind fun q12 => fX10_transpose_L46 (nI m) x (fun w24 M25 => (fX10_pins M25 (nI m)).bind fun q26 => some (q26, M25)) NF (0 : Int32) q12) = r → fX10_transpose N (nI m) x = r := fun N {r} hr => by
        rw [fX10_transpose, ft_ok hm, Option.bind_some, if_neg one_ne]
        dsimp only
        rw [show fX10_in (putI N R8 8 0) x (-11) 11 = 1 from r2, rr_ok z_8, Option.bind_some, if_neg one_ne]
        exact hr
      let ok : Nat → Bool := fun t => decide (fX0_toothFault M 0 (nI t + x) = 0)
      have hF := cl_moveF (K := fun _ => some 0) (ok := ok) (by_ := x) HB HI.2.2.2.1 hT.2 hm (fun t _ => by simp [ok]) T 0 NF (by omega) (by unfold NF; omega)
      have hR : ∀ N : Mm, RX (N.1 NW) g P → _ := fun N HN => rf_fitO (M := putI N R8 8 0) (K := fun _ => some 1) (ok := ok) (by_ := x) (z_X HN) HI.1 hS.2 HI.2.2.2.1 hT.2 hm (fun t _ => by
        rcases tooth_c (b := nI t + x) HB (z_X (v := 0) HN) HI with ⟨t', _, _, h1, h2⟩ | ⟨h1, h2⟩
        · simp only [ok, h1, h2]; decide
        · simp only [ok, h1, h2]; decide) S 0 NF (by omega) (by unfold NF; omega)
      by_cases hok : ∀ t', 0 ≤ t' → t' < T → ∀ s, s < 64 → P m t' s = true → ok t' = true
      · have f1 : fX0_movePinsFault M 0 (nI m) x = some 0 := hF.1 hok
        have f2 : ∀ N : Mm, RX (N.1 NW) g P → fX10_fits (putI N R8 8 0) (nI m) x = some 1 := fun N HN => (hR N HN).1 fun s' _ h2 t' h3 h4 => hok t' (Nat.zero_le _) h3 s' (by omega) h4
        have go : ∀ (Q : Nat → Nat → Bool), (∀ t s, Q t s = true → t < T ∧ s < S) → (∀ M1, BX M1 T 0 g P → ∃ W, fX3_movePins M1 0 (nI m) x = some W ∧ BX W T 0 g (pTune P m Q) ∧ Fr (sBx 0) M1 W) →
            (∀ N1, RX (N1.1 NW) g P → ∀ {K : Int32 → Mm → Option (Int32 × Mm)}, ∃ N2, RX (N2.1 NW) g (pTune P m (fun t s => if s < S then Q t s else P m t s)) ∧ Fr sNW N1 N2 ∧ fX10_transpose_L46 (nI m) x K NF (nI 0) N1 = K (nI S) N2) → API [2, 1, 0] (fX9_transpose M (nI m) x) (fun N => fX10_transpose N (nI m) x) M := by
          intro Q hQ hc hr
          have HI' := iv_tune (Q := Q) HI hm hQ
          refine api_chg G HI HB HX (v := nI (pnS (pTune P m Q) S T m)) HI' (fun M1 q1 q2 => ?_) (fun N N1 HN hC HX1 _ => ?_)
          · obtain ⟨W, w1, w2, w3⟩ := hc M1 q2
            refine ⟨W, ?_, w2, w3⟩
            rw [fX9_transpose, tf_ok hm, thr_0, r1, thr_0, f1, Option.bind_some, thr_0, q1, Option.bind_some, w1, Option.bind_some, cl_pins w2 HI' hm, Option.bind_some]
          · obtain ⟨N2, n1, n2, n3⟩ := hr N1 HX1 (K := fun w24 M25 => (fX10_pins M25 (nI m)).bind fun q26 => some (q26, M25))
            have n1' := rx_cut HI (fun t s h => (hQ t s h).2) n1
            refine ⟨N2, hd N ?_, n1', sn_n n2⟩
            rw [f2 N HN, Option.bind_some, rr_ok z_8, Option.bind_some, if_neg one_ne]
            dsimp only
            rw [hC, Option.bind_some]
            refine n3.trans ?_
            rw [rf_pins n1' HI' hm]; rfl
        have thf : ∀ t', t' < T → ∀ s, P m t' s = true → ∃ u, u < T ∧ nI t' + x = nI u := fun t' ht s hp => by
          have h1 := hok t' (Nat.zero_le _) ht s (by have := (hP _ _ _ hp).2.2; omega) hp
          have h2 : fX0_toothFault M 0 (nI t' + x) = 0 := by simpa [ok] using h1
          rcases tooth_c (b := nI t' + x) HB HX HI with ⟨u, hu, e, -, -⟩ | ⟨h3, -⟩
          · exact ⟨u, hu, e⟩
          · exact absurd (h2.symm.trans h3) (by decide)
        rcases i32_11 x r3 r4 with ⟨k, hk0, hk, rfl⟩ | ⟨k, hk, rfl⟩
        · refine go (pUp P m k) (fun t s h => ?_) (fun M1 q2 => ?_) (fun N1 HX1 K => ?_)
          · unfold pUp at h
            rw [Bool.and_eq_true, decide_eq_true_eq] at h
            obtain ⟨-, h2, h3⟩ := hP _ _ _ h.2
            obtain ⟨u, hu, e⟩ := thf (t - k) h2 s h.2
            rw [nI_add] at e
            have := nI_inj2 (by omega) (by omega) e
            omega
          · obtain ⟨W, w1, w2, w3⟩ := cl_moveUp (K := fun w11 M12 => some M12) hm hk0 hk 12 0 M1 NF rfl (by unfold NF; omega) (bx_P (fun m' t' s' _ ht _ => by
              unfold pTune
              dsimp only
              by_cases e : m' = m
              · rw [if_pos e, if_neg (by omega), e]
              · rw [if_neg e]) q2)
            exact ⟨W, w3, w1, w2⟩
          · exact rf_moveL (F := fun y => y <<< (nI k &&& 31)) (Q := pUp P m k) HI.1 hS.2 hm (fun M' s y f => by rw [if_pos (show (0 : Int32) ≤ nI k from nI_le (a := 0) (by omega) (by omega))]) (fun s hs y hy t ht => by
              rw [b_shl k (by omega) y ht, pUp]
              by_cases c : k ≤ t
              · rw [hy (t - k) (by omega)]
              · rw [decide_eq_false c]; rfl) S 0 N1 NF (by omega) (by unfold NF; omega) (rx_at0 HX1)
        · have hne : 0 < k → ¬ (0 : Int32) ≤ -nI k := (by decide +kernel : ∀ k, k < 12 → 0 < k → ¬ (0 : Int32) ≤ -nI k) k hk
          refine go (pDn P m k) (fun t s h => ?_) (fun M1 q2 => ?_) (fun N1 HX1 K => ?_)
          · unfold pDn at h
            obtain ⟨-, h2, h3⟩ := hP _ _ _ h
            exact ⟨by omega, h3⟩
          · obtain ⟨W, w1, w2, w3⟩ := cl_moveDn (K := fun w11 M12 => some M12) hm hk (fun t s h => by have := hP _ _ _ h; omega) 12 0 M1 NF rfl (by unfold NF; omega) (bx_P (fun m' t' s' _ ht _ => by
              unfold pTune
              dsimp only
              by_cases e : m' = m
              · rw [if_pos e, if_neg (by omega), e]
              · rw [if_neg e]) q2)
            exact ⟨W, w3, w1, w2⟩
          · refine rf_moveL (F := fun y => if k = 0 then y else y >>> (nI k &&& 31)) (Q := pDn P m k) HI.1 hS.2 hm (fun M' s y f => ?_) (fun s hs y hy t ht => ?_) S 0 N1 NF (by omega) (by unfold NF; omega) (rx_at0 HX1)
            · rcases Nat.eq_zero_or_pos k with rfl | h
              · rw [if_pos (show (0 : Int32) ≤ -nI 0 by decide), show (-nI 0 &&& 31 : Int32) = 0 by decide, show y <<< (0 : Int32) = y from b_ext fun i hi => by
                  have := b_shl 0 (by omega) y hi
                  rw [show (nI 0 &&& 31 : Int32) = 0 by decide] at this
                  rw [this]; simp]
                rfl
              · rw [if_neg (hne h), show -(-nI k) = nI k from Int32.neg_neg]
                skip
                rw [if_neg (by omega)]
            · skip
              rcases Nat.eq_zero_or_pos k with rfl | h
              · rw [if_pos rfl, hy t ht, pDn, Nat.add_zero]
              · rw [if_neg (by omega), b_sshr k (by omega) y ht, pDn]
                by_cases c : k + t < 32
                · rw [if_pos c, hy _ c, Nat.add_comm]
                · rw [if_neg c, hy 31 (by omega)]
                  cases e1 : P m 31 s with
                  | true => have := hP _ _ _ e1; omega
                  | false =>
                    cases e2 : P m (t + k) s with
                    | false => rfl
                    | true => have := hP _ _ _ e2; omega
      · refine api_err G HX (k := 3) (by rw [fX9_transpose, tf_ok hm, thr_0, r1, thr_0, show fX0_movePinsFault M 0 (nI m) x = some 3 from hF.2 hok, Option.bind_some, thr_3]) (fun N HN => hd N ?_) (ag_3 (by decide) (by decide) rfl)
        rw [show fX10_fits (putI N R8 8 0) (nI m) x = some 0 from (hR N HN).2 fun h => hok fun t' _ h3 s' _ h4 => h s' (Nat.zero_le _) (hP _ _ _ h4).2.2 t' h3 h4, Option.bind_some, rr_no z_8 (by decide), Option.bind_some, if_pos rfl]
    · refine api_err G HX (k := 2) (by rw [fX9_transpose, tf_ok hm, thr_0, r1, thr_2]) (fun N HN => ?_) (ag_2 (by decide) rfl)
      rw [fX10_transpose, ft_ok hm, Option.bind_some, if_neg one_ne]
      dsimp only
      rw [show fX10_in (putI N R8 8 0) x (-11) 11 = 0 from r2, rr_no z_8 (by decide), Option.bind_some, if_pos rfl]
  · refine api_err G HX (k := 1) (by rw [fX9_transpose, tf_no ha, thr_1]) (fun N HN => ?_) (ag_1 rfl)
    rw [fX10_transpose, ft_no ha, Option.bind_some, if_pos rfl]
theorem api_copyTune (G : GL M) (a b : Int32) : API [2, 1] (fX9_copyTune M a b) (fun N => fX10_copyTune N a b) M := by
  obtain ⟨g, P, S, T, U, A, m0, p, HI, HB, HX⟩ := G.1
  have hT := HI.2.2.2.2.2.2.2.1
  have hS := HI.2.2.2.2.2.2.1
  have hP := HI.2.2.2.2.2.2.2.2.2.2.2.2.2
  rcases ix_d a (N := 3) (by decide) with ⟨m, hm, rfl⟩ | ha
  · rcases ix_d b (N := 3) (by decide) with ⟨n, hn, rfl⟩ | hb
    · by_cases e : m = n
      · subst e
        refine api_err G HX (k := 2) (by rw [fX9_copyTune, tf_ok hm, mx_00, thr_0, if_pos rfl, thr_2]) (fun N HN => ?_) (ag_2 (by decide) rfl)
        rw [fX10_copyTune, rtu_ok hm, if_neg one_ne, if_neg one_ne, rr_ok z_8, Option.bind_some, if_neg one_ne, if_pos rfl]
        dsimp only
        rw [rr_no z_8 (by decide), Option.bind_some, if_pos rfl]
      · have ne : ¬ nI m = nI n := fun c => e (nI_inj2 (by omega) (by omega) c)
        have hQ : ∀ t s, P m t s = true → t < T ∧ s < S := fun t s h => (hP _ _ _ h).2
        have HI' := iv_tune (Q := P m) HI hn hQ
        refine api_chg G HI HB HX (v := nI (pnS (pTune P n (P m)) S T n)) HI' (fun M1 q1 q2 => ?_) (fun N N1 HN hC HX1 _ => ?_)
        · obtain ⟨W, w1, w2, w3⟩ := cl_copyPins (K := fun w6 M7 => some M7) hm hn e 12 0 M1 NF rfl (by unfold NF; omega) (bx_P (fun m' t' s' _ ht _ => by
            unfold pTune
            dsimp only
            by_cases e : m' = n
            · rw [if_pos e, if_neg (Nat.not_lt_zero _), e]
            · rw [if_neg e]) q2)
          refine ⟨W, ?_, w1, w2⟩
          rw [fX9_copyTune, tf_ok hm, tf_ok hn, mx_00, thr_0, if_neg ne, thr_0, q1, Option.bind_some, show fX3_copyPins M1 0 (nI m) (nI n) = some W from w3, Option.bind_some, cl_pins w1 HI' hn, Option.bind_some]
        · obtain ⟨N2, n1, n2, n3⟩ := rf_copyL (K := fun w70 M71 => (fX10_pins M71 (nI n)).bind fun q72 => some (q72, M71)) hm hn e HI.1 hS.2 S 0 N1 NF (by omega) (by unfold NF; omega) (rx_at0 HX1)
          have n1' := rx_cut HI (fun t s h => (hQ t s h).2) n1
          refine ⟨N2, ?_, n1', sn_n n2⟩
          rw [fX10_copyTune, rtu_ok hm, if_neg one_ne, rtu_ok hn, if_neg one_ne, rr_ok z_8, Option.bind_some, if_neg one_ne, if_neg ne]
          dsimp only
          rw [rr_ok z_8, Option.bind_some, if_neg one_ne]
          dsimp only
          rw [hC, Option.bind_some]
          refine n3.trans ?_
          rw [rf_pins n1' HI' hn]; rfl
    · refine api_err G HX (k := 1) (by rw [fX9_copyTune, tf_ok hm, tf_no hb, mx_01, thr_1]) (fun N HN => ?_) (ag_1 rfl)
      rw [fX10_copyTune, rtu_ok hm, if_neg one_ne, rtu_no hb, if_pos rfl, rr_no z_8 (by decide), Option.bind_some, if_pos rfl]
  · refine api_err G HX (k := 1) (by rw [fX9_copyTune, tf_no ha, mx_1 tf_c, thr_1]) (fun N HN => ?_) (ag_1 rfl)
    rw [fX10_copyTune, rtu_no ha, if_pos rfl, rr_no z_8 (by decide), Option.bind_some, if_pos rfl]
end CH2
