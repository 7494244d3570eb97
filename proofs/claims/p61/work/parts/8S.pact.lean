/-! the law's acts -/
section ACS
variable {M : Mm} {k S T U A m0 p0 n c e : Nat} {g : GF} {P : PF} {b : Nat → GF × PF}
theorem ac_play {d : Nat} (HB : BX M T 0 g P) (HO : OX M k T g P) (HI : Iv g P S T U A m0 p0) (HH : HS M T n c b) (e1 : (b c).1 = g) (e2 : (b c).2 = P) (hu : uwS g T = 0) (he : ∃ e', e' ≤ e ∧ g 8 = nI e') (heb : e + 300 < 100000) (hU : U ≠ 0) (h1 : 1 ≤ d) (hd : d ≤ 300) :
    ACT M k T S (e + 300) n c b ((fX9_play M (nI d)).bind fun q16 => (fX10_plays q16.2 k (nI d)).bind fun q18 => if q16.1 = q18.1 then some ((1 : Int32), q18.2) else some ((0 : Int32), q18.2)) := by
  have hT := HI.hT
  obtain ⟨e', he1, he2⟩ := he
  obtain ⟨M1, a1, a2, a3, a4⟩ := ch_play HB HI HH e1 e2 h1 hd hU
  have O1 := ox_fr (dCo k) a4 HO
  obtain ⟨M2, c1, c2, c3⟩ := plays_ok (d := d) O1 HI (by omega) he2 (by omega)
  have f2 : Fr (sOw k) M1 M2 := fr_off (fun x hx => by
    obtain ⟨h1, h2, h3⟩ := owR_i hx
    unfold sOw
    rw [Bool.and_eq_true, Bool.and_eq_true, Nat.ble_eq, Nat.ble_eq, Bool.or_eq_true, beq_iff_eq]
    exact ⟨⟨h2, h3⟩, Or.inl h1⟩) c3
  have hle := playN_le (P := P) (S := S) (T := T) (m := m0) d g p0 U
  refine ⟨1, M2, bd a1 (bd c1 (cy rfl rfl)), Or.inr ⟨rfl, fr_tr (fr_mono (fun r hr => by unfold sAc; rw [hr]; rfl) a4) (fr_mono (fun r hr => by unfold sAc; rw [hr, Bool.or_true]) f2), _, P, c2, bx_fr (dOw k 0) f2 a2, hs_Ow f2 a3, ⟨_, _, _, _, playN_iv d g p0 U HI⟩, uw_pN d g p0 U hu, _, ?_, pN_8 d g p0 U e' he2⟩⟩
  omega
theorem acts_ok {a L : Nat} {xs : Nat → Int32} (hL : L ≤ 260) (ha : a < 1000) (hk : k < 50) (HB : BX M T 0 g P) (HO : OX M k T g P) (HI : Iv g P S T U A m0 p0) (HH : HS M T n c b) (e1 : (b c).1 = g) (e2 : (b c).2 = P) (hu : uwS g T = 0) (he : ∃ e', e' ≤ e ∧ g 8 = nI e') (heb : e + 300 < 100000) : ACT M k T S (e + 300) n c b (fL_acts M k L xs (nI a)) := by
  have hT := HI.hT
  have hU := HI.hU
  obtain ⟨e', he1, he2⟩ := he
  have hkd := pv_lt (L := L) (xs := xs) (k := a) (n := 20) hL (by omega) (by decide) (by decide)
  have pkd := pick_ok (L := L) (xs := xs) (k := a) (n := 20) hL (by omega) (by decide) (by decide)
  have hv := pv_lt (L := L) (xs := xs) (k := a + 1) (n := 10000) hL (by omega) (by decide) (by decide)
  have pvv := pick_ok (L := L) (xs := xs) (k := a + 1) (n := 10000) hL (by omega) (by decide) (by decide)
  have ea1 : nI a + (1 : Int32) = nI (a + 1) := nI_add a 1
  have ea2 : nI a + (2 : Int32) = nI (a + 2) := nI_add a 2
  generalize pv L xs a 20 = kd at *
  generalize pv L xs (a + 1) 10000 = v at *
  unfold fL_acts
  rw [ea1, ea2]
  refine act_bd pkd (act_bd pvv ?_)
  by_cases k9 : kd < 9
  · rw [if_neg (show ¬ (9 : Int32) ≤ nI kd from nI_ge (b := 9) k9 (by decide))]
    have hm := pv_lt (L := L) (xs := xs) (k := a + 2) (n := 3) hL (by omega) (by decide) (by decide)
    have pm := pick_ok (L := L) (xs := xs) (k := a + 2) (n := 3) hL (by omega) (by decide) (by decide)
    refine act_bd pm ?_
    obtain ⟨r, M', h1, h2⟩ := rolls_ok (kd := kd) (v := v) hk HB HO HI HH e1 e2 hu ⟨e', Nat.le_trans he1 (Nat.le_add_right e 300), he2⟩ k9 hm hv
    exact ⟨r, M', bd h1 rfl, h2⟩
  · rw [if_pos (show (9 : Int32) ≤ nI kd from nI_le (a := 9) (by omega) (by omega))]
    by_cases k13 : kd < 13
    · rw [if_neg (show ¬ (13 : Int32) ≤ nI kd from nI_ge (b := 13) k13 (by decide))]
      have r3 : M.1 (18, k, 0) 3 = nI T := (HO.1 3 (by decide)).trans HI.2.2.2.1
      have ht := pv_lt (L := L) (xs := xs) (k := a + 2) (n := T) hL (by omega) (by omega) (by omega)
      have pt := pick_ok (L := L) (xs := xs) (k := a + 2) (n := T) hL (by omega) (by omega) (by omega)
      rw [r3]
      refine act_bd pt ?_
      obtain ⟨r, M', h1, h2⟩ := combs_ok (kd := kd) (v := v) HB HO HI HH e1 e2 hu ⟨e', Nat.le_trans he1 (Nat.le_add_right e 300), he2⟩ heb (by omega) k13 ht hv
      exact ⟨r, M', bd h1 rfl, h2⟩
    · rw [if_pos (show (13 : Int32) ≤ nI kd from nI_le (a := 13) (by omega) (by omega))]
      by_cases e13 : kd = 13
      · have m91 : nI v - nI v / 91 * 91 = nI (v % 91) := pk_rem (d := 91) (by omega) (by decide) (by decide)
        rw [if_pos (show nI kd = (13 : Int32) by rw [e13]; rfl), m91]
        have O1 := ox_18 (j := 2) (v := nI (v % 91)) HO (by decide) (by decide)
        have f1 : Fr (sOw k) M (putI M (18, k, 0) 2 (nI (v % 91))) := fr_putI (sOw_k rfl)
        exact act_go f1 O1 (ch_vane (bx_fr (dOw k 0) f1 HB) HI (hs_Ow f1 HH) e1 e2 (by omega)) ⟨⟨U, v % 91, m0, p0, iv_2 HI (by omega)⟩, uw_o (Or.inl (by decide)) hu, e', by omega, up8 (k := 2) (v := nI (v % 91)) (by decide) he2⟩ (fun M2 h2 O2 => bd h2 (cy (HO.1 2 (by decide)).symm rfl))
      · rw [if_neg (show ¬ nI kd = (13 : Int32) from fun c => e13 (nIinj (b := 13) (by omega) (by decide) c))]
        have r1 : M.1 (18, k, 0) 1 = nI U := (HO.1 1 (by decide)).trans HI.2.1
        by_cases k16 : kd < 16
        · have m6 : nI v - nI v / 6 * 6 = nI (v % 6) := pk_rem (d := 6) (by omega) (by decide) (by decide)
          have a6 : (1 : Int32) + nI (v % 6) = nI (1 + v % 6) := nI_add 1 _
          rw [if_neg (show ¬ (16 : Int32) ≤ nI kd from nI_ge (b := 16) k16 (by decide)), r1, m6, a6, nI_add]
          by_cases cU : U + (1 + v % 6) ≤ 20
          · rw [if_pos (show nI (U + (1 + v % 6)) ≤ (20 : Int32) from nI_le (b := 20) cU (by decide))]
            have O1 := ox_18 (j := 1) (v := nI (U + (1 + v % 6))) HO (by decide) (by decide)
            have f1 : Fr (sOw k) M (putI M (18, k, 0) 1 (nI (U + (1 + v % 6)))) := fr_putI (sOw_k rfl)
            refine act_go f1 O1 (ch_wind (bx_fr (dOw k 0) f1 HB) HI (hs_Ow f1 HH) e1 e2 (by omega) cU) ⟨⟨U + (1 + v % 6), A, m0, p0, iv_1 HI cU⟩, uw_o (Or.inl (by decide)) hu, e', by omega, up8 (k := 1) (v := nI (U + (1 + v % 6))) (by decide) he2⟩ (fun M2 h2 O2 => bd h2 (cy ?_ rfl))
            exact ((O2.1 1 (by decide)).trans upd_s).symm
          · rw [if_neg (show ¬ nI (U + (1 + v % 6)) ≤ (20 : Int32) from nI_ge (a := 20) (by omega) (by omega))]
            exact act_no
        · rw [if_pos (show (16 : Int32) ≤ nI kd from nI_le (a := 16) (by omega) (by omega)), r1]
          by_cases cU : U = 0
          · rw [if_pos (show nI U = 0 by rw [cU]; rfl)]
            exact act_no
          · rw [if_neg (nI_ne0 (by omega) (by omega))]
            by_cases e16 : kd = 16
            · have m300 : nI v - nI v / 300 * 300 = nI (v % 300) := pk_rem (d := 300) (by omega) (by decide) (by decide)
              rw [if_pos (show nI kd = (16 : Int32) by rw [e16]; rfl), m300, show (1 : Int32) + nI (v % 300) = nI (1 + v % 300) from nI_add 1 _]
              exact ac_play HB HO HI HH e1 e2 hu ⟨e', he1, he2⟩ heb cU (by omega) (by omega)
            · have m30 : nI v - nI v / 30 * 30 = nI (v % 30) := pk_rem (d := 30) (by omega) (by decide) (by decide)
              rw [if_neg (show ¬ nI kd = (16 : Int32) from fun c => e16 (nIinj (b := 16) (by omega) (by decide) c)), m30, show (1 : Int32) + nI (v % 30) = nI (1 + v % 30) from nI_add 1 _]
              exact ac_play HB HO HI HH e1 e2 hu ⟨e', he1, he2⟩ heb cU (by omega) (by omega)
end ACS
