/-! isAs: the class is Own -/
def sB (r : Rf) : Bool := (Nat.ble 24 r.1 && Nat.ble r.1 29) || sO1 r
theorem dB (i : Nat) (r : Rf) (hr : sBx i r = true) : sB r = false := by
  refine or_f ?_ (dO1 i r hr)
  obtain ⟨a, b, c⟩ := r
  simp only [sBx, Bool.and_eq_true, Bool.or_eq_true, beq_iff_eq] at hr
  rcases hr.1 with ((rfl | rfl) | rfl) | rfl <;> rfl
theorem dBo (k : Nat) (r : Rf) (hr : r ∈ owR k) : sB r = false := by
  simp only [owR, List.mem_cons, List.not_mem_nil, or_false] at hr
  rcases hr with rfl | rfl | rfl | rfl | rfl | rfl | rfl | rfl <;> rfl
theorem zb_B {z : Nat} : ∀ x ∈ ZB z, sB x = true := by
  intro x hx
  simp only [ZB, List.mem_cons, List.not_mem_nil, or_false] at hx
  rcases hx with rfl | rfl | rfl <;> rfl
theorem y_B {y : Nat} : ∀ x ∈ [((28, y, 0) : Rf), (29, y, 0)], sB x = true := by
  intro x hx
  simp only [List.mem_cons, List.not_mem_nil, or_false] at hx
  rcases hx with rfl | rfl <;> rfl
theorem a_B {M M' : Mm} (h : Fr sA M M') : Fr sB M M' := fr_mono (fun r hr => by
  unfold sA at hr
  unfold sB
  rcases Bool.or_eq_true .. |>.mp hr with h | h
  · rw [(Bool.and_eq_true .. |>.mp h).1]; rfl
  · rw [h, Bool.or_true]) h
theorem o1_B {M M' : Mm} (h : Fr sO1 M M') : Fr sB M M' := a_B (o1_A h)
section IAS
variable {k S T U A m0 p0 m : Nat} {g : GF} {P : PF}
theorem apP {M : Mm} {z B cap : Nat} {bs : List Int32} {x : Int32} (hx : ptc x) (h : TX M z bs cap) (hcB : cap ≤ B) (hn : bs.length + (nmB x).length ≤ B) (h2 : bs.length + (nmB x).length ≤ cap ∨ 2 * cap + 2 ≤ B) (hL : B < LG) :
    ∃ M', fJ4_append_bf812 M z x B = some M' ∧ TX M' z (bs ++ nmB x) (ecp cap (bs.length + (nmB x).length)) ∧ Off (ZB z) M M' := by
  rcases hx with ⟨a, ha, rfl⟩ | ⟨a, h1, h3, rfl⟩
  · have e : nmB (nI a) = dgs a := by
      unfold nmB
      rw [if_pos (nI_pos' (by omega)), nI_clamp (by omega)]
    rw [e] at hn h2 ⊢
    obtain ⟨M', a1, a2, -, a4⟩ := apIx (B := B) (show a < 1000 by omega) h hcB hn h2 hL
    exact ⟨M', a1, a2, a4⟩
  · have e : nmB (-nI a) = 45 :: dgs a := by
      unfold nmB
      rw [if_neg (neg_f a (by omega) h1).2, show -(-nI a) = nI a from Int32.neg_neg, nI_clamp (by omega)]
    have el : (45 :: dgs a).length = 2 := by
      have : dgs a = [nI (48 + a)] := if_pos (by omega)
      rw [this]
      rfl
    rw [e] at hn h2 ⊢
    rw [el] at hn h2 ⊢
    obtain ⟨M', a1, a2, -, a4⟩ := apIn (B := B) h1 (show a < 10 by omega) h hcB hn h2 hL
    exact ⟨M', a1, a2, a4⟩
theorem sby_7 : sby 7 = [32] := by decide
theorem sby_8 : sby 8 = [] := by decide
theorem sby_9 : sby 9 = [120] := by decide
set_option maxHeartbeats 2000000 in
theorem as_step {M : Mm} {c2 c5 v4 : Int32} {t n cap : Nat} (HB : BX M T 0 g P) (HO : OX M k T g P) (HI : Iv g P S T U A m0 p0) (ht : t < T) (hx : TX M 1 (cmB g t) cap) (hc : C70 cap) :
    ∃ M1 cap1, (∀ K : Int32 → Int32 → Mm → Option (Int32 × Mm), fL_isAs_L36 k c2 c5 K (n + 1) v4 (nI t) M = fL_isAs_L36 k c2 c5 K n (v4 + bI (brS g t)) (nI (t + 1)) M1) ∧ TX M1 1 (cmB g (t + 1)) cap1 ∧ C70 cap1 ∧ Fr sB M M1 := by
  have hS := HI.hS
  have hT := HI.hT
  have hp0 := HI.hp
  have hl := cmB_n HI t (by omega)
  have hcap : (cmB g t).length ≤ cap := hx.2.2.2.1
  have clt := nI_clamp (n := t) (by omega)
  have hgt : ¬ (nI t < 0 ∨ 12 ≤ t) := by
    have := nI_in (c := t) (N := 12) (by omega) (by decide)
    rw [clt] at this
    exact this
  have hge : ¬ M.1 (18, k, 0) 3 ≤ nI t := by rw [(HO.1 3 (by decide)).trans HI.2.2.2.1]; exact nI_ge (by omega) (by omega)
  have hN : nI t + (1 : Int32) = nI (t + 1) := nI_add t 1
  have hbad : ∀ M5, OX M5 k T g P → fX10_isBad M5 k (nI t) = some (bI (brS g t)) := fun M5 O5 => by
    rw [bad_ok O5 hT.2 ht, brS]
    by_cases c : g (16 + 6 * t + 4) < g (16 + 6 * t + 3)
    · rw [if_pos c, decide_eq_true c]; rfl
    · rw [if_neg c, decide_eq_false c]; rfl
  -- the blank ahead of a tooth
  have fst : ∃ M1, fJ4_append_15ec4K M 1 (if t = 0 then 8 else 7) 70 = some M1 ∧ TX M1 1 (cmB g t ++ (if t = 0 then [] else [32])) (ecp cap ((cmB g t).length + (if t = 0 then ([] : List Int32) else [32]).length)) ∧ Fr sB M M1 := by
    have es : sby (if t = 0 then 8 else 7) = (if t = 0 then ([] : List Int32) else [32]) := by
      by_cases c : t = 0
      · rw [if_pos c, if_pos c, sby_8]
      · rw [if_neg c, if_neg c, sby_7]
    have h1 : (if t = 0 then ([] : List Int32) else [32]).length ≤ 1 := by split <;> decide
    obtain ⟨q1, q2, q3, q4⟩ := c70_e (n := (cmB g t).length + (if t = 0 then ([] : List Int32) else [32]).length) hc (by omega) (by omega)
    rw [← es] at q3 q4
    obtain ⟨M1, a1, a2, a3, a4⟩ := apKx (B := 70) (j := if t = 0 then 8 else 7) (by split <;> decide) hx q2 q3 q4 (by decide)
    rw [es] at a2
    exact ⟨M1, apK4 a1, a2, fr_off zb_B a4⟩
  obtain ⟨M1, a1, a2, a3⟩ := fst
  have h1 : (if t = 0 then ([] : List Int32) else [32]).length ≤ 1 := by split <;> decide
  obtain ⟨hc1, -⟩ := c70_e (n := (cmB g t).length + (if t = 0 then ([] : List Int32) else [32]).length) hc (by omega) (by omega)
  have hcap1 := a2.2.2.2.1
  have hl1 : (cmB g t ++ (if t = 0 then ([] : List Int32) else [32])).length ≤ 3 * t + 1 := by
    rw [List.length_append]
    omega
  have ecm : cmB g (t + 1) = (cmB g t ++ (if t = 0 then ([] : List Int32) else [32])) ++ (if brS g t = true then [120] else nmB (ptS g t)) := by
    rw [cmB, cmT, List.append_assoc]
  generalize ecp cap ((cmB g t).length + (if t = 0 then ([] : List Int32) else [32]).length) = cap1 at *
  generalize (cmB g t ++ (if t = 0 then ([] : List Int32) else [32])) = bs1 at *
  have O1 := ox_fr (dBo k) a3 HO
  cases hb : brS g t with
  | true =>
    rw [hb, if_pos rfl] at ecm
    have es : ∀ j, j = 9 → sby j = [120] := fun j hj => by rw [hj, sby_9]
    obtain ⟨q1, q2, q3, q4⟩ := c70_e (n := bs1.length + 1) hc1 (by omega) (by omega)
    obtain ⟨M5, d1, d2, d3, d4⟩ := apKx (B := 70) (j := 9) (by decide) a2 q2 (by rw [sby_9]; exact q3) (by rw [sby_9]; exact q4) (by decide)
    rw [sby_9, ← ecm] at d2
    have f5 : Fr sB M M5 := fr_tr a3 (fr_off zb_B d4)
    have B5 := bx_fr (dB 0) f5 HB
    have O5 := ox_fr (dBo k) f5 HO
    have e1 : ptS g t = M5.1 (19, k, 0) t + M5.1 (19, k, 1) t := by rw [O5.2.1 t ht 0 (by decide), O5.2.1 t ht 1 (by decide)]; rfl
    have e2 : g (16 + 6 * t + 1) = M5.1 (19, k, 1) t := (O5.2.1 t ht 1 (by decide)).symm
    have e3 : g (16 + 6 * t + 2) = M5.1 (19, k, 2) t := (O5.2.1 t ht 2 (by decide)).symm
    have e4 : g (16 + 6 * t + 4) = M5.1 (19, k, 4) t := (O5.2.1 t ht 4 (by decide)).symm
    have b5 := hbad M5 O5
    have s5 := sound_ok O5 hT.2 ht HI.hm (show p0 < 64 by omega) HI.2.2.2.2.1 HI.g5
    have b0 : fX10_isBad M k (nI t) = some 1 := by rw [hbad M HO, hb]; rfl
    have b1 : fX10_isBad M1 k (nI t) = some 1 := by rw [hbad M1 O1, hb]; rfl
    refine ⟨M5, _, fun K => ?_, d2, q1, f5⟩
    rw [fL_isAs_L36, clt, ← hN]
    by_cases c : t = 0
    · rw [if_pos c] at a1
      have c0 : nI t ≤ 0 := by rw [c]; decide
      exact cn hge (bd b0 (cn one_n0 (cy c0 (bd a1 (bd b1 (cn one_n0 (bd (apK4 d1) (bd (an_soundingPitch B5 HI ht) (cn hgt (cn hgt (cy e1 (bd (an_bendOf B5 HI ht) (cn hgt (cy e2 (bd (an_gap B5 HI ht) (cn hgt (cy e3 (bd (an_wear B5 HI ht) (cn hgt (cy e4 (bd (an_silence B5 HI ht) (bd (sil_ok O5 hT.2 ht) (cy rfl (bd (an_isBroken B5 HI ht) (bd b5 (cy rfl (bd (an_nextSound B5 HI ht) (bd s5 (cy rfl rfl)))))))))))))))))))))))))))))
    · rw [if_neg c] at a1
      have c0 : ¬ nI t ≤ 0 := nI_nle (by omega) (by omega)
      exact cn hge (bd b0 (cn one_n0 (cn c0 (bd a1 (bd b1 (cn one_n0 (bd (apK4 d1) (bd (an_soundingPitch B5 HI ht) (cn hgt (cn hgt (cy e1 (bd (an_bendOf B5 HI ht) (cn hgt (cy e2 (bd (an_gap B5 HI ht) (cn hgt (cy e3 (bd (an_wear B5 HI ht) (cn hgt (cy e4 (bd (an_silence B5 HI ht) (bd (sil_ok O5 hT.2 ht) (cy rfl (bd (an_isBroken B5 HI ht) (bd b5 (cy rfl (bd (an_nextSound B5 HI ht) (bd s5 (cy rfl rfl)))))))))))))))))))))))))))))
  | false =>
    rw [hb, if_neg (by decide)] at ecm
    have hpt := ptS_c HI ht
    have hpl := ptc_B hpt
    obtain ⟨x1, x2⟩ := nSB_ok (M := M1) (z := 2)
    obtain ⟨M2, y1, y2, y3, y4⟩ := apKx (B := 16) (j := 8) (by decide) x1 (by decide) (by rw [sby_8]; decide) (by rw [sby_8]; decide) (by decide)
    rw [sby_8] at y2
    have y2' : TX M2 2 [] 16 := y2
    have f2 : Fr sB M M2 := fr_tr a3 (fr_tr (fr_off zb_B x2) (fr_off zb_B y4))
    have O2 := ox_fr (dBo k) f2 HO
    obtain ⟨M3, z1, z2, z3⟩ := apP (B := 16) hpt y2' (by decide) (by show 0 + _ ≤ _; omega) (Or.inl (by show 0 + _ ≤ _; omega)) (by decide)
    have ecap : ecp 16 (([] : List Int32).length + (nmB (ptS g t)).length) = 16 := if_pos (by show 0 + _ ≤ _; omega)
    rw [ecap, List.nil_append] at z2
    obtain ⟨M4, w1, w2, w3⟩ := toS_ok (y := 2) (B := 16) z2 (by decide) (by decide)
    have t1 : TX M4 1 bs1 cap1 := tx_eq (by
      rw [(w3 (24, 1, 0) (by simp)).1, (z3 (24, 1, 0) (by simp [ZB])).1, (y4 (24, 1, 0) (by simp [ZB])).1, (x2 (24, 1, 0) (by simp [ZB])).1]) (by
      rw [(w3 (25, 1, 0) (by simp)).1, (z3 (25, 1, 0) (by simp [ZB])).1, (y4 (25, 1, 0) (by simp [ZB])).1, (x2 (25, 1, 0) (by simp [ZB])).1]) a2
    obtain ⟨q1, q2, q3, q4⟩ := c70_e (n := bs1.length + (nmB (ptS g t)).length) hc1 (by omega) (by omega)
    obtain ⟨M5, d1, d2, d3, d4⟩ := apMx (B := 70) t1 w2 q2 q3 q4 (by decide)
    rw [← ecm] at d2
    have f5 : Fr sB M M5 := fr_tr f2 (fr_tr (fr_off zb_B z3) (fr_tr (fr_off y_B w3) (fr_off zb_B d4)))
    have B5 := bx_fr (dB 0) f5 HB
    have O5 := ox_fr (dBo k) f5 HO
    have e1 : ptS g t = M5.1 (19, k, 0) t + M5.1 (19, k, 1) t := by rw [O5.2.1 t ht 0 (by decide), O5.2.1 t ht 1 (by decide)]; rfl
    have e2 : g (16 + 6 * t + 1) = M5.1 (19, k, 1) t := (O5.2.1 t ht 1 (by decide)).symm
    have e3 : g (16 + 6 * t + 2) = M5.1 (19, k, 2) t := (O5.2.1 t ht 2 (by decide)).symm
    have e4 : g (16 + 6 * t + 4) = M5.1 (19, k, 4) t := (O5.2.1 t ht 4 (by decide)).symm
    have b5 := hbad M5 O5
    have s5 := sound_ok O5 hT.2 ht HI.hm (show p0 < 64 by omega) HI.2.2.2.2.1 HI.g5
    have b0 : fX10_isBad M k (nI t) = some 0 := by rw [hbad M HO, hb]; rfl
    have b1 : fX10_isBad M1 k (nI t) = some 0 := by rw [hbad M1 O1, hb]; rfl
    have z1' : fJ4_append_bf812 M2 2 (M2.1 (19, k, 0) t + M2.1 (19, k, 1) t) 16 = some M3 := by
      rw [O2.2.1 t ht 0 (by decide), O2.2.1 t ht 1 (by decide)]; exact z1
    refine ⟨M5, _, fun K => ?_, d2, q1, f5⟩
    rw [fL_isAs_L36, clt, ← hN]
    by_cases c : t = 0
    · rw [if_pos c] at a1
      have c0 : nI t ≤ 0 := by rw [c]; decide
      exact cn hge (bd b0 (cy rfl (cy c0 (bd a1 (bd b1 (cy rfl (bd (apK4 y1) (cn hgt (cn hgt (bd z1' (bd w1 (bd (apM4 d1) (bd (an_soundingPitch B5 HI ht) (cn hgt (cn hgt (cy e1 (bd (an_bendOf B5 HI ht) (cn hgt (cy e2 (bd (an_gap B5 HI ht) (cn hgt (cy e3 (bd (an_wear B5 HI ht) (cn hgt (cy e4 (bd (an_silence B5 HI ht) (bd (sil_ok O5 hT.2 ht) (cy rfl (bd (an_isBroken B5 HI ht) (bd b5 (cy rfl (bd (an_nextSound B5 HI ht) (bd s5 (cy rfl rfl))))))))))))))))))))))))))))))))))
    · rw [if_neg c] at a1
      have c0 : ¬ nI t ≤ 0 := nI_nle (by omega) (by omega)
      exact cn hge (bd b0 (cy rfl (cn c0 (bd a1 (bd b1 (cy rfl (bd (apK4 y1) (cn hgt (cn hgt (bd z1' (bd w1 (bd (apM4 d1) (bd (an_soundingPitch B5 HI ht) (cn hgt (cn hgt (cy e1 (bd (an_bendOf B5 HI ht) (cn hgt (cy e2 (bd (an_gap B5 HI ht) (cn hgt (cy e3 (bd (an_wear B5 HI ht) (cn hgt (cy e4 (bd (an_silence B5 HI ht) (bd (sil_ok O5 hT.2 ht) (cy rfl (bd (an_isBroken B5 HI ht) (bd b5 (cy rfl (bd (an_nextSound B5 HI ht) (bd s5 (cy rfl rfl))))))))))))))))))))))))))))))))))
theorem as_36 (HI : Iv g P S T U A m0 p0) {c2 c5 : Int32} : ∀ (d t f : Nat) (M : Mm) (cap : Nat), t + d = T → d < f → BX M T 0 g P → OX M k T g P → TX M 1 (cmB g t) cap → C70 cap →
    ∃ M' cap', (∀ K : Int32 → Int32 → Mm → Option (Int32 × Mm), fL_isAs_L36 k c2 c5 K f (nI (mCt (brS g) t)) (nI t) M = K (nI (mCt (brS g) T)) (nI T) M') ∧ TX M' 1 (cmB g T) cap' ∧ C70 cap' ∧ Fr sB M M' := by
  intro d
  induction d with
  | zero =>
    intro t f M cap ht hf HB HO hx hc
    obtain ⟨f, rfl⟩ : ∃ x, f = x + 1 := ⟨f - 1, by omega⟩
    obtain rfl : t = T := by omega
    exact ⟨M, cap, fun K => by rw [fL_isAs_L36, if_pos (by rw [(HO.1 3 (by decide)).trans HI.2.2.2.1]; exact Int32.le_refl _)], hx, hc, fr_rf⟩
  | succ d ih =>
    intro t f M cap ht hf HB HO hx hc
    obtain ⟨f, rfl⟩ : ∃ x, f = x + 1 := ⟨f - 1, by omega⟩
    obtain ⟨M1, cap1, a1, a2, a3, a4⟩ := as_step (c2 := c2) (c5 := c5) (v4 := nI (mCt (brS g) t)) (n := f) HB HO HI (show t < T by omega) hx hc
    obtain ⟨M', cap', b1, b2, b3, b4⟩ := ih (t + 1) f M1 cap1 (by omega) (by omega) (bx_fr (dB 0) a4 HB) (ox_fr (dBo k) a4 HO) a2 a3
    refine ⟨M', cap', fun K => ?_, b2, b3, fr_tr a4 b4⟩
    have e : nI (mCt (brS g) t) + bI (brS g t) = nI (mCt (brS g) (t + 1)) := by
      rw [mCt]
      cases brS g t with
      | false => exact Int32.add_zero _
      | true => exact nI_add _ 1
    rw [a1 K, e]
    exact b1 K
end IAS
