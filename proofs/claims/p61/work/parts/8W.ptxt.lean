/-! tokens of a text that is known -/
theorem nd_r {l l2 : List Nat} {i : Nat} : (l ++ l2).getD (l.length + i) 0 = l2.getD i 0 := by
  rw [List.getD_eq_getElem?_getD, List.getD_eq_getElem?_getD, List.getElem?_append_right (Nat.le_add_right _ _), Nat.add_sub_cancel_left]
theorem nd_l {l l2 : List Nat} {i : Nat} (h : i < l.length) : (l ++ l2).getD i 0 = l.getD i 0 := by
  rw [List.getD_eq_getElem?_getD, List.getD_eq_getElem?_getD, List.getElem?_append_left h]
theorem nd_mem {l : List Nat} {i : Nat} (h : i < l.length) : l.getD i 0 ∈ l := by
  rw [List.getD_eq_getElem?_getD, List.getElem?_eq_getElem h]
  exact List.getElem_mem h
/-- the text as the class's parser sees it -/
def tbL (bs : List Nat) : Nat → Nat := fun k => bs.getD k 0
def spc (sep : Bool) : List Nat := if sep = true then [32] else []
theorem spc_n (sep : Bool) : (spc sep).length ≤ 1 := by cases sep <;> decide
/-- whether a text goes on with another kind than q -/
def OTH (q : Nat) (post : List Nat) : Prop := ∀ x xs, post = x :: xs → kN x ≠ q
theorem tok_at {pre w post : List Nat} {sep : Bool} {q : Nat} (hq : ∀ x ∈ w, kN x = q) (hw : 0 < w.length) (hq4 : q ≠ 4) (h3 : q = 3 → w.length = 1) (hp : q = 3 ∨ OTH q post) {bs : List Nat} (hb : bs = pre ++ (spc sep ++ (w ++ post))) :
    tkB (tbL bs) bs.length pre.length = pre.length + (spc sep).length ∧ tkK (tbL bs) bs.length pre.length = q ∧ tkE (tbL bs) bs.length pre.length = pre.length + (spc sep).length + w.length := by
  have hn : bs.length = pre.length + ((spc sep).length + (w.length + post.length)) := by rw [hb, List.length_append, List.length_append, List.length_append]
  have t1 : ∀ i, tbL bs (pre.length + i) = (spc sep ++ (w ++ post)).getD i 0 := fun i => by unfold tbL; rw [hb, nd_r]
  have t2 : ∀ i, tbL bs (pre.length + (spc sep).length + i) = (w ++ post).getD i 0 := fun i => by rw [Nat.add_assoc, t1, nd_r]
  have tw : ∀ i, i < w.length → kN (tbL bs (pre.length + (spc sep).length + i)) = q := fun i hi => by rw [t2, nd_l hi]; exact hq _ (nd_mem hi)
  have hB : tkB (tbL bs) bs.length pre.length = pre.length + (spc sep).length := by
    refine rn_eq (Nat.le_add_right _ _) (by omega) (fun k h1 h2 => ?_) (Or.inr ?_)
    · cases sep with
      | false => exact absurd h2 (by show ¬ k < pre.length + 0; omega)
      | true =>
        have h2' : k < pre.length + 1 := h2
        have e : k = pre.length + 0 := by omega
        rw [e, t1]
        rfl
    · have := tw 0 hw
      rw [Nat.add_zero] at this
      rw [this]
      exact hq4
  have hlt : ¬ bs.length ≤ tkB (tbL bs) bs.length pre.length := by rw [hB]; omega
  have hk0 : kN (tbL bs (pre.length + (spc sep).length)) = q := by
    have := tw 0 hw
    rw [Nat.add_zero] at this
    exact this
  refine ⟨hB, ?_, ?_⟩
  · rw [tkK, if_neg hlt, hB, hk0]
  · rw [tkE, if_neg hlt, hB, hk0]
    by_cases c : q = 3
    · rw [if_pos c, h3 c]
    · rw [if_neg c]
      refine rn_eq (Nat.le_add_right _ _) (by omega) (fun k h1 h2 => ?_) ?_
      · have := tw (k - (pre.length + (spc sep).length)) (by omega)
        rw [show pre.length + (spc sep).length + (k - (pre.length + (spc sep).length)) = k by omega] at this
        exact this
      · cases post with
        | nil => exact Or.inl (by rw [hn]; show _ = _ + (_ + (_ + 0)); omega)
        | cons x xs =>
          refine Or.inr ?_
          rw [t2]
          have : (w ++ x :: xs).getD w.length 0 = x := by
            have := nd_r (l := w) (l2 := x :: xs) (i := 0)
            rw [Nat.add_zero] at this
            rw [this]
            rfl
          rw [this]
          rcases hp with hp | hp
          · exact absurd hp c
          · exact hp x xs rfl
theorem end_at {bs : List Nat} : tkK (tbL bs) bs.length bs.length = 0 := by
  have hB : tkB (tbL bs) bs.length bs.length = bs.length := rn_eq (Nat.le_refl _) (Nat.le_refl _) (fun k h1 h2 => by omega) (Or.inl rfl)
  rw [tkK, hB, if_pos (Nat.le_refl _)]
/-- numbers -/
def dgN (a : Nat) : List Nat := if a < 10 then [48 + a] else if a < 100 then [48 + a / 10, 48 + a % 10] else [48 + a / 100, 48 + a / 10 % 10, 48 + a % 10]
theorem dgN_s (a : Nat) : (dgN a).map nI = dgs a := by
  unfold dgN dgs
  split
  · rfl
  · split <;> rfl
theorem dgN_k : ∀ a, a < 1000 → ∀ x ∈ dgN a, kN x = 2 := by
  have : ∀ a, a < 1000 → (dgN a).all (fun x => decide (kN x = 2)) = true := by decide +kernel
  intro a ha x hx
  exact of_decide_eq_true (List.all_eq_true.mp (this a ha) x hx)
theorem dgN_b : ∀ a, a < 1000 → ∀ x ∈ dgN a, 1 ≤ x ∧ x < 128 := by
  have : ∀ a, a < 1000 → (dgN a).all (fun x => decide (1 ≤ x ∧ x < 128)) = true := by decide +kernel
  intro a ha x hx
  exact of_decide_eq_true (List.all_eq_true.mp (this a ha) x hx)
theorem dgN_0 (a : Nat) : 0 < (dgN a).length ∧ (dgN a).length ≤ 3 := by
  unfold dgN
  split
  · exact ⟨Nat.le_refl 1, Nat.le_of_ble_eq_true rfl⟩
  · split
    · exact ⟨Nat.le_of_ble_eq_true rfl, Nat.le_of_ble_eq_true rfl⟩
    · exact ⟨Nat.le_of_ble_eq_true rfl, Nat.le_of_ble_eq_true rfl⟩
theorem ws_dg {tb : Nat → Nat} {b a : Nat} (ha : a < 1000) (h : ∀ i, i < (dgN a).length → tb (b + i) = (dgN a).getD i 0) : wS 10000 tb b (dgN a).length = a := by
  unfold dgN at h ⊢
  by_cases h1 : a < 10
  · rw [if_pos h1] at h ⊢
    have h0 := h 0 (Nat.zero_lt_one)
    show min 10000 (10 * 0 + (tb (b + 0) - 48)) = a
    rw [h0]
    show min 10000 (10 * 0 + (48 + a - 48)) = a
    omega
  · rw [if_neg h1] at h ⊢
    by_cases h2 : a < 100
    · rw [if_pos h2] at h ⊢
      have e0 : tb (b + 0) = 48 + a / 10 := h 0 (Nat.le_of_ble_eq_true rfl)
      have e1 : tb (b + 1) = 48 + a % 10 := h 1 (Nat.le_of_ble_eq_true rfl)
      show min 10000 (10 * (min 10000 (10 * 0 + (tb (b + 0) - 48))) + (tb (b + 1) - 48)) = a
      rw [e0, e1]
      omega
    · rw [if_neg h2] at h ⊢
      have e0 : tb (b + 0) = 48 + a / 100 := h 0 (Nat.le_of_ble_eq_true rfl)
      have e1 : tb (b + 1) = 48 + a / 10 % 10 := h 1 (Nat.le_of_ble_eq_true rfl)
      have e2 : tb (b + 2) = 48 + a % 10 := h 2 (Nat.le_of_ble_eq_true rfl)
      show min 10000 (10 * (min 10000 (10 * (min 10000 (10 * 0 + (tb (b + 0) - 48))) + (tb (b + 1) - 48))) + (tb (b + 2) - 48)) = a
      rw [e0, e1, e2]
      omega
/-- the class's parser stands ahead of rest -/
def ATp (M : Mm) (bs : List Nat) (c h : Nat) (pre rest : List Nat) : Prop := PC M (tbL bs) bs.length c h ∧ tE (tbL bs) bs.length h = pre.length ∧ bs = pre ++ rest
section RDS
variable {M : Mm} {bs pre post : List Nat} {c h : Nat}
theorem at_adv {w : List Nat} {sep : Bool} {q : Nat} (hq : ∀ x ∈ w, kN x = q) (hw : 0 < w.length) (hq4 : q ≠ 4) (hq0 : q ≠ 0) (h3 : q = 3 → w.length = 1) (hp : q = 3 ∨ OTH q post) (H : ATp M bs c h pre (spc sep ++ (w ++ post))) : ATp (fX7_advance M) bs c (h + 1) (pre ++ (spc sep ++ w)) post ∧ Fr sT M (fX7_advance M) := by
  obtain ⟨H1, H2, H3⟩ := H
  obtain ⟨t1, t2, t3⟩ := tok_at hq hw hq4 h3 hp H3
  obtain ⟨a1, a2⟩ := pc_adv H1 (by rw [H2, t2]; exact hq0)
  refine ⟨⟨a1, ?_, by rw [H3]; simp only [List.append_assoc]⟩, a2⟩
  show tkE (tbL bs) bs.length (tE (tbL bs) bs.length h) = _
  rw [H2, t3, List.length_append, List.length_append, Nat.add_assoc]
theorem rd_num {a L Hi : Nat} {l hi : Int32} {sep : Bool} (ha : a < 1000) (hl : l = nI L) (hh : hi = nI Hi) (hL : L ≤ a) (hH : a ≤ Hi) (hH9 : Hi ≤ 999) (hp : OTH 2 post) (H : ATp M bs c h pre (spc sep ++ (dgN a ++ post))) :
    ∃ M', fX7_takeNumber M l hi = some (nI a, M') ∧ ATp M' bs c (h + 1) (pre ++ (spc sep ++ dgN a)) post ∧ Fr sT M M' := by
  have d0 := dgN_0 a
  obtain ⟨b1, b2⟩ := at_adv (dgN_k a ha) d0.1 (by decide) (by decide) (fun x => absurd x (by decide)) (Or.inr hp) H
  obtain ⟨H1, H2, H3⟩ := H
  obtain ⟨t1, t2, t3⟩ := tok_at (dgN_k a ha) d0.1 (by decide) (fun x => absurd x (by decide)) (Or.inr hp) H3
  have ev : nuS (tbL bs) bs.length (tE (tbL bs) bs.length h) = a := by
    unfold nuS
    rw [H2, t3, t1, Nat.add_sub_cancel_left]
    refine ws_dg ha fun i hi => ?_
    unfold tbL
    rw [H3, Nat.add_assoc, nd_r, nd_r, nd_l hi]
  refine ⟨fX7_advance M, ?_, b1, b2⟩
  rcases pc_num hl hh (by omega) hH9 H1 with ⟨h1, h2, h3, h4⟩ | ⟨e, M', h1, h2, h3, h4⟩
  · rw [ev] at h4
    exact h4
  · exfalso
    rw [ev, H2, t2] at h4
    rcases h4 with ⟨_, h4⟩ | ⟨_, _, h4⟩
    · exact h4 rfl
    · exact h4 ⟨hL, hH⟩
theorem mt_ok {tb : Nat → Nat} {b : Nat} {w : List Nat} (h : ∀ i, i < w.length → tb (b + i) = w.getD i 0) : ∀ d v, v + d = w.length → mtS tb b (w.map nI) d v = true
  | 0, _, _ => rfl
  | d + 1, v, e => by
    rw [mtS, mt_ok h d (v + 1) (by omega), Bool.and_true]
    refine decide_eq_true ?_
    rw [h v (by omega), List.getD_eq_getElem?_getD, List.getD_eq_getElem?_getD, List.getElem?_map, List.getElem?_eq_getElem (show v < w.length by omega)]
    rfl
theorem rd_word {j : Nat} {w : List Nat} (hj : j < 15) (hs : sby j = w.map nI) (hk : ∀ x ∈ w, kN x = 1) (hw : 0 < w.length) (hp : OTH 1 post) (H : ATp M bs c h pre (w ++ post)) :
    fX7_atWord M j = some 1 ∧ fX7_takeWord M j = some (1, fX7_advance M) ∧ ATp (fX7_advance M) bs c (h + 1) (pre ++ w) post ∧ Fr sT M (fX7_advance M) := by
  obtain ⟨b1, b2⟩ := at_adv (sep := false) hk hw (by decide) (by decide) (fun x => absurd x (by decide)) (Or.inr hp) H
  obtain ⟨H1, H2, H3⟩ := H
  obtain ⟨t1, t2, t3⟩ := tok_at (sep := false) hk hw (by decide) (fun x => absurd x (by decide)) (Or.inr hp) H3
  have z : (spc false).length = 0 := rfl
  rw [z, Nat.add_zero] at t1 t3
  have e : fX7_atWord M j = some 1 := by
    rw [pc_word hj H1, H2, wdS, t2, t3, t1, Nat.add_sub_cancel_left, hs, List.length_map, mt_ok (fun i hi => by unfold tbL; rw [H3, nd_r, nd_l hi]) w.length 0 (Nat.zero_add _), decide_eq_true rfl, decide_eq_true rfl]
    rfl
  refine ⟨e, ?_, b1, b2⟩
  rw [fX7_takeWord]
  exact bd e (cn (by decide) rfl)
/-- another word, or the end, isn't the word -/
theorem rd_noW {j : Nat} {w : List Nat} (hj : j < 15) (hl : (sby j).length ≠ w.length) (hk : ∀ x ∈ w, kN x = 1) (hw : 0 < w.length) (hp : OTH 1 post) (H : ATp M bs c h pre (w ++ post)) : fX7_atWord M j = some 0 := by
  obtain ⟨H1, H2, H3⟩ := H
  obtain ⟨t1, t2, t3⟩ := tok_at (sep := false) hk hw (by decide) (fun x => absurd x (by decide)) (Or.inr hp) H3
  have z : (spc false).length = 0 := rfl
  rw [z, Nat.add_zero] at t1 t3
  rw [pc_word hj H1, H2, wdS, t3, t1, Nat.add_sub_cancel_left, decide_eq_false (show ¬ w.length = (sby j).length from fun e => hl e.symm), Bool.false_and, Bool.and_false]
  rfl
theorem rd_noE {j : Nat} (hj : j < 15) (H : ATp M bs c h pre []) : fX7_atWord M j = some 0 := by
  obtain ⟨H1, H2, H3⟩ := H
  rw [List.append_nil] at H3
  subst H3
  rw [pc_word hj H1, H2, wdS, end_at]
  rfl
theorem rd_sign (H : ATp M bs c h pre (59 :: post)) : ∃ M', fX7_takeSign M 59 = some (1, M') ∧ ATp M' bs c (h + 1) (pre ++ [59]) post ∧ Fr sT M M' := by
  have hk : ∀ x ∈ [59], kN x = 3 := by decide
  obtain ⟨b1, b2⟩ := at_adv (sep := false) (w := [59]) hk (by decide) (by decide) (by decide) (fun _ => rfl) (Or.inl rfl) H
  obtain ⟨H1, H2, H3⟩ := H
  obtain ⟨t1, t2, t3⟩ := tok_at (sep := false) (w := [59]) hk (by decide) (by decide) (fun _ => rfl) (Or.inl rfl) H3
  have z : (spc false).length = 0 := rfl
  rw [z, Nat.add_zero] at t1
  have e : fX7_atSign M 59 = some 1 := by
    rw [pc_sign (k := 59) (L := 59) rfl (by decide) H1, H2, sgS, t2, t1]
    have : tbL bs pre.length = 59 := by
      have := nd_r (l := pre) (l2 := 59 :: post) (i := 0)
      rw [Nat.add_zero, ← H3] at this
      exact this
    rw [this]
    rfl
  refine ⟨fX7_advance M, ?_, b1, b2⟩
  rw [fX7_takeSign]
  exact bd e (cn (by decide) rfl)
theorem rd_end (H : ATp M bs c h pre []) : fX7_takeEnd M = some (1, M) := by
  obtain ⟨H1, H2, H3⟩ := H
  rw [List.append_nil] at H3
  subst H3
  rw [fX7_takeEnd]
  have e : fX7_atKind M 0 = some 1 := by rw [pc_kd H1, H2, end_at, if_pos (show nI 0 = (0 : Int32) from rfl)]
  exact bd e (cn (by decide) rfl)
end RDS
