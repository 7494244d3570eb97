/-! the law's worlds: the class, its own boxes 0 .. p, the row of past boxes -/
def owsR : Nat → List Rf
  | 0 => owR 0
  | p + 1 => owsR p ++ owR (p + 1)
theorem owR_i {k : Nat} {x : Rf} (h : x ∈ owR k) : x.2.1 = k ∧ 18 ≤ x.1 ∧ x.1 ≤ 20 := by
  simp only [owR, List.mem_cons, List.not_mem_nil, or_false] at h
  rcases h with rfl | rfl | rfl | rfl | rfl | rfl | rfl | rfl <;> exact ⟨rfl, by simp, by simp⟩
theorem mem_ows {p : Nat} {x : Rf} : x ∈ owsR p ↔ ∃ k, k ≤ p ∧ x ∈ owR k := by
  induction p with
  | zero => exact ⟨fun h => ⟨0, Nat.le_refl _, h⟩, fun ⟨k, h1, h2⟩ => by rw [Nat.le_zero.mp h1] at h2; exact h2⟩
  | succ p ih =>
    rw [owsR, List.mem_append, ih]
    constructor
    · rintro (⟨k, h1, h2⟩ | h)
      · exact ⟨k, by omega, h2⟩
      · exact ⟨p + 1, Nat.le_refl _, h⟩
    · rintro ⟨k, h1, h2⟩
      by_cases e : k = p + 1
      · exact Or.inr (e ▸ h2)
      · exact Or.inl ⟨k, by omega, h2⟩
theorem nd_owR {k : Nat} : (owR k).Nodup := by simp [owR]
theorem nd_ows : ∀ p : Nat, (owsR p).Nodup
  | 0 => nd_owR
  | p + 1 => List.nodup_append.mpr ⟨nd_ows p, nd_owR, fun a ha b hb e => by
      obtain ⟨k, h1, h2⟩ := mem_ows.mp ha
      have := (owR_i h2).1
      have := (owR_i hb).1
      subst e
      omega⟩
theorem cl_17 : ∀ x ∈ clR, x.1 ≤ 17 := by decide +kernel
def lsP (p : Nat) : List Rf := clR ++ (owsR p ++ [(23, p, 0)])
theorem mem_P {p : Nat} {x : Rf} : x ∈ lsP p ↔ x ∈ clR ∨ (∃ k, k ≤ p ∧ x ∈ owR k) ∨ x = (23, p, 0) := by
  rw [lsP, List.mem_append, List.mem_append, mem_ows, List.mem_singleton]
theorem nd_P {p : Nat} : (lsP p).Nodup := by
  refine List.nodup_append.mpr ⟨nd_cl, List.nodup_append.mpr ⟨nd_ows p, by simp, fun a ha b hb e => ?_⟩, fun a ha b hb e => ?_⟩
  · obtain ⟨k, h1, h2⟩ := mem_ows.mp ha
    have := (owR_i h2).2.2
    rw [List.mem_singleton.mp hb] at e
    rw [e] at this
    exact absurd this (by show ¬ 23 ≤ 20; decide)
  · have h1 := cl_17 a ha
    subst e
    rcases List.mem_append.mp hb with h | h
    · obtain ⟨k, _, h2⟩ := mem_ows.mp h
      have := (owR_i h2).2.1
      omega
    · rw [List.mem_singleton.mp h] at h1
      exact absurd h1 (by show ¬ 23 ≤ 17; decide)
theorem ow18 {k : Nat} : ((18, k, 0) : Rf) ∈ owR k := List.mem_cons_self
theorem clo_P {p : Nat} : shC SH (lsP p) := by
  intro x hx j hj y hy
  rcases mem_P.mp hx with h | ⟨k, h1, h2⟩ | h
  · exact mem_P.mpr (Or.inl (clR_clo x h j hj y hy))
  · exact mem_P.mpr (Or.inr (Or.inl ⟨k, h1, clo_ow x h2 j hj y hy⟩))
  · subst h
    have hy : (if j < p then some ((18, j, 0) : Rf) else none) = some y := hy
    by_cases hjp : j < p
    · rw [if_pos hjp] at hy
      cases hy
      exact mem_P.mpr (Or.inr (Or.inl ⟨j, by omega, ow18⟩))
    · rw [if_neg hjp] at hy; cases hy
def wvP (p : Nat) : Wv := ⟨lsP p, nd_P, fun r hr => mem_P.mpr (Or.inl hr), clo_P⟩
theorem owP {p k : Nat} (h : k ≤ p) : OwI (wvP p) k := by
  have hm : ∀ x, x ∈ owR k → x ∈ allR (wvP p) := fun x hx => mem_P.mpr (Or.inr (Or.inl ⟨k, h, hx⟩))
  refine ⟨hm _ ow18, hm _ (by simp [owR]), fun q hq => hm _ ?_⟩
  have : q = 0 ∨ q = 1 ∨ q = 2 ∨ q = 3 ∨ q = 4 ∨ q = 5 := by omega
  rcases this with rfl | rfl | rfl | rfl | rfl | rfl <;> simp [owR]
theorem vol_17 {b : Nat} {x : Rf} (h : x.1 ≤ 17) : vol b x = false := by
  unfold vol
  have h1 : Nat.ble 21 x.1 = false := by rw [← Bool.not_eq_true, Nat.ble_eq]; omega
  have h2 : Nat.ble 24 x.1 = false := by rw [← Bool.not_eq_true, Nat.ble_eq]; omega
  have h3 : Nat.ble 18 x.1 = false := by rw [← Bool.not_eq_true, Nat.ble_eq]; omega
  simp [h1, h2, h3]
theorem vol_ow {b k : Nat} {x : Rf} (hk : k < 50) (h : x ∈ owR k) : vol b x = false := by
  obtain ⟨e, h1, h2⟩ := owR_i h
  unfold vol
  have g1 : Nat.ble 21 x.1 = false := by rw [← Bool.not_eq_true, Nat.ble_eq]; omega
  have g2 : Nat.ble 24 x.1 = false := by rw [← Bool.not_eq_true, Nat.ble_eq]; omega
  have g3 : Nat.ble 50 x.2.1 = false := by rw [← Bool.not_eq_true, Nat.ble_eq]; omega
  simp [g1, g2, g3]
theorem nvP {p b : Nat} (hp : p < 50) : NoV (wvP p) b := by
  intro r hr
  rcases mem_P.mp hr with h | ⟨k, h1, h2⟩ | h
  · exact vol_17 (cl_17 r h)
  · exact vol_ow (by omega) h2
  · subst h; rfl
theorem frP {p k : Nat} (h : p < k) : FrI (wvP p) (owR k) := by
  intro r hr hm
  obtain ⟨e, h1, h2⟩ := owR_i hr
  rcases mem_P.mp hm with h' | ⟨q, q1, q2⟩ | h'
  · have := cl_17 r h'
    omega
  · have := (owR_i q2).1
    omega
  · subst h'; exact absurd h2 (by show ¬ 23 ≤ 20; decide)
theorem m23 {p : Nat} : ((23, p, 0) : Rf) ∈ allR (wvP p) := mem_P.mpr (Or.inr (Or.inr rfl))
theorem sh_23 {x : Rf} {j n c : Nat} (h : SH x j = some (23, n, c)) : False := by
  unfold SH at h
  split at h
  case h_1 => have := gd_mem h; simp at this
  case h_3 => have := gd_mem h; simp at this
  case h_4 => have := gd_mem h; simp at this
  case h_5 => have := gd_mem h; simp at this
  all_goals first
    | (simp at h; done)
    | (split at h <;> (simp at h; done))
section Z70
variable {own : String} {cc : ByteArray} {nL : Nat} {rt : Option FieldType} {xt : List ExceptionTableEntry} {nme : String} {R : Room} {Q : QF} {rs rs' : List Rf} {sh sh' : Sh} {cells slots pc : Nat} {ls : List (Option MV)} {st stk : List MV} {M M' : Mm}
theorem z_aaldO {p j : Nat} {i : Int32} (hd : decode cc pc = .ok (.aaload, 1)) (hi : i.toNatClampNeg = j) (hi0 : ¬ i < 0) (hj : j < p) (hp : p ≤ 42)
    (k : Z own cc nL rt xt nme R Q (allR (wvP p)) SH cells slots (pc + 1) ls (.inr (18, j, 0) :: st) M) : Z own cc nL rt xt nme R Q (allR (wvP p)) SH cells slots pc ls (.inl (.int i) :: .inr (23, p, 0) :: st) M := by
  subst hi
  intro p' l e s m args below meth c D tc ad A H locs lsA C hP hS hl
  obtain ⟨q, -, hq⟩ := wl_at (tc := tc) (ad := ad) (sh := SH) (M := M) (m23 (p := p))
  rw [show ent tc ad SH M (23, p, 0) = .inl (tc 6, 42, .inr (.inr (.inr (.inr (fun j => if j < 42 then (SH (23, p, 0) j).map ad else none))))) from rfl] at hq
  refine va_aldq C.1 C.2.1 C.2.2.2.2.2.2.2.2.2.1 hP q 6 hq rfl (fun h => by rcases h with h | h; exact hi0 h; omega) hd ?_
  rw [if_pos (by omega), show SH (23, p, 0) i.toNatClampNeg = some (18, i.toNatClampNeg, 0) from if_pos hj]
  exact k p' l e s m args below meth c D tc ad A H locs lsA C hP hS hl
/-- a constructor of a nest mate -/
theorem z_cGIN {idx n1 d n mc ms : Nat} {y : MethodName} {host : String} {c1 : ByteArray} {av : List MV} {chg : List Rf} {r : Rf} (hT : TG y c1 n1 none d mc ms chg rs sh (.inr r :: av) M none rs' sh' M') (hd : decode cc pc = .ok (.invokespecial idx, 3)) (hw : lkN own idx y host) (hcd : Cond.code y c1 n1 none ∈ AL) (hyn : y.name = "<init>") (hn : av.length = n) (hy : mhOk y n = true)
    (hrm : rq d n1 mc ms R cells slots) (hms : (mcs st).ble 8 = true) (hstk : stk = av.reverse ++ .inr r :: st) (hQ : QI chg Q) (h30 : (chg.all fun r => Nat.blt r.1 30) = true) (hls : noC chg ls = true) (hst : noS chg st = true)
    (kk : Z own cc nL rt xt nme R Q rs' sh' (cells + mc) (slots + ms) (pc + 3) ls st M') : Z own cc nL rt xt nme R Q rs sh cells slots pc ls stk M := by
  subst hn
  intro p l e s m args below meth c D tc ad A H locs lsA C hP hS hl
  have hts := C.2.2.2.2.1
  obtain ⟨y1, y2, y3⟩ := mhOk_spec hy
  have h9 := mcs_map (ad := ad) st
  exact z_runG (v := none) (a := (Value.ref (ad r) :: av.map (rv ad)).toArray) (st0 := stk.map (rv ad)) C hS hl (va_runIN (host := host) (g := F0 m pc lsA (stk.map (rv ad))) (rest := st.map (rv ad)) (locs := locs) (cells := cells) (slots := slots) (p := p) (l := l) (e := e) (below := below) (meth := meth) (Ts := AL) (As := av.map (rv ad)) (b := ad r) ⟨C.1, C.2.1, C.2.2.1, C.2.2.2.1, hts⟩ (hT.met l D tc ad H.size)
    ⟨va_cnB av.length hts (al_code hcd) rfl rfl rfl (C_nw C.2.2.2.2.2.2.2.2.2.2.2.1 (nst_in _ hw.1)) (hts _ hw.2.2) ⟨y1, y2, y3⟩ ⟨hrm.1, hrm.2.1⟩, hyn, hts _ hw.2.1⟩
    ⟨Ps.blind, C.pre hP hS _⟩ rfl (by rw [List.length_map]) hl.1 (by rw [hstk]; show (av.reverse ++ .inr r :: st).map (rv ad) = _; rw [List.map_append, List.map_reverse]; rfl) (lv_room (by rw [h9]; exact Nat.le_of_ble_eq_true hms)) hd ⟨hrm.2.2.1, hrm.2.2.2⟩) hQ h30 hls hst kk
/-- the row of past boxes has a new name when it holds one more -/
theorem z_ren23 {p : Nat} {ls' : List (Option MV)} (hp : p < 42) (hA : ((wvP p).1 ++ owR (p + 1)).Nodup) (hQ : QI [(23, p + 1, 0)] Q)
    (hls : ∀ (i : Nat) (v : MV), ls'[i]? = some (some v) → (v ≠ .inr (23, p + 1, 0) ∧ ls[i]? = some (some v)) ∨ (v = .inr (23, p + 1, 0) ∧ ls[i]? = some (some (.inr (23, p, 0))))) (hst : noS [(23, p + 1, 0)] st = true)
    (k : Z own cc nL rt xt nme R Q (allR (wvP (p + 1))) SH cells slots pc ls' st M) : Z own cc nL rt xt nme R Q ((wvP p).1 ++ owR (p + 1)) (shP SH (23, p, 0) p (some (18, p, 0))) cells slots pc ls st M := by
  intro p' l e s m args below meth c D tc ad A H locs lsA C hP hS hl
  have hn23 : ((23, p + 1, 0) : Rf) ∉ (wvP p).1 ++ owR (p + 1) := fun h => by
    rcases List.mem_append.mp h with h | h
    · rcases mem_P.mp h with h | ⟨q, _, h⟩ | h
      · exact absurd (cl_17 _ h) (by show ¬ 23 ≤ 17; decide)
      · exact absurd (owR_i h).2.2 (by show ¬ 23 ≤ 20; decide)
      · simp at h
    · exact absurd (owR_i h).2.2 (by show ¬ 23 ≤ 20; decide)
  have m0 : ((23, p, 0) : Rf) ∈ (wvP p).1 ++ owR (p + 1) := List.mem_append_left _ m23
  have hmem : ∀ x ∈ allR (wvP (p + 1)), x ≠ (23, p + 1, 0) → x ∈ (wvP p).1 ++ owR (p + 1) ∧ x ≠ (23, p, 0) := fun x hx hne => by
    rcases mem_P.mp hx with h | ⟨q, h1, h2⟩ | h
    · exact ⟨List.mem_append_left _ (mem_P.mpr (Or.inl h)), fun e => by rw [e] at h; exact absurd (cl_17 _ h) (by show ¬ 23 ≤ 17; decide)⟩
    · refine ⟨?_, fun e => by rw [e] at h2; exact absurd (owR_i h2).2.2 (by show ¬ 23 ≤ 20; decide)⟩
      by_cases e : q = p + 1
      · subst e; exact List.mem_append_right _ h2
      · exact List.mem_append_left _ (mem_P.mpr (Or.inr (Or.inl ⟨q, by omega, h2⟩)))
    · exact absurd h hne
  have g1 : ∀ r, r ∉ [((23, p + 1, 0) : Rf)] → adN ad (23, p + 1, 0) (ad (23, p, 0)) r = ad r := fun r hr => adN_o (fun e => hr (by rw [e]; exact List.mem_cons_self))
  have hAr := C.2.2.2.2.2.2.2.2.2.2.2.2.1
  have hinj := C.2.2.2.2.2.2.2.2.2.2.2.2.2
  have hC' : Cx own cc nL rt xt nme (allR (wvP (p + 1))) p' l s m args meth c D tc (adN ad (23, p + 1, 0) (ad (23, p, 0))) A := by
    refine C.ch (fun r hr => adN_o (fun e => by rw [e] at hr; exact absurd hr (by show ¬ 30 ≤ 23; decide))) (fun x hx => ?_) (fun x hx y hy e => ?_)
    · by_cases hx2 : x = (23, p + 1, 0)
      · rw [hx2, adN_s]; exact hAr _ m0
      · rw [adN_o hx2]; exact hAr _ (hmem x hx hx2).1
    · by_cases hx2 : x = (23, p + 1, 0)
      · by_cases hy2 : y = (23, p + 1, 0)
        · rw [hx2, hy2]
        · rw [hx2, adN_s, adN_o hy2] at e
          exact absurd (hinj _ m0 y (hmem y hy hy2).1 e).symm (hmem y hy hy2).2
      · by_cases hy2 : y = (23, p + 1, 0)
        · rw [hy2, adN_s, adN_o hx2] at e
          exact absurd (hinj x (hmem x hx hx2).1 _ m0 e) (hmem x hx hx2).2
        · rw [adN_o hx2, adN_o hy2] at e
          exact hinj x (hmem x hx hx2).1 y (hmem y hy hy2).1 e
  have hW : Wd D tc (adN ad (23, p + 1, 0) (ad (23, p, 0))) SH M (allR (wvP (p + 1))) H := by
    intro k2 q2 hk2
    have hm := List.mem_of_getElem? hk2
    obtain ⟨x, hx, rfl⟩ := List.mem_map.mp hm
    by_cases hx2 : x = (23, p + 1, 0)
    · obtain ⟨i, -, hi⟩ := wl_at (tc := tc) (ad := ad) (sh := shP SH (23, p, 0) p (some (18, p, 0))) (M := M) m0
      have h3 := hP i _ hi
      rw [hx2, adN_s]
      have e1 : ent tc (adN ad (23, p + 1, 0) (ad (23, p, 0))) SH M (23, p + 1, 0) = ent tc ad (shP SH (23, p, 0) p (some (18, p, 0))) M (23, p, 0) := by
        show Sum.inl (tc 6, 42, Sum.inr (Sum.inr (Sum.inr (Sum.inr (fun j => if j < 42 then (SH (23, p + 1, 0) j).map (adN ad (23, p + 1, 0) (ad (23, p, 0))) else none))))) = Sum.inl (tc 6, 42, Sum.inr (Sum.inr (Sum.inr (Sum.inr (fun j => if j < 42 then (shP SH (23, p, 0) p (some (18, p, 0)) (23, p, 0) j).map ad else none)))))
        have e2 : (fun j => if j < 42 then (SH (23, p + 1, 0) j).map (adN ad (23, p + 1, 0) (ad (23, p, 0))) else none) = fun j => if j < 42 then (shP SH (23, p, 0) p (some (18, p, 0)) (23, p, 0) j).map ad else none := by
          funext j
          by_cases h4 : j < 42
          · rw [if_pos h4, if_pos h4]
            have n1 : ∀ j : Nat, adN ad (23, p + 1, 0) (ad (23, p, 0)) (18, j, 0) = ad (18, j, 0) := fun j => adN_o (by simp)
            show ((if j < p + 1 then some ((18, j, 0) : Rf) else none)).map _ = (if ((23, p, 0) : Rf) = (23, p, 0) ∧ j = p then some ((18, p, 0) : Rf) else (if j < p then some (18, j, 0) else none)).map ad
            by_cases e5 : j = p
            · subst e5
              rw [if_pos (Nat.lt_succ_self _), if_pos ⟨rfl, rfl⟩]
              exact congrArg some (n1 _)
            · rw [show (if ((23, p, 0) : Rf) = (23, p, 0) ∧ j = p then some ((18, p, 0) : Rf) else (if j < p then some (18, j, 0) else none)) = (if j < p then some (18, j, 0) else none) from if_neg (fun c => e5 c.2)]
              by_cases h6 : j < p
              · rw [if_pos h6, if_pos (show j < p + 1 by omega)]
                exact congrArg some (n1 j)
              · rw [if_neg h6, if_neg (show ¬ j < p + 1 by omega)]
                rfl
          · rw [if_neg h4, if_neg h4]
        rw [e2]
      rw [e1]
      exact h3
    · obtain ⟨h4, h5⟩ := hmem x hx hx2
      obtain ⟨i, -, hi⟩ := wl_at (tc := tc) (ad := ad) (sh := shP SH (23, p, 0) p (some (18, p, 0))) (M := M) h4
      have h3 := hP i _ hi
      rw [adN_o hx2, ent_cong (ad := ad) (sh := shP SH (23, p, 0) p (some (18, p, 0))) (M := M) (fun j hj => ?_) (fun _ => rfl) (fun _ => rfl)]
      · exact h3
      · rw [sh_P1 h5]
        cases hs : SH x j with
        | none => rfl
        | some y => exact congrArg some (adN_o (fun e => by rw [e] at hs; exact sh_23 hs))
  have hk := k p' l e s m args below meth c D tc (adN ad (23, p + 1, 0) (ad (23, p, 0))) A H locs lsA hC' hW hS ⟨hl.1, hl.2.1, fun i u hi => by
    rcases hls i u hi with ⟨h1, h2⟩ | ⟨h1, h2⟩
    · rw [rv_N h1]; exact hl.2.2 i u h2
    · rw [h1]
      have := hl.2.2 i _ h2
      rw [this]
      exact congrArg (fun z => some (Slot.val (.ref z))) adN_s.symm⟩
  rw [show st.map (rv (adN ad (23, p + 1, 0) (ad (23, p, 0)))) = st.map (rv ad) from List.map_congr_left fun u hu => rv_c g1 (noS_s hst hu)] at hk
  exact w_mono (fun t => hQ below args s D tc ad _ A t g1) hk
end Z70
