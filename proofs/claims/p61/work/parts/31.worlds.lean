/-! worlds that grow and shrink in the law's methods; contracts with a cost; the law's script -/
theorem shC_app {sh : Sh} {rs ys : List Rf} (h : shC sh rs) (hy : ∀ x ∈ ys, ∀ j, refj x j = true → ∀ y, sh x j = some y → y ∈ ys) : shC sh (rs ++ ys) := by
  intro x hx j hj y hxy
  rcases List.mem_append.mp hx with h1 | h1
  · exact List.mem_append_left _ (h x h1 j hj y hxy)
  · exact List.mem_append_right _ (hy x h1 j hj y hxy)
/-- what a group of new things holds lies in the group -/
def clo (ys : List Rf) : Prop := ∀ x ∈ ys, ∀ j, refj x j = true → ∀ y, SH x j = some y → y ∈ ys
def wvA (wv : Wv) (ys : List Rf) (h : (wv.1 ++ ys).Nodup ∧ clo ys) : Wv := ⟨wv.1 ++ ys, h.1, fun r hr => List.mem_append_left _ (wv.2.2.1 r hr), shC_app wv.2.2.2 h.2⟩
theorem alU {wv : Wv} {ys : List Rf} {h : (wv.1 ++ ys).Nodup ∧ clo ys} {r : Rf} (hr : r ∈ allR wv) : r ∈ allR (wvA wv ys h) := List.mem_append_left _ hr
theorem al0 {wv : Wv} {y : Rf} {ys : List Rf} {h : (wv.1 ++ (y :: ys)).Nodup ∧ clo (y :: ys)} : y ∈ allR (wvA wv (y :: ys) h) := List.mem_append_right _ List.mem_cons_self
theorem alN {wv : Wv} {y : Rf} {ys : List Rf} {h : (wv.1 ++ ys).Nodup ∧ clo ys} (hy : y ∈ ys) : y ∈ allR (wvA wv ys h) := List.mem_append_right _ hy
def owR (k : Nat) : List Rf := [(18, k, 0), (20, k, 0), (19, k, 0), (19, k, 1), (19, k, 2), (19, k, 3), (19, k, 4), (19, k, 5)]
theorem owU {wv : Wv} {ys : List Rf} {h : (wv.1 ++ ys).Nodup ∧ clo ys} {k : Nat} (hk : OwI wv k) : OwI (wvA wv ys h) k := ⟨alU hk.1, alU hk.2.1, fun p hp => alU (hk.2.2 p hp)⟩
theorem ow0 {wv : Wv} {k : Nat} {h : (wv.1 ++ owR k).Nodup ∧ clo (owR k)} : OwI (wvA wv (owR k) h) k := by
  refine ⟨alN (by simp [owR]), alN (by simp [owR]), fun p hp => alN ?_⟩
  have : p = 0 ∨ p = 1 ∨ p = 2 ∨ p = 3 ∨ p = 4 ∨ p = 5 := by omega
  rcases this with rfl | rfl | rfl | rfl | rfl | rfl <;> simp [owR]
def TbI (wv : Wv) (z : Nat) : Prop := (24, z, 0) ∈ allR wv ∧ (25, z, 0) ∈ allR wv
def StI (wv : Wv) (z : Nat) : Prop := (28, z, 0) ∈ allR wv ∧ (29, z, 0) ∈ allR wv
theorem tbU {wv : Wv} {ys : List Rf} {h : (wv.1 ++ ys).Nodup ∧ clo ys} {z : Nat} (hk : TbI wv z) : TbI (wvA wv ys h) z := ⟨alU hk.1, alU hk.2⟩
theorem stU {wv : Wv} {ys : List Rf} {h : (wv.1 ++ ys).Nodup ∧ clo ys} {z : Nat} (hk : StI wv z) : StI (wvA wv ys h) z := ⟨alU hk.1, alU hk.2⟩
theorem tb0 {wv : Wv} {z : Nat} {h : (wv.1 ++ [(24, z, 0), (25, z, 0)]).Nodup ∧ clo [(24, z, 0), (25, z, 0)]} : TbI (wvA wv [(24, z, 0), (25, z, 0)] h) z := ⟨al0, alN (by simp)⟩
theorem st0 {wv : Wv} {z : Nat} {h : (wv.1 ++ [(28, z, 0), (29, z, 0)]).Nodup ∧ clo [(28, z, 0), (29, z, 0)]} : StI (wvA wv [(28, z, 0), (29, z, 0)] h) z := ⟨al0, alN (by simp)⟩
/-- what isn't in the world -/
def FrI (wv : Wv) (zs : List Rf) : Prop := ∀ r ∈ zs, r ∉ allR wv
/-- names that the law's methods make for a while -/
def vol (b : Nat) (r : Rf) : Bool := (Nat.ble 21 r.1 && Nat.ble r.1 22) || (Nat.ble 24 r.1 && Nat.ble r.1 29 && Nat.ble r.2.1 b) || (Nat.ble 18 r.1 && Nat.ble r.1 20 && Nat.ble 50 r.2.1)
def NoV (wv : Wv) (b : Nat) : Prop := ∀ r ∈ allR wv, vol b r = false
theorem fr_of {wv : Wv} {b : Nat} {zs : List Rf} (hV : NoV wv b) (h : zs.all (vol b) = true) : FrI wv zs := fun r hr hm => by
  have h1 := List.all_eq_true.mp h r hr
  rw [hV r hm] at h1
  cases h1
theorem frS {wv : Wv} {zs ys : List Rf} (hf : FrI wv zs) (h : (ys.all fun y => zs.contains y) = true) : FrI wv ys := fun r hr => hf r (by
  have h1 := List.all_eq_true.mp h r hr
  simpa using h1)
theorem frU {wv : Wv} {zs ys : List Rf} {hn : (wv.1 ++ ys).Nodup ∧ clo ys} (hf : FrI wv zs) (h : (zs.all fun z => !ys.contains z) = true) : FrI (wvA wv ys hn) zs := fun r hr hm => by
  rcases List.mem_append.mp hm with h1 | h1
  · exact hf r hr h1
  · have h2 := List.all_eq_true.mp h r hr
    simp [h1] at h2
theorem nvS {wv : Wv} {b : Nat} (h : NoV wv b) : NoV wv b := h
theorem vol_le {b c : Nat} {r : Rf} (hbc : b ≤ c) (h : vol c r = false) : vol b r = false := by
  unfold vol at *
  simp only [Bool.or_eq_false_iff, Bool.and_eq_false_iff] at *
  refine ⟨⟨h.1.1, ?_⟩, h.2⟩
  rcases h.1.2 with h1 | h1
  · exact Or.inl h1
  · refine Or.inr ?_
    rw [← Bool.not_eq_true, Nat.ble_eq] at h1 ⊢
    omega
theorem nv_0 {wv : Wv} {b : Nat} (h : NoV wv b) : NoV wv 0 := fun r hr => vol_le (Nat.zero_le b) (h r hr)
theorem nvA {wv : Wv} {b : Nat} {ys : List Rf} {hn : (wv.1 ++ ys).Nodup ∧ clo ys} (h : NoV wv b) (hy : (ys.all fun y => !vol b y) = true) : NoV (wvA wv ys hn) b := fun r hr => by
  rcases List.mem_append.mp hr with h1 | h1
  · exact h r h1
  · simpa using List.all_eq_true.mp hy r h1
def SubW (w0 wv : Wv) : Prop := ∀ r ∈ allR w0, r ∈ allR wv
theorem swR {wv : Wv} : SubW wv wv := fun _ h => h
theorem swA {wv : Wv} {ys : List Rf} {h : (wv.1 ++ ys).Nodup ∧ clo ys} : SubW wv (wvA wv ys h) := fun _ hr => alU hr
theorem swU {w0 wv : Wv} {ys : List Rf} {h : (wv.1 ++ ys).Nodup ∧ clo ys} (hw : SubW w0 wv) : SubW w0 (wvA wv ys h) := fun r hr => alU (hw r hr)
theorem nd_A {wv : Wv} {ys : List Rf} (hf : FrI wv ys) (h : ys.Nodup) : (wv.1 ++ ys).Nodup := List.nodup_append.mpr ⟨wv.2.1, h, fun a ha b hb e => hf b hb (by rw [← e]; exact ha)⟩
/-- an end that minds no place of such names -/
def QN (b : Nat) (Q : QF) : Prop := ∀ (below : List Frame) (args : Array Value) (s : State) (D : va_G) (tc : Nat → ClassId) (ad ad' : Rf → Nat) (A : Nat → Prop) (t : State), (∀ r, vol b r = false → ad' r = ad r) → Q below args s D tc ad' A t → Q below args s D tc ad A t
theorem wl_ad {tc : Nat → ClassId} {ad ad' : Rf → Nat} {sh : Sh} {M : Mm} {rs : List Rf} (hc : shC sh rs) (h : ∀ r ∈ rs, ad' r = ad r) : wl tc ad' sh M rs = wl tc ad sh M rs := by
  rw [wl, wl]
  refine List.map_congr_left fun x hx => ?_
  rw [h x hx, ent_cong (fun j hj => ?_) (fun _ => rfl) (fun _ => rfl)]
  cases he : sh x j with
  | none => rfl
  | some y => exact congrArg some (h y (hc x hx j hj y he))
theorem qm_N {wv : Wv} {b mc ms : Nat} {sh : Sh} {PR : Option Value → Mm → Prop} {PX : String → Mm → Prop} (hV : NoV wv b) (hsh : sh = SH := by rfl) : QN b (QM sh (allR wv) mc ms PR PX) := by
  subst hsh
  intro below args s D tc ad ad' A t h hq
  have e : ∀ M, wl tc ad' SH M (allR wv) = wl tc ad SH M (allR wv) := fun M => wl_ad wv.2.2.2 (fun r hr => h r (hV r hr))
  unfold QM Qs Xs Wd at hq ⊢
  simp only [e] at hq
  exact hq
theorem vol30 {b : Nat} {r : Rf} (h : 30 ≤ r.1) : vol b r = false := by
  unfold vol
  have h1 : Nat.ble r.1 29 = false := by rw [← Bool.not_eq_true, Nat.ble_eq]; omega
  have h2 : Nat.ble r.1 20 = false := by rw [← Bool.not_eq_true, Nat.ble_eq]; omega
  have h3 : Nat.ble r.1 22 = false := by rw [← Bool.not_eq_true, Nat.ble_eq]; omega
  rw [h1, h2, h3]
  simp
theorem qa_N {b : Nat} {Q : QF} {r : Rf} (hQ : QN b Q) (hr : vol b r = true) : QA Q r := fun below args s D tc ad q A t => hQ below args s D tc ad (adN ad r q) A t (fun x hx => adN_o (fun e => by rw [e, hr] at hx; cases hx))
section ZW
variable {own : String} {cc : ByteArray} {nL : Nat} {rt : Option FieldType} {xt : List ExceptionTableEntry} {nme : String} {R : Room} {Q : QF} {rs rs' : List Rf} {sh sh' : Sh} {cells slots pc : Nat} {ls : List (Option MV)} {st stk : List MV} {M M' : Mm}
/-- things are forgotten -/
theorem z_sub {w0 wv : Wv} {sh : Sh} (hw : SubW w0 wv) (k : Z own cc nL rt xt nme R Q (allR w0) sh cells slots pc ls st M) : Z own cc nL rt xt nme R Q (allR wv) sh cells slots pc ls st M := by
  intro p l e s m args below meth c D tc ad A H locs lsA C hP hS hl
  obtain ⟨c1, c2, c3, c4, c5, c6, c7, c8, c9, c10, c11, c12, c13, c14⟩ := C
  refine k p l e s m args below meth c D tc ad A H locs lsA ⟨c1, c2, c3, c4, c5, c6, c7, c8, c9, c10, c11, c12, fun r hr => c13 r (hw r hr), fun r hr r' hr' => c14 r (hw r hr) r' (hw r' hr')⟩ ?_ hS hl
  intro k q hk
  rw [wl, List.getElem?_map] at hk
  cases hr : (allR w0)[k]? with
  | none => rw [hr] at hk; cases hk
  | some r =>
    rw [hr] at hk
    cases hk
    obtain ⟨i, -, hi⟩ := wl_at (tc := tc) (ad := ad) (sh := sh) (M := M) (hw r (List.mem_of_getElem? hr))
    exact hP i _ hi
theorem z_wid {c1 s1 : Nat} (hc : cells ≤ c1) (hs : slots ≤ s1) (k : Z own cc nL rt xt nme R Q rs sh c1 s1 pc ls st M) : Z own cc nL rt xt nme R Q rs sh cells slots pc ls st M := fun p l e s m args below meth c D tc ad A H locs lsA C hP hS hl => W.widen hc hs (k p l e s m args below meth c D tc ad A H locs lsA C hP hS hl)
/-- another picture of the same -/
theorem z_cv (h : ∀ x ∈ rs, (∀ j, refj x j = true → sh' x j = sh x j) ∧ (∀ j, M'.1 x j = M.1 x j) ∧ ∀ j, M'.2 x j = M.2 x j) (k : Z own cc nL rt xt nme R Q rs sh' cells slots pc ls st M') : Z own cc nL rt xt nme R Q rs sh cells slots pc ls st M := by
  intro p l e s m args below meth c D tc ad A H locs lsA C hP hS hl
  have e1 : wl tc ad sh' M' rs = wl tc ad sh M rs := by
    rw [wl, wl]
    refine List.map_congr_left fun x hx => ?_
    obtain ⟨h1, h2, h3⟩ := h x hx
    rw [ent_cong (fun j hj => by rw [h1 j hj]) h2 h3]
  refine k p l e s m args below meth c D tc ad A H locs lsA C ?_ hS hl
  show va_P D vwCl (wl tc ad sh' M' rs) H
  rw [e1]
  exact hP
/-- the same things in another order -/
theorem z_perm (hp : ∀ r, r ∈ rs' ↔ r ∈ rs) (k : Z own cc nL rt xt nme R Q rs' sh cells slots pc ls st M) : Z own cc nL rt xt nme R Q rs sh cells slots pc ls st M := by
  intro p l e s m args below meth c D tc ad A H locs lsA C hP hS hl
  obtain ⟨c1, c2, c3, c4, c5, c6, c7, c8, c9, c10, c11, c12, c13, c14⟩ := C
  refine k p l e s m args below meth c D tc ad A H locs lsA ⟨c1, c2, c3, c4, c5, c6, c7, c8, c9, c10, c11, c12, fun r hr => c13 r ((hp r).mp hr), fun r hr r' hr' => c14 r ((hp r).mp hr) r' ((hp r').mp hr')⟩ ?_ hS hl
  intro k q hk
  rw [wl, List.getElem?_map] at hk
  cases hr : rs'[k]? with
  | none => rw [hr] at hk; cases hk
  | some r =>
    rw [hr] at hk
    cases hk
    obtain ⟨i, -, hi⟩ := wl_at (tc := tc) (ad := ad) (sh := sh) (M := M) ((hp r).mp (List.mem_of_getElem? hr))
    exact hP i _ hi
end ZW
/-! contracts with a cost -/
abbrev TC (wv : Wv) (y : MethodName) (c1 : ByteArray) (n1 : Nat) (rt1 : Option FieldType) (d mc ms : Nat) (av : List MV) (M : Mm) (v0 : Option Value) (M2 : Mm) : Prop := Tri y (.code y c1 n1 rt1) d mc ms SH (allR wv) av M (fun v M' => v = v0 ∧ M' = M2) (fun _ _ => False)
theorem TC.go {wv : Wv} {y : MethodName} {own nme : String} {cc : ByteArray} {nL : Nat} {rt : Option FieldType} {d mc ms : Nat} {av : List MV} {M M2 : Mm} {v0 : Option Value} {ls : List (Option MV)} {n : Nat}
    (hy : plainFor y = true) (ho : y.cls = own) (hm : y.name = nme) (hls : els av ++ List.replicate n none = ls) (hn : (els av).length.ble nL = true)
    (k : Z own cc nL rt [] nme (rmD d mc ms) (QM SH (allR wv) mc ms (fun v M' => v = v0 ∧ M' = M2) (fun _ _ => False)) (allR wv) SH 0 0 0 ls [] M) : TC wv y cc nL rt d mc ms av M v0 M2 :=
  Tri.of hy ho hm ls (fun ad => ⟨by rw [els_len]; exact Nat.le_of_ble_eq_true hn, fun i v h => els_pad ad (n := n) (by rw [hls]; exact h)⟩) k
theorem rmk_r {d n1 D MC MS c s : Nat} (h1 : d + 1 ≤ D) (h2 : 8 + (n1 + 11) + 31 * d ≤ 31 * D) (h3 : c ≤ MC) (h4 : s ≤ MS) : rmk d n1 (rmD D MC MS) c s = true := by
  simp only [rmk, rmD, Bool.and_eq_true, Nat.ble_eq]
  exact ⟨⟨⟨h1, h2⟩, h3⟩, h4⟩
/-- the room of a call with a cost -/
def rq (d n1 kc ks : Nat) (R : Room) (c s : Nat) : Prop := d + 1 ≤ R.frames ∧ 8 + (n1 + 11) + 31 * d ≤ R.locals ∧ c + kc ≤ R.cells ∧ s + ks ≤ R.slots
theorem rq_o {d n1 kc ks D MC MS c s : Nat} (h1 : d + 1 ≤ D) (h2 : 8 + (n1 + 11) + 31 * d ≤ 31 * D) (h3 : c + kc ≤ MC) (h4 : s + ks ≤ MS) : rq d n1 kc ks (rmD D MC MS) c s := ⟨h1, h2, h3, h4⟩
section ZG2
variable {own : String} {cc : ByteArray} {nL : Nat} {rt : Option FieldType} {xt : List ExceptionTableEntry} {nme : String} {R : Room} {Q : QF} {cells slots pc : Nat} {ls : List (Option MV)} {st stk : List MV} {M M2 : Mm}
theorem z_gSi {wv : Wv} {x : Int32} {idx n1 d n mc ms : Nat} {y : MethodName} {c1 : ByteArray} {rt1 : Option FieldType} {av : List MV} (hT : TC wv y c1 n1 rt1 d mc ms av M (some (.int x)) M2) (hd : decode cc pc = .ok (.invokestatic idx, 3)) (hw : lkS own idx y) (hcd : Cond.code y c1 n1 rt1 ∈ AL) (hn : av.length = n) (hy : mhOk y n = true) (hrm : rq d n1 mc ms R cells slots) (hst : (mcs st).ble 8 = true) (hstk : stk = av.reverse ++ st)
    (kk : Z own cc nL rt xt nme R Q (allR wv) SH (cells + mc) (slots + ms) (pc + 3) ls (.inl (.int x) :: st) M2) : Z own cc nL rt xt nme R Q (allR wv) SH cells slots pc ls stk M := by
  subst hn
  refine z_callS hT hd hw hcd hy hrm (Nat.le_of_ble_eq_true hst) hstk (fun v M1 h => ?_) (fun E M1 h => h.elim)
  obtain ⟨rfl, rfl⟩ := h
  exact kk
theorem z_zastB {n j : Nat} {r : Rf} {rs : List Rf} {sh : Sh} {i v : Int32} (hn : rs.Nodup) (hd : decode cc pc = .ok (.bastore, 1)) (hr : r ∈ rs) (hk : kd r = .inr (1, n)) (hin : ¬ (i < 0 ∨ n ≤ i.toNatClampNeg)) (hj : i.toNatClampNeg = j)
    (k : Z own cc nL rt xt nme R Q rs sh cells slots (pc + 1) ls st (putI M r j (bz v))) : Z own cc nL rt xt nme R Q rs sh cells slots pc ls (.inl (.int v) :: .inl (.int i) :: .inr r :: st) M := by
  subst hj
  intro p l e s m args below meth c D tc ad A H locs lsA C hP hS hl
  obtain ⟨q, hq0, hq⟩ := wl_at (tc := tc) (ad := ad) (sh := sh) (M := M) hr
  have he : ∀ M : Mm, ent tc ad sh M r = .inl (tc 1, n, .inl (M.1 r)) := fun M => by unfold ent; rw [hk]
  rw [he] at hq
  refine va_zast C.1 C.2.1 C.2.2.2.2.2.2.2.2.2.1 hP (Wd.D hn C sh M) hS q 1 hq rfl hin hd (fun H1 locs1 hP1 _ hS1 => ?_)
  have hv : vp_nar .boolean v = bz v := rfl
  rw [hv, upd_put, wl_set (M := M) (M' := putI M r i.toNatClampNeg (bz v)) hn hq0 (he _) (fun r' h => ent_other (putI_ne h) rfl)] at hP1
  exact k p l e s m args below meth c D tc ad A H1 locs1 lsA C hP1 hS1 hl
theorem z_aloadQ_n {rs : List Rf} {sh : Sh} {k : Fin 4} {i : Nat} {a : Nat} (hd : decode cc pc = .ok (.aload_n k, 1)) (hi : (k : Nat) = i) (hv : ls[i]? = some (some (.inl (.ref a)))) (k : Z own cc nL rt xt nme R Q rs sh cells slots (pc + 1) ls (.inl (.ref a) :: st) M) : Z own cc nL rt xt nme R Q rs sh cells slots pc ls st M := fun p l e s m args below meth c D tc ad A H locs lsA C hP hS hl => lv_aload_n C.1 C.2.1 hd hi (hl.2.2 i _ hv) (k p l e s m args below meth c D tc ad A H locs lsA C hP hS hl)
end ZG2
