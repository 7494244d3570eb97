/-! worlds that grow: what constructors make -/
/-- an end that speaks of the things rs alone -/
def QG (Q : QF) (rs : List Rf) : Prop := ∀ (below : List Frame) (args : Array Value) (s : State) (D : va_G) (tc : Nat → ClassId) (ad ad' : Rf → Nat) (A : Nat → Prop) (t : State), (∀ r ∈ rs, ad' r = ad r) → (∀ r : Rf, 30 ≤ r.1 → ad' r = ad r) → Q below args s D tc ad' A t → Q below args s D tc ad A t
def shN (sh : Sh) (r : Rf) : Sh := fun x j => if x = r then none else sh x j
def mN (M : Mm) (r : Rf) : Mm := (fun x j => if x = r then 0 else M.1 x j, fun x j => if x = r then 0 else M.2 x j)
def adN (ad : Rf → Nat) (r : Rf) (q : Nat) : Rf → Nat := fun x => if x = r then q else ad x
/-- nothing of rs holds r -/
def nrf (sh : Sh) (rs : List Rf) (r : Rf) : Prop := ∀ x ∈ rs, ∀ j, refj x j = true → sh x j ≠ some r
theorem nrf_of {sh : Sh} {rs : List Rf} {r : Rf} (hc : shC sh rs) (hr : r ∉ rs) : nrf sh rs r := fun x hx j hj h => hr (hc x hx j hj r h)
theorem adN_s {ad : Rf → Nat} {r : Rf} {q : Nat} : adN ad r q r = q := if_pos rfl
theorem adN_o {ad : Rf → Nat} {r x : Rf} {q : Nat} (h : x ≠ r) : adN ad r q x = ad x := if_neg h
theorem fv_cong {ad ad' : Rf → Nat} {sh sh' : Sh} {M M' : Mm} {x : Rf} (h2 : ∀ j, M'.1 x j = M.1 x j) : ∀ (ks : List Bool) (i : Nat), (∀ j, ks.getD j false = true → (sh' x (i + j)).map ad' = (sh x (i + j)).map ad) → fv ad' sh' M' x i ks = fv ad sh M x i ks
  | [], _, _ => rfl
  | b :: t, i, h1 => by
    rw [fv, fv, fv_cong (ad := ad) (ad' := ad') (sh := sh) (sh' := sh') h2 t (i + 1) (fun j hj => by rw [show i + 1 + j = i + (j + 1) by omega]; exact h1 (j + 1) (by simpa using hj)), h2]
    cases b with
    | false => rfl
    | true =>
      have := h1 0 rfl
      rw [Nat.add_zero] at this
      rw [this]
theorem ent_cong {tc : Nat → ClassId} {ad ad' : Rf → Nat} {sh sh' : Sh} {M M' : Mm} {x : Rf} (h1 : ∀ j, refj x j = true → (sh' x j).map ad' = (sh x j).map ad) (h2 : ∀ j, M'.1 x j = M.1 x j) (h3 : ∀ j, M'.2 x j = M.2 x j) : ent tc ad' sh' M' x = ent tc ad sh M x := by
  have e1 : M'.1 x = M.1 x := funext h2
  have e2 : M'.2 x = M.2 x := funext h3
  unfold refj at h1
  unfold ent
  cases hk : kd x with
  | inl q =>
    obtain ⟨ci, ks⟩ := q
    rw [hk] at h1
    show Sum.inr (ci, fv ad' sh' M' x 0 ks) = Sum.inr (ci, fv ad sh M x 0 ks)
    rw [fv_cong (ad := ad) (ad' := ad') (sh := sh) (sh' := sh') h2 ks 0 (fun j hj => by rw [Nat.zero_add]; exact h1 j hj)]
  | inr q =>
    obtain ⟨t, n⟩ := q
    rw [hk] at h1
    match t, h1 with
    | 0, _ => show Sum.inl (tc 0, n, Sum.inl (M'.1 x)) = Sum.inl (tc 0, n, Sum.inl (M.1 x)); rw [e1]
    | 1, _ => show Sum.inl (tc 1, n, Sum.inl (M'.1 x)) = Sum.inl (tc 1, n, Sum.inl (M.1 x)); rw [e1]
    | 2, _ => show Sum.inl (tc 2, n, Sum.inr (Sum.inl (M'.2 x))) = Sum.inl (tc 2, n, Sum.inr (Sum.inl (M.2 x))); rw [e2]
    | 3, _ => show Sum.inl (tc 3, (M'.1 x LG).toNatClampNeg, Sum.inl (M'.1 x)) = Sum.inl (tc 3, (M.1 x LG).toNatClampNeg, Sum.inl (M.1 x)); rw [e1]
    | t + 4, h1 =>
      have e3 : (fun j => if j < n then (sh' x j).map ad' else none) = fun j => if j < n then (sh x j).map ad else none := funext fun j => by
        by_cases hj : j < n
        · rw [if_pos hj, if_pos hj]; exact h1 j (by simp [hj])
        · rw [if_neg hj, if_neg hj]
      show Sum.inl (tc (t + 4), n, Sum.inr (Sum.inr (Sum.inr (Sum.inr (fun j => if j < n then (sh' x j).map ad' else none))))) = Sum.inl (tc (t + 4), n, Sum.inr (Sum.inr (Sum.inr (Sum.inr (fun j => if j < n then (sh x j).map ad else none)))))
      rw [e3]
theorem ent_N {tc : Nat → ClassId} {ad : Rf → Nat} {sh : Sh} {M : Mm} {rs : List Rf} {r x : Rf} {q : Nat} (hr : r ∉ rs) (hc : nrf sh rs r) (hx : x ∈ rs) : ent tc (adN ad r q) (shN sh r) (mN M r) x = ent tc ad sh M x := by
  have hne : x ≠ r := fun e => hr (e ▸ hx)
  refine ent_cong (fun j hj => ?_) (fun j => if_neg hne) (fun j => if_neg hne)
  rw [show shN sh r x j = sh x j from if_neg hne]
  cases h : sh x j with
  | none => rfl
  | some y => exact congrArg some (adN_o (fun e => hc x hx j hj (by rw [h, e])))
theorem wl_N {tc : Nat → ClassId} {ad : Rf → Nat} {sh : Sh} {M : Mm} {rs : List Rf} {r : Rf} {q : Nat} (hr : r ∉ rs) (hc : nrf sh rs r) : wl tc (adN ad r q) (shN sh r) (mN M r) (rs ++ [r]) = wl tc ad sh M rs ++ [(q, ent tc (adN ad r q) (shN sh r) (mN M r) r)] := by
  rw [wl, List.map_append, wl]
  refine congr (congrArg _ (List.map_congr_left fun x hx => ?_)) ?_
  · rw [ent_N hr hc hx, adN_o (fun e : x = r => hr (e ▸ hx))]
  · rw [List.map_cons, List.map_nil, adN_s]
/-- an end that minds no new place of r -/
def QA (Q : QF) (r : Rf) : Prop := ∀ (below : List Frame) (args : Array Value) (s : State) (D : va_G) (tc : Nat → ClassId) (ad : Rf → Nat) (q : Nat) (A : Nat → Prop) (t : State), Q below args s D tc (adN ad r q) A t → Q below args s D tc ad A t
theorem qa_G {Q : QF} {rs : List Rf} {r : Rf} (hQ : QG Q rs) (hr : r ∉ rs) (h30 : r.1 < 30) : QA Q r := fun below args s D tc ad q A t => hQ below args s D tc ad (adN ad r q) A t (fun x hx => adN_o (fun e => hr (e ▸ hx))) (fun x hx => adN_o (fun e => by rw [e] at hx; omega))
def noR (r : Rf) (v : MV) : Prop := v ≠ .inr r
theorem rv_N {ad : Rf → Nat} {r : Rf} {q : Nat} {v : MV} (h : v ≠ .inr r) : rv (adN ad r q) v = rv ad v := by
  cases v with
  | inl x => rfl
  | inr x => exact congrArg Value.ref (adN_o (fun e => h (e ▸ rfl)))
theorem w_mono {p : Program} {l : Launch} {e : Env} {R : Room} {s : State} {m : MethodId} {args : Array Value} {below : List Frame} {meth : Method} {c : Code} {H : Heap} {locs : List Loc} {cells slots : Nat} {Q Q' : State → Prop} {g : JFrame} (h : ∀ t, Q t → Q' t) (k : W p l e R s m args below meth c H locs cells slots Q g) : W p l e R s m args below meth c H locs cells slots Q' g := fun T hT X => by
  obtain ⟨t, a, q⟩ := k T hT X
  exact ⟨t, a, h t q⟩
section ZG
variable {own : String} {cc : ByteArray} {nL : Nat} {rt : Option FieldType} {xt : List ExceptionTableEntry} {nme : String} {R : Room} {Q : QF} {rs : List Rf} {sh : Sh} {cells slots pc : Nat} {ls : List (Option MV)} {st : List MV} {M : Mm}
theorem Cx.N {p : Program} {l : Launch} {s : State} {m : MethodId} {args : Array Value} {meth : Method} {c : Code} {D : va_G} {tc : Nat → ClassId} {ad : Rf → Nat} {A : Nat → Prop} {r : Rf} {q : Nat} (h30 : r.1 < 30) (hq : ∀ x ∈ rs, ad x ≠ q) (hA : A q) (C : Cx own cc nL rt xt nme rs p l s m args meth c D tc ad A) : Cx own cc nL rt xt nme (rs ++ [r]) p l s m args meth c D tc (adN ad r q) A := by
  obtain ⟨c1, c2, c3, c4, c5, c6, c7, c8, c9, c10, c11, c12, c13, c14⟩ := C
  have hk : ∀ x : Rf, 30 ≤ x.1 → adN ad r q x = ad x := fun x hx => adN_o (fun e => by rw [e] at hx; omega)
  refine ⟨c1, c2, c3, c4, c5, c6, c7, c8, c9, c10, c11, ?_, fun x hx => ?_, fun x hx y hy e => ?_⟩
  · exact c12.ad hk
  · by_cases e : x = r
    · rw [e, adN_s]; exact hA
    · rw [adN_o e]
      rcases List.mem_append.mp hx with h | h
      · exact c13 x h
      · exact absurd (List.mem_singleton.mp h) e
  · have old : ∀ z ∈ rs ++ [r], z ≠ r → z ∈ rs := fun z hz hne => by
      rcases List.mem_append.mp hz with h | h
      · exact h
      · exact absurd (List.mem_singleton.mp h) hne
    by_cases e1 : x = r
    · by_cases e2 : y = r
      · rw [e1, e2]
      · rw [e1, adN_s, adN_o e2] at e
        exact absurd e.symm (hq y (old y hy e2))
    · by_cases e2 : y = r
      · rw [e2, adN_s, adN_o e1] at e
        exact absurd e (hq x (old x hx e1))
      · rw [adN_o e1, adN_o e2] at e
        exact c14 x (old x hx e1) y (old y hy e2) e
theorem zl_N {ad : Rf → Nat} {lsA : Array Slot} {r : Rf} {q : Nat} (h : ∀ (i : Nat) (v : MV), ls[i]? = some (some v) → v ≠ .inr r) (hl : zl ad lsA nL ls) : zl (adN ad r q) lsA nL ls := ⟨hl.1, hl.2.1, fun i v hi => by rw [rv_N (h i v hi)]; exact hl.2.2 i v hi⟩
/-- what is apart: the last of a list of cells -/
theorem d_last {A : Nat → Prop} {tc : Nat → ClassId} {ad : Rf → Nat} {q : Nat} {x : va_E} (hD : va_D A (wl tc ad sh M rs ++ [(q, x)])) : (∀ y ∈ rs, ad y ≠ q) ∧ A q := by
  have hlen : (wl tc ad sh M rs).length = rs.length := by rw [wl, List.length_map]
  have hlast : (wl tc ad sh M rs ++ [(q, x)])[rs.length]? = some (q, x) := by
    rw [List.getElem?_append_right (by omega), hlen, Nat.sub_self]; rfl
  refine ⟨fun y hy e => ?_, hD.2 _ _ hlast⟩
  obtain ⟨k, hk, hq⟩ := wl_at (tc := tc) (ad := ad) (sh := sh) (M := M) hy
  have hkl : k < rs.length := (List.getElem?_eq_some_iff.mp hk).1
  have := hD.1 k rs.length _ _ (by rw [List.getElem?_append_left (by omega)]; exact hq) hlast e
  omega
theorem z_newF {ci idx : Nat} {r : Rf} {ks : List Bool} (hn : rs.Nodup) (hr : r ∉ rs) (h30 : r.1 < 30) (hd : decode cc pc = .ok (.new idx, 3)) (hw : Cond.classLink own idx (Rc ci) ∈ AL ∧ Cond.instantiable (Rc ci) (Nc ci) ∈ AL ∧ Cond.initialized (Rc ci) ∈ AL) (hk : kd r = .inl (ci, ks)) (hci : ci < 13)
    (hdf : ∀ j, j < Nc ci → defaultValue (tyc ci j) = vp_V (ks.map fun b => if b = true then .null else .int 0) j) (hc : nrf sh rs r) (hQ : QA Q r) (hls : ∀ (i : Nat) (v : MV), ls[i]? = some (some v) → v ≠ .inr r) (hst : ∀ v ∈ st, v ≠ .inr r) (hcells : cells + 1 ≤ R.cells) (hslots : slots + Nc ci ≤ R.slots)
    (k : Z own cc nL rt xt nme R Q (rs ++ [r]) (shN sh r) (cells + 1) (slots + Nc ci) (pc + 3) ls (.inr r :: st) (mN M r)) : Z own cc nL rt xt nme R Q rs sh cells slots pc ls st M := by
  intro p l e s m args below meth c D tc ad A H locs lsA C hP hS hl
  have hnd : va_D A (wl tc ad sh M rs) := Wd.D hn C sh M
  refine va_new (ci := ci) (fs := ks.map fun b => if b = true then .null else .int 0) (C := Rc ci) (T := Tc ci) (N := Nc ci) C.1 C.2.1 C.2.2.2.2.1 (inC ci hci) (tyc ci) (tyC ci hci) C.2.2.2.1 (C.2.2.2.2.1 _ hw.1) (C.2.2.2.2.1 _ hw.2.1) (C.2.2.2.2.1 _ hw.2.2) C.2.2.2.2.2.2.2.2.2.1 hP hnd hS C.2.2.2.2.2.2.2.2.2.2.1 (clC ci hci) hdf hcells hslots hd (fun q H1 hP1 hD1 hS1 => ?_)
  obtain ⟨d1, d2⟩ := d_last hD1
  refine w_mono (Q := Q below args s D tc (adN ad r q) A) (fun t => hQ below args s D tc ad q A t) ?_
  have hst2 : .ref q :: st.map (rv ad) = (.inr r :: st : List MV).map (rv (adN ad r q)) := by
    rw [List.map_cons]
    refine congr (congrArg _ (congrArg Value.ref adN_s.symm)) (List.map_congr_left fun v hv => (rv_N (hst v hv)).symm)
  rw [hst2]
  refine k p l e s m args below meth c D tc (adN ad r q) A H1 locs lsA (C.N h30 d1 d2) ?_ hS1 (zl_N hls hl)
  have he : ent tc (adN ad r q) (shN sh r) (mN M r) r = .inr (ci, ks.map fun b => if b = true then .null else .int 0) := by
    rw [ent_o hk]
    have : ∀ (ks : List Bool) (i : Nat), fv (adN ad r q) (shN sh r) (mN M r) r i ks = ks.map fun b => if b = true then .null else .int 0 := by
      intro ks
      induction ks with
      | nil => intro i; rfl
      | cons b t ih =>
        intro i
        rw [fv, ih, List.map_cons, show shN sh r r i = none from if_pos rfl, show (mN M r).1 r i = 0 from if_pos rfl]
        rfl
    rw [this]
  show va_P D vwCl (wl tc (adN ad r q) (shN sh r) (mN M r) (rs ++ [r])) H1
  rw [wl_N hr hc, he]
  exact hP1
theorem z_new {ci idx : Nat} {r : Rf} {ks : List Bool} (hn : rs.Nodup) (hr : r ∉ rs) (h30 : r.1 < 30) (hd : decode cc pc = .ok (.new idx, 3)) (hw : Cond.classLink own idx (Rc ci) ∈ AL ∧ Cond.instantiable (Rc ci) (Nc ci) ∈ AL ∧ Cond.initialized (Rc ci) ∈ AL) (hk : kd r = .inl (ci, ks)) (hci : ci < 13)
    (hdf : ∀ j, j < Nc ci → defaultValue (tyc ci j) = vp_V (ks.map fun b => if b = true then .null else .int 0) j) (hc : shC sh rs) (hQ : QG Q rs) (hls : ∀ (i : Nat) (v : MV), ls[i]? = some (some v) → v ≠ .inr r) (hst : ∀ v ∈ st, v ≠ .inr r) (hcells : cells + 1 ≤ R.cells) (hslots : slots + Nc ci ≤ R.slots)
    (k : Z own cc nL rt xt nme R Q (rs ++ [r]) (shN sh r) (cells + 1) (slots + Nc ci) (pc + 3) ls (.inr r :: st) (mN M r)) : Z own cc nL rt xt nme R Q rs sh cells slots pc ls st M :=
  z_newF hn hr h30 hd hw hk hci hdf (nrf_of hc hr) (qa_G hQ hr h30) hls hst hcells hslots k
theorem ra_inj {U : State} {a b : ClassId} {ty : FieldType} (h : va_RA U a ty) (h' : va_RA U b ty) : a = b := by
  cases ty with
  | object C =>
    obtain ⟨_, _, _, _, _, h4⟩ := h
    obtain ⟨_, _, _, _, _, h5⟩ := h'
    exact Option.some.inj (h4.symm.trans h5)
  | _ => exact Option.some.inj (Eq.trans (Eq.symm h) h')
theorem tc_is {D : va_G} {tc : Nat → ClassId} {s : State} {t : Nat} {cA : ClassId} {ty : FieldType} (hK : va_K D vwCl (tys tc) s) (ht : (tys tc)[t]? = some (tc t, ty)) (h : va_K D vwCl (tys tc ++ [(cA, ty)]) s) : cA = tc t := by
  have e : (tys tc ++ [(cA, ty)])[(tys tc).length]? = some (cA, ty) := by
    rw [List.getElem?_append_right (Nat.le_refl _), Nat.sub_self]; rfl
  exact ra_inj (h.2 _ _ e).2 (hK.2 _ _ ht).2
theorem z_newGF {r : Rf} {p : Program} {l : Launch} {e : Env} {s : State} {m : MethodId} {args : Array Value} {below : List Frame} {meth : Method} {c : Code} {D : va_G} {tc : Nat → ClassId} {ad : Rf → Nat} {A : Nat → Prop} {H1 : Heap} {locs : List Loc} {lsA : Array Slot} {q : Nat} {x : va_E} {pc2 cells2 slots2 : Nat}
    (C : Cx own cc nL rt xt nme rs p l s m args meth c D tc ad A) (hl : zl ad lsA nL ls) (hr : r ∉ rs) (h30 : r.1 < 30) (hc : nrf sh rs r) (hQ : QA Q r) (hls : ∀ (i : Nat) (v : MV), ls[i]? = some (some v) → v ≠ .inr r) (hst : ∀ v ∈ st, v ≠ .inr r)
    (hP1 : va_P D vwCl (wl tc ad sh M rs ++ [(q, x)]) H1) (hD1 : va_D A (wl tc ad sh M rs ++ [(q, x)])) (hS1 : va_S A s.heap H1 locs) (he : ent tc (adN ad r q) (shN sh r) (mN M r) r = x)
    (k : Z own cc nL rt xt nme R Q (rs ++ [r]) (shN sh r) cells2 slots2 pc2 ls (.inr r :: st) (mN M r)) : W p l e R s m args below meth c H1 locs cells2 slots2 (Q below args s D tc ad A) (F0 m pc2 lsA (.ref q :: st.map (rv ad))) := by
  obtain ⟨d1, d2⟩ := d_last hD1
  refine w_mono (Q := Q below args s D tc (adN ad r q) A) (fun t => hQ below args s D tc ad q A t) ?_
  have hst2 : .ref q :: st.map (rv ad) = (.inr r :: st : List MV).map (rv (adN ad r q)) := by
    rw [List.map_cons]
    refine congr (congrArg _ (congrArg Value.ref adN_s.symm)) (List.map_congr_left fun v hv => (rv_N (hst v hv)).symm)
  rw [hst2]
  refine k p l e s m args below meth c D tc (adN ad r q) A H1 locs lsA (C.N h30 d1 d2) ?_ hS1 (zl_N hls hl)
  show va_P D vwCl (wl tc (adN ad r q) (shN sh r) (mN M r) (rs ++ [r])) H1
  rw [wl_N hr hc, he]
  exact hP1
theorem z_newaF {atype : ArrayType} {ty : FieldType} {t N : Nat} {n : Int32} {a0 : vp_A} {r : Rf} (hn : rs.Nodup) (hr : r ∉ rs) (h30 : r.1 < 30) (hd : decode cc pc = .ok (.newarray atype, 2)) (harr : Cond.arrayClass (newarray.typeOf atype) ∈ AL) (hty : newarray.typeOf atype = ty) (ht : ∀ tc, (tys tc)[t]? = some (tc t, ty))
    (ha : ∀ cA : ClassId, vp_cell cA a0 = arrV cA N (fun _ => defaultValue ty)) (hent : ∀ tc ad, ent tc ad (shN sh r) (mN M r) r = .inl (tc t, a0)) (hn0 : ¬ n < 0) (hN : n.toNatClampNeg = N) (hbytes : N * componentBytes ty ≤ 536870912) (hc : nrf sh rs r) (hQ : QA Q r) (hls : ∀ (i : Nat) (v : MV), ls[i]? = some (some v) → v ≠ .inr r) (hst : ∀ v ∈ st, v ≠ .inr r) (hcells : cells + 1 ≤ R.cells) (hslots : slots + N ≤ R.slots)
    (k : Z own cc nL rt xt nme R Q (rs ++ [r]) (shN sh r) (cells + 1) (slots + N) (pc + 2) ls (.inr r :: st) (mN M r)) : Z own cc nL rt xt nme R Q rs sh cells slots pc ls (.inl (.int n) :: st) M := by
  intro p l e s m args below meth c D tc ad A H locs lsA C hP hS hl
  refine va_newa C.1 C.2.1 (C.2.2.2.2.1 _ harr) hty C.2.2.2.2.2.2.2.2.2.1 hP (Wd.D hn C sh M) hS C.2.2.2.2.2.2.2.2.2.2.1 ha hn0 hN hbytes hcells hslots hd (fun q cA H1 hK1 hP1 hD1 hS1 => ?_)
  have e1 := tc_is C.2.2.2.2.2.2.2.2.2.1 (ht tc) hK1
  rw [e1] at hP1 hD1
  exact z_newGF C hl hr h30 hc hQ hls hst hP1 hD1 hS1 (hent tc _) k
theorem z_newa {atype : ArrayType} {ty : FieldType} {t N : Nat} {n : Int32} {a0 : vp_A} {r : Rf} (hn : rs.Nodup) (hr : r ∉ rs) (h30 : r.1 < 30) (hd : decode cc pc = .ok (.newarray atype, 2)) (harr : Cond.arrayClass (newarray.typeOf atype) ∈ AL) (hty : newarray.typeOf atype = ty) (ht : ∀ tc, (tys tc)[t]? = some (tc t, ty))
    (ha : ∀ cA : ClassId, vp_cell cA a0 = arrV cA N (fun _ => defaultValue ty)) (hent : ∀ tc ad, ent tc ad (shN sh r) (mN M r) r = .inl (tc t, a0)) (hn0 : ¬ n < 0) (hN : n.toNatClampNeg = N) (hbytes : N * componentBytes ty ≤ 536870912) (hc : shC sh rs) (hQ : QG Q rs) (hls : ∀ (i : Nat) (v : MV), ls[i]? = some (some v) → v ≠ .inr r) (hst : ∀ v ∈ st, v ≠ .inr r) (hcells : cells + 1 ≤ R.cells) (hslots : slots + N ≤ R.slots)
    (k : Z own cc nL rt xt nme R Q (rs ++ [r]) (shN sh r) (cells + 1) (slots + N) (pc + 2) ls (.inr r :: st) (mN M r)) : Z own cc nL rt xt nme R Q rs sh cells slots pc ls (.inl (.int n) :: st) M :=
  z_newaF hn hr h30 hd harr hty ht ha hent hn0 hN hbytes (nrf_of hc hr) (qa_G hQ hr h30) hls hst hcells hslots k
theorem z_newqF {idx t N : Nat} {n : Int32} {Cn : String} {r : Rf} (hn : rs.Nodup) (hr : r ∉ rs) (h30 : r.1 < 30) (hd : decode cc pc = .ok (.anewarray idx, 3)) (hw : Cond.classLink own idx Cn ∈ AL ∧ Cond.arrayOver (.object Cn) ∈ nsw) (ht : ∀ tc, (tys tc)[t]? = some (tc t, .object Cn))
    (hent : ∀ tc ad, ent tc ad (shN sh r) (mN M r) r = .inl (tc t, N, .inr (.inr (.inr (.inr (fun _ => none)))))) (hn0 : ¬ n < 0) (hN : n.toNatClampNeg = N) (hbytes : N * 4 ≤ 536870912) (hc : nrf sh rs r) (hQ : QA Q r) (hls : ∀ (i : Nat) (v : MV), ls[i]? = some (some v) → v ≠ .inr r) (hst : ∀ v ∈ st, v ≠ .inr r) (hcells : cells + 1 ≤ R.cells) (hslots : slots + N ≤ R.slots)
    (k : Z own cc nL rt xt nme R Q (rs ++ [r]) (shN sh r) (cells + 1) (slots + N) (pc + 3) ls (.inr r :: st) (mN M r)) : Z own cc nL rt xt nme R Q rs sh cells slots pc ls (.inl (.int n) :: st) M := by
  intro p l e s m args below meth c D tc ad A H locs lsA C hP hS hl
  refine va_newq C.1 C.2.1 C.2.2.2.1 (C.2.2.2.2.1 _ hw.1) (C_nw C.2.2.2.2.2.2.2.2.2.2.2.1 hw.2) C.2.2.2.2.2.2.2.2.2.1 hP (Wd.D hn C sh M) hS C.2.2.2.2.2.2.2.2.2.2.1 hn0 hN hbytes hcells hslots hd (fun q cA H1 hK1 hP1 hD1 hS1 => ?_)
  have e1 := tc_is C.2.2.2.2.2.2.2.2.2.1 (ht tc) hK1
  rw [e1] at hP1 hD1
  exact z_newGF C hl hr h30 hc hQ hls hst hP1 hD1 hS1 (hent tc _) k
theorem z_newq {idx t N : Nat} {n : Int32} {Cn : String} {r : Rf} (hn : rs.Nodup) (hr : r ∉ rs) (h30 : r.1 < 30) (hd : decode cc pc = .ok (.anewarray idx, 3)) (hw : Cond.classLink own idx Cn ∈ AL ∧ Cond.arrayOver (.object Cn) ∈ nsw) (ht : ∀ tc, (tys tc)[t]? = some (tc t, .object Cn))
    (hent : ∀ tc ad, ent tc ad (shN sh r) (mN M r) r = .inl (tc t, N, .inr (.inr (.inr (.inr (fun _ => none)))))) (hn0 : ¬ n < 0) (hN : n.toNatClampNeg = N) (hbytes : N * 4 ≤ 536870912) (hc : shC sh rs) (hQ : QG Q rs) (hls : ∀ (i : Nat) (v : MV), ls[i]? = some (some v) → v ≠ .inr r) (hst : ∀ v ∈ st, v ≠ .inr r) (hcells : cells + 1 ≤ R.cells) (hslots : slots + N ≤ R.slots)
    (k : Z own cc nL rt xt nme R Q (rs ++ [r]) (shN sh r) (cells + 1) (slots + N) (pc + 3) ls (.inr r :: st) (mN M r)) : Z own cc nL rt xt nme R Q rs sh cells slots pc ls (.inl (.int n) :: st) M :=
  z_newqF hn hr h30 hd hw ht hent hn0 hN hbytes (nrf_of hc hr) (qa_G hQ hr h30) hls hst hcells hslots k
/-- a reference put -/
def shP (sh : Sh) (r : Rf) (j : Nat) (y : Option Rf) : Sh := fun x i => if x = r ∧ i = j then y else sh x i
theorem wl_setS {tc : Nat → ClassId} {ad : Rf → Nat} {sh' : Sh} {r : Rf} {k : Nat} {x : va_E} (hn : rs.Nodup) (hk : rs[k]? = some r) (hx : ent tc ad sh' M r = x) (h : ∀ r', r' ≠ r → ent tc ad sh' M r' = ent tc ad sh M r') : (wl tc ad sh M rs).set k (ad r, x) = wl tc ad sh' M rs := by
  subst hx
  apply List.ext_getElem?
  intro i
  rw [List.getElem?_set, wl, wl, List.getElem?_map, List.getElem?_map, List.length_map]
  by_cases hi : k = i
  · subst hi
    have hl : k < rs.length := (List.getElem?_eq_some_iff.mp hk).1
    rw [if_pos rfl, if_pos hl, hk]
    rfl
  · rw [if_neg hi]
    cases hr : rs[i]? with
    | none => rfl
    | some r' =>
      have hne : r' ≠ r := by
        intro e
        subst e
        obtain ⟨h1, h2⟩ := List.getElem?_eq_some_iff.mp hk
        obtain ⟨h3, h4⟩ := List.getElem?_eq_some_iff.mp hr
        exact hi ((List.getElem_inj hn).mp (h2.trans h4.symm))
      show some (ad r', ent tc ad sh M r') = some (ad r', ent tc ad sh' M r')
      rw [h r' hne]
theorem ent_P {tc : Nat → ClassId} {ad : Rf → Nat} {r x : Rf} {j : Nat} {y : Option Rf} (h : x ≠ r) : ent tc ad (shP sh r j y) M x = ent tc ad sh M x := ent_cong (fun i _ => congrArg (Option.map ad) (if_neg (fun c => h c.1))) (fun _ => rfl) (fun _ => rfl)
theorem fv_P {ad : Rf → Nat} {r y : Rf} {q : Nat} : ∀ (ks : List Bool) (i j : Nat), i + j = q → ks[j]? = some true → (fv ad sh M r i ks).set j (.ref (ad y)) = fv ad (shP sh r q (some y)) M r i ks
  | [], _, _, _, h => by simp at h
  | c :: t, i, 0, e, h => by
    simp at h
    subst h
    have e2 : i = q := by omega
    subst e2
    rw [fv, fv, List.set_cons_zero]
    have h2 : ∀ (t : List Bool) (k : Nat), i < k → fv ad sh M r k t = fv ad (shP sh r i (some y)) M r k t := by
      intro t
      induction t with
      | nil => intro k _; rfl
      | cons b t ih =>
        intro k hk
        have hne : ¬ (k = i) := by omega
        rw [fv, fv, ih (k + 1) (by omega), show shP sh r i (some y) r k = sh r k from if_neg (fun c => hne c.2)]
    rw [h2 t (i + 1) (by omega), show shP sh r i (some y) r i = some y from if_pos ⟨rfl, rfl⟩]
    rfl
  | c :: t, i, j + 1, e, h => by
    have hne : ¬ (i = q) := by omega
    rw [fv, fv, List.set_cons_succ, fv_P (q := q) t (i + 1) j (by omega) (by simpa using h), show shP sh r q (some y) r i = sh r i from if_neg (fun c => hne c.2)]
theorem z_putR {ci j idx : Nat} {r y : Rf} (hn : rs.Nodup) (hd : decode cc pc = .ok (.putfield idx, 3)) (hw : lkF own idx ci j) (hr : r ∈ rs) (hk : okF true r ci j = true) (hf : (Tc ci j).2.2.2 = true) (hnm : nme = "<init>") (hdc : (Tc ci j).1 = own) (hfit : ∀ a : Nat, fits (tyc ci j) (.ref a) = true) (hnar : ∀ a : Nat, narrow (tyc ci j) (.ref a) = .ref a)
    (k : Z own cc nL rt xt nme R Q rs (shP sh r j (some y)) cells slots (pc + 3) ls st M) : Z own cc nL rt xt nme R Q rs sh cells slots pc ls (.inr y :: .inr r :: st) M := by
  intro p l e s m args below meth c D tc ad A H locs lsA C hP hS hl
  obtain ⟨ks, h1, h2, h3, h4⟩ := okF_spec hk
  obtain ⟨q, hq0, hq⟩ := wl_at (tc := tc) (ad := ad) (sh := sh) (M := M) hr
  have hvs := fv_P (ad := ad) (sh := sh) (M := M) (r := r) (y := y) ks 0 j (Nat.zero_add j) h2
  rw [ent_o h1] at hq
  refine va_putF (C := Rc ci) (T := Tc ci) (N := Nc ci) (ty := tyc ci j) C.1 C.2.1 C.2.2.2.2.1 (inC ci h3) (tyc ci) (tyC ci h3) (nmC ci h3) C.2.2.2.1 C.2.2.2.2.2.2.2.2.2.1 hP (Wd.D hn C sh M) hS q hq (clC ci h3) j h4 (C.2.2.2.2.1 _ hw) (fun _ h => h) hf (C.2.2.2.2.2.2.2.2.1.trans hnm) hdc (tyC ci h3 j h4) (hnar _) (hfit _) (by rw [fv_len]; exact (List.getElem?_eq_some_iff.mp h2).1) hd (fun H1 locs1 hP1 _ hS1 => ?_)
  have hP1 : va_P D vwCl (List.set (wl tc ad sh M rs) q (ad r, .inr (ci, (fv ad sh M r 0 ks).set j (.ref (ad y))))) H1 := hP1
  rw [hvs] at hP1
  rw [wl_setS (sh' := shP sh r j (some y)) hn hq0 (ent_o h1) (fun r' h => ent_P h)] at hP1
  exact k p l e s m args below meth c D tc ad A H1 locs1 lsA C hP1 hS1 hl
end ZG
