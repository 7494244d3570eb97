theorem refj_lt {x : Rf} {j : Nat} (h : refj x j = true) : j < 50 := by
  refine Nat.lt_of_not_le fun hle => ?_
  obtain ⟨x1, x2, x3⟩ := x
  unfold refj kd at h
  split at h
  · rename_i ci ks hk
    have hks : ks.length ≤ 18 := by
      split at hk <;> first | (cases hk; done) | (injection hk with hk; injection hk with h1 h2; rw [← h2]; decide)
    rw [List.getD_eq_getElem?_getD, List.getElem?_eq_none (by omega)] at h
    cases h
  · rename_i t n hk
    simp only [Bool.and_eq_true, Nat.ble_eq, Nat.blt_eq] at h
    split at hk <;> first | (cases hk; done) | (injection hk with hk; injection hk with h1 h2; subst h1; subst h2; omega)
theorem cl_clo : ∀ x ∈ clR, ∀ j, j < 50 → refj x j = true → (match SH x j with | some y => clR.contains y | none => true) = true := by decide +kernel
theorem clR_clo : shC SH clR := fun x hx j hj y hy => by
  have := cl_clo x hx j (refj_lt hj) hj
  rw [hy] at this
  simpa using this
/-- the class's world -/
def wvC : Wv := ⟨clR, nd_cl, fun _ h => h, clR_clo⟩
/-! constructors: their contracts, their ends, their calls -/
def QsN (D : va_G) (tc : Nat → ClassId) (ad : Rf → Nat) (rs rs' : List Rf) (sh' : Sh) (M' : Mm) (A : Nat → Prop) : Array Value → State → Outcome → State → Prop :=
  fun _ st oc t => (oc = .returned none ∧ ∃ ad' : Rf → Nat, (∀ r ∈ rs, ad' r = ad r) ∧ (∀ r : Rf, 30 ≤ r.1 → ad' r = ad r) ∧ (∀ r ∈ rs', A (ad' r)) ∧ (∀ x ∈ rs', ∀ y ∈ rs', ad' x = ad' y → x = y) ∧ Wd D tc ad' sh' M' rs' t.heap) ∧ va_F A st t
def QMN (rs rs' : List Rf) (sh' : Sh) (M' : Mm) (mc ms : Nat) : QF := fun below args s D tc ad A => vx_MQ below (QsN D tc ad rs rs' sh' M' A) XF args s mc ms A
theorem qmn_G {rs0 rs rs' : List Rf} {sh' : Sh} {M' : Mm} {mc ms : Nat} (h : ∀ x ∈ rs0, x ∈ rs) : QG (QMN rs0 rs' sh' M' mc ms) rs := by
  intro below args s D tc ad ad' A t h1 h2 hq
  obtain ⟨o, a1, a2, ⟨⟨b1, ad2, c1, c2, c3⟩, b3⟩, b2⟩ | ⟨o, a1, a2, q, b1, E, ce, L, hx, -⟩ : (∃ o, t.status = .running ∧ Ended t below o ∧ (QsN D tc ad' rs0 rs' sh' M' A args s o t) ∧ ∃ L, FrameEnd s o t L mc ms ∧ ∀ q ∈ L, A q.base) ∨ (∃ o, t.status = .running ∧ Ended t below o ∧ ∃ q, o = .threw q ∧ vx_T XF s q t mc ms A) := by
    obtain ⟨o, a1, a2, a3⟩ := hq
    rcases a3 with ⟨a3, a4⟩ | a3
    · exact Or.inl ⟨o, a1, a2, a3, a4⟩
    · exact Or.inr ⟨o, a1, a2, a3⟩
  · exact ⟨o, a1, a2, Or.inl ⟨⟨⟨b1, ad2, fun r hr => (c1 r hr).trans (h1 r (h r hr)), fun r hr => (c2 r hr).trans (h2 r hr), c3⟩, b3⟩, b2⟩⟩
  · exact hx.elim
def TriN (y : MethodName) (c1 : ByteArray) (n1 d mc ms : Nat) (rs : List Rf) (sh : Sh) (av : List MV) (M : Mm) (rs' : List Rf) (sh' : Sh) (M' : Mm) : Prop :=
  ∀ (l : Launch) (D : va_G) (tc : Nat → ClassId) (ad : Rf → Nat) (sz : Nat), vx_Met l y (.code y c1 n1 none :: AL) (rmD d mc ms) (Ps D tc ad l sh M rs sz av) (QsN D tc ad rs rs' sh' M' (Af ad rs sz)) XF mc ms (Af ad rs sz)
section ZI
variable {own : String} {cc : ByteArray} {nL : Nat} {rt : Option FieldType} {xt : List ExceptionTableEntry} {nme : String} {R : Room} {Q : QF} {rs rs' : List Rf} {sh sh' : Sh} {cells slots pc : Nat} {ls : List (Option MV)} {st stk : List MV} {M M' : Mm}
theorem TriN.met {y : MethodName} {c1 : ByteArray} {n1 d mc ms : Nat} {av : List MV} (h : TriN y c1 n1 d mc ms rs sh av M rs' sh' M') (l : Launch) (D : va_G) (tc : Nat → ClassId) (ad : Rf → Nat) (sz : Nat) :
    Met l y (.code y c1 n1 none :: AL) (rmD d mc ms) (Ps D tc ad l sh M rs sz av) (QsN D tc ad rs rs' sh' M' (Af ad rs sz)) mc ms (Af ad rs sz) := by
  intro p e ha hc hk s m args below hf happ hP hK
  obtain ⟨n, o, h1, h2, h3, h4⟩ := h l D tc ad sz p e ha hc hk s m args below hf happ hP hK
  refine ⟨n, o, h1, h2, h3, ?_⟩
  rcases h4 with h4 | ⟨q, -, E, ce, L, h5, -⟩
  · exact h4
  · exact h5.elim
theorem TriN.of {y : MethodName} {d mc ms : Nat} {av : List MV} (hy : plainFor y = true) (ho : y.cls = own) (hm : y.name = nme) (ls : List (Option MV)) (hls : ∀ ad : Rf → Nat, (lg_sl (av.map (rv ad))).length ≤ nL ∧ ∀ (i : Nat) (v : MV), ls[i]? = some (some v) → (i, rv ad v) ∈ lv_args 0 (av.map (rv ad)))
    (k : Z own cc nL none [] nme (rmD d mc ms) (QMN rs rs' sh' M' mc ms) rs sh 0 0 0 ls [] M) : TriN y cc nL d mc ms rs sh av M rs' sh' M' := by
  intro l D tc ad sz
  refine vx_ofWF (cc := cc) (maxL := nL) (ret := none) hy rfl ?_
  intro p e s m args below meth c s₁ B hml hxt hv
  obtain ⟨rfl, hsz, hP, hK, hF, hinj⟩ := hv
  have hts := atoms_spec (ws := Cond.code y cc nL none :: AL) B.pre
  have hown : s.vm.findClass own = some m.cls := by rw [← ho]; exact findClass_of_methodNamed B.named
  have hnm : meth.name = nme := by rw [← hm]; exact (name_of_methodNamed B.named B.method).1
  have hxn : c.exceptionTable.toList = [] := by
    cases h : c.exceptionTable.toList with
    | nil => rfl
    | cons a t => exact (hxt a (by rw [h]; exact List.mem_cons_self)).elim
  subst hsz
  rw [lg_entry_eq]
  exact k p l e s m _ below meth c D tc ad (Af ad rs s.heap.size) s.heap [] _
    ⟨B.exec, B.bytes, hml, hown, fun w hw => hts w (List.mem_cons_of_mem _ hw), B.notSynchronized, B.returns, hxn, hnm, hK, fun q h => Or.inr h, hF, fun r hr => Or.inl ⟨r, hr, rfl⟩, hinj⟩
    hP va_S.rf (zl_entry ad (hls ad).1 (hls ad).2)
theorem wl_eq {tc : Nat → ClassId} {ad : Rf → Nat} (h : ∀ x ∈ rs, (∀ j, sh' x j = sh x j) ∧ (∀ j, M'.1 x j = M.1 x j) ∧ ∀ j, M'.2 x j = M.2 x j) : wl tc ad sh' M' rs = wl tc ad sh M rs := by
  rw [wl, wl]
  refine List.map_congr_left fun x hx => ?_
  obtain ⟨h1, h2, h3⟩ := h x hx
  rw [ent_cong (fun j _ => by rw [h1 j]) h2 h3]
theorem z_nret {rs0 : List Rf} {mc ms : Nat} (hd : decode cc pc = .ok (.return_, 1)) (hrt : rt = none) (hc : cells ≤ mc) (hs : slots ≤ ms) (hp : rs.Perm rs') (h : ∀ x ∈ rs', (∀ j, sh' x j = sh x j) ∧ (∀ j, M'.1 x j = M.1 x j) ∧ ∀ j, M'.2 x j = M.2 x j) : Z own cc nL rt xt nme R (QMN rs0 rs' sh' M' mc ms) rs sh cells slots pc ls [] M := by
  intro p l e s m args below meth c D tc ad A H locs lsA C hP hS hl
  refine W.widen hc hs (vx_ret ?_)
  refine W.vret C.1 C.2.1 (C.2.2.2.2.2.2.1.trans hrt) (fun t ht hW => ⟨⟨rfl, ad, fun _ _ => rfl, fun _ _ => rfl, fun r hr => C.2.2.2.2.2.2.2.2.2.2.2.2.1 r (hp.mem_iff.mpr hr), fun x hx y hy => C.2.2.2.2.2.2.2.2.2.2.2.2.2 x (hp.mem_iff.mpr hx) y (hp.mem_iff.mpr hy), ?_⟩, hS.F ht⟩) hS.2.2 hd C.2.2.2.2.2.1
  rw [ht]
  show va_P D vwCl (wl tc ad sh' M' rs') H
  rw [wl_eq h]
  intro k q hk
  have hm : q ∈ wl tc ad sh M rs := ((hp.map _).mem_iff).mpr (List.mem_of_getElem? hk)
  obtain ⟨i, hi⟩ := List.getElem?_of_mem hm
  exact hP i q hi
theorem Cx.to {p : Program} {l : Launch} {s : State} {m : MethodId} {args : Array Value} {meth : Method} {c : Code} {D : va_G} {tc : Nat → ClassId} {ad ad' : Rf → Nat} {A : Nat → Prop} (h30 : ∀ r : Rf, 30 ≤ r.1 → ad' r = ad r) (hA : ∀ x ∈ rs', A (ad' x)) (hi : ∀ x ∈ rs', ∀ y ∈ rs', ad' x = ad' y → x = y) (C : Cx own cc nL rt xt nme rs p l s m args meth c D tc ad A) : Cx own cc nL rt xt nme rs' p l s m args meth c D tc ad' A := by
  obtain ⟨c1, c2, c3, c4, c5, c6, c7, c8, c9, c10, c11, c12, c13, c14⟩ := C
  exact ⟨c1, c2, c3, c4, c5, c6, c7, c8, c9, c10, c11, c12.ad h30, hA, hi⟩
def inR (rs : List Rf) (v : MV) : Prop := match v with
  | .inl _ => True
  | .inr r => r ∈ rs ∨ 30 ≤ r.1
theorem rv_in {ad ad' : Rf → Nat} {v : MV} (h1 : ∀ r ∈ rs, ad' r = ad r) (h2 : ∀ r : Rf, 30 ≤ r.1 → ad' r = ad r) (h : inR rs v) : rv ad' v = rv ad v := by
  cases v with
  | inl x => rfl
  | inr r =>
    rcases h with h | h
    · exact congrArg Value.ref (h1 r h)
    · exact congrArg Value.ref (h2 r h)
theorem z_callI {idx n1 d mc ms : Nat} {y : MethodName} {c1 : ByteArray} {av : List MV} {r : Rf} (hT : TriN y c1 n1 d mc ms rs sh (.inr r :: av) M rs' sh' M') (hd : decode cc pc = .ok (.invokespecial idx, 3)) (hw : Cond.methodLink own idx y ∈ AL ∧ Cond.instanceMethod y ∈ AL ∧ Cond.initialized y.cls ∈ AL) (hcd : Cond.code y c1 n1 none ∈ AL) (hyn : y.name = "<init>") (hy : mhOk y av.length = true)
    (hroom : d + 1 ≤ R.frames ∧ 8 + (n1 + 11) + 31 * d ≤ R.locals ∧ cells + mc ≤ R.cells ∧ slots + ms ≤ R.slots) (hmc : mcs st ≤ 8) (hstk : stk = av.reverse ++ .inr r :: st) (hQ : QG Q rs) (hls : ∀ (i : Nat) (v : MV), ls[i]? = some (some v) → inR rs v) (hst : ∀ v ∈ st, inR rs v)
    (kk : Z own cc nL rt xt nme R Q rs' sh' (cells + mc) (slots + ms) (pc + 3) ls st M') : Z own cc nL rt xt nme R Q rs sh cells slots pc ls stk M := by
  intro p l e s m args below meth c D tc ad A H locs lsA C hP hS hl
  have hts := C.2.2.2.2.1
  have haf := C.af hS
  obtain ⟨y1, y2, y3⟩ := mhOk_spec hy
  have h9 := mcs_map (ad := ad) st
  have hR := va_runI (g := F0 m pc lsA (stk.map (rv ad))) (rest := st.map (rv ad)) (locs := locs) (cells := cells) (slots := slots) (p := p) (l := l) (e := e) (below := below) (meth := meth) (Ts := AL) (As := av.map (rv ad)) (b := ad r) ⟨C.1, C.2.1, C.2.2.1, C.2.2.2.1, hts⟩ (hT.met l D tc ad H.size)
    (cwI (n := av.length) hts (al_code hcd) rfl rfl rfl (hts _ hw.2.2) (hts _ hw.1) (hts _ hw.2.1) hyn ⟨y1, y2, y3⟩ ⟨hroom.1, hroom.2.1⟩)
    ⟨Ps.blind, C.pre hP hS _⟩ rfl (by rw [List.length_map]) hl.1 (by rw [hstk]; show (av.reverse ++ .inr r :: st).map (rv ad) = _; rw [List.map_append, List.map_reverse]; rfl) (lv_room (by rw [h9]; exact hmc)) hd ⟨hroom.2.2.1, hroom.2.2.2⟩
  intro T hT X
  obtain ⟨v, st₀, t, T', L, h0, X', hL, e1, e2, ⟨⟨hv, ad', g1, g2, g3, g4, hb⟩, hF⟩, go⟩ := hR T hT X
  cases hv
  obtain ⟨k1, k2, k3⟩ := vx_keep h0 e1 hS (fun q _ h => haf q h) haf hL hF
  have hk := kk p l e s m args below meth c D tc ad' A T'.heap (locs ++ L) lsA (C.to g2 (fun x hx => haf _ (g3 x hx)) g4) (by rw [e1]; exact hb) k3 ⟨hl.1, hl.2.1, fun i v hi => by rw [rv_in g1 g2 (hls i v hi)]; exact hl.2.2 i v hi⟩
  rw [show st.map (rv ad') = st.map (rv ad) from List.map_congr_left fun v hv => rv_in g1 g2 (hst v hv)] at hk
  obtain ⟨t2, a1, b1⟩ := hk T' rfl X'
  exact ⟨t2, go t2 a1, hQ below args s D tc ad ad' A t2 g1 g2 b1⟩
end ZI

