/-! contracts of methods that make things, move rows, answer references -/
def XF : String → State → State → Prop := fun _ _ _ => False
def QsG (D : va_G) (tc : Nat → ClassId) (ad : Rf → Nat) (chg rs' : List Rf) (sh' : Sh) (M' : Mm) (v : Option MV) (A : Nat → Prop) : Array Value → State → Outcome → State → Prop :=
  fun _ st oc t => (∃ ad' : Rf → Nat, (∀ r, r ∉ chg → ad' r = ad r) ∧ (∀ r ∈ rs', A (ad' r)) ∧ (∀ x ∈ rs', ∀ y ∈ rs', ad' x = ad' y → x = y) ∧ oc = .returned (v.map (rv ad')) ∧ Wd D tc ad' sh' M' rs' t.heap) ∧ va_F A st t
def QMG (chg rs' : List Rf) (sh' : Sh) (M' : Mm) (v : Option MV) (mc ms : Nat) : QF := fun below args s D tc ad A => vx_MQ below (QsG D tc ad chg rs' sh' M' v A) XF args s mc ms A
/-- an end that minds no place of these names -/
def QI (S : List Rf) (Q : QF) : Prop := ∀ (below : List Frame) (args : Array Value) (s : State) (D : va_G) (tc : Nat → ClassId) (ad ad' : Rf → Nat) (A : Nat → Prop) (t : State), (∀ r, r ∉ S → ad' r = ad r) → Q below args s D tc ad' A t → Q below args s D tc ad A t
theorem qi_G {S chg rs' : List Rf} {sh' : Sh} {M' : Mm} {v : Option MV} {mc ms : Nat} (h : (S.all fun r => chg.contains r) = true) : QI S (QMG chg rs' sh' M' v mc ms) := by
  intro below args s D tc ad ad' A t h1 hq
  have hS : ∀ r ∈ S, r ∈ chg := fun r hr => by simpa using List.all_eq_true.mp h r hr
  obtain ⟨o, a1, a2, ⟨⟨ad2, c1, c2⟩, b3⟩, b2⟩ | ⟨o, a1, a2, q, b1, E, ce, L, hx, -⟩ : (∃ o, t.status = .running ∧ Ended t below o ∧ (QsG D tc ad' chg rs' sh' M' v A args s o t) ∧ ∃ L, FrameEnd s o t L mc ms ∧ ∀ q ∈ L, A q.base) ∨ (∃ o, t.status = .running ∧ Ended t below o ∧ ∃ q, o = .threw q ∧ vx_T XF s q t mc ms A) := by
    obtain ⟨o, a1, a2, a3⟩ := hq
    rcases a3 with ⟨a3, a4⟩ | a3
    · exact Or.inl ⟨o, a1, a2, a3, a4⟩
    · exact Or.inr ⟨o, a1, a2, a3⟩
  · exact ⟨o, a1, a2, Or.inl ⟨⟨⟨ad2, fun r hr => (c1 r hr).trans (h1 r (fun hm => hr (hS r hm))), c2⟩, b3⟩, b2⟩⟩
  · exact hx.elim
theorem qi_N {b : Nat} {S : List Rf} {Q : QF} (hQ : QN b Q) (h : S.all (vol b) = true) : QI S Q := fun below args s D tc ad ad' A t h1 hq => hQ below args s D tc ad ad' A t (fun r hr => h1 r (fun hm => by rw [List.all_eq_true.mp h r hm] at hr; cases hr)) hq
theorem qa_I {S : List Rf} {Q : QF} {r : Rf} (hQ : QI S Q) (hr : S.contains r = true) : QA Q r := fun below args s D tc ad q A t => hQ below args s D tc ad (adN ad r q) A t (fun x hx => adN_o (fun e => hx (by rw [e]; simpa using hr)))
theorem qi_s {S S' : List Rf} {Q : QF} (hQ : QI S Q) (h : (S'.all fun r => S.contains r) = true) : QI S' Q := fun below args s D tc ad ad' A t h1 hq => hQ below args s D tc ad ad' A t (fun r hr => h1 r (fun hm => hr (by simpa using List.all_eq_true.mp h r hm))) hq
def TG (y : MethodName) (c1 : ByteArray) (n1 : Nat) (rt1 : Option FieldType) (d mc ms : Nat) (chg rs : List Rf) (sh : Sh) (av : List MV) (M : Mm) (v : Option MV) (rs' : List Rf) (sh' : Sh) (M' : Mm) : Prop :=
  ∀ (l : Launch) (D : va_G) (tc : Nat → ClassId) (ad : Rf → Nat) (sz : Nat), vx_Met l y (.code y c1 n1 rt1 :: AL) (rmD d mc ms) (Ps D tc ad l sh M rs sz av) (QsG D tc ad chg rs' sh' M' v (Af ad rs sz)) XF mc ms (Af ad rs sz)
def noC (chg : List Rf) (ls : List (Option MV)) : Bool := ls.all fun o => match o with
  | some (.inr r) => !chg.contains r
  | _ => true
def noS (chg : List Rf) (st : List MV) : Bool := st.all fun v => match v with
  | .inr r => !chg.contains r
  | _ => true
theorem rv_c {chg : List Rf} {ad ad' : Rf → Nat} {v : MV} (h : ∀ r, r ∉ chg → ad' r = ad r) (hv : ∀ r, v = .inr r → r ∉ chg) : rv ad' v = rv ad v := by
  cases v with
  | inl x => rfl
  | inr r => exact congrArg Value.ref (h r (hv r rfl))
theorem noC_s {chg : List Rf} {ls : List (Option MV)} (h : noC chg ls = true) {i : Nat} {v : MV} (hi : ls[i]? = some (some v)) : ∀ r, v = .inr r → r ∉ chg := by
  intro r e
  subst e
  have := List.all_eq_true.mp h _ (List.mem_of_getElem? hi)
  simpa using this
theorem noS_s {chg : List Rf} {st : List MV} (h : noS chg st = true) {v : MV} (hi : v ∈ st) : ∀ r, v = .inr r → r ∉ chg := by
  intro r e
  subst e
  have := List.all_eq_true.mp h _ hi
  simpa using this
section ZTG
variable {own : String} {cc : ByteArray} {nL : Nat} {rt : Option FieldType} {xt : List ExceptionTableEntry} {nme : String} {R : Room} {Q : QF} {rs rs' : List Rf} {sh sh' : Sh} {cells slots pc : Nat} {ls : List (Option MV)} {st stk : List MV} {M M' : Mm}
theorem TG.met {y : MethodName} {c1 : ByteArray} {n1 d mc ms : Nat} {rt1 : Option FieldType} {av : List MV} {chg : List Rf} {v : Option MV} (h : TG y c1 n1 rt1 d mc ms chg rs sh av M v rs' sh' M') (l : Launch) (D : va_G) (tc : Nat → ClassId) (ad : Rf → Nat) (sz : Nat) :
    Met l y (.code y c1 n1 rt1 :: AL) (rmD d mc ms) (Ps D tc ad l sh M rs sz av) (QsG D tc ad chg rs' sh' M' v (Af ad rs sz)) mc ms (Af ad rs sz) := by
  intro p e ha hc hk s m args below hf happ hP hK
  obtain ⟨n, o, h1, h2, h3, h4⟩ := h l D tc ad sz p e ha hc hk s m args below hf happ hP hK
  refine ⟨n, o, h1, h2, h3, ?_⟩
  rcases h4 with h4 | ⟨q, -, E, ce, L, h5, -⟩
  · exact h4
  · exact h5.elim
theorem TG.go {y : MethodName} {own nme : String} {cc : ByteArray} {nL : Nat} {rt : Option FieldType} {d mc ms : Nat} {av : List MV} {chg : List Rf} {v : Option MV} {ls : List (Option MV)} {n : Nat} (hy : plainFor y = true) (ho : y.cls = own) (hm : y.name = nme) (hls : els av ++ List.replicate n none = ls) (hn : (els av).length.ble nL = true)
    (k : Z own cc nL rt [] nme (rmD d mc ms) (QMG chg rs' sh' M' v mc ms) rs sh 0 0 0 ls [] M) : TG y cc nL rt d mc ms chg rs sh av M v rs' sh' M' := by
  intro l D tc ad sz
  refine vx_ofWF (cc := cc) (maxL := nL) (ret := rt) hy rfl ?_
  intro p e s m args below meth c s₁ B hml hxt hv
  obtain ⟨rfl, hsz, hP, hK, hF, hinj⟩ := hv
  have hts := atoms_spec (ws := Cond.code y cc nL rt :: AL) B.pre
  have hown : s.vm.findClass own = some m.cls := by rw [← ho]; exact findClass_of_methodNamed B.named
  have hnm : meth.name = nme := by rw [← hm]; exact (name_of_methodNamed B.named B.method).1
  have hxn : c.exceptionTable.toList = [] := by
    cases h : c.exceptionTable.toList with
    | nil => rfl
    | cons a t => exact (hxt a (by rw [h]; exact List.mem_cons_self)).elim
  subst hsz
  rw [lg_entry_eq]
  exact k p l e s m _ below meth c D tc ad (Af ad rs s.heap.size) s.heap [] _
    ⟨B.exec, B.bytes, hml, hown, fun w hw => hts w (List.mem_cons_of_mem _ hw), B.notSynchronized, B.returns, hxn, hnm, hK, fun q h => Or.inr h, hF, fun r hr => Or.inl ⟨r, hr, rfl⟩, hinj⟩
    hP va_S.rf (zl_entry ad (by rw [els_len]; exact Nat.le_of_ble_eq_true hn) (fun i v h => els_pad ad (n := n) (by rw [hls]; exact h)))
/-- what an end of such a method asks: the picture of before but for what is forgotten -/
def same (rs rs' : List Rf) (sh sh' : Sh) (M M' : Mm) : Prop := (∀ x ∈ rs', x ∈ rs) ∧ ∀ x ∈ rs', (∀ j, refj x j = true → sh' x j = sh x j) ∧ (∀ j, M'.1 x j = M.1 x j) ∧ ∀ j, M'.2 x j = M.2 x j
theorem same_rf : same rs rs sh sh M M := ⟨fun _ h => h, fun _ _ => ⟨fun _ _ => rfl, fun _ => rfl, fun _ => rfl⟩⟩
theorem same.wd {D : va_G} {tc : Nat → ClassId} {ad : Rf → Nat} {H : Heap} (h : same rs rs' sh sh' M M') (hP : Wd D tc ad sh M rs H) : Wd D tc ad sh' M' rs' H := by
  intro k q hk
  rw [wl, List.getElem?_map] at hk
  cases hr : rs'[k]? with
  | none => rw [hr] at hk; cases hk
  | some r =>
    rw [hr] at hk
    cases hk
    have hm := List.mem_of_getElem? hr
    obtain ⟨h1, h2, h3⟩ := h.2 r hm
    obtain ⟨i, -, hi⟩ := wl_at (tc := tc) (ad := ad) (sh := sh) (M := M) (h.1 r hm)
    show va_at D vwCl (ad r, ent tc ad sh' M' r) H
    rw [ent_cong (sh' := sh') (M' := M') (sh := sh) (M := M) (ad := ad) (fun j hj => by rw [h1 j hj]) h2 h3]
    exact hP i _ hi
theorem qsg_end {p : Program} {l : Launch} {s : State} {m : MethodId} {args : Array Value} {meth : Method} {c : Code} {D : va_G} {tc : Nat → ClassId} {ad : Rf → Nat} {A : Nat → Prop} {H : Heap} {locs : List Loc} {chg : List Rf} {v : Option MV} {t : State} {oc : Outcome} (C : Cx own cc nL rt xt nme rs p l s m args meth c D tc ad A) (hP : Wd D tc ad sh M rs H) (hS : va_S A s.heap H locs) (hsm : same rs rs' sh sh' M M') (ho : oc = .returned (v.map (rv ad))) (ht : t.heap = H) : QsG D tc ad chg rs' sh' M' v A args s oc t :=
  ⟨⟨ad, fun _ _ => rfl, fun r hr => C.2.2.2.2.2.2.2.2.2.2.2.2.1 r (hsm.1 r hr), fun x hx y hy => C.2.2.2.2.2.2.2.2.2.2.2.2.2 x (hsm.1 x hx) y (hsm.1 y hy), ho, by rw [ht]; exact hsm.wd hP⟩, hS.F ht⟩
theorem z_gvret {mc ms : Nat} {chg : List Rf} (hd : decode cc pc = .ok (.return_, 1)) (hrt : rt = none) (hc : cells ≤ mc) (hs : slots ≤ ms) (hsm : same rs rs' sh sh' M M') : Z own cc nL rt xt nme R (QMG chg rs' sh' M' none mc ms) rs sh cells slots pc ls [] M := by
  intro p l e s m args below meth c D tc ad A H locs lsA C hP hS hl
  refine W.widen hc hs (vx_ret ?_)
  exact W.vret C.1 C.2.1 (C.2.2.2.2.2.2.1.trans hrt) (fun t ht hW => qsg_end C hP hS hsm rfl ht) hS.2.2 hd C.2.2.2.2.2.1
theorem z_garet {mc ms : Nat} {chg : List Rf} {r : Rf} {ty : FieldType} (hd : decode cc pc = .ok (.areturn, 1)) (hrt : rt = some ty) (hty : (∃ n, ty = FieldType.object n) ∨ ∃ t, ty = .array t) (hc : cells ≤ mc) (hs : slots ≤ ms) (hsm : same rs rs' sh sh' M M') : Z own cc nL rt xt nme R (QMG chg rs' sh' M' (some (.inr r)) mc ms) rs sh cells slots pc ls [.inr r] M := by
  intro p l e s m args below meth c D tc ad A H locs lsA C hP hS hl
  refine W.widen hc hs (vx_ret ?_)
  exact W.aret C.1 C.2.1 (C.2.2.2.2.2.2.1.trans hrt) hty (Or.inr ⟨_, rfl⟩) (fun t ht hW => qsg_end C hP hS hsm rfl ht) hS.2.2 hd C.2.2.2.2.2.1
theorem Cx.ch {p : Program} {l : Launch} {s : State} {m : MethodId} {args : Array Value} {meth : Method} {c : Code} {D : va_G} {tc : Nat → ClassId} {ad ad' : Rf → Nat} {A : Nat → Prop} (h30 : ∀ r : Rf, 30 ≤ r.1 → ad' r = ad r) (hA : ∀ x ∈ rs', A (ad' x)) (hi : ∀ x ∈ rs', ∀ y ∈ rs', ad' x = ad' y → x = y) (C : Cx own cc nL rt xt nme rs p l s m args meth c D tc ad A) : Cx own cc nL rt xt nme rs' p l s m args meth c D tc ad' A := by
  obtain ⟨c1, c2, c3, c4, c5, c6, c7, c8, c9, c10, c11, c12, c13, c14⟩ := C
  exact ⟨c1, c2, c3, c4, c5, c6, c7, c8, c9, c10, c11, c12.ad h30, hA, hi⟩
/-- behind a call of such a method -/
theorem z_runG {mc ms : Nat} {chg : List Rf} {v : Option MV} {p : Program} {l : Launch} {e : Env} {s : State} {m : MethodId} {args : Array Value} {below : List Frame} {meth : Method} {c : Code} {D : va_G} {tc : Nat → ClassId} {ad : Rf → Nat} {A : Nat → Prop} {H : Heap} {locs : List Loc} {lsA : Array Slot} {st0 : List Value} {a : Array Value}
    (C : Cx own cc nL rt xt nme rs p l s m args meth c D tc ad A) (hS : va_S A s.heap H locs) (hl : zl ad lsA nL ls)
    (hr : va_Run p l e R s m args below meth c H locs cells slots mc ms (F0 m pc lsA st0) (st.map (rv ad)) (QsG D tc ad chg rs' sh' M' v (Af ad rs H.size) a) (Af ad rs H.size))
    (hQ : QI chg Q) (h30 : (chg.all fun r => Nat.blt r.1 30) = true) (hls : noC chg ls = true) (hst : noS chg st = true)
    (kk : Z own cc nL rt xt nme R Q rs' sh' (cells + mc) (slots + ms) (pc + 3) ls (v.toList ++ st) M') : W p l e R s m args below meth c H locs cells slots (Q below args s D tc ad A) (F0 m pc lsA st0) := by
  intro T hT X
  have haf := C.af hS
  obtain ⟨w, st₀, t, T', L, h0, X', hL, e1, e2, ⟨⟨ad', g1, g3, g4, hv, hb⟩, hF⟩, go⟩ := hr T hT X
  obtain ⟨k1, k2, k3⟩ := vx_keep h0 e1 hS (fun q _ h => haf q h) haf hL hF
  have g2 : ∀ r : Rf, 30 ≤ r.1 → ad' r = ad r := fun r hr => g1 r (fun hm => by
    have := List.all_eq_true.mp h30 r hm
    rw [Nat.blt_eq] at this
    omega)
  have hk := kk p l e s m args below meth c D tc ad' A T'.heap (locs ++ L) lsA (C.ch g2 (fun x hx => haf _ (g3 x hx)) g4) (by rw [e1]; exact hb) k3 ⟨hl.1, hl.2.1, fun i u hi => by rw [rv_c g1 (noC_s hls hi)]; exact hl.2.2 i u hi⟩
  have ew : w = v.map (rv ad') := Outcome.returned.inj hv
  rw [List.map_append, show st.map (rv ad') = st.map (rv ad) from List.map_congr_left fun u hu => rv_c g1 (noS_s hst hu), show v.toList.map (rv ad') = w.toList by rw [ew]; cases v <;> rfl] at hk
  obtain ⟨t2, a1, b1⟩ := hk T' rfl X'
  exact ⟨t2, go t2 a1, hQ below args s D tc ad ad' A t2 g1 b1⟩
theorem z_cGS {idx n1 d n mc ms : Nat} {y : MethodName} {c1 : ByteArray} {rt1 : Option FieldType} {av : List MV} {chg : List Rf} {v : Option MV} (hT : TG y c1 n1 rt1 d mc ms chg rs sh av M v rs' sh' M') (hd : decode cc pc = .ok (.invokestatic idx, 3)) (hw : lkS own idx y) (hcd : Cond.code y c1 n1 rt1 ∈ AL) (hn : av.length = n) (hy : mhOk y n = true) (hrm : rq d n1 mc ms R cells slots) (hms : (mcs st).ble 8 = true) (hstk : stk = av.reverse ++ st)
    (hQ : QI chg Q) (h30 : (chg.all fun r => Nat.blt r.1 30) = true) (hls : noC chg ls = true) (hst : noS chg st = true)
    (kk : Z own cc nL rt xt nme R Q rs' sh' (cells + mc) (slots + ms) (pc + 3) ls (v.toList ++ st) M') : Z own cc nL rt xt nme R Q rs sh cells slots pc ls stk M := by
  subst hn
  intro p l e s m args below meth c D tc ad A H locs lsA C hP hS hl
  have hts := C.2.2.2.2.1
  obtain ⟨y1, y2, y3⟩ := mhOk_spec hy
  have h9 := mcs_map (ad := ad) st
  refine z_runG (a := (av.map (rv ad)).toArray) C hS hl (va_runS (Ts := AL) (As := av.map (rv ad)) ⟨C.1, C.2.1, C.2.2.1, C.2.2.2.1, hts⟩ (hT.met l D tc ad H.size)
    ⟨callB_of (n := av.length) hts (al_code hcd) rfl rfl rfl (hts _ hw.2.2) (hts _ hw.1) ⟨y1, y2, y3⟩ ⟨hrm.1, hrm.2.1⟩, hts _ hw.2.1⟩
    ⟨Ps.blind, C.pre hP hS _⟩ rfl (by rw [List.length_map]) hl.1 (by rw [hstk, List.map_append, List.map_reverse]) (lv_room (by rw [h9]; exact Nat.le_of_ble_eq_true hms)) hd ⟨hrm.2.2.1, hrm.2.2.2⟩) hQ h30 hls hst kk
/-- a receiver's class -/
theorem recv_o {p : Program} {l : Launch} {s : State} {m : MethodId} {args : Array Value} {meth : Method} {c : Code} {D : va_G} {tc : Nat → ClassId} {ad : Rf → Nat} {A : Nat → Prop} {H : Heap} {r : Rf} {ci : Nat} {ks : List Bool} (C : Cx own cc nL rt xt nme rs p l s m args meth c D tc ad A) (hP : Wd D tc ad sh M rs H) (hr : r ∈ rs) (hk : kd r = .inl (ci, ks)) (hci : ci < 13) : ∃ cell : Cell, H[ad r]? = some cell ∧ cell.vm.isStatics = false ∧ s.vm.findClass (Rc ci) = some cell.cls := by
  obtain ⟨q, -, hq⟩ := wl_at (tc := tc) (ad := ad) (sh := sh) (M := M) hr
  rw [ent_o hk] at hq
  exact va_recv C.2.2.2.2.2.2.2.2.2.1 hP (clC ci hci) hq
theorem z_cGV {idx n1 d n mc ms : Nat} {y : MethodName} {c1 : ByteArray} {rt1 : Option FieldType} {av : List MV} {chg : List Rf} {v : Option MV} {r : Rf} (hT : TG y c1 n1 rt1 d mc ms chg rs sh (.inr r :: av) M v rs' sh' M') (hd : decode cc pc = .ok (.invokevirtual idx, 3)) (hw : lkV own idx y) (hcd : Cond.code y c1 n1 rt1 ∈ AL) (hr : r ∈ rs) (hk : okO r y = true) (hn : av.length = n) (hy : mhOk y n = true) (hrm : rq d n1 mc ms R cells slots) (hms : (mcs st).ble 8 = true) (hstk : stk = av.reverse ++ .inr r :: st)
    (hQ : QI chg Q) (h30 : (chg.all fun r => Nat.blt r.1 30) = true) (hls : noC chg ls = true) (hst : noS chg st = true)
    (kk : Z own cc nL rt xt nme R Q rs' sh' (cells + mc) (slots + ms) (pc + 3) ls (v.toList ++ st) M') : Z own cc nL rt xt nme R Q rs sh cells slots pc ls stk M := by
  subst hn
  obtain ⟨ci, ks, h1, h2⟩ := okO_spec hk
  intro p l e s m args below meth c D tc ad A H locs lsA C hP hS hl
  have hts := C.2.2.2.2.1
  obtain ⟨y1, y2, y3⟩ := mhOk_spec hy
  have h9 := mcs_map (ad := ad) st
  have hrec := recv_o C hP hr h1 h2.1
  rw [h2.2] at hrec
  refine z_runG (a := (Value.ref (ad r) :: av.map (rv ad)).toArray) C hS hl (va_runV (Ts := AL) (As := av.map (rv ad)) (b := ad r) ⟨C.1, C.2.1, C.2.2.1, C.2.2.2.1, hts⟩ (hT.met l D tc ad H.size)
    ⟨callB_of (n := av.length) hts (al_code hcd) rfl rfl rfl (hts _ hw.2.2.2) (hts _ hw.1) ⟨y1, y2, y3⟩ ⟨hrm.1, hrm.2.1⟩, hts _ hw.2.1, hts _ hw.2.2.1⟩
    ⟨Ps.blind, hrec, C.pre hP hS _⟩ rfl (by rw [List.length_map]) hl.1 (by rw [hstk, List.map_append, List.map_reverse]; rfl) (lv_room (by rw [h9]; exact Nat.le_of_ble_eq_true hms)) hd ⟨hrm.2.2.1, hrm.2.2.2⟩) hQ h30 hls hst kk
theorem z_cGP {idx n1 d n mc ms z : Nat} {y : MethodName} {c1 : ByteArray} {rt1 : Option FieldType} {av : List MV} {chg : List Rf} {v : Option MV} (hT : TG y c1 n1 rt1 d mc ms chg rs sh (.inr (24, z, 0) :: av) M v rs' sh' M') (hd : decode cc pc = .ok (.invokevirtual idx, 3)) (hw : lkP own idx y) (hcd : Cond.code y c1 n1 rt1 ∈ AL) (hr : (24, z, 0) ∈ rs) (hn : av.length = n) (hy : mhOk y n = true) (hrm : rq d n1 mc ms R cells slots) (hms : (mcs st).ble 8 = true) (hstk : stk = av.reverse ++ .inr (24, z, 0) :: st)
    (hQ : QI chg Q) (h30 : (chg.all fun r => Nat.blt r.1 30) = true) (hls : noC chg ls = true) (hst : noS chg st = true) (hz : Cond.selects RJ4 yJ5_isLatin1_aae02 yJ5_isLatin1_aae02 ∈ AL ∧ Cond.instanceMethod yJ5_isLatin1_aae02 ∈ AL)
    (kk : Z own cc nL rt xt nme R Q rs' sh' (cells + mc) (slots + ms) (pc + 3) ls (v.toList ++ st) M') : Z own cc nL rt xt nme R Q rs sh cells slots pc ls stk M := by
  subst hn
  intro p l e s m args below meth c D tc ad A H locs lsA C hP hS hl
  have hts := C.2.2.2.2.1
  obtain ⟨y1, y2, y3⟩ := mhOk_spec hy
  have h9 := mcs_map (ad := ad) st
  have hpv : (Cond.privateMethod y).before args s = true := va_Nw.use rfl (C_nw C.2.2.2.2.2.2.2.2.2.2.2.1 hw.2.2.2.1)
  refine z_runG (a := (Value.ref (ad (24, z, 0)) :: av.map (rv ad)).toArray) C hS hl (va_runP (Ts := AL) (C := RJ4) (n := av.length) (As := av.map (rv ad)) (b := ad (24, z, 0)) ⟨C.1, C.2.1, C.2.2.1, C.2.2.2.1, hts⟩ (hT.met l D tc ad H.size)
    ⟨rfl, rfl, hrm.1, hrm.2.1, pay_in hts (al_code hcd), List.mem_cons_self⟩ (hts _ hcd) (hts _ hw.2.2.1) (hts _ hw.1) (hts _ hw.2.1) (sel_priv (hts _ hz.1) (hts _ hz.2) hpv (hts _ hw.2.1) (hw.2.2.2.2.trans rfl) ⟨y1, y2⟩) hpv ⟨y1, y2⟩ (fun sig h => by rw [h] at y3; exact (Option.some.inj y3).symm)
    ⟨Ps.blind, recv_o C hP hr rfl (by decide), C.pre hP hS _⟩ rfl (by rw [List.length_map]) hl.1 (by rw [hstk, List.map_append, List.map_reverse]; rfl) (lv_room (by rw [h9]; exact Nat.le_of_ble_eq_true hms)) hd ⟨hrm.2.2.1, hrm.2.2.2⟩) hQ h30 hls hst kk
theorem z_cGU {idx n1 d n mc ms z : Nat} {y : MethodName} {c1 : ByteArray} {rt1 : Option FieldType} {av : List MV} {chg : List Rf} {v : Option MV} (hT : TG y c1 n1 rt1 d mc ms chg rs sh (.inr (24, z, 0) :: av) M v rs' sh' M') (hd : decode cc pc = .ok (.invokevirtual idx, 3)) (hw : lkU own idx y) (hcd : Cond.code y c1 n1 rt1 ∈ AL) (hr : (24, z, 0) ∈ rs) (hn : av.length = n) (hy : mhOk y n = true) (hrm : rq d n1 mc ms R cells slots) (hms : (mcs st).ble 8 = true) (hstk : stk = av.reverse ++ .inr (24, z, 0) :: st)
    (hQ : QI chg Q) (h30 : (chg.all fun r => Nat.blt r.1 30) = true) (hls : noC chg ls = true) (hst : noS chg st = true)
    (kk : Z own cc nL rt xt nme R Q rs' sh' (cells + mc) (slots + ms) (pc + 3) ls (v.toList ++ st) M') : Z own cc nL rt xt nme R Q rs sh cells slots pc ls stk M := by
  subst hn
  intro p l e s m args below meth c D tc ad A H locs lsA C hP hS hl
  have hts := C.2.2.2.2.1
  obtain ⟨y1, y2, y3⟩ := mhOk_spec hy
  have h9 := mcs_map (ad := ad) st
  have hG := al_code hcd
  refine z_runG (a := (Value.ref (ad (24, z, 0)) :: av.map (rv ad)).toArray) C hS hl (va_runU (Ts := AL) (C := RJ4) (owner := y.cls) (x := y) (n := av.length) (As := av.map (rv ad)) (b := ad (24, z, 0)) ⟨C.1, C.2.1, C.2.2.1, C.2.2.2.1, hts⟩ (hT.met l D tc ad H.size)
    (va_cwU (n := av.length) hts (fun w hm => by
      unfold va_wsU at hm
      rcases List.mem_append.mp hm with h | h
      · have hAL : w ∈ AL := by
          simp only [List.mem_cons, List.not_mem_nil, or_false] at h
          rcases h with rfl | rfl | rfl | rfl | rfl
          · exact hw.1
          · exact hw.2.1
          · exact hw.2.2.1
          · exact hw.2.2.2.1
          · exact hw.2.2.2.2.1
        exact al_good (fun w hw => hw) w hAL
      · exact hG w h) rfl rfl rfl rfl ⟨y1, y2, y3⟩ ⟨hrm.1, hrm.2.1⟩)
    ⟨Ps.blind, recv_o C hP hr rfl (by decide), C.pre hP hS _⟩ rfl (by rw [List.length_map]) hl.1 (by rw [hstk, List.map_append, List.map_reverse]; rfl) (lv_room (by rw [h9]; exact Nat.le_of_ble_eq_true hms)) hd ⟨hrm.2.2.1, hrm.2.2.2⟩) hQ h30 hls hst kk
theorem z_cGW {idx n1 d n mc ms z : Nat} {y : MethodName} {c1 : ByteArray} {rt1 : Option FieldType} {av : List MV} {chg : List Rf} {v : Option MV} (hT : TG y c1 n1 rt1 d mc ms chg rs sh (.inr (24, z, 0) :: av) M v rs' sh' M') (hd : decode cc pc = .ok (.invokespecial idx, 3)) (hw : lkW own idx y) (hcd : Cond.code y c1 n1 rt1 ∈ AL) (hr : (24, z, 0) ∈ rs) (hn : av.length = n) (hy : (mhOk y n && !(y.name == "<init>")) = true) (hrm : rq d n1 mc ms R cells slots) (hms : (mcs st).ble 8 = true) (hstk : stk = av.reverse ++ .inr (24, z, 0) :: st)
    (hQ : QI chg Q) (h30 : (chg.all fun r => Nat.blt r.1 30) = true) (hls : noC chg ls = true) (hst : noS chg st = true)
    (kk : Z own cc nL rt xt nme R Q rs' sh' (cells + mc) (slots + ms) (pc + 3) ls (v.toList ++ st) M') : Z own cc nL rt xt nme R Q rs sh cells slots pc ls stk M := by
  subst hn
  simp only [Bool.and_eq_true, Bool.not_eq_true', beq_eq_false_iff_ne, ne_eq] at hy
  intro p l e s m args below meth c D tc ad A H locs lsA C hP hS hl
  have hts := C.2.2.2.2.1
  obtain ⟨y1, y2, y3⟩ := mhOk_spec hy.1
  have h9 := mcs_map (ad := ad) st
  have hG := al_code hcd
  have hat := (C.2.2.2.2.2.2.2.2.2.1.1 12 _ (clC 12 (by decide))).2
  refine z_runG (a := (Value.ref (ad (24, z, 0)) :: av.map (rv ad)).toArray) C hS hl (va_runSU (Ts := AL) (C := RJ4) (n := av.length) (As := av.map (rv ad)) (b := ad (24, z, 0)) hat ⟨C.1, C.2.1, C.2.2.1, C.2.2.2.1, hts⟩ (hT.met l D tc ad H.size)
    (va_cwSU (n := av.length) hts (fun w hm => by
      unfold va_wsSU at hm
      rcases List.mem_append.mp hm with h | h
      · have hAL : w ∈ AL := by
          simp only [List.mem_cons, List.not_mem_nil, or_false] at h
          rcases h with rfl | rfl | rfl | rfl | rfl
          · exact hw.1
          · exact hw.2.1
          · exact hw.2.2.1
          · exact hw.2.2.2.1
          · exact hw.2.2.2.2.1
        exact al_good (fun w hw => hw) w hAL
      · exact hG w h) rfl rfl rfl ⟨hy.2, y3⟩ ⟨hrm.1, hrm.2.1⟩)
    ⟨Ps.blind, recv_o C hP hr rfl (by decide), C.pre hP hS _⟩ rfl (by rw [List.length_map]) hl.1 (by rw [hstk, List.map_append, List.map_reverse]; rfl) (lv_room (by rw [h9]; exact Nat.le_of_ble_eq_true hms)) hd ⟨hrm.2.2.1, hrm.2.2.2⟩) hQ h30 hls hst kk
end ZTG
