/-! calls of methods that know a part of the things: the others stay -/
section ZFR
variable {own : String} {cc : ByteArray} {nL : Nat} {rt : Option FieldType} {xt : List ExceptionTableEntry} {nme : String} {R : Room} {Q : QF} {rs rs' r0 r1 ys : List Rf} {sh sh' sh0 sh1 : Sh} {cells slots pc : Nat} {ls : List (Option MV)} {st stk : List MV} {M M' : Mm}
def Frm (chg r0 r1 ys rs : List Rf) (sh0 sh1 sh sh' : Sh) (M M' : Mm) : Prop :=
  (∀ x ∈ r0, x ∈ rs) ∧ (∀ y ∈ ys, y ∈ rs ∧ y ∉ r0 ∧ y ∉ chg) ∧ (∀ x ∈ r0, ∀ j, refj x j = true → sh0 x j = sh x j) ∧ (∀ x ∈ r1, ∀ j, refj x j = true → sh' x j = sh1 x j) ∧
  (∀ y ∈ ys, ∀ j, refj y j = true → sh' y j = sh y j ∧ ∀ z, sh y j = some z → z ∉ chg) ∧ ∀ y ∈ ys, (∀ j, M'.1 y j = M.1 y j) ∧ ∀ j, M'.2 y j = M.2 y j
theorem Cx.sm {p : Program} {l : Launch} {s : State} {m : MethodId} {args : Array Value} {meth : Method} {c : Code} {D : va_G} {tc : Nat → ClassId} {ad : Rf → Nat} {A : Nat → Prop} (h : ∀ x ∈ r0, x ∈ rs) (C : Cx own cc nL rt xt nme rs p l s m args meth c D tc ad A) : Cx own cc nL rt xt nme r0 p l s m args meth c D tc ad A := by
  obtain ⟨c1, c2, c3, c4, c5, c6, c7, c8, c9, c10, c11, c12, c13, c14⟩ := C
  exact ⟨c1, c2, c3, c4, c5, c6, c7, c8, c9, c10, c11, c12, fun r hr => c13 r (h r hr), fun r hr r' hr' => c14 r (h r hr) r' (h r' hr')⟩
theorem Frm.wd {chg : List Rf} {D : va_G} {tc : Nat → ClassId} {ad : Rf → Nat} {H : Heap} (hF : Frm chg r0 r1 ys rs sh0 sh1 sh sh' M M') (hP : Wd D tc ad sh M rs H) : Wd D tc ad sh0 M r0 H := by
  intro k q hk
  rw [wl, List.getElem?_map] at hk
  cases hr : r0[k]? with
  | none => rw [hr] at hk; cases hk
  | some r =>
    rw [hr] at hk
    cases hk
    have hm := List.mem_of_getElem? hr
    obtain ⟨i, -, hi⟩ := wl_at (tc := tc) (ad := ad) (sh := sh) (M := M) (hF.1 r hm)
    show va_at D vwCl (ad r, ent tc ad sh0 M r) H
    rw [ent_cong (sh' := sh0) (M' := M) (sh := sh) (M := M) (ad := ad) (fun j hj => by rw [hF.2.2.1 r hm j hj]) (fun _ => rfl) (fun _ => rfl)]
    exact hP i _ hi
theorem z_runGf {mc ms : Nat} {chg : List Rf} {v : Option MV} (hF : Frm chg r0 r1 ys rs sh0 sh1 sh sh' M M') {p : Program} {l : Launch} {e : Env} {s : State} {m : MethodId} {args : Array Value} {below : List Frame} {meth : Method} {c : Code} {D : va_G} {tc : Nat → ClassId} {ad : Rf → Nat} {A : Nat → Prop} {H : Heap} {locs : List Loc} {lsA : Array Slot} {st0 : List Value} {a : Array Value}
    (C : Cx own cc nL rt xt nme rs p l s m args meth c D tc ad A) (hP : Wd D tc ad sh M rs H) (hS : va_S A s.heap H locs) (hl : zl ad lsA nL ls)
    (hr : va_Run p l e R s m args below meth c H locs cells slots mc ms (F0 m pc lsA st0) (st.map (rv ad)) (QsG D tc ad chg r1 sh1 M' v (Af ad r0 H.size) a) (Af ad r0 H.size))
    (hQ : QI chg Q) (h30 : (chg.all fun r => Nat.blt r.1 30) = true) (hls : noC chg ls = true) (hst : noS chg st = true)
    (kk : Z own cc nL rt xt nme R Q (r1 ++ ys) sh' (cells + mc) (slots + ms) (pc + 3) ls (v.toList ++ st) M') : W p l e R s m args below meth c H locs cells slots (Q below args s D tc ad A) (F0 m pc lsA st0) := by
  intro T hT X
  have haf := (C.sm hF.1).af hS
  obtain ⟨w, st₀, t, T', L, h0, X', hL, e1, e2, ⟨⟨ad', g1, g3, g4, hv, hb⟩, hFF⟩, go⟩ := hr T hT X
  obtain ⟨k1, k2, k3⟩ := vx_keep h0 e1 hS (fun q _ h => haf q h) haf hL hFF
  have g2 : ∀ r : Rf, 30 ≤ r.1 → ad' r = ad r := fun r hr => g1 r (fun hm => by
    have := List.all_eq_true.mp h30 r hm
    rw [Nat.blt_eq] at this
    omega)
  obtain ⟨f1, f2, f3, f4, f5, f6⟩ := hF
  have hinj := C.2.2.2.2.2.2.2.2.2.2.2.2.2
  have hady : ∀ y ∈ ys, ad' y = ad y := fun y hy => g1 y (f2 y hy).2.2
  have hlt : ∀ x ∈ rs, ad x < H.size := fun x hx => by
    obtain ⟨i, -, hi⟩ := wl_at (tc := tc) (ad := ad) (sh := sh) (M := M) hx
    exact (hP i _ hi).lt
  have hna : ∀ y ∈ ys, ¬ Af ad r0 H.size (ad y) := fun y hy h => by
    rcases h with ⟨r, hr, e⟩ | h
    · exact (f2 y hy).2.1 ((hinj y (f2 y hy).1 r (f1 r hr) e) ▸ hr)
    · have := hlt y (f2 y hy).1
      omega
  have hcell : ∀ y ∈ ys, T'.heap[ad y]? = H[ad y]? := fun y hy => by
    rw [e1, hFF.2 (ad y) (by rw [h0]; exact hlt y (f2 y hy).1) (hna y hy), h0]
  have hC' : Cx own cc nL rt xt nme (r1 ++ ys) p l s m args meth c D tc ad' A := by
    refine C.ch g2 (fun x hx => ?_) (fun x hx y hy e => ?_)
    · rcases List.mem_append.mp hx with h | h
      · exact haf _ (g3 x h)
      · rw [hady x h]; exact C.2.2.2.2.2.2.2.2.2.2.2.2.1 x (f2 x h).1
    · have hno : ∀ x ∈ r1, ∀ y ∈ ys, ad' x ≠ ad y := fun x hx y hy e => hna y hy (e ▸ g3 x hx)
      rcases List.mem_append.mp hx with h | h
      · rcases List.mem_append.mp hy with h' | h'
        · exact g4 x h y h' e
        · rw [hady y h'] at e; exact absurd e (hno x h y h')
      · rcases List.mem_append.mp hy with h' | h'
        · rw [hady x h] at e; exact absurd e.symm (hno y h' x h)
        · rw [hady x h, hady y h'] at e; exact hinj x (f2 x h).1 y (f2 y h').1 e
  have hW : Wd D tc ad' sh' M' (r1 ++ ys) T'.heap := by
    intro k q hk
    have hm := List.mem_of_getElem? hk
    rw [wl, List.map_append] at hm
    rcases List.mem_append.mp hm with h | h
    · obtain ⟨x, hx, rfl⟩ := List.mem_map.mp h
      obtain ⟨i, -, hi⟩ := wl_at (tc := tc) (ad := ad') (sh := sh1) (M := M') hx
      rw [ent_cong (sh' := sh') (M' := M') (sh := sh1) (M := M') (ad := ad') (fun j hj => by rw [f4 x hx j hj]) (fun _ => rfl) (fun _ => rfl), e1]
      exact hb i _ hi
    · obtain ⟨y, hy, rfl⟩ := List.mem_map.mp h
      obtain ⟨i, -, hi⟩ := wl_at (tc := tc) (ad := ad) (sh := sh) (M := M) (f2 y hy).1
      rw [hady y hy, ent_cong (ad' := ad') (sh' := sh') (M' := M') (sh := sh) (M := M) (ad := ad) (fun j hj => ?_) (f6 y hy).1 (f6 y hy).2]
      · exact (hP i _ hi).kept (hcell y hy)
      · rw [(f5 y hy j hj).1]
        cases hz : sh y j with
        | none => rfl
        | some z => exact congrArg some (g1 z ((f5 y hy j hj).2 z hz))
  have hk := kk p l e s m args below meth c D tc ad' A T'.heap (locs ++ L) lsA hC' hW k3 ⟨hl.1, hl.2.1, fun i u hi => by rw [rv_c g1 (noC_s hls hi)]; exact hl.2.2 i u hi⟩
  have ew : w = v.map (rv ad') := Outcome.returned.inj hv
  rw [List.map_append, show st.map (rv ad') = st.map (rv ad) from List.map_congr_left fun u hu => rv_c g1 (noS_s hst hu), show v.toList.map (rv ad') = w.toList by rw [ew]; cases v <;> rfl] at hk
  obtain ⟨t2, a1, b1⟩ := hk T' rfl X'
  exact ⟨t2, go t2 a1, hQ below args s D tc ad ad' A t2 g1 b1⟩
def lkO (own : String) (idx : Nat) (x y : MethodName) : Prop := Cond.methodLink own idx x ∈ AL ∧ Cond.sameMethod x.cls RJ5 x.name x.desc ∈ AL ∧ Cond.instanceMethod ⟨RJ5, x.name, x.desc⟩ ∈ AL ∧ Cond.selects RJ4 x y ∈ AL ∧ Cond.instanceMethod y ∈ AL ∧ Cond.initialized y.cls ∈ AL
def mhOO (x : MethodName) (n : Nat) : Bool := (parseMethodDescriptor x.desc).map (fun d => d.parameters.length) == some n
theorem mhOO_spec {x : MethodName} {n : Nat} (h : mhOO x n = true) : RJ5 ≠ "java/lang/invoke/MethodHandle" ∧ RJ5 ≠ "java/lang/invoke/VarHandle" ∧ (parseMethodDescriptor x.desc).map (fun d => d.parameters.length) = some n := ⟨by decide, by decide, by simpa [mhOO] using h⟩

theorem z_fGS {idx n1 d n mc ms : Nat} {y : MethodName} {c1 : ByteArray} {rt1 : Option FieldType} {av : List MV} {chg : List Rf} {v : Option MV} (hT : TG y c1 n1 rt1 d mc ms chg r0 sh0 av M v r1 sh1 M') (hF : Frm chg r0 r1 ys rs sh0 sh1 sh sh' M M') (hd : decode cc pc = .ok (.invokestatic idx, 3)) (hw : lkS own idx y) (hcd : Cond.code y c1 n1 rt1 ∈ AL) (hn : av.length = n) (hy : mhOk y n = true) (hrm : rq d n1 mc ms R cells slots) (hms : (mcs st).ble 8 = true) (hstk : stk = av.reverse ++ st)
    (hQ : QI chg Q) (h30 : (chg.all fun r => Nat.blt r.1 30) = true) (hls : noC chg ls = true) (hst : noS chg st = true)
    (kk : Z own cc nL rt xt nme R Q (r1 ++ ys) sh' (cells + mc) (slots + ms) (pc + 3) ls (v.toList ++ st) M') : Z own cc nL rt xt nme R Q rs sh cells slots pc ls stk M := by
  subst hn
  intro p l e s m args below meth c D tc ad A H locs lsA C hP hS hl
  have hts := C.2.2.2.2.1
  obtain ⟨y1, y2, y3⟩ := mhOk_spec hy
  have h9 := mcs_map (ad := ad) st
  refine z_runGf hF (a := (av.map (rv ad)).toArray) C hP hS hl (va_runS (Ts := AL) (As := av.map (rv ad)) ⟨C.1, C.2.1, C.2.2.1, C.2.2.2.1, hts⟩ (hT.met l D tc ad H.size)
    ⟨callB_of (n := av.length) hts (al_code hcd) rfl rfl rfl (hts _ hw.2.2) (hts _ hw.1) ⟨y1, y2, y3⟩ ⟨hrm.1, hrm.2.1⟩, hts _ hw.2.1⟩
    ⟨Ps.blind, (C.sm hF.1).pre (hF.wd hP) hS _⟩ rfl (by rw [List.length_map]) hl.1 (by rw [hstk, List.map_append, List.map_reverse]) (lv_room (by rw [h9]; exact Nat.le_of_ble_eq_true hms)) hd ⟨hrm.2.2.1, hrm.2.2.2⟩) hQ h30 hls hst kk
theorem z_fGP {idx n1 d n mc ms z : Nat} {y : MethodName} {c1 : ByteArray} {rt1 : Option FieldType} {av : List MV} {chg : List Rf} {v : Option MV} (hT : TG y c1 n1 rt1 d mc ms chg r0 sh0 (.inr (24, z, 0) :: av) M v r1 sh1 M') (hF : Frm chg r0 r1 ys rs sh0 sh1 sh sh' M M') (hd : decode cc pc = .ok (.invokevirtual idx, 3)) (hw : lkP own idx y) (hcd : Cond.code y c1 n1 rt1 ∈ AL) (hr : (24, z, 0) ∈ rs) (hn : av.length = n) (hy : mhOk y n = true) (hrm : rq d n1 mc ms R cells slots) (hms : (mcs st).ble 8 = true) (hstk : stk = av.reverse ++ .inr (24, z, 0) :: st)
    (hQ : QI chg Q) (h30 : (chg.all fun r => Nat.blt r.1 30) = true) (hls : noC chg ls = true) (hst : noS chg st = true) (hz : Cond.selects RJ4 yJ5_isLatin1_aae02 yJ5_isLatin1_aae02 ∈ AL ∧ Cond.instanceMethod yJ5_isLatin1_aae02 ∈ AL)
    (kk : Z own cc nL rt xt nme R Q (r1 ++ ys) sh' (cells + mc) (slots + ms) (pc + 3) ls (v.toList ++ st) M') : Z own cc nL rt xt nme R Q rs sh cells slots pc ls stk M := by
  subst hn
  intro p l e s m args below meth c D tc ad A H locs lsA C hP hS hl
  have hts := C.2.2.2.2.1
  obtain ⟨y1, y2, y3⟩ := mhOk_spec hy
  have h9 := mcs_map (ad := ad) st
  have hpv : (Cond.privateMethod y).before args s = true := va_Nw.use rfl (C_nw C.2.2.2.2.2.2.2.2.2.2.2.1 hw.2.2.2.1)
  refine z_runGf hF (a := (Value.ref (ad (24, z, 0)) :: av.map (rv ad)).toArray) C hP hS hl (va_runP (Ts := AL) (C := RJ4) (n := av.length) (As := av.map (rv ad)) (b := ad (24, z, 0)) ⟨C.1, C.2.1, C.2.2.1, C.2.2.2.1, hts⟩ (hT.met l D tc ad H.size)
    ⟨rfl, rfl, hrm.1, hrm.2.1, pay_in hts (al_code hcd), List.mem_cons_self⟩ (hts _ hcd) (hts _ hw.2.2.1) (hts _ hw.1) (hts _ hw.2.1) (sel_priv (hts _ hz.1) (hts _ hz.2) hpv (hts _ hw.2.1) (hw.2.2.2.2.trans rfl) ⟨y1, y2⟩) hpv ⟨y1, y2⟩ (fun sig h => by rw [h] at y3; exact (Option.some.inj y3).symm)
    ⟨Ps.blind, recv_o C hP hr rfl (by decide), (C.sm hF.1).pre (hF.wd hP) hS _⟩ rfl (by rw [List.length_map]) hl.1 (by rw [hstk, List.map_append, List.map_reverse]; rfl) (lv_room (by rw [h9]; exact Nat.le_of_ble_eq_true hms)) hd ⟨hrm.2.2.1, hrm.2.2.2⟩) hQ h30 hls hst kk
theorem z_cGO {idx n1 d n mc ms z : Nat} {x y : MethodName} {b0 : ByteArray} {m0 : Nat} {r0 : Option FieldType} {c1 : ByteArray} {rt1 : Option FieldType} {av : List MV} {chg : List Rf} {v : Option MV} (hT : TG y c1 n1 rt1 d mc ms chg rs sh (.inr (24, z, 0) :: av) M v rs' sh' M') (hd : decode cc pc = .ok (.invokevirtual idx, 3)) (hw : lkO own idx x y) (hcd : Cond.code y c1 n1 rt1 ∈ AL) (hr : (24, z, 0) ∈ rs) (hn : av.length = n) (h0 : Cond.code ⟨RJ5, x.name, x.desc⟩ b0 m0 r0 ∈ AL) (hy : mhOO x n = true) (hrm : rq d n1 mc ms R cells slots) (hms : (mcs st).ble 8 = true) (hstk : stk = av.reverse ++ .inr (24, z, 0) :: st)
    (hQ : QI chg Q) (h30 : (chg.all fun r => Nat.blt r.1 30) = true) (hls : noC chg ls = true) (hst : noS chg st = true)
    (kk : Z own cc nL rt xt nme R Q rs' sh' (cells + mc) (slots + ms) (pc + 3) ls (v.toList ++ st) M') : Z own cc nL rt xt nme R Q rs sh cells slots pc ls stk M := by
  subst hn
  intro p l e s m args below meth c D tc ad A H locs lsA C hP hS hl
  have hts := C.2.2.2.2.1
  obtain ⟨y1, y2, y3⟩ := mhOO_spec hy
  have h9 := mcs_map (ad := ad) st
  have hG := al_code hcd
  refine z_runG (a := (Value.ref (ad (24, z, 0)) :: av.map (rv ad)).toArray) C hS hl (va_runU (Ts := AL) (C := RJ4) (owner := RJ5) (x := x) (n := av.length) (As := av.map (rv ad)) (b := ad (24, z, 0)) ⟨C.1, C.2.1, C.2.2.1, C.2.2.2.1, hts⟩ (hT.met l D tc ad H.size)
    (va_cwO (n := av.length) hts (fun w hm => by
      unfold va_wsO at hm
      rcases List.mem_append.mp hm with h | h
      · have hAL : w ∈ AL := by
          simp only [List.mem_cons, List.not_mem_nil, or_false] at h
          rcases h with rfl | rfl | rfl | rfl | rfl | rfl
          · exact hw.1
          · exact hw.2.1
          · exact hw.2.2.1
          · exact hw.2.2.2.1
          · exact hw.2.2.2.2.1
          · exact hw.2.2.2.2.2
        exact al_good (fun w hw => hw) w hAL
      · exact hG w h) rfl rfl rfl h0 ⟨y1, y2, y3⟩ ⟨hrm.1, hrm.2.1⟩)
    ⟨Ps.blind, recv_o C hP hr rfl (by decide), C.pre hP hS _⟩ rfl (by rw [List.length_map]) hl.1 (by rw [hstk, List.map_append, List.map_reverse]; rfl) (lv_room (by rw [h9]; exact Nat.le_of_ble_eq_true hms)) hd ⟨hrm.2.2.1, hrm.2.2.2⟩) hQ h30 hls hst kk
theorem z_fGO {idx n1 d n mc ms z : Nat} {x y : MethodName} {b0 : ByteArray} {m0 : Nat} {rt0 : Option FieldType} {c1 : ByteArray} {rt1 : Option FieldType} {av : List MV} {chg : List Rf} {v : Option MV} (hT : TG y c1 n1 rt1 d mc ms chg r0 sh0 (.inr (24, z, 0) :: av) M v r1 sh1 M') (hF : Frm chg r0 r1 ys rs sh0 sh1 sh sh' M M') (hd : decode cc pc = .ok (.invokevirtual idx, 3)) (hw : lkO own idx x y) (hcd : Cond.code y c1 n1 rt1 ∈ AL) (hr : (24, z, 0) ∈ rs) (hn : av.length = n) (h0 : Cond.code ⟨RJ5, x.name, x.desc⟩ b0 m0 rt0 ∈ AL) (hy : mhOO x n = true) (hrm : rq d n1 mc ms R cells slots) (hms : (mcs st).ble 8 = true) (hstk : stk = av.reverse ++ .inr (24, z, 0) :: st)
    (hQ : QI chg Q) (h30 : (chg.all fun r => Nat.blt r.1 30) = true) (hls : noC chg ls = true) (hst : noS chg st = true)
    (kk : Z own cc nL rt xt nme R Q (r1 ++ ys) sh' (cells + mc) (slots + ms) (pc + 3) ls (v.toList ++ st) M') : Z own cc nL rt xt nme R Q rs sh cells slots pc ls stk M := by
  subst hn
  intro p l e s m args below meth c D tc ad A H locs lsA C hP hS hl
  have hts := C.2.2.2.2.1
  obtain ⟨y1, y2, y3⟩ := mhOO_spec hy
  have h9 := mcs_map (ad := ad) st
  have hG := al_code hcd
  refine z_runGf hF (a := (Value.ref (ad (24, z, 0)) :: av.map (rv ad)).toArray) C hP hS hl (va_runU (Ts := AL) (C := RJ4) (owner := RJ5) (x := x) (n := av.length) (As := av.map (rv ad)) (b := ad (24, z, 0)) ⟨C.1, C.2.1, C.2.2.1, C.2.2.2.1, hts⟩ (hT.met l D tc ad H.size)
    (va_cwO (n := av.length) hts (fun w hm => by
      unfold va_wsO at hm
      rcases List.mem_append.mp hm with h | h
      · have hAL : w ∈ AL := by
          simp only [List.mem_cons, List.not_mem_nil, or_false] at h
          rcases h with rfl | rfl | rfl | rfl | rfl | rfl
          · exact hw.1
          · exact hw.2.1
          · exact hw.2.2.1
          · exact hw.2.2.2.1
          · exact hw.2.2.2.2.1
          · exact hw.2.2.2.2.2
        exact al_good (fun w hw => hw) w hAL
      · exact hG w h) rfl rfl rfl h0 ⟨y1, y2, y3⟩ ⟨hrm.1, hrm.2.1⟩)
    ⟨Ps.blind, recv_o C hP hr rfl (by decide), (C.sm hF.1).pre (hF.wd hP) hS _⟩ rfl (by rw [List.length_map]) hl.1 (by rw [hstk, List.map_append, List.map_reverse]; rfl) (lv_room (by rw [h9]; exact Nat.le_of_ble_eq_true hms)) hd ⟨hrm.2.2.1, hrm.2.2.2⟩) hQ h30 hls hst kk
theorem z_fGU {idx n1 d n mc ms z : Nat} {y : MethodName} {c1 : ByteArray} {rt1 : Option FieldType} {av : List MV} {chg : List Rf} {v : Option MV} (hT : TG y c1 n1 rt1 d mc ms chg r0 sh0 (.inr (24, z, 0) :: av) M v r1 sh1 M') (hF : Frm chg r0 r1 ys rs sh0 sh1 sh sh' M M') (hd : decode cc pc = .ok (.invokevirtual idx, 3)) (hw : lkU own idx y) (hcd : Cond.code y c1 n1 rt1 ∈ AL) (hr : (24, z, 0) ∈ rs) (hn : av.length = n) (hy : mhOk y n = true) (hrm : rq d n1 mc ms R cells slots) (hms : (mcs st).ble 8 = true) (hstk : stk = av.reverse ++ .inr (24, z, 0) :: st)
    (hQ : QI chg Q) (h30 : (chg.all fun r => Nat.blt r.1 30) = true) (hls : noC chg ls = true) (hst : noS chg st = true)
    (kk : Z own cc nL rt xt nme R Q (r1 ++ ys) sh' (cells + mc) (slots + ms) (pc + 3) ls (v.toList ++ st) M') : Z own cc nL rt xt nme R Q rs sh cells slots pc ls stk M := by
  subst hn
  intro p l e s m args below meth c D tc ad A H locs lsA C hP hS hl
  have hts := C.2.2.2.2.1
  obtain ⟨y1, y2, y3⟩ := mhOk_spec hy
  have h9 := mcs_map (ad := ad) st
  have hG := al_code hcd
  refine z_runGf hF (a := (Value.ref (ad (24, z, 0)) :: av.map (rv ad)).toArray) C hP hS hl (va_runU (Ts := AL) (C := RJ4) (owner := y.cls) (x := y) (n := av.length) (As := av.map (rv ad)) (b := ad (24, z, 0)) ⟨C.1, C.2.1, C.2.2.1, C.2.2.2.1, hts⟩ (hT.met l D tc ad H.size)
    (va_cwU (n := av.length) hts (fun w hm => by
      unfold va_wsU at hm
      rcases List.mem_append.mp hm with h | h
      · have hAL : w ∈ AL := by
          simp only [List.mem_cons, List.not_mem_nil, or_false] at h
          rcases h with rfl | rfl | rfl | rfl | rfl
          · exact hw.1
          · exact hw.2.1
          · exact hw.2.2.1
          · exact hw.2.2.2.1
          · exact hw.2.2.2.2.1
        exact al_good (fun w hw => hw) w hAL
      · exact hG w h) rfl rfl rfl rfl ⟨y1, y2, y3⟩ ⟨hrm.1, hrm.2.1⟩)
    ⟨Ps.blind, recv_o C hP hr rfl (by decide), (C.sm hF.1).pre (hF.wd hP) hS _⟩ rfl (by rw [List.length_map]) hl.1 (by rw [hstk, List.map_append, List.map_reverse]; rfl) (lv_room (by rw [h9]; exact Nat.le_of_ble_eq_true hms)) hd ⟨hrm.2.2.1, hrm.2.2.2⟩) hQ h30 hls hst kk
/-- a method of String, of a constant -/
theorem z_fGT {idx n1 d j n mc ms : Nat} {y : MethodName} {c1 : ByteArray} {rt1 : Option FieldType} {av : List MV} {chg : List Rf} {v : Option MV} (hT : TG y c1 n1 rt1 d mc ms chg r0 sh0 (.inr (30, j, 0) :: av) M v r1 sh1 M') (hF : Frm chg r0 r1 ys rs sh0 sh1 sh sh' M M') (hd : decode cc pc = .ok (.invokevirtual idx, 3)) (hw : lkV own idx y) (hcd : Cond.code y c1 n1 rt1 ∈ AL) (hj : j < 15) (hn : av.length = n) (hy : (mhOk y n && (y.cls == "java/lang/String")) = true)
    (hrm : rq d n1 mc ms R cells slots) (hms : (mcs st).ble 8 = true) (hstk : stk = av.reverse ++ .inr (30, j, 0) :: st) (hQ : QI chg Q) (h30 : (chg.all fun r => Nat.blt r.1 30) = true) (hls : noC chg ls = true) (hst : noS chg st = true)
    (kk : Z own cc nL rt xt nme R Q (r1 ++ ys) sh' (cells + mc) (slots + ms) (pc + 3) ls (v.toList ++ st) M') : Z own cc nL rt xt nme R Q rs sh cells slots pc ls stk M := by
  subst hn
  simp only [Bool.and_eq_true, beq_iff_eq] at hy
  intro p l e s m args below meth c D tc ad A H locs lsA C hP hS hl
  have hts := C.2.2.2.2.1
  obtain ⟨y1, y2, y3⟩ := mhOk_spec hy.1
  have h9 := mcs_map (ad := ad) st
  obtain ⟨cell, g1, g2, g3, -⟩ := ((C.2.2.2.2.2.2.2.2.2.2.2.1.1 j hj).1).kept hS.2.1
  rw [← hy.2] at g3
  refine z_runGf hF (a := (Value.ref (ad (30, j, 0)) :: av.map (rv ad)).toArray) C hP hS hl (va_runV (Ts := AL) (As := av.map (rv ad)) (b := ad (30, j, 0)) ⟨C.1, C.2.1, C.2.2.1, C.2.2.2.1, hts⟩ (hT.met l D tc ad H.size)
    ⟨callB_of (n := av.length) hts (al_code hcd) rfl rfl rfl (hts _ hw.2.2.2) (hts _ hw.1) ⟨y1, y2, y3⟩ ⟨hrm.1, hrm.2.1⟩, hts _ hw.2.1, hts _ hw.2.2.1⟩
    ⟨Ps.blind, ⟨cell, g1, g2, g3⟩, (C.sm hF.1).pre (hF.wd hP) hS _⟩ rfl (by rw [List.length_map]) hl.1 (by rw [hstk, List.map_append, List.map_reverse]; rfl) (lv_room (by rw [h9]; exact Nat.le_of_ble_eq_true hms)) hd ⟨hrm.2.2.1, hrm.2.2.2⟩) hQ h30 hls hst kk
/-- a constructor's call -/
theorem z_cGI {idx n1 d n mc ms : Nat} {y : MethodName} {c1 : ByteArray} {av : List MV} {chg : List Rf} {r : Rf} (hT : TG y c1 n1 none d mc ms chg rs sh (.inr r :: av) M none rs' sh' M') (hd : decode cc pc = .ok (.invokespecial idx, 3)) (hw : Cond.methodLink own idx y ∈ AL ∧ Cond.instanceMethod y ∈ AL ∧ Cond.initialized y.cls ∈ AL) (hcd : Cond.code y c1 n1 none ∈ AL) (hyn : y.name = "<init>") (hn : av.length = n) (hy : mhOk y n = true)
    (hrm : rq d n1 mc ms R cells slots) (hms : (mcs st).ble 8 = true) (hstk : stk = av.reverse ++ .inr r :: st) (hQ : QI chg Q) (h30 : (chg.all fun r => Nat.blt r.1 30) = true) (hls : noC chg ls = true) (hst : noS chg st = true)
    (kk : Z own cc nL rt xt nme R Q rs' sh' (cells + mc) (slots + ms) (pc + 3) ls st M') : Z own cc nL rt xt nme R Q rs sh cells slots pc ls stk M := by
  subst hn
  intro p l e s m args below meth c D tc ad A H locs lsA C hP hS hl
  have hts := C.2.2.2.2.1
  obtain ⟨y1, y2, y3⟩ := mhOk_spec hy
  have h9 := mcs_map (ad := ad) st
  refine z_runG (v := none) (a := (Value.ref (ad r) :: av.map (rv ad)).toArray) C hS hl (va_runI (Ts := AL) (As := av.map (rv ad)) (b := ad r) ⟨C.1, C.2.1, C.2.2.1, C.2.2.2.1, hts⟩ (hT.met l D tc ad H.size)
    (cwI (n := av.length) hts (al_code hcd) rfl rfl rfl (hts _ hw.2.2) (hts _ hw.1) (hts _ hw.2.1) hyn ⟨y1, y2, y3⟩ ⟨hrm.1, hrm.2.1⟩)
    ⟨Ps.blind, C.pre hP hS _⟩ rfl (by rw [List.length_map]) hl.1 (by rw [hstk, List.map_append, List.map_reverse]; rfl) (lv_room (by rw [h9]; exact Nat.le_of_ble_eq_true hms)) hd ⟨hrm.2.2.1, hrm.2.2.2⟩) hQ h30 hls hst kk
theorem z_objI {idx : Nat} {r : Rf} (hd : decode cc pc = .ok (.invokespecial idx, 3)) (hw : Cond.methodLink own idx Lib.objectInit ∈ AL ∧ Cond.instanceMethod Lib.objectInit ∈ AL ∧ Cond.code Lib.objectInit ⟨#[0xb1]⟩ 1 none ∈ AL) (hfr : 1 ≤ R.frames) (hlo : mcs st + 12 ≤ R.locals)
    (kk : Z own cc nL rt xt nme R Q rs sh cells slots (pc + 3) ls st M) : Z own cc nL rt xt nme R Q rs sh cells slots pc ls (.inr r :: st) M := by
  intro p l e s m args below meth c D tc ad A H locs lsA C hP hS hl
  have hts := C.2.2.2.2.1
  have h9 := mcs_map (ad := ad) st
  refine W.objInit C.1 C.2.1 C.2.2.2.1 (hts _ hw.1) (hts _ hw.2.1) (hts _ hw.2.2) rfl (hl.1.trans C.2.2.1.symm) rfl hd hfr ?_ (kk p l e s m args below meth c D tc ad A H locs lsA C hP hS hl)
  show 2 * (F0 m pc lsA _).monitorRoom + ((st.map (rv ad)).map fun v => v.category).sum + 12 ≤ R.locals
  rw [h9, show (F0 m pc lsA ((.inr r :: st : List MV).map (rv ad))).monitorRoom = 0 from rfl]
  omega
/-! a new row of bytes -/
theorem noC_f {chg : List Rf} {r : Rf} (hr : chg.contains r = true) (h : noC chg ls = true) : ∀ (i : Nat) (v : MV), ls[i]? = some (some v) → v ≠ .inr r := fun i v hi e => noC_s h hi r e (by simpa using hr)
theorem noS_f {chg : List Rf} {r : Rf} (hr : chg.contains r = true) (h : noS chg st = true) : ∀ v ∈ st, v ≠ .inr r := fun v hv e => noS_s h hv r e (by simpa using hr)
theorem wl_NB {tc : Nat → ClassId} {ad : Rf → Nat} {r : Rf} {q : Nat} (hM : ∀ x, x ≠ r → M'.1 x = M.1 x ∧ M'.2 x = M.2 x) (hr : r ∉ rs) (hc : nrf sh rs r) : wl tc (adN ad r q) (shN sh r) M' (rs ++ [r]) = wl tc ad sh M rs ++ [(q, ent tc (adN ad r q) (shN sh r) M' r)] := by
  rw [wl, List.map_append, wl]
  refine congr (congrArg _ (List.map_congr_left fun x hx => ?_)) ?_
  · have hne : x ≠ r := fun e => hr (e ▸ hx)
    rw [show ent tc (adN ad r q) (shN sh r) M' x = ent tc (adN ad r q) (shN sh r) (mN M r) x from ent_other (by rw [(hM x hne).1]; funext j; exact (if_neg hne).symm) (by rw [(hM x hne).2]; funext j; exact (if_neg hne).symm), ent_N hr hc hx, adN_o hne]
  · rw [List.map_cons, List.map_nil, adN_s]
theorem z_newGM {r : Rf} {p : Program} {l : Launch} {e : Env} {s : State} {m : MethodId} {args : Array Value} {below : List Frame} {meth : Method} {c : Code} {D : va_G} {tc : Nat → ClassId} {ad : Rf → Nat} {A : Nat → Prop} {H1 : Heap} {locs : List Loc} {lsA : Array Slot} {q : Nat} {x : va_E} {pc2 cells2 slots2 : Nat}
    (C : Cx own cc nL rt xt nme rs p l s m args meth c D tc ad A) (hl : zl ad lsA nL ls) (hM : ∀ x, x ≠ r → M'.1 x = M.1 x ∧ M'.2 x = M.2 x) (hr : r ∉ rs) (h30 : r.1 < 30) (hc : nrf sh rs r) (hQ : QA Q r) (hls : ∀ (i : Nat) (v : MV), ls[i]? = some (some v) → v ≠ .inr r) (hst : ∀ v ∈ st, v ≠ .inr r)
    (hP1 : va_P D vwCl (wl tc ad sh M rs ++ [(q, x)]) H1) (hD1 : va_D A (wl tc ad sh M rs ++ [(q, x)])) (hS1 : va_S A s.heap H1 locs) (he : ent tc (adN ad r q) (shN sh r) M' r = x)
    (k : Z own cc nL rt xt nme R Q (rs ++ [r]) (shN sh r) cells2 slots2 pc2 ls (.inr r :: st) M') : W p l e R s m args below meth c H1 locs cells2 slots2 (Q below args s D tc ad A) (F0 m pc2 lsA (.ref q :: st.map (rv ad))) := by
  obtain ⟨d1, d2⟩ := d_last hD1
  refine w_mono (Q := Q below args s D tc (adN ad r q) A) (fun t => hQ below args s D tc ad q A t) ?_
  have hst2 : .ref q :: st.map (rv ad) = (.inr r :: st : List MV).map (rv (adN ad r q)) := by
    rw [List.map_cons]
    refine congr (congrArg _ (congrArg Value.ref adN_s.symm)) (List.map_congr_left fun v hv => (rv_N (hst v hv)).symm)
  rw [hst2]
  refine k p l e s m args below meth c D tc (adN ad r q) A H1 locs lsA (C.N h30 d1 d2) ?_ hS1 (zl_N hls hl)
  show va_P D vwCl (wl tc (adN ad r q) (shN sh r) M' (rs ++ [r])) H1
  rw [wl_NB hM hr hc, he]
  exact hP1
def nB (M : Mm) (r : Rf) (n : Int32) : Mm := putI (mN M r) r LG n
theorem nB_o {M : Mm} {r : Rf} {n : Int32} : ∀ x, x ≠ r → (nB M r n).1 x = M.1 x ∧ (nB M r n).2 x = M.2 x := fun x hx => ⟨by rw [show (nB M r n).1 x = (mN M r).1 x from putI_ne hx]; funext j; exact if_neg hx, by funext j; exact if_neg hx⟩
theorem nB_L {M : Mm} {r : Rf} {n : Int32} : (nB M r n).1 r LG = n := gp1
theorem nB_0 {M : Mm} {r : Rf} {n : Int32} {j : Nat} (h : j ≠ LG) : (nB M r n).1 r j = 0 := by
  show (if r.1 = r.1 ∧ j = LG ∧ r = r then n else (mN M r).1 r j) = 0
  rw [if_neg (fun c => h c.2.1)]
  exact if_pos rfl
theorem arr_b : Cond.arrayClass (newarray.typeOf .byte) ∈ AL := al_mc al_c3 36 rfl (by decide +kernel)
theorem arrV_cg {c : ClassId} {n : Nat} {f g : Nat → Value} (h : ∀ j, j < n → f j = g j) : arrV c n f = arrV c n g := by
  unfold arrV
  congr 2
  funext j
  exact h j.1 j.2
theorem vp_nB {M : Mm} {r : Rf} {n : Int32} {N : Nat} (hL : N ≤ LG) (cA : ClassId) : vp_cell cA (N, .inl ((nB M r n).1 r)) = arrV cA N (fun _ => defaultValue .byte) := by
  rw [vp_cell_i]
  refine arrV_cg fun j hj => ?_
  rw [nB_0 (by omega)]
  rfl
theorem clo_b {r : Rf} (hk : kd r = .inr (3, 0)) : clo [r] := by
  intro x hx j hj
  rw [List.mem_singleton.mp hx] at hj
  unfold refj at hj
  rw [hk] at hj
  simp at hj
theorem nd_clo {wv : Wv} {r : Rf} (hf : FrI wv [r]) (hk : kd r = .inr (3, 0)) : (wv.1 ++ [r]).Nodup ∧ clo [r] := ⟨nd_A hf (List.nodup_cons.mpr ⟨List.not_mem_nil, List.nodup_nil⟩), clo_b hk⟩
theorem z_newBW {wv : Wv} {n : Int32} {B : Nat} {r : Rf} (hA : (wv.1 ++ [r]).Nodup ∧ clo [r]) (hr : FrI wv [r]) (hk : kd r = .inr (3, 0)) (hd : decode cc pc = .ok (.newarray .byte, 2)) (h30 : r.1 < 30) (hn0 : ¬ n < 0) (hN : n.toNatClampNeg ≤ B) (hB : B ≤ LG) (hQ : QI [r] Q) (hls : noC [r] ls = true) (hst : noS [r] st = true) (hcells : cells + 1 ≤ R.cells) (hslots : slots + B ≤ R.slots)
    (k : Z own cc nL rt xt nme R Q (allR (wvA wv [r] hA)) SH (cells + 1) (slots + B) (pc + 2) ls (.inr r :: st) (nB M r n)) : Z own cc nL rt xt nme R Q (allR wv) SH cells slots pc ls (.inl (.int n) :: st) M := by
  have hrr : r ∉ allR wv := hr r List.mem_cons_self
  refine z_wid (c1 := cells) (s1 := slots + (B - n.toNatClampNeg)) (Nat.le_refl _) (by omega) ?_
  have kk : Z own cc nL rt xt nme R Q (allR wv ++ [r]) (shN SH r) (cells + 1) (slots + B) (pc + 2) ls (.inr r :: st) (nB M r n) := by
    refine z_cv (sh' := SH) (M' := nB M r n) (fun x hx => ⟨fun j hj => ?_, fun _ => rfl, fun _ => rfl⟩) k
    by_cases e : x = r
    · subst e
      unfold refj at hj
      rw [hk] at hj
      simp at hj
    · exact (if_neg e).symm
  intro p l e s m args below meth c D tc ad A H locs lsA C hP hS hl
  have hLG : LG = 1000000 := rfl
  refine va_newa (N' := n.toNatClampNeg) (a0 := (n.toNatClampNeg, .inl ((nB M r n).1 r))) C.1 C.2.1 (C.2.2.2.2.1 _ arr_b) rfl C.2.2.2.2.2.2.2.2.2.1 hP (Wd.D allR_nd C SH M) hS C.2.2.2.2.2.2.2.2.2.2.1 (fun cA => vp_nB (Nat.le_trans hN hB) cA) hn0 rfl (by show n.toNatClampNeg * 1 ≤ 536870912; omega) hcells (by omega) hd (fun q cA H1 hK1 hP1 hD1 hS1 => ?_)
  have e1 := tc_is (t := 3) C.2.2.2.2.2.2.2.2.2.1 rfl hK1
  rw [e1] at hP1 hD1
  rw [show slots + (B - n.toNatClampNeg) + n.toNatClampNeg = slots + B by omega]
  exact z_newGM C hl nB_o hrr h30 (nrf_of wv.2.2.2 hrr) (qa_I hQ (by simp)) (noC_f (by simp) hls) (noS_f (by simp) hst) hP1 hD1 hS1 (by rw [ent_b hk, nB_L]) kk
/-! a builder's row is another one now -/
def mvR (M : Mm) (a b : Rf) : Mm := (fun x j => if x = b then M.1 a j else M.1 x j, fun x j => if x = b then M.2 a j else M.2 x j)
theorem gd_mem {l : List (Option Rf)} {j : Nat} {y : Rf} (h : l.getD j none = some y) : some y ∈ l := by
  rw [List.getD_eq_getElem?_getD] at h
  cases hj : l[j]? with
  | none => rw [hj] at h; cases h
  | some o =>
    rw [hj] at h
    have h : o = some y := h
    exact h ▸ List.mem_of_getElem? hj
theorem sh_25 {x : Rf} {j z : Nat} (h : SH x j = some (25, z, 0)) : x = (24, z, 0) ∧ j = 0 := by
  obtain ⟨x1, x2, x3⟩ := x
  unfold SH at h
  split at h
  case h_1 => have := gd_mem h; simp at this
  case h_3 => have := gd_mem h; simp at this
  case h_4 => have := gd_mem h; simp at this
  case h_5 => have := gd_mem h; simp at this
  all_goals first
    | (simp at h; done)
    | (split at h <;> (simp at h; done))
    | (rename_i hx; split at h
       · rename_i hc
         have hx : x1 = 24 := hx
         have h3 : x3 = 0 := hc.2
         simp at h
         exact ⟨by rw [hx, h, h3], hc.1⟩
       · cases h)
/-- the builder's field turns to the new row, which takes the old one's name -/
theorem z_putV {wv : Wv} {z idx : Nat} {hA : (wv.1 ++ [((27, 0, 0) : Rf)]).Nodup ∧ clo [(27, 0, 0)]} (hz : TbI wv z) (h27 : FrI wv [(27, 0, 0)]) (hd : decode cc pc = .ok (.putfield idx, 3)) (hw : lkF own idx 12 0) (hQ : QI [(25, z, 0), (27, 0, 0)] Q) (hls : noC [(25, z, 0), (27, 0, 0)] ls = true) (hst : noS [(25, z, 0), (27, 0, 0)] st = true)
    (k : Z own cc nL rt xt nme R Q (allR wv) SH cells slots (pc + 3) ls st (mvR M (27, 0, 0) (25, z, 0))) : Z own cc nL rt xt nme R Q (allR (wvA wv [(27, 0, 0)] hA)) SH cells slots pc ls (.inr (27, 0, 0) :: .inr (24, z, 0) :: st) M := by
  show Z own cc nL rt xt nme R Q (allR wv ++ [(27, 0, 0)]) SH cells slots pc ls (.inr (27, 0, 0) :: .inr (24, z, 0) :: st) M
  intro p l e s m args below meth c D tc ad A H locs lsA C hP hS hl
  have h27n : ((27, 0, 0) : Rf) ∉ allR wv := h27 _ List.mem_cons_self
  have hn : (allR wv ++ [(27, 0, 0)]).Nodup := nd_A h27 (List.nodup_cons.mpr ⟨List.not_mem_nil, List.nodup_nil⟩)
  obtain ⟨ks, h1, h2, h3, h4⟩ := okF_spec (b := true) (r := (24, z, 0)) (ci := 12) (j := 0) rfl
  obtain ⟨q, hq0, hq⟩ := wl_at (tc := tc) (ad := ad) (sh := SH) (M := M) (List.mem_append_left [((27, 0, 0) : Rf)] hz.1)
  have hnar : narrow (tyc 12 0) (.ref (ad (27, 0, 0))) = .ref (ad (27, 0, 0)) := rfl
  have hfit : fits (tyc 12 0) (.ref (ad (27, 0, 0))) = true := rfl
  rw [ent_o h1] at hq
  refine va_put (C := Rc 12) (T := Tc 12) (N := Nc 12) (ty := tyc 12 0) C.1 C.2.1 C.2.2.2.2.1 (inC 12 h3) (tyc 12) (tyC 12 h3) (nmC 12 h3) C.2.2.2.1 C.2.2.2.2.2.2.2.2.2.1 hP (Wd.D hn C SH M) hS q hq (clC 12 h3) 0 h4 (C.2.2.2.2.1 _ hw) (fun _ h => h) rfl (tyC 12 h3 0 h4) hnar hfit (by rw [fv_len]; exact (List.getElem?_eq_some_iff.mp h2).1) hd (fun H1 locs1 hP1 _ hS1 => ?_)
  have hP1 : va_P D vwCl (List.set (wl tc ad SH M (allR wv ++ [(27, 0, 0)])) q (ad (24, z, 0), .inr (12, (fv ad SH M (24, z, 0) 0 ks).set 0 (.ref (ad (27, 0, 0)))))) H1 := hP1
  rw [fv_P (ad := ad) (sh := SH) (M := M) (r := (24, z, 0)) (y := (27, 0, 0)) ks 0 0 rfl h2, wl_setS (sh' := shP SH (24, z, 0) 0 (some (27, 0, 0))) hn hq0 (ent_o h1) (fun r' h => ent_P h)] at hP1
  -- the names
  have g1 : ∀ r, r ∉ [((25, z, 0) : Rf), (27, 0, 0)] → adN ad (25, z, 0) (ad (27, 0, 0)) r = ad r := fun r hr => adN_o (fun e => hr (by rw [e]; exact List.mem_cons_self))
  have hne : ∀ x ∈ allR wv, x ≠ (25, z, 0) → adN ad (25, z, 0) (ad (27, 0, 0)) x = ad x := fun x _ h => adN_o h
  have hA := C.2.2.2.2.2.2.2.2.2.2.2.2.1
  have hinj := C.2.2.2.2.2.2.2.2.2.2.2.2.2
  have ml : ∀ x ∈ allR wv, x ∈ allR wv ++ [((27, 0, 0) : Rf)] := fun x h => List.mem_append_left _ h
  have mr : ((27, 0, 0) : Rf) ∈ allR wv ++ [((27, 0, 0) : Rf)] := List.mem_append_right _ List.mem_cons_self
  have hC' : Cx own cc nL rt xt nme (allR wv) p l s m args meth c D tc (adN ad (25, z, 0) (ad (27, 0, 0))) A := by
    refine C.ch (fun r hr => adN_o (fun e => by rw [e] at hr; exact absurd hr (by show ¬ 30 ≤ 25; decide))) (fun x hx => ?_) (fun x hx y hy e => ?_)
    · by_cases hx2 : x = (25, z, 0)
      · rw [hx2, adN_s]; exact hA _ mr
      · rw [adN_o hx2]; exact hA _ (ml x hx)
    · by_cases hx2 : x = (25, z, 0)
      · by_cases hy2 : y = (25, z, 0)
        · rw [hx2, hy2]
        · rw [hx2, adN_s, adN_o hy2] at e
          exact absurd (hinj _ mr y (ml y hy) e) (fun e2 => h27n (e2 ▸ hy))
      · by_cases hy2 : y = (25, z, 0)
        · rw [hy2, adN_s, adN_o hx2] at e
          exact absurd (hinj x (ml x hx) _ mr e) (fun e2 => h27n (e2 ▸ hx))
        · rw [adN_o hx2, adN_o hy2] at e
          exact hinj x (ml x hx) y (ml y hy) e
  have hW : Wd D tc (adN ad (25, z, 0) (ad (27, 0, 0))) SH (mvR M (27, 0, 0) (25, z, 0)) (allR wv) H1 := by
    intro k2 q2 hk2
    have hm := List.mem_of_getElem? hk2
    obtain ⟨x, hx, rfl⟩ := List.mem_map.mp hm
    by_cases hx2 : x = (25, z, 0)
    · obtain ⟨i, -, hi⟩ := wl_at (tc := tc) (ad := ad) (sh := shP SH (24, z, 0) 0 (some (27, 0, 0))) (M := M) mr
      have := hP1 i _ hi
      rw [ent_b rfl] at this
      rw [hx2, adN_s, ent_b rfl, show (mvR M (27, 0, 0) (25, z, 0)).1 (25, z, 0) = M.1 (27, 0, 0) from funext fun j => if_pos rfl]
      exact this
    · obtain ⟨i, -, hi⟩ := wl_at (tc := tc) (ad := ad) (sh := shP SH (24, z, 0) 0 (some (27, 0, 0))) (M := M) (ml x hx)
      have := hP1 i _ hi
      rw [adN_o hx2, ent_cong (ad := ad) (sh := shP SH (24, z, 0) 0 (some (27, 0, 0))) (M := M) (fun j hj => ?_) (fun j => if_neg hx2) (fun j => if_neg hx2)]
      · exact this
      · by_cases hx3 : x = (24, z, 0) ∧ j = 0
        · obtain ⟨rfl, rfl⟩ := hx3
          show (some ((25, z, 0) : Rf)).map _ = Option.map ad (if _ then _ else _)
          rw [if_pos ⟨rfl, rfl⟩]
          exact congrArg some adN_s
        · rw [show shP SH (24, z, 0) 0 (some (27, 0, 0)) x j = SH x j from if_neg hx3]
          cases hs : SH x j with
          | none => rfl
          | some y =>
            refine congrArg some (adN_o (fun e => ?_))
            rw [e] at hs
            exact hx3 (sh_25 hs)
  have hk := k p l e s m args below meth c D tc (adN ad (25, z, 0) (ad (27, 0, 0))) A H1 locs1 lsA hC' hW hS1 ⟨hl.1, hl.2.1, fun i u hi => by rw [rv_c g1 (noC_s hls hi)]; exact hl.2.2 i u hi⟩
  rw [show st.map (rv (adN ad (25, z, 0) (ad (27, 0, 0)))) = st.map (rv ad) from List.map_congr_left fun u hu => rv_c g1 (noS_s hst hu)] at hk
  exact w_mono (fun t => hQ below args s D tc ad _ A t g1) hk
/-! a copy of a whole row, and its cast -/
theorem tc_b {D : va_G} {tc : Nat → ClassId} {s : State} (hK : va_K D vwCl (tys tc) s) : s.vm.findClass "[B" = some (tc 3) := (hK.2 3 (tc 3, .byte) rfl).2
theorem z_castB {idx : Nat} {r : Rf} (hd : decode cc pc = .ok (.checkcast idx, 3)) (hw : Cond.classLink own idx "[B" ∈ AL) (hr : r ∈ rs) (hk : kd r = .inr (3, 0)) (k : Z own cc nL rt xt nme R Q rs sh cells slots (pc + 3) ls (.inr r :: st) M) : Z own cc nL rt xt nme R Q rs sh cells slots pc ls (.inr r :: st) M := by
  intro p l e s m args below meth c D tc ad A H locs lsA C hP hS hl
  obtain ⟨q, -, hq⟩ := wl_at (tc := tc) (ad := ad) (sh := sh) (M := M) hr
  rw [ent_b hk] at hq
  exact va_castA C.1 C.2.1 C.2.2.2.1 (C.2.2.2.2.1 _ hw) hP q hq (tc_b C.2.2.2.2.2.2.2.2.2.1) hd (k p l e s m args below meth c D tc ad A H locs lsA C hP hS hl)
theorem cl_sam : Cond.sameMethod "[B" "java/lang/Object" "clone" "()Ljava/lang/Object;" ∈ AL := al_mc al_c4 77 rfl (by decide +kernel)
theorem cl_nat : Cond.native ⟨"java/lang/Object", "clone", "()Ljava/lang/Object;"⟩ ∈ AL := al_mc al_c4 78 rfl (by decide +kernel)
theorem cl_ins : Cond.instanceMethod ⟨"java/lang/Object", "clone", "()Ljava/lang/Object;"⟩ ∈ AL := al_mc al_c4 79 rfl (by decide +kernel)
theorem cl_sel : Cond.selects "[B" ⟨"[B", "clone", "()Ljava/lang/Object;"⟩ ⟨"java/lang/Object", "clone", "()Ljava/lang/Object;"⟩ ∈ AL := al_mc al_c4 80 rfl (by decide +kernel)
theorem cl_lnk : Cond.methodLink RJ7 310 ⟨"[B", "clone", "()Ljava/lang/Object;"⟩ ∈ AL := al_mc al_c4 76 rfl (by decide +kernel)
theorem cl_cst : Cond.classLink RJ7 311 "[B" ∈ AL := al_mc al_c4 82 rfl (by decide +kernel)
theorem z_cloneB {wv : Wv} {B idx : Nat} {r r' : Rf} (hA : (wv.1 ++ [r']).Nodup ∧ clo [r']) (hr' : FrI wv [r']) (hr : r ∈ allR wv) (hk : kd r = .inr (3, 0)) (hk' : kd r' = .inr (3, 0)) (hd : decode cc pc = .ok (.invokevirtual idx, 3)) (hml : Cond.methodLink own idx ⟨"[B", "clone", "()Ljava/lang/Object;"⟩ ∈ AL) (h30 : r'.1 < 30)
    (hfit : fitB (M.1 r) (M.1 r LG).toNatClampNeg = true) (hB : (M.1 r LG).toNatClampNeg ≤ B) (hQ : QI [r'] Q) (hls : noC [r'] ls = true) (hst : noS [r'] st = true) (hframes : 1 ≤ R.frames) (hcells : cells + 1 ≤ R.cells) (hslots : slots + B ≤ R.slots) (hloc : mcs st + 14 ≤ R.locals)
    (k : Z own cc nL rt xt nme R Q (allR (wvA wv [r'] hA)) SH (cells + 1) (slots + B) (pc + 3) ls (.inr r' :: st) (mvR M r r')) : Z own cc nL rt xt nme R Q (allR wv) SH cells slots pc ls (.inr r :: st) M := by
  have hrr : r' ∉ allR wv := hr' r' List.mem_cons_self
  have hne : r ≠ r' := fun e => hrr (e ▸ hr)
  refine z_wid (c1 := cells) (s1 := slots + (B - (M.1 r LG).toNatClampNeg)) (Nat.le_refl _) (by omega) ?_
  have kk : Z own cc nL rt xt nme R Q (allR wv ++ [r']) (shN SH r') (cells + 1) (slots + B) (pc + 3) ls (.inr r' :: st) (mvR M r r') := by
    refine z_cv (sh' := SH) (M' := mvR M r r') (fun x hx => ⟨fun j hj => ?_, fun _ => rfl, fun _ => rfl⟩) k
    by_cases e : x = r'
    · subst e
      unfold refj at hj
      rw [hk'] at hj
      simp at hj
    · exact (if_neg e).symm
  intro p l e s m args below meth c D tc ad A H locs lsA C hP hS hl
  obtain ⟨q, -, hq⟩ := wl_at (tc := tc) (ad := ad) (sh := SH) (M := M) hr
  rw [ent_b hk] at hq
  have hts := C.2.2.2.2.1
  have h9 := mcs_map (ad := ad) st
  refine va_clone (ty := .byte) (cA := tc 3) (x := ((M.1 r LG).toNatClampNeg, .inl (M.1 r))) C.1 C.2.1 (C.2.2.1.trans hl.1.symm) C.2.2.2.1 (hts _ hml) (hts _ cl_sam) (hts _ cl_nat) (hts _ cl_ins) (hts _ cl_sel) (C_nw C.2.2.2.2.2.2.2.2.2.2.2.1 (by decide +kernel)) C.2.2.2.2.2.2.2.2.2.1 hP (Wd.D allR_nd C SH M) hS C.2.2.2.2.2.2.2.2.2.2.1 q 3 hq rfl (tc_b C.2.2.2.2.2.2.2.2.2.1) (fun i v hi => ?_) hframes (by rw [h9]; exact hloc) hcells (by show slots + (B - (M.1 r LG).toNatClampNeg) + (M.1 r LG).toNatClampNeg ≤ R.slots; omega) hd (fun q2 H1 hK1 hP1 hD1 hS1 => ?_)
  · have hi2 : i < (M.1 r LG).toNatClampNeg := by
      have := (Array.getElem?_eq_some_iff.mp hi).1
      rwa [vp_cell_i, arrV_size] at this
    rw [vp_cell_i, arrV_read _ _ hi2] at hi
    cases hi
    exact fitB_s hfit i hi2
  · rw [show slots + (B - (M.1 r LG).toNatClampNeg) + ((M.1 r LG).toNatClampNeg, (Sum.inl (M.1 r) : (Nat → Int32) ⊕ _)).1 = slots + B by show slots + (B - (M.1 r LG).toNatClampNeg) + (M.1 r LG).toNatClampNeg = _; omega]
    refine z_newGM (M' := mvR M r r') C hl (fun x hx => ⟨funext fun j => if_neg hx, funext fun j => if_neg hx⟩) hrr h30 (nrf_of wv.2.2.2 hrr) (qa_I hQ (by simp)) (noC_f (by simp) hls) (noS_f (by simp) hst) hP1 hD1 hS1 ?_ kk
    rw [ent_b hk', show (mvR M r r').1 r' = M.1 r from funext fun j => if_pos rfl]
end ZFR
