section ZC
variable {own : String} {cc : ByteArray} {nL : Nat} {rt : Option FieldType} {xt : List ExceptionTableEntry} {nme : String} {R : Room} {Q : QF} {rs : List Rf} {sh : Sh} {cells slots pc : Nat} {ls : List (Option MV)} {st stk : List MV} {M : Mm}
section
variable {p : Program} {l : Launch} {e : Env} {s : State} {m : MethodId} {args : Array Value} {below : List Frame} {meth : Method} {c : Code} {H : Heap} {locs : List Loc}
/-- an int that is narrowed on its way out -/
theorem zretN {Qc : Array Value → State → Outcome → State → Prop} {free : Addr → Prop} {v w : Int32} {ty : FieldType} (hexec : p.tables.exec = Jvm.exec) (hb : c.code = cc) (hr : meth.sig.returnType = some ty) (hn : narrow ty (.int v) = .int w)
    (hq : ∀ t : State, t.heap = H → s.WarmedH t.vm → Qc args s (.returned (some (.int w))) t) (hf : ∀ q ∈ locs, free q.base)
    {ls : Array Slot} (hdg : decode cc pc = .ok (.ireturn, 1)) (hlocks : meth.locks = false) : W p l e R s m args below meth c H locs cells slots (MQ below Qc args s cells slots free) (F0 m pc ls [.int v]) := by
  intro T hT X
  have hlocks : meth.locks = false := hlocks
  obtain ⟨fs, hret, hrun, hended, hW, hframe⟩ := X.leave (v := some (.int w)) (fun h => by rw [hr] at h; cases h)
  have hmeth' : T.vm.method? m = some meth := X.method'
  refine ⟨T.setFrames fs, ?_, .returned (some (.int w)), hrun, hended, hq _ hT hW, locs, ⟨⟨_, rfl⟩, hW, hframe⟩, hf⟩
  jvm_step X.here [X.here.top, hexec, hb, hdg, hmeth', hr, hn]
  (try refine ⟨rfl, ?_⟩); (try refine ⟨rfl, ?_⟩)
  first | (intro acts; rw [hret _ acts rfl rfl rfl]) | rw [hret _ _ rfl rfl rfl]
  exact Steps.refl _
end
theorem z_iret {mc ms : Nat} {PR : Option Value → Mm → Prop} {PX : String → Mm → Prop} {v w : Int32} {ty : FieldType} (hd : decode cc pc = .ok (.ireturn, 1)) (hrt : rt = some ty) (hnw : narrow ty (.int v) = .int w) (hc : cells ≤ mc) (hs : slots ≤ ms) (hp : PR (some (.int w)) M) : Z own cc nL rt xt nme R (QM sh rs mc ms PR PX) rs sh cells slots pc ls (.inl (.int v) :: []) M := by
  intro p l e s m args below meth c D tc ad A H locs lsA C hP hS hl
  refine W.widen hc hs (vx_ret ?_)
  exact zretN C.1 C.2.1 (C.2.2.2.2.2.2.1.trans hrt) hnw (fun t ht hW => ⟨⟨some (.int w), M, rfl, hp, by rw [ht]; exact hP⟩, hS.F ht⟩) hS.2.2 hd C.2.2.2.2.2.1
theorem z_vret {mc ms : Nat} {PR : Option Value → Mm → Prop} {PX : String → Mm → Prop} (hd : decode cc pc = .ok (.return_, 1)) (hrt : rt = none) (hc : cells ≤ mc) (hs : slots ≤ ms) (hp : PR none M) : Z own cc nL rt xt nme R (QM sh rs mc ms PR PX) rs sh cells slots pc ls [] M := by
  intro p l e s m args below meth c D tc ad A H locs lsA C hP hS hl
  refine W.widen hc hs (vx_ret ?_)
  exact W.vret C.1 C.2.1 (C.2.2.2.2.2.2.1.trans hrt) (fun t ht hW => ⟨⟨none, M, rfl, hp, by rw [ht]; exact hP⟩, hS.F ht⟩) hS.2.2 hd C.2.2.2.2.2.1
theorem z_lret {mc ms : Nat} {PR : Option Value → Mm → Prop} {PX : String → Mm → Prop} {v : Int64} (hd : decode cc pc = .ok (.lreturn, 1)) (hrt : rt = some .long) (hc : cells ≤ mc) (hs : slots ≤ ms) (hp : PR (some (.long v)) M) : Z own cc nL rt xt nme R (QM sh rs mc ms PR PX) rs sh cells slots pc ls (.inl (.long v) :: []) M := by
  intro p l e s m args below meth c D tc ad A H locs lsA C hP hS hl
  refine W.widen hc hs (vx_ret ?_)
  exact W.lret C.1 C.2.1 (C.2.2.2.2.2.2.1.trans hrt) (fun t ht hW => ⟨⟨some (.long v), M, rfl, hp, by rw [ht]; exact hP⟩, hS.F ht⟩) hS.2.2 hd C.2.2.2.2.2.1
theorem z_dret {mc ms : Nat} {PR : Option Value → Mm → Prop} {PX : String → Mm → Prop} {v : UInt64} (hd : decode cc pc = .ok (.dreturn, 1)) (hrt : rt = some .double) (hc : cells ≤ mc) (hs : slots ≤ ms) (hp : PR (some (.double v)) M) : Z own cc nL rt xt nme R (QM sh rs mc ms PR PX) rs sh cells slots pc ls (.inl (.double v) :: []) M := by
  intro p l e s m args below meth c D tc ad A H locs lsA C hP hS hl
  refine W.widen hc hs (vx_ret ?_)
  exact W.dret C.1 C.2.1 (C.2.2.2.2.2.2.1.trans hrt) (fun t ht hW => ⟨⟨some (.double v), M, rfl, hp, by rw [ht]; exact hP⟩, hS.F ht⟩) hS.2.2 hd C.2.2.2.2.2.1
theorem z_fret {mc ms : Nat} {PR : Option Value → Mm → Prop} {PX : String → Mm → Prop} {v : UInt32} (hd : decode cc pc = .ok (.freturn, 1)) (hrt : rt = some .float) (hc : cells ≤ mc) (hs : slots ≤ ms) (hp : PR (some (.float v)) M) : Z own cc nL rt xt nme R (QM sh rs mc ms PR PX) rs sh cells slots pc ls (.inl (.float v) :: []) M := by
  intro p l e s m args below meth c D tc ad A H locs lsA C hP hS hl
  refine W.widen hc hs (vx_ret ?_)
  exact W.fret C.1 C.2.1 (C.2.2.2.2.2.2.1.trans hrt) (fun t ht hW => ⟨⟨some (.float v), M, rfl, hp, by rw [ht]; exact hP⟩, hS.F ht⟩) hS.2.2 hd C.2.2.2.2.2.1
/-- thrown out of a method of the model -/
theorem zx_out {mc ms : Nat} {PR : Option Value → Mm → Prop} {PX : String → Mm → Prop} {E : String} (hx : xt = []) (hc : cells ≤ mc) (hs : slots ≤ ms) (hp : PX E M) : ZX own cc nL rt xt nme R (QM sh rs mc ms PR PX) rs sh cells slots pc ls E M := by
  intro p l e s m args below meth c D tc ad A H locs lsA rest q ce C hP hS hl hq hv hcl
  refine vx_out (fun x h => ?_) C.2.2.2.2.2.1 hq hv hcl (fun t ht hvm => ⟨⟨M, hp, by rw [ht]; exact hP⟩, hS.F ht⟩) hS.2.2 hc hs
  rw [C.2.2.2.2.2.2.2.1, hx] at h
  cases h
theorem Ps.blind {D : va_G} {tc : Nat → ClassId} {ad : Rf → Nat} {l : Launch} {sz : Nat} {av : List MV} : FrameBlind (Ps D tc ad l sh M rs sz av) := by
  intro a U g mk h
  obtain ⟨h1, h2, h3, h4, h5, h6⟩ := h
  exact ⟨h1, h2, h3, va_K.moved (u := U) (U := U.calling g mk a) (Vm.Alike.refl U.vm) h4, Fx.to (s := U) (U := U.calling g mk a) (H0 := U.heap) (H := U.heap) h5 (State.WarmedH.refl U) (fun _ _ _ => rfl) (fun _ h => h), h6⟩
theorem Cx.pre {p : Program} {l : Launch} {s : State} {m : MethodId} {args : Array Value} {meth : Method} {c : Code} {D : va_G} {tc : Nat → ClassId} {ad : Rf → Nat} {A : Nat → Prop} {H : Heap} {locs : List Loc} (C : Cx own cc nL rt xt nme rs p l s m args meth c D tc ad A) (hP : Wd D tc ad sh M rs H) (hS : va_S A s.heap H locs) (av : List MV) :
    ∀ U : State, U.heap = H → s.WarmedH U.vm → Ps D tc ad l sh M rs H.size av (av.map (rv ad)).toArray U := by
  obtain ⟨-, -, -, -, -, -, -, -, -, hK, hA, hF, hAr, hinj⟩ := C
  intro U hU hW
  refine ⟨rfl, by rw [hU], by rw [hU]; exact hP, va_K.moved hW.alike hK, ?_, hinj⟩
  rw [hU]
  refine Fx.to hF hW hS.2.1 (fun q hq => ?_)
  rcases hq with ⟨r, hr, rfl⟩ | hq
  · exact hAr r hr
  · exact hA q (Nat.le_trans hS.1 hq)
theorem Cx.af {p : Program} {l : Launch} {s : State} {m : MethodId} {args : Array Value} {meth : Method} {c : Code} {D : va_G} {tc : Nat → ClassId} {ad : Rf → Nat} {A : Nat → Prop} {H : Heap} {locs : List Loc} (C : Cx own cc nL rt xt nme rs p l s m args meth c D tc ad A) (hS : va_S A s.heap H locs) : ∀ q, Af ad rs H.size q → A q := by
  obtain ⟨-, -, -, -, -, -, -, -, -, -, hA, -, hAr, -⟩ := C
  intro q hq
  rcases hq with ⟨r, hr, rfl⟩ | hq
  · exact hAr r hr
  · exact hA q (Nat.le_trans hS.1 hq)
theorem map_ret {ad : Rf → Nat} {v : Option Value} {st : List MV} : (v.toList.map Sum.inl ++ st : List MV).map (rv ad) = v.toList ++ st.map (rv ad) := by
  cases v <;> rfl
/-- behind a call -/
theorem z_run {PR1 : Option Value → Mm → Prop} {PX1 : String → Mm → Prop} {mc ms : Nat} {p : Program} {l : Launch} {e : Env} {s : State} {m : MethodId} {args : Array Value} {below : List Frame} {meth : Method} {c : Code} {D : va_G} {tc : Nat → ClassId} {ad : Rf → Nat} {A : Nat → Prop} {H : Heap} {locs : List Loc} {lsA : Array Slot} {st0 : List Value} {a : Array Value}
    (C : Cx own cc nL rt xt nme rs p l s m args meth c D tc ad A) (hS : va_S A s.heap H locs) (hl : zl ad lsA nL ls)
    (hr : vx_Run p l e R s m args below meth c H locs cells slots mc ms (F0 m pc lsA st0) (st.map (rv ad)) (Qs D tc ad sh rs (Af ad rs H.size) PR1 a) (Xs D tc ad sh rs (Af ad rs H.size) PX1) (Af ad rs H.size))
    (kk : ∀ (v : Option Value) (M1 : Mm), PR1 v M1 → Z own cc nL rt xt nme R Q rs sh (cells + mc) (slots + ms) (pc + 3) ls (v.toList.map Sum.inl ++ st) M1)
    (kx : ∀ (E : String) (M1 : Mm), PX1 E M1 → ZX own cc nL rt xt nme R Q rs sh (cells + mc) (slots + ms) pc ls E M1) : W p l e R s m args below meth c H locs cells slots (Q below args s D tc ad A) (F0 m pc lsA st0) := by
  intro T hT X
  have haf := C.af hS
  rcases hr T hT X with ⟨v, st₀, t, T', L, h0, X', hL, e1, e2, ⟨⟨v2, M1, hv, hp, hb⟩, hF⟩, st⟩ | ⟨q, st₀, t, T', L, E, ce, h0, X', hL, e1, e2, ⟨⟨M1, hp, hb⟩, hF⟩, hce, hcv, hcl, st⟩
  · cases hv
    obtain ⟨k1, k2, k3⟩ := vx_keep h0 e1 hS (fun q _ h => haf q h) haf hL hF
    have hk := kk v M1 hp p l e s m args below meth c D tc ad A T'.heap (locs ++ L) lsA C (by rw [e1]; exact hb) k3 hl
    rw [map_ret] at hk
    obtain ⟨t2, a1, b1⟩ := hk T' rfl X'
    exact ⟨t2, st t2 a1, b1⟩
  · obtain ⟨k1, k2, k3⟩ := vx_keep h0 e1 hS (fun q _ h => haf q h) haf hL hF
    obtain ⟨t2, a1, b1⟩ := kx E M1 hp p l e s m args below meth c D tc ad A T'.heap (locs ++ L) lsA _ q ce C (by rw [e1]; exact hb) k3 hl (by rw [e1]; exact hce) hcv hcl T' rfl X'
    exact ⟨t2, st.trans a1, b1⟩
def mhOk (y : MethodName) (n : Nat) : Bool := decide (y.cls ≠ "java/lang/invoke/MethodHandle") && decide (y.cls ≠ "java/lang/invoke/VarHandle") && decide ((parseMethodDescriptor y.desc).map (fun d => d.parameters.length) = some n)
theorem mhOk_spec {y : MethodName} {n : Nat} (h : mhOk y n = true) : y.cls ≠ "java/lang/invoke/MethodHandle" ∧ y.cls ≠ "java/lang/invoke/VarHandle" ∧ (parseMethodDescriptor y.desc).map (fun d => d.parameters.length) = some n := by
  simp only [mhOk, Bool.and_eq_true, decide_eq_true_eq] at h
  exact ⟨h.1.1, h.1.2, h.2⟩
def mcs (st : List MV) : Nat := (st.map (fun v => match v with | .inl x => x.category | .inr _ => 1)).sum
theorem mcs_map {ad : Rf → Nat} : ∀ st : List MV, ((st.map (rv ad)).map fun v => v.category).sum = mcs st
  | [] => rfl
  | .inl x :: t => by
    have h := mcs_map (ad := ad) t
    simp only [mcs, List.map_cons, List.sum_cons] at h ⊢
    rw [h]; rfl
  | .inr r :: t => by
    have h := mcs_map (ad := ad) t
    simp only [mcs, List.map_cons, List.sum_cons] at h ⊢
    rw [h]; rfl
theorem al_code {y : MethodName} {c1 : ByteArray} {n : Nat} {r : Option FieldType} (h : Cond.code y c1 n r ∈ AL) : GoodIn AL (Cond.code y c1 n r :: AL) := al_good (fun w hw => by
  rcases List.mem_cons.mp hw with rfl | hw
  · exact h
  · exact hw)
theorem z_callV {idx n1 ci d mc ms : Nat} {y : MethodName} {c1 : ByteArray} {rt1 : Option FieldType} {av : List MV} {r : Rf} {ks : List Bool} {PR1 : Option Value → Mm → Prop} {PX1 : String → Mm → Prop}
    (hT : Tri y (.code y c1 n1 rt1) d mc ms sh rs (.inr r :: av) M PR1 PX1) (hd : decode cc pc = .ok (.invokevirtual idx, 3)) (hw : lkV own idx y) (hcd : Cond.code y c1 n1 rt1 ∈ AL) (hr : r ∈ rs) (hk : kd r = .inl (ci, ks)) (hci : ci < 13 ∧ Rc ci = y.cls) (hy : mhOk y av.length = true)
    (hroom : d + 1 ≤ R.frames ∧ 8 + (n1 + 11) + 31 * d ≤ R.locals ∧ cells + mc ≤ R.cells ∧ slots + ms ≤ R.slots) (hst : mcs st ≤ 8) (hstk : stk = av.reverse ++ .inr r :: st)
    (kk : ∀ (v : Option Value) (M1 : Mm), PR1 v M1 → Z own cc nL rt xt nme R Q rs sh (cells + mc) (slots + ms) (pc + 3) ls (v.toList.map Sum.inl ++ st) M1)
    (kx : ∀ (E : String) (M1 : Mm), PX1 E M1 → ZX own cc nL rt xt nme R Q rs sh (cells + mc) (slots + ms) pc ls E M1) : Z own cc nL rt xt nme R Q rs sh cells slots pc ls stk M := by
  intro p l e s m args below meth c D tc ad A H locs lsA C hP hS hl
  obtain ⟨q, -, hq⟩ := wl_at (tc := tc) (ad := ad) (sh := sh) (M := M) hr
  rw [ent_o hk] at hq
  have hts := C.2.2.2.2.1
  obtain ⟨y1, y2, y3⟩ := mhOk_spec hy
  have hrec := va_recv C.2.2.2.2.2.2.2.2.2.1 hP (clC ci hci.1) hq
  rw [hci.2] at hrec
  refine z_run C hS hl (a := (Value.ref (ad r) :: av.map (rv ad)).toArray) (vx_runV (Ts := AL) (As := av.map (rv ad)) (b := ad r) ⟨C.1, C.2.1, C.2.2.1, C.2.2.2.1, hts⟩ (hT l D tc ad H.size)
    ⟨callB_of (n := av.length) hts (al_code hcd) rfl rfl rfl (hts _ hw.2.2.2) (hts _ hw.1) ⟨y1, y2, y3⟩ ⟨hroom.1, hroom.2.1⟩, hts _ hw.2.1, hts _ hw.2.2.1⟩
    ⟨Ps.blind, hrec, C.pre hP hS _⟩ rfl (by rw [List.length_map]) hl.1 ?_ ?_ hd ⟨hroom.2.2.1, hroom.2.2.2⟩) kk kx
  · rw [hstk, List.map_append, List.map_reverse]; rfl
  · have h9 := mcs_map (ad := ad) st
    exact lv_room (by rw [h9]; exact hst)
theorem z_callS {idx n1 d mc ms : Nat} {y : MethodName} {c1 : ByteArray} {rt1 : Option FieldType} {av : List MV} {PR1 : Option Value → Mm → Prop} {PX1 : String → Mm → Prop}
    (hT : Tri y (.code y c1 n1 rt1) d mc ms sh rs av M PR1 PX1) (hd : decode cc pc = .ok (.invokestatic idx, 3)) (hw : lkS own idx y) (hcd : Cond.code y c1 n1 rt1 ∈ AL) (hy : mhOk y av.length = true)
    (hroom : d + 1 ≤ R.frames ∧ 8 + (n1 + 11) + 31 * d ≤ R.locals ∧ cells + mc ≤ R.cells ∧ slots + ms ≤ R.slots) (hst : mcs st ≤ 8) (hstk : stk = av.reverse ++ st)
    (kk : ∀ (v : Option Value) (M1 : Mm), PR1 v M1 → Z own cc nL rt xt nme R Q rs sh (cells + mc) (slots + ms) (pc + 3) ls (v.toList.map Sum.inl ++ st) M1)
    (kx : ∀ (E : String) (M1 : Mm), PX1 E M1 → ZX own cc nL rt xt nme R Q rs sh (cells + mc) (slots + ms) pc ls E M1) : Z own cc nL rt xt nme R Q rs sh cells slots pc ls stk M := by
  intro p l e s m args below meth c D tc ad A H locs lsA C hP hS hl
  have hts := C.2.2.2.2.1
  obtain ⟨y1, y2, y3⟩ := mhOk_spec hy
  refine z_run C hS hl (a := (av.map (rv ad)).toArray) (vx_runS (Ts := AL) (As := av.map (rv ad)) ⟨C.1, C.2.1, C.2.2.1, C.2.2.2.1, hts⟩ (hT l D tc ad H.size)
    ⟨callB_of (n := av.length) hts (al_code hcd) rfl rfl rfl (hts _ hw.2.2) (hts _ hw.1) ⟨y1, y2, y3⟩ ⟨hroom.1, hroom.2.1⟩, hts _ hw.2.1⟩
    ⟨Ps.blind, C.pre hP hS _⟩ rfl (by rw [List.length_map]) hl.1 ?_ ?_ hd ⟨hroom.2.2.1, hroom.2.2.2⟩) kk kx
  · rw [hstk, List.map_append, List.map_reverse]
  · have h9 := mcs_map (ad := ad) st
    exact lv_room (by rw [h9]; exact hst)
theorem Tri.met {y : MethodName} {w0 : Cond} {d mc ms : Nat} {av : List MV} {PR1 : Option Value → Mm → Prop} (h : Tri y w0 d mc ms sh rs av M PR1 (fun _ _ => False)) (l : Launch) (D : va_G) (tc : Nat → ClassId) (ad : Rf → Nat) (sz : Nat) :
    Met l y (w0 :: AL) (rmD d mc ms) (Ps D tc ad l sh M rs sz av) (Qs D tc ad sh rs (Af ad rs sz) PR1) mc ms (Af ad rs sz) := by
  intro p e ha hc hk s m args below hf happ hP hK
  obtain ⟨n, o, h1, h2, h3, h4⟩ := h l D tc ad sz p e ha hc hk s m args below hf happ hP hK
  refine ⟨n, o, h1, h2, h3, ?_⟩
  rcases h4 with h4 | ⟨q, -, E, ce, L, ⟨⟨M1, h5, -⟩, -⟩, -⟩
  · exact h4
  · exact h5.elim
theorem vx_ofRun {p : Program} {l : Launch} {e : Env} {s : State} {m : MethodId} {args : Array Value} {below : List Frame} {meth : Method} {c : Code} {H : Heap} {locs : List Loc} {mc ms : Nat} {g : JFrame} {rest : List Value} {Qa : State → Outcome → State → Prop} {XC : String → State → State → Prop} {free : Addr → Prop} (h : va_Run p l e R s m args below meth c H locs cells slots mc ms g rest Qa free) : vx_Run p l e R s m args below meth c H locs cells slots mc ms g rest Qa XC free :=
  fun T hT X => Or.inl (h T hT X)
theorem C_nw {w : Cond} {l : Launch} {ad : Rf → Nat} {A : Nat → Prop} {s : State} {H : Heap} (h : Fx l ad A s H) (hw : w ∈ nsw) : va_Nw w s := h.2.2.2.2 w hw
/-- a private method of a nest mate -/
theorem z_callVN {idx n1 ci d mc ms : Nat} {y : MethodName} {host : String} {c1 : ByteArray} {rt1 : Option FieldType} {av : List MV} {r : Rf} {ks : List Bool} {PR1 : Option Value → Mm → Prop}
    (hT : Tri y (.code y c1 n1 rt1) d mc ms sh rs (.inr r :: av) M PR1 (fun _ _ => False)) (hd : decode cc pc = .ok (.invokevirtual idx, 3)) (hw : lkN own idx y host) (hsl : Cond.selects y.cls y y ∈ AL) (hcd : Cond.code y c1 n1 rt1 ∈ AL) (hr : r ∈ rs) (hk : kd r = .inl (ci, ks)) (hci : ci < 13 ∧ Rc ci = y.cls) (hy : mhOk y av.length = true)
    (hroom : d + 1 ≤ R.frames ∧ 8 + (n1 + 11) + 31 * d ≤ R.locals ∧ cells + mc ≤ R.cells ∧ slots + ms ≤ R.slots) (hst : mcs st ≤ 8) (hstk : stk = av.reverse ++ .inr r :: st)
    (kk : ∀ (v : Option Value) (M1 : Mm), PR1 v M1 → Z own cc nL rt xt nme R Q rs sh (cells + mc) (slots + ms) (pc + 3) ls (v.toList.map Sum.inl ++ st) M1) : Z own cc nL rt xt nme R Q rs sh cells slots pc ls stk M := by
  intro p l e s m args below meth c D tc ad A H locs lsA C hP hS hl
  obtain ⟨q, -, hq⟩ := wl_at (tc := tc) (ad := ad) (sh := sh) (M := M) hr
  rw [ent_o hk] at hq
  have hts := C.2.2.2.2.1
  obtain ⟨y1, y2, y3⟩ := mhOk_spec hy
  have hrec := va_recv C.2.2.2.2.2.2.2.2.2.1 hP (clC ci hci.1) hq
  rw [hci.2] at hrec
  refine z_run C hS hl (PX1 := fun _ _ => False) (a := (Value.ref (ad r) :: av.map (rv ad)).toArray) (vx_ofRun (va_runVN (Ts := AL) (host := host) (C := y.cls) (As := av.map (rv ad)) (b := ad r) ⟨C.1, C.2.1, C.2.2.1, C.2.2.2.1, hts⟩ (hT.met l D tc ad H.size)
    ⟨va_cnB av.length hts (al_code hcd) rfl rfl rfl (C_nw C.2.2.2.2.2.2.2.2.2.2.2.1 (nst_in _ hw.1)) (hts _ hw.2.2) ⟨y1, y2, y3⟩ ⟨hroom.1, hroom.2.1⟩, hts _ hw.2.1, hts _ hsl⟩
    ⟨Ps.blind, hrec, C.pre hP hS _⟩ rfl (by rw [List.length_map]) hl.1 ?_ ?_ hd ⟨hroom.2.2.1, hroom.2.2.2⟩)) kk (fun _ _ h => h.elim)
  · rw [hstk, List.map_append, List.map_reverse]; rfl
  · have h9 := mcs_map (ad := ad) st
    exact lv_room (by rw [h9]; exact hst)
theorem z_callSN {idx n1 d mc ms : Nat} {y : MethodName} {host : String} {c1 : ByteArray} {rt1 : Option FieldType} {av : List MV} {PR1 : Option Value → Mm → Prop}
    (hT : Tri y (.code y c1 n1 rt1) d mc ms sh rs av M PR1 (fun _ _ => False)) (hd : decode cc pc = .ok (.invokestatic idx, 3)) (hw : lkM own idx y host) (hcd : Cond.code y c1 n1 rt1 ∈ AL) (hy : mhOk y av.length = true)
    (hroom : d + 1 ≤ R.frames ∧ 8 + (n1 + 11) + 31 * d ≤ R.locals ∧ cells + mc ≤ R.cells ∧ slots + ms ≤ R.slots) (hst : mcs st ≤ 8) (hstk : stk = av.reverse ++ st)
    (kk : ∀ (v : Option Value) (M1 : Mm), PR1 v M1 → Z own cc nL rt xt nme R Q rs sh (cells + mc) (slots + ms) (pc + 3) ls (v.toList.map Sum.inl ++ st) M1) : Z own cc nL rt xt nme R Q rs sh cells slots pc ls stk M := by
  intro p l e s m args below meth c D tc ad A H locs lsA C hP hS hl
  have hts := C.2.2.2.2.1
  obtain ⟨y1, y2, y3⟩ := mhOk_spec hy
  refine z_run C hS hl (PX1 := fun _ _ => False) (a := (av.map (rv ad)).toArray) (vx_ofRun (va_runSN (Ts := AL) (host := host) (As := av.map (rv ad)) ⟨C.1, C.2.1, C.2.2.1, C.2.2.2.1, hts⟩ (hT.met l D tc ad H.size)
    ⟨va_cnB av.length hts (al_code hcd) rfl rfl rfl (C_nw C.2.2.2.2.2.2.2.2.2.2.2.1 (nst_in _ hw.1)) (hts _ hw.2.2) ⟨y1, y2, y3⟩ ⟨hroom.1, hroom.2.1⟩, hts _ hw.2.1, trivial⟩
    ⟨Ps.blind, C.pre hP hS _⟩ rfl (by rw [List.length_map]) hl.1 ?_ ?_ hd ⟨hroom.2.2.1, hroom.2.2.2⟩)) kk (fun _ _ h => h.elim)
  · rw [hstk, List.map_append, List.map_reverse]
  · have h9 := mcs_map (ad := ad) st
    exact lv_room (by rw [h9]; exact hst)
end ZC
/-! the things that there are once all is built -/
def clR : List Rf := [(0, 0, 0), (1, 0, 0), (1, 1, 0), (2, 0, 0), (2, 1, 0), (3, 0, 0), (4, 0, 0), (4, 1, 0), (4, 2, 0), (4, 3, 0), (5, 0, 0), (6, 0, 0), (7, 0, 0), (8, 0, 0), (8, 1, 0), (8, 2, 0), (8, 3, 0), (14, 0, 0), (15, 0, 0), (16, 0, 0), (17, 0, 0)] ++
  (List.range 12).flatMap (fun i => (9, i, 0) :: (10, i, 0) :: (11, i, 0) :: (12, i, 0) :: (List.range 12).map (fun t => (13, i, t)))
theorem nd_cl : clR.Nodup := by decide +kernel
def SH : Sh := fun r j => match r.1 with
  | 0 => ([some (1, 0, 0), some (1, 1, 0), some (3, 0, 0), some (5, 0, 0), some (6, 0, 0), some (7, 0, 0), some (9, 0, 0), some (9, 1, 0), some (14, 0, 0), some (16, 0, 0), some (17, 0, 0)] : List (Option Rf)).getD j none
  | 1 => some (2, r.2.1, 0)
  | 3 => ([some (1, 0, 0), some (4, 0, 0), some (4, 1, 0), some (4, 2, 0), some (4, 3, 0)] : List (Option Rf)).getD j none
  | 5 => ([some (3, 0, 0), some (9, 1, 0)] : List (Option Rf)).getD j none
  | 6 => ([some (3, 0, 0), some (7, 0, 0)] : List (Option Rf)).getD j none
  | 7 => some (8, j, 0)
  | 9 => match j with
    | 0 => some (10, r.2.1, 0)
    | _ => some (12, r.2.1, 0)
  | 10 => some (11, r.2.1, 0)
  | 12 => some (13, r.2.1, j)
  | 14 => some (15, 0, 0)
  | 15 => some (9, 2 + j, 0)
  | 16 => some (9, 10 + j, 0)
  | 18 => if j = 17 then some (20, r.2.1, 0) else some (19, r.2.1, j - 11)
  | 23 => if j < r.2.1 then some (18, j, 0) else none
  | 24 => if j = 0 ∧ r.2.2 = 0 then some (25, r.2.1, 0) else none
  | 28 => if j = 0 ∧ r.2.2 = 0 then some (29, r.2.1, 0) else none
  | _ => none
/-- where a thing holds a reference -/
def refj (x : Rf) (j : Nat) : Bool := match kd x with
  | .inl (_, ks) => ks.getD j false
  | .inr (t, n) => Nat.ble 4 t && Nat.blt j n
/-- what the things of rs hold lies in rs -/
def shC (sh : Sh) (rs : List Rf) : Prop := ∀ x ∈ rs, ∀ j, refj x j = true → ∀ y, sh x j = some y → y ∈ rs
/-- a world: a list of things that holds the class's -/
abbrev Wv : Type := { rs : List Rf // rs.Nodup ∧ (∀ r ∈ clR, r ∈ rs) ∧ shC SH rs }
def allR (wv : Wv) : List Rf := wv.1
theorem allR_nd {wv : Wv} : (allR wv).Nodup := wv.2.1
theorem al_cl {r : Rf} (h : r ∈ clR) {wv : Wv} : r ∈ allR wv := wv.2.2.1 r h
/-- box k of the law's own lies in the world -/
def OwI (wv : Wv) (k : Nat) : Prop := (18, k, 0) ∈ allR wv ∧ (20, k, 0) ∈ allR wv ∧ ∀ p, p < 6 → (19, k, p) ∈ allR wv
theorem m9 {wv : Wv} : ∀ i, i < 12 → (9, i, 0) ∈ allR wv := fun i hi => al_cl ((by decide +kernel : ∀ i, i < 12 → (9, i, 0) ∈ clR) i hi)
theorem m10 {wv : Wv} : ∀ i, i < 12 → (10, i, 0) ∈ allR wv := fun i hi => al_cl ((by decide +kernel : ∀ i, i < 12 → (10, i, 0) ∈ clR) i hi)
theorem m11 {wv : Wv} : ∀ i, i < 12 → (11, i, 0) ∈ allR wv := fun i hi => al_cl ((by decide +kernel : ∀ i, i < 12 → (11, i, 0) ∈ clR) i hi)
theorem m12 {wv : Wv} : ∀ i, i < 12 → (12, i, 0) ∈ allR wv := fun i hi => al_cl ((by decide +kernel : ∀ i, i < 12 → (12, i, 0) ∈ clR) i hi)
theorem m13 {wv : Wv} : ∀ i, i < 12 → ∀ t, t < 12 → (13, i, t) ∈ allR wv := fun i hi t ht => al_cl ((by decide +kernel : ∀ i, i < 12 → ∀ t, t < 12 → (13, i, t) ∈ clR) i hi t ht)
theorem m1 {wv : Wv} : ∀ i, i < 2 → (1, i, 0) ∈ allR wv := fun i hi => al_cl ((by decide +kernel : ∀ i, i < 2 → (1, i, 0) ∈ clR) i hi)
theorem m2 {wv : Wv} : ∀ i, i < 2 → (2, i, 0) ∈ allR wv := fun i hi => al_cl ((by decide +kernel : ∀ i, i < 2 → (2, i, 0) ∈ clR) i hi)
theorem m8 {wv : Wv} : ∀ i, i < 4 → (8, i, 0) ∈ allR wv := fun i hi => al_cl ((by decide +kernel : ∀ i, i < 4 → (8, i, 0) ∈ clR) i hi)
theorem m4 {wv : Wv} : ∀ i, i < 4 → (4, i, 0) ∈ allR wv := fun i hi => al_cl ((by decide +kernel : ∀ i, i < 4 → (4, i, 0) ∈ clR) i hi)
