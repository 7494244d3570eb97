theorem dJxf58ca_isNaN_12338_0 : decode cJxf58ca_isNaN_12338 0 = .ok (.fload_n 0, 1) := by decide +kernel
theorem dJxf58ca_isNaN_12338_1 : decode cJxf58ca_isNaN_12338 1 = .ok (.fload_n 0, 1) := by decide +kernel
theorem dJxf58ca_isNaN_12338_2 : decode cJxf58ca_isNaN_12338 2 = .ok (.fcmp .l, 1) := by decide +kernel
theorem dJxf58ca_isNaN_12338_3 : decode cJxf58ca_isNaN_12338 3 = .ok (.ifCond .eq 7, 3) := by decide +kernel
theorem dJxf58ca_isNaN_12338_6 : decode cJxf58ca_isNaN_12338 6 = .ok (.iconst 1, 1) := by decide +kernel
theorem dJxf58ca_isNaN_12338_7 : decode cJxf58ca_isNaN_12338 7 = .ok (.goto 4, 3) := by decide +kernel
theorem dJxf58ca_isNaN_12338_10 : decode cJxf58ca_isNaN_12338 10 = .ok (.iconst 0, 1) := by decide +kernel
theorem dJxf58ca_isNaN_12338_11 : decode cJxf58ca_isNaN_12338 11 = .ok (.ireturn, 1) := by decide +kernel
theorem dJxf58ca_floatToIntBits_5c35a_0 : decode cJxf58ca_floatToIntBits_5c35a 0 = .ok (.fload_n 0, 1) := by decide +kernel
theorem dJxf58ca_floatToIntBits_5c35a_1 : decode cJxf58ca_floatToIntBits_5c35a 1 = .ok (.invokestatic 59, 3) := by decide +kernel
theorem dJxf58ca_floatToIntBits_5c35a_4 : decode cJxf58ca_floatToIntBits_5c35a 4 = .ok (.ifCond .ne 8, 3) := by decide +kernel
theorem dJxf58ca_floatToIntBits_5c35a_7 : decode cJxf58ca_floatToIntBits_5c35a 7 = .ok (.fload_n 0, 1) := by decide +kernel
theorem dJxf58ca_floatToIntBits_5c35a_8 : decode cJxf58ca_floatToIntBits_5c35a 8 = .ok (.invokestatic 74, 3) := by decide +kernel
theorem dJxf58ca_floatToIntBits_5c35a_11 : decode cJxf58ca_floatToIntBits_5c35a 11 = .ok (.ireturn, 1) := by decide +kernel
theorem dJxf58ca_floatToIntBits_5c35a_12 : decode cJxf58ca_floatToIntBits_5c35a 12 = .ok (.ldc 77, 2) := by decide +kernel
theorem dJxf58ca_floatToIntBits_5c35a_14 : decode cJxf58ca_floatToIntBits_5c35a 14 = .ok (.ireturn, 1) := by decide +kernel
theorem dL_cell_0 : decode cL_cell 0 = .ok (.aload_n 0, 1) := by decide +kernel
theorem dL_cell_1 : decode cL_cell 1 = .ok (.arraylength, 1) := by decide +kernel
theorem dL_cell_2 : decode cL_cell 2 = .ok (.ifCond .ne 7, 3) := by decide +kernel
theorem dL_cell_5 : decode cL_cell 5 = .ok (.iconst 0, 1) := by decide +kernel
theorem dL_cell_6 : decode cL_cell 6 = .ok (.goto 17, 3) := by decide +kernel
theorem dL_cell_9 : decode cL_cell 9 = .ok (.aload_n 0, 1) := by decide +kernel
theorem dL_cell_10 : decode cL_cell 10 = .ok (.iload_n 1, 1) := by decide +kernel
theorem dL_cell_11 : decode cL_cell 11 = .ok (.aload_n 0, 1) := by decide +kernel
theorem dL_cell_12 : decode cL_cell 12 = .ok (.arraylength, 1) := by decide +kernel
theorem dL_cell_13 : decode cL_cell 13 = .ok (.irem, 1) := by decide +kernel
theorem dL_cell_14 : decode cL_cell 14 = .ok (.iaload, 1) := by decide +kernel
theorem dL_cell_15 : decode cL_cell 15 = .ok (.ldc 7, 2) := by decide +kernel
theorem dL_cell_17 : decode cL_cell 17 = .ok (.iload_n 1, 1) := by decide +kernel
theorem dL_cell_18 : decode cL_cell 18 = .ok (.aload_n 0, 1) := by decide +kernel
theorem dL_cell_19 : decode cL_cell 19 = .ok (.arraylength, 1) := by decide +kernel
theorem dL_cell_20 : decode cL_cell 20 = .ok (.idiv, 1) := by decide +kernel
theorem dL_cell_21 : decode cL_cell 21 = .ok (.imul, 1) := by decide +kernel
theorem dL_cell_22 : decode cL_cell 22 = .ok (.ixor, 1) := by decide +kernel
theorem dL_cell_23 : decode cL_cell 23 = .ok (.ireturn, 1) := by decide +kernel
theorem dL_pick_0 : decode cL_pick 0 = .ok (.aload_n 0, 1) := by decide +kernel
theorem dL_pick_1 : decode cL_pick 1 = .ok (.iload_n 1, 1) := by decide +kernel
theorem dL_pick_2 : decode cL_pick 2 = .ok (.invokestatic 8, 3) := by decide +kernel
theorem dL_pick_5 : decode cL_pick 5 = .ok (.ldc 14, 2) := by decide +kernel
theorem dL_pick_7 : decode cL_pick 7 = .ok (.iand, 1) := by decide +kernel
theorem dL_pick_8 : decode cL_pick 8 = .ok (.iload_n 2, 1) := by decide +kernel
theorem dL_pick_9 : decode cL_pick 9 = .ok (.irem, 1) := by decide +kernel
theorem dL_pick_10 : decode cL_pick 10 = .ok (.ireturn, 1) := by decide +kernel
/-! floatToIntBits -/
theorem rawf_ml : Cond.methodLink RJxf58ca 74 ⟨"java/lang/Float", "floatToRawIntBits", "(F)I"⟩ ∈ AL := al_mc al_c6 73 rfl (by decide +kernel)
theorem rawf_st : Cond.static ⟨"java/lang/Float", "floatToRawIntBits", "(F)I"⟩ ∈ AL := al_mc al_c6 74 rfl (by decide +kernel)
theorem rawf_na : Cond.native ⟨"java/lang/Float", "floatToRawIntBits", "(F)I"⟩ ∈ AL := al_mc al_c6 75 rfl (by decide +kernel)
theorem rawf_in : Cond.initialized "java/lang/Float" ∈ AL := al_mc al_c1 33 rfl (by decide +kernel)
theorem rawf_c : Cond.constant RJxf58ca 77 2143289344 ∈ AL := al_mc al_c6 76 rfl (by decide +kernel)
section Z3A
variable {own : String} {cc : ByteArray} {nL : Nat} {rt : Option FieldType} {xt : List ExceptionTableEntry} {nme : String} {R : Room} {Q : QF} {rs : List Rf} {sh : Sh} {cells slots pc : Nat} {ls : List (Option MV)} {st stk : List MV} {M M2 : Mm}
theorem z_rawf {x : UInt32} {idx : Nat} (hd : decode cc pc = .ok (.invokestatic idx, 3)) (hml : Cond.methodLink own idx ⟨"java/lang/Float", "floatToRawIntBits", "(F)I"⟩ ∈ AL) (hf : 1 ≤ R.frames) (hlo : mcs st + 15 ≤ R.locals)
    (k : Z own cc nL rt xt nme R Q rs sh cells slots (pc + 3) ls (.inl (.int x.toInt32) :: st) M) : Z own cc nL rt xt nme R Q rs sh cells slots pc ls (.inl (.float x) :: st) M := by
  intro p l e s m args below meth c D tc ad A H locs lsA C hP hS hl
  have hts := C.2.2.2.2.1
  exact vn_f2i C.1 C.2.1 (C.2.2.1.trans hl.1.symm) C.2.2.2.1 (hts _ hml) (hts _ rawf_na) (hts _ rawf_st) (hts _ rawf_in) hf (by rw [mcs_map]; exact hlo) hd (k p l e s m args below meth c D tc ad A H locs lsA C hP hS hl)
end Z3A
def fbits (x : UInt32) : Int32 := if Op.cmpValue (FP.fcmp x x) .l = 0 then x.toInt32 else 2143289344
theorem S_isNaNf {wv : Wv} (M : Mm) (x : UInt32) : TF wv yJxf58ca_isNaN_12338 cJxf58ca_isNaN_12338 1 (some .boolean) 0 [.inl (.float x)] M (some (.int (if Op.cmpValue (FP.fcmp x x) .l = 0 then 0 else 1))) M := by
  refine TF.go (n := 0) (ls := [some (.inl (.float x))]) (by decide +kernel) rfl rfl rfl rfl ?_
  refine z_fload_n (i := 0) dJxf58ca_isNaN_12338_0 rfl rfl ?_
  refine z_fload_n (i := 0) dJxf58ca_isNaN_12338_1 rfl rfl ?_
  refine z_fcmp dJxf58ca_isNaN_12338_2 ?_
  refine z_if_eq (tgt := 10) dJxf58ca_isNaN_12338_3 rfl (fun h => ?_) (fun h => ?_)
  · rw [if_pos h]
    refine z_iconst (v := (0 : Int32)) dJxf58ca_isNaN_12338_10 (by decide) ?_
    exact z_iret dJxf58ca_isNaN_12338_11 rfl rfl (Nat.le_refl _) (Nat.le_refl _) ⟨rfl, rfl⟩
  · rw [if_neg h]
    refine z_iconst (v := (1 : Int32)) dJxf58ca_isNaN_12338_6 (by decide) ?_
    refine z_goto (tgt := 11) dJxf58ca_isNaN_12338_7 rfl ?_
    exact z_iret dJxf58ca_isNaN_12338_11 rfl rfl (Nat.le_refl _) (Nat.le_refl _) ⟨rfl, rfl⟩
theorem S_fbits {wv : Wv} (M : Mm) (x : UInt32) : TF wv yJxf58ca_floatToIntBits_5c35a cJxf58ca_floatToIntBits_5c35a 1 (some .int) 2 [.inl (.float x)] M (some (.int (fbits x))) M := by
  refine TF.go (n := 0) (ls := [some (.inl (.float x))]) (by decide +kernel) rfl rfl rfl rfl ?_
  refine z_fload_n (i := 0) dJxf58ca_floatToIntBits_5c35a_0 rfl rfl ?_
  refine z_fSi (n := 1) (S_isNaNf M x) dJxf58ca_floatToIntBits_5c35a_1 ml_Jxf58ca_59 cd_Jxf58ca_isNaN_12338 rfl rfl rfl rfl rfl ?_
  refine z_if_ne (tgt := 12) dJxf58ca_floatToIntBits_5c35a_4 rfl (fun h => ?_) (fun h => ?_)
  · refine z_ldc dJxf58ca_floatToIntBits_5c35a_12 rawf_c ?_
    refine z_iret dJxf58ca_floatToIntBits_5c35a_14 rfl rfl (Nat.le_refl _) (Nat.le_refl _) ⟨?_, rfl⟩
    have h2 : ¬ Op.cmpValue (FP.fcmp x x) .l = 0 := fun c => h (if_pos c)
    rw [fbits, if_neg h2]
  · refine z_fload_n (i := 0) dJxf58ca_floatToIntBits_5c35a_7 rfl rfl ?_
    refine z_rawf dJxf58ca_floatToIntBits_5c35a_8 rawf_ml (by decide) (Nat.le_of_ble_eq_true rfl) ?_
    refine z_iret dJxf58ca_floatToIntBits_5c35a_11 rfl rfl (Nat.le_refl _) (Nat.le_refl _) ⟨?_, rfl⟩
    have h2 : Op.cmpValue (FP.fcmp x x) .l = 0 := by
      by_cases c : Op.cmpValue (FP.fcmp x x) .l = 0
      · exact c
      · rw [if_neg c] at h; exact absurd h (by decide)
    rw [fbits, if_pos h2]
/-! the script: what it holds is known to the end alone -/
def Scr (b L : Nat) (xs : Nat → Int32) (s : State) (A : Nat → Prop) : Prop := va_X b L xs s s.heap ∧ b < s.heap.size ∧ ¬ A b
def QS (b L : Nat) (xs : Nat → Int32) (Q : QF) : QF := fun below args s D tc ad A t => Scr b L xs s A → Q below args s D tc ad A t
/-- an end that asks for nothing where the script isn't known -/
def QV (b L : Nat) (xs : Nat → Int32) (Q : QF) : Prop := ∀ (below : List Frame) (args : Array Value) (s : State) (D : va_G) (tc : Nat → ClassId) (ad : Rf → Nat) (A : Nat → Prop) (t : State), ¬ Scr b L xs s A → Q below args s D tc ad A t
theorem qv_S {b L : Nat} {xs : Nat → Int32} {Q : QF} : QV b L xs (QS b L xs Q) := fun _ _ _ _ _ _ _ _ h h2 => absurd h2 h
theorem qs_N {b L n : Nat} {xs : Nat → Int32} {Q : QF} (hQ : QN n Q) : QN n (QS b L xs Q) := fun below args s D tc ad ad' A t h hq hp => hQ below args s D tc ad ad' A t h (hq hp)
section ZSC
variable {own : String} {cc : ByteArray} {nL : Nat} {rt : Option FieldType} {xt : List ExceptionTableEntry} {nme : String} {R : Room} {Q : QF} {rs : List Rf} {sh : Sh} {cells slots pc b L : Nat} {xs : Nat → Int32} {ls : List (Option MV)} {st stk : List MV} {M M2 : Mm}
theorem z_QS (k : Z own cc nL rt xt nme R Q rs sh cells slots pc ls st M) : Z own cc nL rt xt nme R (QS b L xs Q) rs sh cells slots pc ls st M := fun p l e s m args below meth c D tc ad A H locs lsA C hP hS hl => w_mono (fun _ h _ => h) (k p l e s m args below meth c D tc ad A H locs lsA C hP hS hl)
theorem z_slQ (hQ : QV b L xs Q) {i : Int32} (hd : decode cc pc = .ok (.iaload, 1)) (hin : ¬ (i < 0 ∨ L ≤ i.toNatClampNeg)) (k : Z own cc nL rt xt nme R Q rs sh cells slots (pc + 1) ls (.inl (.int (xs i.toNatClampNeg)) :: st) M) : Z own cc nL rt xt nme R Q rs sh cells slots pc ls (.inl (.int i) :: .inl (.ref b) :: st) M := by
  intro p l e s m args below meth c D tc ad A H locs lsA C hP hS hl
  by_cases hp : Scr b L xs s A
  · exact va_sld C.1 C.2.1 hp.1 hp.2.1 hp.2.2 hS hin hd (k p l e s m args below meth c D tc ad A H locs lsA C hP hS hl)
  · intro T hT X
    exact ⟨_, Steps.refl _, hQ _ _ _ _ _ _ _ _ hp⟩
theorem z_slenQ (hQ : QV b L xs Q) (hd : decode cc pc = .ok (.arraylength, 1)) (k : Z own cc nL rt xt nme R Q rs sh cells slots (pc + 1) ls (.inl (.int (nI L)) :: st) M) : Z own cc nL rt xt nme R Q rs sh cells slots pc ls (.inl (.ref b) :: st) M := by
  intro p l e s m args below meth c D tc ad A H locs lsA C hP hS hl
  by_cases hp : Scr b L xs s A
  · exact va_slen C.1 C.2.1 hp.1 hp.2.1 hp.2.2 hS hd (k p l e s m args below meth c D tc ad A H locs lsA C hP hS hl)
  · intro T hT X
    exact ⟨_, Steps.refl _, hQ _ _ _ _ _ _ _ _ hp⟩
end ZSC
def PsS (b L : Nat) (xs : Nat → Int32) (D : va_G) (tc : Nat → ClassId) (ad : Rf → Nat) (l : Launch) (sh : Sh) (M : Mm) (rs : List Rf) (sz : Nat) (av : List MV) : Array Value → State → Prop := fun a U => Ps D tc ad l sh M rs sz av a U ∧ va_X b L xs U U.heap ∧ b < U.heap.size ∧ ¬ Af ad rs sz b
def TS (wv : Wv) (b L : Nat) (xs : Nat → Int32) (y : MethodName) (c1 : ByteArray) (n1 : Nat) (rt1 : Option FieldType) (d mc ms : Nat) (av : List MV) (M : Mm) (v0 : Option Value) (M2 : Mm) : Prop :=
  ∀ (l : Launch) (D : va_G) (tc : Nat → ClassId) (ad : Rf → Nat) (sz : Nat), vx_Met l y (.code y c1 n1 rt1 :: AL) (rmD d mc ms) (PsS b L xs D tc ad l SH M (allR wv) sz av) (Qs D tc ad SH (allR wv) (Af ad (allR wv) sz) (fun v M' => v = v0 ∧ M' = M2)) (Xs D tc ad SH (allR wv) (Af ad (allR wv) sz) (fun _ _ => False)) mc ms (Af ad (allR wv) sz)
theorem PsS.blind {D : va_G} {tc : Nat → ClassId} {ad : Rf → Nat} {l : Launch} {sz b L : Nat} {xs : Nat → Int32} {av : List MV} {sh : Sh} {M : Mm} {rs : List Rf} : FrameBlind (PsS b L xs D tc ad l sh M rs sz av) := by
  intro a U g mk h
  obtain ⟨h1, h2, h3, h4⟩ := h
  exact ⟨Ps.blind a U g mk h1, va_X.moved (u := U) (U := U.calling g mk a) (Vm.Alike.refl U.vm) h2, h3, h4⟩
theorem TS.go {wv : Wv} {b L : Nat} {xs : Nat → Int32} {y : MethodName} {own nme : String} {cc : ByteArray} {nL : Nat} {rt : Option FieldType} {d mc ms : Nat} {av : List MV} {M M2 : Mm} {v0 : Option Value} {ls : List (Option MV)} {n : Nat}
    (hy : plainFor y = true) (ho : y.cls = own) (hm : y.name = nme) (hls : els av ++ List.replicate n none = ls) (hn : (els av).length.ble nL = true)
    (k : Z own cc nL rt [] nme (rmD d mc ms) (QS b L xs (QM SH (allR wv) mc ms (fun v M' => v = v0 ∧ M' = M2) (fun _ _ => False))) (allR wv) SH 0 0 0 ls [] M) : TS wv b L xs y cc nL rt d mc ms av M v0 M2 := by
  intro l D tc ad sz
  refine vx_ofWF (cc := cc) (maxL := nL) (ret := rt) hy rfl ?_
  intro p e s m args below meth c s₁ B hml hxt hv
  obtain ⟨⟨rfl, hsz, hP, hK, hF, hinj⟩, hX, hb, hA⟩ := hv
  have hts := atoms_spec (ws := Cond.code y cc nL rt :: AL) B.pre
  have hown : s.vm.findClass own = some m.cls := by rw [← ho]; exact findClass_of_methodNamed B.named
  have hnm : meth.name = nme := by rw [← hm]; exact (name_of_methodNamed B.named B.method).1
  have hxn : c.exceptionTable.toList = [] := by
    cases h : c.exceptionTable.toList with
    | nil => rfl
    | cons a t => exact (hxt a (by rw [h]; exact List.mem_cons_self)).elim
  subst hsz
  rw [lg_entry_eq]
  refine w_mono (fun t ht => ht ⟨hX, hb, hA⟩) (k p l e s m _ below meth c D tc ad (Af ad (allR wv) s.heap.size) s.heap [] _
    ⟨B.exec, B.bytes, hml, hown, fun w hw => hts w (List.mem_cons_of_mem _ hw), B.notSynchronized, B.returns, hxn, hnm, hK, fun q h => Or.inr h, hF, fun r hr => Or.inl ⟨r, hr, rfl⟩, hinj⟩
    hP va_S.rf (zl_entry ad (by rw [els_len]; exact Nat.le_of_ble_eq_true hn) (fun i v h => els_pad ad (n := n) (by rw [hls]; exact h))))
section ZSD
variable {own : String} {cc : ByteArray} {nL : Nat} {rt : Option FieldType} {xt : List ExceptionTableEntry} {nme : String} {R : Room} {Q : QF} {cells slots pc b L : Nat} {xs : Nat → Int32} {ls : List (Option MV)} {st stk : List MV} {M M2 : Mm}
theorem z_gSix {wv : Wv} {x : Int32} {idx n1 d n mc ms : Nat} {y : MethodName} {c1 : ByteArray} {rt1 : Option FieldType} {av : List MV} (hQ : QV b L xs Q) (hT : TS wv b L xs y c1 n1 rt1 d mc ms av M (some (.int x)) M2) (hd : decode cc pc = .ok (.invokestatic idx, 3)) (hw : lkS own idx y) (hcd : Cond.code y c1 n1 rt1 ∈ AL) (hn : av.length = n) (hy : mhOk y n = true) (hrm : rq d n1 mc ms R cells slots) (hst : (mcs st).ble 8 = true) (hstk : stk = av.reverse ++ st)
    (kk : Z own cc nL rt xt nme R Q (allR wv) SH (cells + mc) (slots + ms) (pc + 3) ls (.inl (.int x) :: st) M2) : Z own cc nL rt xt nme R Q (allR wv) SH cells slots pc ls stk M := by
  subst hn
  intro p l e s m args below meth c D tc ad A H locs lsA C hP hS hl
  by_cases hp : Scr b L xs s A
  · have hts := C.2.2.2.2.1
    obtain ⟨y1, y2, y3⟩ := mhOk_spec hy
    have hb : H[b]? = s.heap[b]? := hS.2.1 b hp.2.1 hp.2.2
    have hna : ¬ Af ad (allR wv) H.size b := fun h => by
      rcases h with ⟨r, hr, e⟩ | h
      · exact hp.2.2 (e ▸ C.2.2.2.2.2.2.2.2.2.2.2.2.1 r hr)
      · have := hS.1; have := hp.2.1; omega
    refine z_run (st := st) C hS hl (PR1 := fun v M9 => v = some (.int x) ∧ M9 = M2) (PX1 := fun _ _ => False) (a := (av.map (rv ad)).toArray) (vx_runS (Ts := AL) (As := av.map (rv ad)) ⟨C.1, C.2.1, C.2.2.1, C.2.2.2.1, hts⟩ (hT l D tc ad H.size)
      ⟨callB_of (n := av.length) hts (al_code hcd) rfl rfl rfl (hts _ hw.2.2) (hts _ hw.1) ⟨y1, y2, y3⟩ ⟨hrm.1, hrm.2.1⟩, hts _ hw.2.1⟩
      ⟨PsS.blind, fun U hU hW => ⟨C.pre hP hS _ U hU hW, by rw [hU]; exact va_X.moved hW.alike (hp.1.kept hb), by rw [hU]; exact Nat.lt_of_lt_of_le hp.2.1 hS.1, hna⟩⟩ rfl (by rw [List.length_map]) hl.1 ?_ ?_ hd ⟨hrm.2.2.1, hrm.2.2.2⟩) (fun v M1 h => by obtain ⟨rfl, rfl⟩ := h; exact kk) (fun _ _ h => h.elim)
    · rw [hstk, List.map_append, List.map_reverse]
    · have h9 := mcs_map (ad := ad) st
      exact lv_room (by rw [h9]; exact Nat.le_of_ble_eq_true hst)
  · intro T hT X
    exact ⟨_, Steps.refl _, hQ _ _ _ _ _ _ _ _ hp⟩
/-- a new row of 64 numbers -/
theorem z_n64 {wv : Wv} (hA : (wv.1 ++ [((26, 0, 0) : Rf)]).Nodup ∧ clo [(26, 0, 0)]) (hr : FrI wv [(26, 0, 0)]) (hd : decode cc pc = .ok (.newarray .int, 2)) (hQ : QI [(26, 0, 0)] Q) (hls : noC [(26, 0, 0)] ls = true) (hst : noS [(26, 0, 0)] st = true) (hcells : cells + 1 ≤ R.cells) (hslots : slots + 64 ≤ R.slots)
    (k : Z own cc nL rt xt nme R Q (allR (wvA wv [(26, 0, 0)] hA)) SH (cells + 1) (slots + 64) (pc + 2) ls (.inr (26, 0, 0) :: st) (mN M (26, 0, 0))) : Z own cc nL rt xt nme R Q (allR wv) SH cells slots pc ls (.inl (.int 64) :: st) M := by
  have hrr : ((26, 0, 0) : Rf) ∉ allR wv := hr _ List.mem_cons_self
  refine z_newaF (atype := .int) (ty := .int) (t := 0) (N := 64) (a0 := (64, .inl fun _ => 0)) (r := (26, 0, 0)) allR_nd hrr (by decide) hd ac_i rfl (fun _ => rfl) (fun _ => rfl) (fun tc ad => he_I rfl) (by decide) (by decide) (Nat.le_of_ble_eq_true rfl) (nrf_of wv.2.2.2 hrr) (qa_I hQ (by simp)) (noC_f (chg := [(26, 0, 0)]) (by simp) hls) (noS_f (chg := [(26, 0, 0)]) (by simp) hst) hcells hslots ?_
  refine z_cv (sh' := SH) (M' := mN M (26, 0, 0)) (fun x hx => ⟨fun j hj => ?_, fun _ => rfl, fun _ => rfl⟩) k
  by_cases e : x = (26, 0, 0)
  · subst e; exact (rfj_0 rfl hj).elim
  · exact (if_neg e).symm
end ZSD
theorem clo_26 : clo [((26, 0, 0) : Rf)] := by
  intro x hx j hj
  rw [List.mem_singleton.mp hx] at hj
  exact (rfj_0 rfl hj).elim
theorem clo_tb {z : Nat} : clo [((24, z, 0) : Rf), (25, z, 0)] := by
  intro x hx j hj y hy
  simp at hx
  rcases hx with rfl | rfl
  · have := rfj_o rfl hj
    subst this
    have e : some ((25, z, 0) : Rf) = some y := hy
    cases e
    simp
  · exact (rfj_b rfl hj).elim
theorem clo_st {z : Nat} : clo [((28, z, 0) : Rf), (29, z, 0)] := by
  intro x hx j hj y hy
  simp at hx
  rcases hx with rfl | rfl
  · have := rfj_o rfl hj
    subst this
    have e : some ((29, z, 0) : Rf) = some y := hy
    cases e
    simp
  · exact (rfj_b rfl hj).elim
theorem clo_ow {k : Nat} : clo (owR k) := by
  intro x hx j hj y hy
  simp only [owR, List.mem_cons, List.not_mem_nil, or_false] at hx
  rcases hx with rfl | rfl | rfl | rfl | rfl | rfl | rfl | rfl
  · unfold refj at hj
    simp only [kd] at hj
    match j, hj with
    | 0, h => cases h
    | 1, h => cases h
    | 2, h => cases h
    | 3, h => cases h
    | 4, h => cases h
    | 5, h => cases h
    | 6, h => cases h
    | 7, h => cases h
    | 8, h => cases h
    | 9, h => cases h
    | 10, h => cases h
    | 11, _ => have e : some ((19, k, 0) : Rf) = some y := hy; cases e; simp [owR]
    | 12, _ => have e : some ((19, k, 1) : Rf) = some y := hy; cases e; simp [owR]
    | 13, _ => have e : some ((19, k, 2) : Rf) = some y := hy; cases e; simp [owR]
    | 14, _ => have e : some ((19, k, 3) : Rf) = some y := hy; cases e; simp [owR]
    | 15, _ => have e : some ((19, k, 4) : Rf) = some y := hy; cases e; simp [owR]
    | 16, _ => have e : some ((19, k, 5) : Rf) = some y := hy; cases e; simp [owR]
    | 17, _ => have e : some ((20, k, 0) : Rf) = some y := hy; cases e; simp [owR]
    | j + 18, h => simp at h
  · exact (rfj_1 rfl hj).elim
  · exact (rfj_0 rfl hj).elim
  · exact (rfj_0 rfl hj).elim
  · exact (rfj_0 rfl hj).elim
  · exact (rfj_0 rfl hj).elim
  · exact (rfj_0 rfl hj).elim
  · exact (rfj_0 rfl hj).elim
theorem nd_tb {wv : Wv} {z : Nat} (h : FrI wv [(24, z, 0), (25, z, 0)]) : (wv.1 ++ [((24, z, 0) : Rf), (25, z, 0)]).Nodup ∧ clo [((24, z, 0) : Rf), (25, z, 0)] := ⟨nd_A h (by simp), clo_tb⟩
theorem nd_st {wv : Wv} {z : Nat} (h : FrI wv [(28, z, 0), (29, z, 0)]) : (wv.1 ++ [((28, z, 0) : Rf), (29, z, 0)]).Nodup ∧ clo [((28, z, 0) : Rf), (29, z, 0)] := ⟨nd_A h (by simp), clo_st⟩
theorem nd_ow {wv : Wv} {k : Nat} (h : FrI wv (owR k)) : (wv.1 ++ owR k).Nodup ∧ clo (owR k) := ⟨nd_A h (by simp [owR]), clo_ow⟩
theorem nd_26 {wv : Wv} (h : FrI wv [(26, 0, 0)]) : (wv.1 ++ [((26, 0, 0) : Rf)]).Nodup ∧ clo [((26, 0, 0) : Rf)] := ⟨nd_A h (by simp), clo_26⟩
theorem ow_lt {wv : Wv} {b k : Nat} (hV : NoV wv b) (hk : OwI wv k) : k < 50 := by
  refine Nat.lt_of_not_le fun hle => ?_
  have h := hV _ hk.1
  have h2 : vol b (18, k, 0) = true := by
    unfold vol
    have : Nat.ble 50 k = true := Nat.ble_eq.mpr hle
    simp [this]
  rw [h2] at h
  cases h
/-! what the script gives -/
def cellF (L : Nat) (xs : Nat → Int32) (k : Int32) : Option Int32 := if nI L = 0 then some 0 else if (k - k / nI L * nI L) < 0 ∨ L ≤ (k - k / nI L * nI L).toNatClampNeg then none else some (xs (k - k / nI L * nI L).toNatClampNeg ^^^ (40503 * (k / nI L)))
def pickF (L : Nat) (xs : Nat → Int32) (k n : Int32) : Option Int32 := (cellF L xs k).bind fun q => if n = 0 then none else some ((q &&& 65535) - (q &&& 65535) / n * n)
theorem sL_cell {wv : Wv} (b : Nat) (M : Mm) (L : Nat) (xs : Nat → Int32) (k : Int32) {res : Int32} (h : cellF L xs k = some res) : TS wv b L xs yL_cell cL_cell 2 (some .int) 0 0 0 [.inl (.ref b), .inl (.int k)] M (some (.int res)) M := by
  rw [cellF] at h
  refine TS.go (n := 0) (ls := [some (.inl (.ref b)), some (.inl (.int k))]) rfl rfl rfl rfl rfl ?_
  refine z_aloadQ_n (i := 0) dL_cell_0 rfl rfl ?_
  refine z_slenQ qv_S dL_cell_1 ?_
  refine z_if_ne (tgt := 9) dL_cell_2 rfl (fun hc => ?_) (fun hc => ?_)
  · rw [if_neg hc] at h
    obtain ⟨hc2, h⟩ := chk h
    obtain rfl := Option.some.inj h
    refine z_aloadQ_n (i := 0) dL_cell_9 rfl rfl ?_
    refine z_iload_n (i := 1) dL_cell_10 rfl rfl ?_
    refine z_aloadQ_n (i := 0) dL_cell_11 rfl rfl ?_
    refine z_slenQ qv_S dL_cell_12 ?_
    refine z_irem dL_cell_13 hc ?_
    refine z_slQ qv_S dL_cell_14 hc2 ?_
    refine z_ldc (v := (40503 : Int32)) dL_cell_15 (al_mem 727 (by decide +kernel) rfl) ?_
    refine z_iload_n (i := 1) dL_cell_17 rfl rfl ?_
    refine z_aloadQ_n (i := 0) dL_cell_18 rfl rfl ?_
    refine z_slenQ qv_S dL_cell_19 ?_
    refine z_idiv dL_cell_20 hc ?_
    refine z_imul dL_cell_21 ?_
    refine z_ixor dL_cell_22 ?_
    refine z_QS ?_
    exact z_iret dL_cell_23 rfl rfl (Nat.le_refl _) (Nat.le_refl _) ⟨rfl, rfl⟩
  · rw [if_pos hc] at h
    obtain rfl := Option.some.inj h
    refine z_iconst (v := (0 : Int32)) dL_cell_5 (by decide) ?_
    refine z_goto (tgt := 23) dL_cell_6 rfl ?_
    refine z_QS ?_
    exact z_iret dL_cell_23 rfl rfl (Nat.le_refl _) (Nat.le_refl _) ⟨rfl, rfl⟩
theorem sL_pick {wv : Wv} (b : Nat) (M : Mm) (L : Nat) (xs : Nat → Int32) (k n : Int32) {res : Int32} (h : pickF L xs k n = some res) : TS wv b L xs yL_pick cL_pick 3 (some .int) 1 0 0 [.inl (.ref b), .inl (.int k), .inl (.int n)] M (some (.int res)) M := by
  rw [pickF] at h
  obtain ⟨q, hq, h⟩ := bnd h
  obtain ⟨hn, h⟩ := chk h
  obtain rfl := Option.some.inj h
  refine TS.go (n := 0) (ls := [some (.inl (.ref b)), some (.inl (.int k)), some (.inl (.int n))]) rfl rfl rfl rfl rfl ?_
  refine z_aloadQ_n (i := 0) dL_pick_0 rfl rfl ?_
  refine z_iload_n (i := 1) dL_pick_1 rfl rfl ?_
  refine z_gSix qv_S (sL_cell b M L xs k hq) dL_pick_2 ml_L_8 cd_L_cell rfl rfl (rq_o (by decide) (by decide) (by decide) (by decide)) rfl rfl ?_
  refine z_ldc (v := (65535 : Int32)) dL_pick_5 (al_mem 728 (by decide +kernel) rfl) ?_
  refine z_iand dL_pick_7 ?_
  refine z_iload_n (i := 2) dL_pick_8 rfl rfl ?_
  refine z_irem dL_pick_9 hn ?_
  refine z_QS ?_
  exact z_iret dL_pick_10 rfl rfl (Nat.le_refl _) (Nat.le_refl _) ⟨rfl, rfl⟩

