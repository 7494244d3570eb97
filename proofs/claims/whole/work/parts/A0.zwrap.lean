/-! methods that catch: contracts, calls, the handlers -/
section ZW
variable {own : String} {cc : ByteArray} {nL : Nat} {rt : Option FieldType} {xt : List ExceptionTableEntry} {nme : String} {R : Room} {Q : QF} {rs : List Rf} {sh : Sh} {cells slots pc : Nat} {ls : List (Option MV)} {st stk : List MV} {M : Mm}
theorem Tri.ofH {y : MethodName} {d mc ms : Nat} {av : List MV} {hh : List (Nat × Nat × Nat × Nat)} {PR : Option Value → Mm → Prop} {PX : String → Mm → Prop}
    (hy : plainName y.cls = true) (ho : y.cls = own) (hm : y.name = nme) (ls : List (Option MV)) (hls : ∀ ad : Rf → Nat, (lg_sl (av.map (rv ad))).length ≤ nL ∧ ∀ (i : Nat) (v : MV), ls[i]? = some (some v) → (i, rv ad v) ∈ lv_args 0 (av.map (rv ad)))
    (k : Z own cc nL rt (tableOf hh) nme (rmD d mc ms) (QM sh rs mc ms PR PX) rs sh 0 0 0 ls [] M) : Tri y (.codeWith y cc nL rt hh) d mc ms sh rs av M PR PX := by
  intro l D tc ad sz
  refine vx_ofWH (cc := cc) (maxL := nL) (ret := rt) (hh := hh) hy rfl ?_
  intro p e s m args below meth c s₁ B hml hv
  obtain ⟨rfl, hsz, hP, hK, hF, hinj⟩ := hv
  have hts := atoms_spec (ws := Cond.codeWith y cc nL rt hh :: AL) B.pre
  have hown : s.vm.findClass own = some m.cls := by rw [← ho]; exact findClass_of_methodNamed B.named
  have hnm : meth.name = nme := by rw [← hm]; exact (name_of_methodNamed B.named B.method).1
  have hxn : c.exceptionTable.toList = tableOf hh := vx_table (x := y) B (hts _ List.mem_cons_self)
  subst hsz
  rw [lg_entry_eq]
  exact k p l e s m _ below meth c D tc ad (Af ad rs s.heap.size) s.heap [] _
    ⟨B.exec, B.bytes, hml, hown, fun w hw => hts w (List.mem_cons_of_mem _ hw), B.notSynchronized, B.returns, hxn, hnm, hK, fun q h => Or.inr h, hF, fun r hr => Or.inl ⟨r, hr, rfl⟩, hinj⟩
    hP va_S.rf (zl_entry ad (hls ad).1 (hls ad).2)
theorem Tri.goH {wv : Nat} {y : MethodName} {d mc ms : Nat} {av : List MV} {hh : List (Nat × Nat × Nat × Nat)} {PR : Option Value → Mm → Prop} {PX : String → Mm → Prop} {ls : List (Option MV)} {n : Nat}
    (hy : plainName y.cls = true) (ho : y.cls = own) (hm : y.name = nme) (hls : els av ++ List.replicate n none = ls) (hn : (els av).length.ble nL = true)
    (k : Z own cc nL rt (tableOf hh) nme (rmD d mc ms) (QM SH (allR wv) mc ms PR PX) (allR wv) SH 0 0 0 ls [] M) : Tri y (.codeWith y cc nL rt hh) d mc ms SH (allR wv) av M PR PX :=
  Tri.ofH hy ho hm ls (fun ad => ⟨by rw [els_len]; exact Nat.le_of_ble_eq_true hn, fun i v h => els_pad ad (n := n) (by rw [hls]; exact h)⟩) k
theorem al_codeW {y : MethodName} {c1 : ByteArray} {n : Nat} {r : Option FieldType} {hh : List (Nat × Nat × Nat × Nat)} (h : Cond.codeWith y c1 n r hh ∈ AL) : GoodIn AL (Cond.codeWith y c1 n r hh :: AL) := al_good (fun w hw => by
  rcases List.mem_cons.mp hw with rfl | hw
  · exact h
  · exact hw)
theorem z_callSX {idx n1 d mc ms : Nat} {y : MethodName} {c1 : ByteArray} {rt1 : Option FieldType} {hh : List (Nat × Nat × Nat × Nat)} {av : List MV} {PR1 : Option Value → Mm → Prop} {PX1 : String → Mm → Prop}
    (hT : Tri y (.codeWith y c1 n1 rt1 hh) d mc ms sh rs av M PR1 PX1) (hd : decode cc pc = .ok (.invokestatic idx, 3)) (hw : lkS own idx y) (hcd : Cond.codeWith y c1 n1 rt1 hh ∈ AL) (hy : mhOk y av.length = true)
    (hroom : d + 1 ≤ R.frames ∧ 8 + (n1 + 11) + 60 * d ≤ R.locals ∧ cells + mc ≤ R.cells ∧ slots + ms ≤ R.slots) (hst : mcs st ≤ 8) (hstk : stk = av.reverse ++ st)
    (kk : ∀ (v : Option Value) (M1 : Mm), PR1 v M1 → Z own cc nL rt xt nme R Q rs sh (cells + mc) (slots + ms) (pc + 3) ls (v.toList.map Sum.inl ++ st) M1)
    (kx : ∀ (E : String) (M1 : Mm), PX1 E M1 → ZX own cc nL rt xt nme R Q rs sh (cells + mc) (slots + ms) pc ls E M1) : Z own cc nL rt xt nme R Q rs sh cells slots pc ls stk M := by
  intro p l e s m args below meth c D tc ad A H locs lsA C hP hS hl
  have hts := C.2.2.2.2.1
  obtain ⟨y1, y2, y3⟩ := mhOk_spec hy
  refine z_run C hS hl (a := (av.map (rv ad)).toArray) (vx_runSX (Ts := AL) (hh := hh) (As := av.map (rv ad)) ⟨C.1, C.2.1, C.2.2.1, C.2.2.2.1, hts⟩ (hT l D tc ad H.size)
    (n := av.length) ⟨⟨rfl, rfl, hroom.1, hroom.2.1, pay_in hts (al_codeW hcd), List.mem_cons_self⟩, hts _ hcd, hts _ hw.2.2, ⟨y1, y2⟩, fun sig h => ?_, hts _ hw.1, hts _ hw.2.1⟩
    ⟨Ps.blind, C.pre hP hS _⟩ rfl (by rw [List.length_map]) hl.1 ?_ ?_ hd ⟨hroom.2.2.1, hroom.2.2.2⟩) kk kx
  · rw [h] at y3
    exact (Option.some.inj y3).symm
  · rw [hstk, List.map_append, List.map_reverse]
  · have h9 := mcs_map (ad := ad) st
    exact lv_room (by rw [h9]; exact hst)
/-- caught by a handler of one's own -/
theorem zx_catch (pre : List ExceptionTableEntry) (x : ExceptionTableEntry) (suf : List ExceptionTableEntry) {E : String} (hxt : xt = pre ++ x :: suf)
    (hpass : ∀ z ∈ pre, z.catchType ≠ 0 ∧ ∃ nm : String, Cond.classLink own z.catchType nm ∈ AL ∧ nm ∈ exs ∧ E ≠ nm) (hE : E ∈ exs) (hx : covers x pc = true) (h0 : x.catchType ≠ 0) (hlink : Cond.classLink own x.catchType E ∈ AL) (hcast : Cond.castable E E ∈ nsw ∧ (Cond.castable E E).onTables = true)
    (kk : ∀ q : Nat, Z own cc nL rt xt nme R Q rs sh cells slots x.handlerPc ls [.inl (.ref q)] M) : ZX own cc nL rt xt nme R Q rs sh cells slots pc ls E M := by
  intro p l e s m args below meth c D tc ad A H locs lsA rest q ce C hP hS hl hq hv hcl
  have hts := C.2.2.2.2.1
  have hF := C.2.2.2.2.2.2.2.2.2.2.2.1
  refine vx_catch (name := E) C.2.2.2.1 pre x suf (C.2.2.2.2.2.2.2.1.trans hxt) (fun z hz => ?_) hx h0 (hts _ hlink) (va_Nw.use hcast.2 (C_nw hF hcast.1)) hq hv hcl (kk q p l e s m args below meth c D tc ad A H locs lsA C hP hS hl)
  obtain ⟨h1, nm, h2, h3, h4⟩ := hpass z hz
  exact Or.inr ⟨h1, nm, hts _ h2, hF.2.2.2.2.2.2.1 E hE nm h3 h4⟩
end ZW
/-- what one of the law's own methods answers: 0 and the answer kept in r, or which throw it was -/
def WP {α : Type} (cs : List Nat) (r : Rf) (f : α → Int64) (res : α ⊕ Nat) (M1 : Mm) (v : Option Value) (M9 : Mm) : Prop := match res with
  | .inl x => v = some (.int 0) ∧ M9 = putL M1 r 0 (f x)
  | .inr e => ∃ i, i < 3 ∧ cs[i]? = some e ∧ (∀ j, j < i → cs[j]? ≠ some e) ∧ v = some (.int (nI (i + 1))) ∧ M9 = M1
def fI (x : Int32) : Int64 := x.toInt64
def fB (x : Int32) : Int64 := if x = 0 then 0 else 1
def fD (x : UInt64) : Int64 := x.toInt64
def fF (x : UInt32) : Int64 := (FP.f2d x).toInt64
theorem cst_0 : Cond.castable "java/lang/IllegalStateException" "java/lang/IllegalStateException" ∈ nsw ∧ (Cond.castable "java/lang/IllegalStateException" "java/lang/IllegalStateException").onTables = true := by decide +kernel
theorem cst_1 : Cond.castable "java/lang/IllegalArgumentException" "java/lang/IllegalArgumentException" ∈ nsw ∧ (Cond.castable "java/lang/IllegalArgumentException" "java/lang/IllegalArgumentException").onTables = true := by decide +kernel
theorem cst_2 : Cond.castable "java/lang/IndexOutOfBoundsException" "java/lang/IndexOutOfBoundsException" ∈ nsw ∧ (Cond.castable "java/lang/IndexOutOfBoundsException" "java/lang/IndexOutOfBoundsException").onTables = true := by decide +kernel
theorem cst_3 : Cond.castable "java/util/NoSuchElementException" "java/util/NoSuchElementException" ∈ nsw ∧ (Cond.castable "java/util/NoSuchElementException" "java/util/NoSuchElementException").onTables = true := by decide +kernel
theorem lke_0 : Cond.classLink RL 13 "java/lang/IllegalStateException" ∈ AL := al_mem 914 (by decide +kernel) (by decide +kernel)
theorem lke_1 : Cond.classLink RL 19 "java/lang/IllegalArgumentException" ∈ AL := al_mem 997 (by decide +kernel) (by decide +kernel)
theorem lke_2 : Cond.classLink RL 25 "java/lang/IndexOutOfBoundsException" ∈ AL := al_mem 1021 (by decide +kernel) (by decide +kernel)
theorem lke_3 : Cond.classLink RL 38 "java/util/NoSuchElementException" ∈ AL := al_mem 1084 (by decide +kernel) (by decide +kernel)
theorem exs_0 : "java/lang/IllegalStateException" ∈ exs := by decide
theorem exs_1 : "java/lang/IllegalArgumentException" ∈ exs := by decide
theorem exs_2 : "java/lang/IndexOutOfBoundsException" ∈ exs := by decide
theorem exs_3 : "java/util/NoSuchElementException" ∈ exs := by decide
theorem pre_0 : ∀ z ∈ ([] : List ExceptionTableEntry), z.catchType ≠ 0 ∧ ∃ nm : String, Cond.classLink RL z.catchType nm ∈ AL ∧ nm ∈ exs ∧ nm ≠ nm := fun z h => nomatch h
section ZWA
variable {own : String} {cc : ByteArray} {nL : Nat} {rt : Option FieldType} {xt : List ExceptionTableEntry} {nme : String} {R : Room} {Q : QF} {rs : List Rf} {sh : Sh} {cells slots pc : Nat} {ls : List (Option MV)} {st : List MV} {M : Mm}
theorem z_astoreQ_n {i : Nat} {q : Nat} {k : Fin 4} (hd : decode cc pc = .ok (.astore_n k, 1)) (hi : (k : Nat) = i) (hn : i < nL) (hk : lok ls i = true) (k : Z own cc nL rt xt nme R Q rs sh cells slots (pc + 1) (ls.set i (some (.inl (.ref q)))) st M) : Z own cc nL rt xt nme R Q rs sh cells slots pc ls (.inl (.ref q) :: st) M := fun p l e s m args below meth c D tc ad A H locs lsA C hP hS hl => lv_astore_n C.1 C.2.1 hd hi (zl_lv hl) hn rfl (fun ls9 hl9 => k p l e s m args below meth c D tc ad A H locs ls9 C hP hS (zl_set1 (v := .inl (.ref q)) hk hl9))
theorem z_astoreQ {i : Nat} {q : Nat} (hd : decode cc pc = .ok (.astore i, 2)) (hn : i < nL) (hk : lok ls i = true) (k : Z own cc nL rt xt nme R Q rs sh cells slots (pc + 2) (ls.set i (some (.inl (.ref q)))) st M) : Z own cc nL rt xt nme R Q rs sh cells slots pc ls (.inl (.ref q) :: st) M := fun p l e s m args below meth c D tc ad A H locs lsA C hP hS hl => lv_astore C.1 C.2.1 hd (zl_lv hl) hn rfl (fun ls9 hl9 => k p l e s m args below meth c D tc ad A H locs ls9 C hP hS (zl_set1 (v := .inl (.ref q)) hk hl9))
theorem z_aloadQ_n {k : Fin 4} {i q : Nat} (hd : decode cc pc = .ok (.aload_n k, 1)) (hi : (k : Nat) = i) (hv : ls[i]? = some (some (.inl (.ref q)))) (k : Z own cc nL rt xt nme R Q rs sh cells slots (pc + 1) ls (.inl (.ref q) :: st) M) : Z own cc nL rt xt nme R Q rs sh cells slots pc ls st M := fun p l e s m args below meth c D tc ad A H locs lsA C hP hS hl => lv_aload_n C.1 C.2.1 hd hi (hl.2.2 i _ hv) (k p l e s m args below meth c D tc ad A H locs lsA C hP hS hl)
end ZWA
