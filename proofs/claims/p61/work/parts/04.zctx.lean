/-- the texts of the String constants, by their places -/
def sby : Nat → List Int32 := fun j => match j with
  | 0 => [98, 111, 120, 32, 56, 32, 53, 32, 52, 48, 59, 32, 116, 111, 111, 116, 104, 32, 49, 48, 32, 51, 32, 51, 48, 59, 32, 116, 111, 111, 116, 104, 32, 49, 52, 32, 50, 32, 49, 50, 59, 32, 116, 111, 111, 116, 104, 32, 49, 55, 32, 52, 32, 49, 48, 48, 59, 32, 112, 105, 110, 32, 48, 32, 48, 32, 48, 59, 32, 112, 105, 110, 32, 48, 32, 49, 32, 50, 59, 32, 112, 105, 110, 32, 48, 32, 50, 32, 52, 59, 32, 112, 105, 110, 32, 48, 32, 49, 32, 51, 59, 32, 112, 105, 110, 32, 49, 32, 48, 32, 49, 59, 32, 112, 105, 110, 32, 49, 32, 48, 32, 53, 59]
  | 1 => [98, 111, 120]
  | 2 => [116, 111, 111, 116, 104]
  | 3 => [112, 105, 110]
  | 4 => [116, 104, 101, 114, 101, 32, 105, 115, 32, 110, 111, 32, 115, 117, 99, 104, 32, 116, 117, 110, 101, 44, 32, 116, 111, 111, 116, 104, 44, 32, 115, 116, 101, 112, 32, 111, 114, 32, 115, 108, 111, 116]
  | 5 => [97, 110, 32, 97, 114, 103, 117, 109, 101, 110, 116, 32, 105, 115, 32, 111, 117, 116, 32, 111, 102, 32, 114, 97, 110, 103, 101]
  | 6 => [110, 111, 116, 32, 112, 111, 115, 115, 105, 98, 108, 101, 32, 105, 110, 32, 116, 104, 105, 115, 32, 115, 116, 97, 116, 101]
  | 7 => [32]
  | 8 => []
  | 9 => [120]
  | 10 => [116, 104, 101, 114, 101, 32, 105, 115, 32, 110, 111, 32, 112, 105, 110]
  | 11 => [98, 111, 120, 32]
  | 12 => [116, 111, 111, 116, 104, 32]
  | 13 => [112, 105, 110, 32]
  | 14 => [116, 104, 101, 32, 116, 101, 120, 116, 32, 98, 117, 102, 102, 101, 114, 32, 119, 111, 117, 108, 100, 32, 98, 101, 32, 116, 111, 111, 32, 108, 111, 110, 103]
  | _ => []
def stt : List (String × Nat × String × Nat) := [(RX9, 80, "box 8 5 40; tooth 10 3 30; tooth 14 2 12; tooth 17 4 100; pin 0 0 0; pin 0 1 2; pin 0 2 4; pin 0 1 3; pin 1 0 1; pin 1 0 5;", 0), (RX6, 48, "box", 1), (RX6, 31, "tooth", 2), (RX6, 37, "pin", 3), (RX9, 365, "there is no such tune, tooth, step or slot", 4), (RX9, 368, "an argument is out of range", 5), (RX9, 370, "not possible in this state", 6), (RL, 132, " ", 7), (RL, 134, "", 8), (RL, 139, "x", 9), (RX9, 199, "there is no pin", 10), (RL, 336, "box ", 11), (RL, 344, "tooth ", 12), (RL, 346, "pin ", 13), (RX9, 107, "the text buffer would be too long", 14)]
def nsw : List Cond := [.methodLinkNest RX9 32 yX4_init "MusicBoxEditor", .methodLinkNest RX0 11 yX3_init "MusicBoxEditor", .methodLinkNest RX0 24 yX8_init "MusicBoxEditor", .castable "java/lang/IndexOutOfBoundsException" "java/lang/IndexOutOfBoundsException", .declares ⟨"java/lang/RuntimeException", "<init>", "()V"⟩, .declares ⟨"java/lang/RuntimeException", "<init>", "(Ljava/lang/String;)V"⟩, .declares ⟨"java/lang/Exception", "<init>", "()V"⟩, .declares ⟨"java/lang/Exception", "<init>", "(Ljava/lang/String;)V"⟩, .declares ⟨"java/lang/Throwable", "<init>", "()V"⟩, .declares ⟨"java/lang/Throwable", "<init>", "(Ljava/lang/String;)V"⟩, .castable "java/lang/IllegalArgumentException" "java/lang/IllegalArgumentException", .castable "java/lang/IllegalStateException" "java/lang/IllegalStateException", .methodLinkNest RL 359 yX10_init "MusicBoxEditorLaw", .castable "[B" "java/lang/Cloneable", .castable "java/util/NoSuchElementException" "java/util/NoSuchElementException", .methodLinkNest RX0 95 yX9_rangeFault "MusicBoxEditor", .castable "MusicBoxEditor" "java/lang/Object", .castable "MusicBoxEditor$Bytes" "java/lang/Object", .castable "MusicBoxEditor$Tokens" "java/lang/Object", .castable "MusicBoxEditor$Script" "java/lang/Object", .castable "MusicBoxEditor$Box" "java/lang/Object", .castable "MusicBoxEditor$Roll" "java/lang/Object", .castable "MusicBoxEditor$Tooth" "java/lang/Object", .castable "MusicBoxEditor$SetupReader" "java/lang/Object", .castable "MusicBoxEditor$ScriptReader" "java/lang/Object", .castable "MusicBoxEditor$History" "java/lang/Object", .castable "MusicBoxEditorLaw$Own" "java/lang/Object", .castable "java/lang/StringBuilder" "java/lang/Object", .castable "java/lang/String" "java/lang/Object", .castable "java/lang/IllegalStateException" "java/lang/Object", .castable "java/lang/IndexOutOfBoundsException" "java/lang/Object", .castable "java/lang/IllegalArgumentException" "java/lang/Object", .castable "java/util/NoSuchElementException" "java/lang/Object", .castable "java/lang/Throwable" "java/lang/Object", .fieldLinkNest RL 51 "MusicBoxEditorLaw$Own" "steps" "I" "MusicBoxEditorLaw", .fieldLinkNest RL 122 "MusicBoxEditorLaw$Own" "turns" "I" "MusicBoxEditorLaw", .fieldLinkNest RL 125 "MusicBoxEditorLaw$Own" "angle" "I" "MusicBoxEditorLaw", .fieldLinkNest RL 44 "MusicBoxEditorLaw$Own" "teeth" "I" "MusicBoxEditorLaw", .fieldLinkNest RL 179 "MusicBoxEditorLaw$Own" "tune" "I" "MusicBoxEditorLaw", .fieldLinkNest RL 185 "MusicBoxEditorLaw$Own" "at" "I" "MusicBoxEditorLaw", .fieldLinkNest RL 219 "MusicBoxEditorLaw$Own" "notes" "I" "MusicBoxEditorLaw", .fieldLinkNest RL 225 "MusicBoxEditorLaw$Own" "squeaks" "I" "MusicBoxEditorLaw", .fieldLinkNest RL 231 "MusicBoxEditorLaw$Own" "played" "I" "MusicBoxEditorLaw", .fieldLinkNest RL 301 "MusicBoxEditorLaw$Own" "bends" "I" "MusicBoxEditorLaw", .fieldLinkNest RL 307 "MusicBoxEditorLaw$Own" "replaced" "I" "MusicBoxEditorLaw", .fieldLinkNest RL 58 "MusicBoxEditorLaw$Own" "pitch" "[I" "MusicBoxEditorLaw", .fieldLinkNest RL 62 "MusicBoxEditorLaw$Own" "bent" "[I" "MusicBoxEditorLaw", .fieldLinkNest RL 153 "MusicBoxEditorLaw$Own" "gap" "[I" "MusicBoxEditorLaw", .fieldLinkNest RL 341 "MusicBoxEditorLaw$Own" "strength" "[I" "MusicBoxEditorLaw", .fieldLinkNest RL 158 "MusicBoxEditorLaw$Own" "wear" "[I" "MusicBoxEditorLaw", .fieldLinkNest RL 310 "MusicBoxEditorLaw$Own" "since" "[I" "MusicBoxEditorLaw", .fieldLinkNest RL 273 "MusicBoxEditorLaw$Own" "pins" "[Z" "MusicBoxEditorLaw", .privateMethod yJ5_appendNull_278bc, .privateMethod yJ5_ensureCapacityInternal_d00df, .privateMethod yJ5_newCapacity_0f7a4, .privateMethod yJ5_putStringAt_47b60, .privateMethod yJ5_inflateIfNeededFor_a7421, .privateMethod yJ5_inflate_da8c8, .arrayOver (.object RX8), .arrayOver (.object RX0), .arrayOver (.object RX10)]
theorem fns_in : ∀ w ∈ fns, w ∈ nsw := by decide +kernel
theorem nst_in : ∀ w ∈ nst, w ∈ nsw := by decide +kernel
theorem nsw_warm {s U : State} (hW : s.WarmedH U.vm) (h : ∀ w ∈ nsw, va_Nw w s) : ∀ w ∈ nsw, va_Nw w U := by
  unfold nsw at h ⊢
  simp only [List.forall_mem_cons] at h ⊢
  obtain ⟨h0, h1, h2, h3, h4, h5, h6, h7, h8, h9, h10, h11, h12, h13, h14, h15, h16, h17, h18, h19, h20, h21, h22, h23, h24, h25, h26, h27, h28, h29, h30, h31, h32, h33, h34, h35, h36, h37, h38, h39, h40, h41, h42, h43, h44, h45, h46, h47, h48, h49, h50, h51, h52, h53, h54, h55, h56, h57, h58, h59, h60, -⟩ := h
  exact ⟨va_Nw.warmM hW h0, va_Nw.warmM hW h1, va_Nw.warmM hW h2, va_Nw.warmC hW h3, va_Nw.warmD hW h4, va_Nw.warmD hW h5, va_Nw.warmD hW h6, va_Nw.warmD hW h7, va_Nw.warmD hW h8, va_Nw.warmD hW h9, va_Nw.warmC hW h10, va_Nw.warmC hW h11, va_Nw.warmM hW h12, va_Nw.warmC hW h13, va_Nw.warmC hW h14, va_Nw.warmM hW h15, va_Nw.warmC hW h16, va_Nw.warmC hW h17, va_Nw.warmC hW h18, va_Nw.warmC hW h19, va_Nw.warmC hW h20, va_Nw.warmC hW h21, va_Nw.warmC hW h22, va_Nw.warmC hW h23, va_Nw.warmC hW h24, va_Nw.warmC hW h25, va_Nw.warmC hW h26, va_Nw.warmC hW h27, va_Nw.warmC hW h28, va_Nw.warmC hW h29, va_Nw.warmC hW h30, va_Nw.warmC hW h31, va_Nw.warmC hW h32, va_Nw.warmC hW h33, va_Nw.warmF hW h34, va_Nw.warmF hW h35, va_Nw.warmF hW h36, va_Nw.warmF hW h37, va_Nw.warmF hW h38, va_Nw.warmF hW h39, va_Nw.warmF hW h40, va_Nw.warmF hW h41, va_Nw.warmF hW h42, va_Nw.warmF hW h43, va_Nw.warmF hW h44, va_Nw.warmF hW h45, va_Nw.warmF hW h46, va_Nw.warmF hW h47, va_Nw.warmF hW h48, va_Nw.warmF hW h49, va_Nw.warmF hW h50, va_Nw.warmF hW h51, Cond.privateMethod_warm hW h52, Cond.privateMethod_warm hW h53, Cond.privateMethod_warm hW h54, Cond.privateMethod_warm hW h55, Cond.privateMethod_warm hW h56, Cond.privateMethod_warm hW h57, va_AO.moved hW.alike h58, va_AO.moved hW.alike h59, va_AO.moved hW.alike h60, fun _ h => absurd h List.not_mem_nil⟩
/-- the String constants: where they lie, what they hold -/
def Sk (ad : Rf → Nat) (A : Nat → Prop) (U : State) (H : Heap) : Prop :=
  ∀ j : Nat, j < 15 → va_O "java/lang/String" (ad (30, j, 0)) A U H ∧ va_OF "java/lang/String" "coder" "B" (.int 0) (ad (30, j, 0)) A U H ∧ va_OF "java/lang/String" "value" "[B" (.ref (ad (33, j, 0))) (ad (30, j, 0)) A U H ∧ va_T .byte (ad (33, j, 0)) (sby j).length (fun i => .int ((sby j).getD i 0)) A U H
/-- the two tables of digits -/
def dgt : Nat → Nat → Int32 := fun q i => if q = 0 then nI (48 + i % 10) else nI (48 + i / 10)
def DGa (q : Nat) (n : String) (ad : Rf → Nat) (A : Nat → Prop) (s : State) (H : Heap) : Prop := va_Z "java/lang/Integer" n "[B" (.ref (ad (31, q, 0))) A s H ∧ va_T .byte (ad (31, q, 0)) 100 (fun i => .int (dgt q i)) A s H
/-- what never changes beside the model's own things -/
def Fx (_ : Launch) (ad : Rf → Nat) (A : Nat → Prop) (s : State) (H : Heap) : Prop :=
  Sk ad A s H ∧ (∀ q ∈ stt, vk_R q.1 q.2.1 q.2.2.1 (ad (30, q.2.2.2, 0)) s) ∧
  (va_Z "java/lang/String" "COMPACT_STRINGS" "Z" (.int 1) A s H ∧ va_Zq "jdk/internal/util/Preconditions" "SIOOBE_FORMATTER" "Ljava/util/function/BiFunction;" A s H) ∧ (DGa 0 "DigitOnes" ad A s H ∧ DGa 1 "DigitTens" ad A s H) ∧ (∀ w ∈ nsw, va_Nw w s)
theorem DGa.to {q : Nat} {n : String} {ad : Rf → Nat} {A B : Nat → Prop} {s U : State} {H0 H : Heap} (h : DGa q n ad A s H0) (hW : s.WarmedH U.vm) (hq : ∀ a : Nat, a < H0.size → ¬ A a → H[a]? = H0[a]?) (hAB : ∀ q, B q → A q) : DGa q n ad B U H :=
  ⟨va_Z.narrow (va_Z.moved hW.alike (h.1.kept hq)) hAB, va_T.narrow (va_T.moved hW.alike (h.2.kept hq)) hAB⟩
theorem Fx.to {l : Launch} {ad : Rf → Nat} {A B : Nat → Prop} {s U : State} {H0 H : Heap} (h : Fx l ad A s H0) (hW : s.WarmedH U.vm) (hq : ∀ a : Nat, a < H0.size → ¬ A a → H[a]? = H0[a]?) (hAB : ∀ q, B q → A q) : Fx l ad B U H := by
  obtain ⟨h2, h3, h6, h7, h8⟩ := h
  have hv := hW.alike
  exact ⟨fun j hj => ⟨va_O.narrow (va_O.moved hv ((h2 j hj).1.kept hq)) hAB, va_OF.narrow (va_OF.moved hv ((h2 j hj).2.1.kept hq)) hAB, va_OF.narrow (va_OF.moved hv ((h2 j hj).2.2.1.kept hq)) hAB, va_T.narrow (va_T.moved hv ((h2 j hj).2.2.2.kept hq)) hAB⟩,
    fun q hq => vk_R.warm hW (h3 q hq), ⟨va_Z.narrow (va_Z.moved hv (h6.1.kept hq)) hAB, va_Zq.narrow (va_Zq.moved hv (h6.2.kept hq)) hAB⟩, ⟨h7.1.to hW hq hAB, h7.2.to hW hq hAB⟩, nsw_warm hW h8⟩
theorem Fx.ad {l : Launch} {ad ad' : Rf → Nat} {A : Nat → Prop} {s : State} {H : Heap} (h30 : ∀ r : Rf, 30 ≤ r.1 → ad' r = ad r) (h : Fx l ad A s H) : Fx l ad' A s H := by
  obtain ⟨h2, h3, h6, h7, h8⟩ := h
  refine ⟨fun j hj => ?_, fun w hw => ?_, h6, ?_, h8⟩
  · rw [h30 (30, j, 0) (Nat.le_refl _), h30 (33, j, 0) (by show 30 ≤ 33; decide)]; exact h2 j hj
  · rw [h30 (30, w.2.2.2, 0) (Nat.le_refl _)]; exact h3 w hw
  · unfold DGa at h7 ⊢
    rw [h30 (31, 0, 0) (by show 30 ≤ 31; decide), h30 (31, 1, 0) (by show 30 ≤ 31; decide)]
    exact h7
/-- which cells a call may change -/
def Af (ad : Rf → Nat) (rs : List Rf) (sz : Nat) : Nat → Prop := fun q => (∃ r ∈ rs, q = ad r) ∨ sz ≤ q
/-- the model's things lie in the heap -/
def Wd (D : va_G) (tc : Nat → ClassId) (ad : Rf → Nat) (sh : Sh) (M : Mm) (rs : List Rf) (H : Heap) : Prop := va_P D vwCl (wl tc ad sh M rs) H
/-- a method's frame: all that doesn't change while it runs -/
def Cx (own : String) (cc : ByteArray) (nL : Nat) (rt : Option FieldType) (xt : List ExceptionTableEntry) (nme : String) (rs : List Rf) (p : Program) (l : Launch) (s : State) (m : MethodId) (args : Array Value) (meth : Method) (c : Code) (D : va_G) (tc : Nat → ClassId) (ad : Rf → Nat) (A : Nat → Prop) : Prop :=
  p.tables.exec = Jvm.exec ∧ c.code = cc ∧ c.maxLocals = nL ∧ s.vm.findClass own = some m.cls ∧ (∀ w ∈ AL, w.before args s = true) ∧ meth.locks = false ∧ meth.sig.returnType = rt ∧ c.exceptionTable.toList = xt ∧ meth.name = nme ∧
  va_K D vwCl (tys tc) s ∧ (∀ q, s.heap.size ≤ q → A q) ∧ Fx l ad A s s.heap ∧ (∀ r ∈ rs, A (ad r)) ∧ (∀ r ∈ rs, ∀ r' ∈ rs, ad r = ad r' → r = r')
abbrev QF : Type := List Frame → Array Value → State → va_G → (Nat → ClassId) → (Rf → Nat) → (Nat → Prop) → State → Prop
/-- from here on, in this model state, the machine comes to Q -/
def Z (own : String) (cc : ByteArray) (nL : Nat) (rt : Option FieldType) (xt : List ExceptionTableEntry) (nme : String) (R : Room) (Q : QF) (rs : List Rf) (sh : Sh) (cells slots pc : Nat) (ls : List (Option MV)) (st : List MV) (M : Mm) : Prop :=
  ∀ (p : Program) (l : Launch) (e : Env) (s : State) (m : MethodId) (args : Array Value) (below : List Frame) (meth : Method) (c : Code) (D : va_G) (tc : Nat → ClassId) (ad : Rf → Nat) (A : Nat → Prop) (H : Heap) (locs : List Loc) (lsA : Array Slot),
    Cx own cc nL rt xt nme rs p l s m args meth c D tc ad A → Wd D tc ad sh M rs H → va_S A s.heap H locs → zl ad lsA nL ls →
    W p l e R s m args below meth c H locs cells slots (Q below args s D tc ad A) (F0 m pc lsA (st.map (rv ad)))
/-- the same, with a thing of class E thrown here -/
def ZX (own : String) (cc : ByteArray) (nL : Nat) (rt : Option FieldType) (xt : List ExceptionTableEntry) (nme : String) (R : Room) (Q : QF) (rs : List Rf) (sh : Sh) (cells slots pc : Nat) (ls : List (Option MV)) (E : String) (M : Mm) : Prop :=
  ∀ (p : Program) (l : Launch) (e : Env) (s : State) (m : MethodId) (args : Array Value) (below : List Frame) (meth : Method) (c : Code) (D : va_G) (tc : Nat → ClassId) (ad : Rf → Nat) (A : Nat → Prop) (H : Heap) (locs : List Loc) (lsA : Array Slot) (rest : List Value) (q : Addr) (ce : Cell),
    Cx own cc nL rt xt nme rs p l s m args meth c D tc ad A → Wd D tc ad sh M rs H → va_S A s.heap H locs → zl ad lsA nL ls → H[q]? = some ce → ce.vm = .none → s.vm.findClass E = some ce.cls →
    vx_W p l e R s m args below meth c H locs cells slots (Q below args s D tc ad A) (F0 m pc lsA rest) q
theorem Wd.D {own : String} {cc : ByteArray} {nL : Nat} {rt : Option FieldType} {xt : List ExceptionTableEntry} {nme : String} {rs : List Rf} {p : Program} {l : Launch} {s : State} {m : MethodId} {args : Array Value} {meth : Method} {c : Code} {D : va_G} {tc : Nat → ClassId} {ad : Rf → Nat} {A : Nat → Prop} (hn : rs.Nodup) (C : Cx own cc nL rt xt nme rs p l s m args meth c D tc ad A) (sh : Sh) (M : Mm) : va_D A (wl tc ad sh M rs) := by
  obtain ⟨-, -, -, -, -, -, -, -, -, -, -, -, h1, h2⟩ := C
  refine ⟨fun i j p q hi hj e => ?_, fun k q hk => ?_⟩
  · rw [wl, List.getElem?_map] at hi hj
    cases h3 : rs[i]? with
    | none => rw [h3] at hi; cases hi
    | some r =>
      cases h4 : rs[j]? with
      | none => rw [h4] at hj; cases hj
      | some r' =>
        rw [h3] at hi
        rw [h4] at hj
        cases hi
        cases hj
        have h5 := h2 r (List.mem_of_getElem? h3) r' (List.mem_of_getElem? h4) e
        subst h5
        obtain ⟨g1, g2⟩ := List.getElem?_eq_some_iff.mp h3
        obtain ⟨g3, g4⟩ := List.getElem?_eq_some_iff.mp h4
        exact (List.getElem_inj hn).mp (g2.trans g4.symm)
  · rw [wl, List.getElem?_map] at hk
    cases h3 : rs[k]? with
    | none => rw [h3] at hk; cases hk
    | some r =>
      rw [h3] at hk
      cases hk
      exact h1 r (List.mem_of_getElem? h3)
/-- a method's room, by how deep its calls go -/
def rmD (d mc ms : Nat) : Room := { frames := d, cells := mc, slots := ms, locals := 31 * d }
/-- what a method's start holds -/
def Ps (D : va_G) (tc : Nat → ClassId) (ad : Rf → Nat) (l : Launch) (sh : Sh) (M : Mm) (rs : List Rf) (sz : Nat) (av : List MV) : Array Value → State → Prop :=
  va_Pc (av.map (rv ad)) (fun U => U.heap.size = sz ∧ Wd D tc ad sh M rs U.heap ∧ va_K D vwCl (tys tc) U ∧ Fx l ad (Af ad rs sz) U U.heap ∧ (∀ r ∈ rs, ∀ r' ∈ rs, ad r = ad r' → r = r'))
def Qs (D : va_G) (tc : Nat → ClassId) (ad : Rf → Nat) (sh : Sh) (rs : List Rf) (A : Nat → Prop) (PR : Option Value → Mm → Prop) : Array Value → State → Outcome → State → Prop :=
  fun _ st oc t => (∃ (v : Option Value) (M : Mm), oc = .returned v ∧ PR v M ∧ Wd D tc ad sh M rs t.heap) ∧ va_F A st t
def Xs (D : va_G) (tc : Nat → ClassId) (ad : Rf → Nat) (sh : Sh) (rs : List Rf) (A : Nat → Prop) (PX : String → Mm → Prop) : String → State → State → Prop :=
  fun E st t => (∃ M : Mm, PX E M ∧ Wd D tc ad sh M rs t.heap) ∧ va_F A st t
/-- the end of a method of the model: what it answers, what it throws -/
def QM (sh : Sh) (rs : List Rf) (mc ms : Nat) (PR : Option Value → Mm → Prop) (PX : String → Mm → Prop) : QF :=
  fun below args s D tc ad A => vx_MQ below (Qs D tc ad sh rs A PR) (Xs D tc ad sh rs A PX) args s mc ms A
/-- the contract of a method of the model -/
def Tri (y : MethodName) (w0 : Cond) (d mc ms : Nat) (sh : Sh) (rs : List Rf) (av : List MV) (M : Mm) (PR : Option Value → Mm → Prop) (PX : String → Mm → Prop) : Prop :=
  ∀ (l : Launch) (D : va_G) (tc : Nat → ClassId) (ad : Rf → Nat) (sz : Nat), vx_Met l y (w0 :: AL) (rmD d mc ms) (Ps D tc ad l sh M rs sz av) (Qs D tc ad sh rs (Af ad rs sz) PR) (Xs D tc ad sh rs (Af ad rs sz) PX) mc ms (Af ad rs sz)
theorem Tri.mono {y : MethodName} {w0 : Cond} {d mc ms : Nat} {sh : Sh} {rs : List Rf} {av : List MV} {M : Mm} {PR PR2 : Option Value → Mm → Prop} {PX PX2 : String → Mm → Prop} (h : Tri y w0 d mc ms sh rs av M PR PX) (h1 : ∀ v M', PR v M' → PR2 v M') (h2 : ∀ E M', PX E M' → PX2 E M') : Tri y w0 d mc ms sh rs av M PR2 PX2 := by
  intro l D tc ad sz
  have h3 := h l D tc ad sz
  refine MetFree.imp h3 ?_
  rintro a st o t (⟨⟨⟨v, M', e1, e2, e3⟩, e4⟩, e5⟩ | ⟨q, e0, E, ce, L, ⟨⟨M', e1, e2⟩, e3⟩, e4⟩)
  · exact Or.inl ⟨⟨⟨v, M', e1, h1 v M' e2, e3⟩, e4⟩, e5⟩
  · exact Or.inr ⟨q, e0, E, ce, L, ⟨⟨M', h2 E M' e1, e2⟩, e3⟩, e4⟩
theorem zl_entry (ad : Rf → Nat) {vs : List MV} {n : Nat} {ls : List (Option MV)} (h : (lg_sl (vs.map (rv ad))).length ≤ n) (hq : ∀ (i : Nat) (v : MV), ls[i]? = some (some v) → (i, rv ad v) ∈ lv_args 0 (vs.map (rv ad))) : zl ad ((lg_sl (vs.map (rv ad)) ++ List.replicate (n - (lg_sl (vs.map (rv ad))).length) Slot.unset).toArray) n ls := by
  have h1 := lv_entry (vs.map (rv ad)) h
  exact ⟨h1.1, h1.2.1, fun i v hi => h1.2.2 (i, rv ad v) (hq i v hi)⟩
theorem vx_ofWF {l : Launch} {y : MethodName} {ws ws' : List Cond} {rm : Room} {Pc : Array Value → State → Prop} {Qc : Array Value → State → Outcome → State → Prop} {XC : String → State → State → Prop} {mc ms : Nat} {free : Addr → Prop} {cc : ByteArray} {maxL : Nat} {ret : Option FieldType}
    (hy : plainFor y = true) (hw : ws = Cond.code y cc maxL ret :: ws')
    (body : ∀ p e s m args below meth c s₁, BodyLoose p l y (headSpec ws rm) cc maxL ret e s m args below meth c s₁ → c.maxLocals = maxL → (∀ x ∈ c.exceptionTable.toList, False) → Pc args s →
      W p l e (headSpec ws rm).room s m args below meth c s.heap [] 0 0 (vx_MQ below Qc XC args s mc ms free) (entryFrame m args maxL)) : vx_Met l y ws rm Pc Qc XC mc ms free := by
  refine MetFree.of_bodySF (code := cc) (maxLocals := maxL) (ret := ret) hy ?_ ?_
  · intro args s m h hn
    obtain ⟨meth, c, h1, h2, h3, h4, h5, h6, -, -⟩ := Cond.code_spec hn (atoms_spec (ws := ws) h _ (by rw [hw]; exact List.mem_cons_self))
    exact ⟨meth, c, h1, h2, h3, h4, h5, h6⟩
  · intro p e s m args below meth c s₁ B hml hP _
    have hh0 : s₁.heap = s.heap := by rw [B.state]; rfl
    have ht : ∀ x ∈ c.exceptionTable.toList, False := by
      obtain ⟨meth9, c9, h1, h2, -, -, -, -, h7, -⟩ := Cond.code_spec B.named (atoms_spec (ws := ws) B.pre _ (by rw [hw]; exact List.mem_cons_self))
      cases Option.some.inj (h1.symm.trans B.method)
      cases Option.some.inj (h2.symm.trans (Stand.of_body B).code)
      intro x hx
      rw [Array.isEmpty_iff.mp h7] at hx
      cases hx
    obtain ⟨t, a1, o, b1, b2, b3⟩ := body p e s m args below meth c s₁ B hml ht hP s₁ hh0 (Stand.of_body B)
    exact ⟨t, o, a1, b1, b2, b3⟩
/-- a contract out of a walk -/
theorem Tri.of {y : MethodName} {own nme : String} {cc : ByteArray} {nL : Nat} {rt : Option FieldType} {d mc ms : Nat} {sh : Sh} {rs : List Rf} {av : List MV} {M : Mm} {PR : Option Value → Mm → Prop} {PX : String → Mm → Prop}
    (hy : plainFor y = true) (ho : y.cls = own) (hm : y.name = nme) (ls : List (Option MV)) (hls : ∀ ad : Rf → Nat, (lg_sl (av.map (rv ad))).length ≤ nL ∧ ∀ (i : Nat) (v : MV), ls[i]? = some (some v) → (i, rv ad v) ∈ lv_args 0 (av.map (rv ad)))
    (k : Z own cc nL rt [] nme (rmD d mc ms) (QM sh rs mc ms PR PX) rs sh 0 0 0 ls [] M) : Tri y (.code y cc nL rt) d mc ms sh rs av M PR PX := by
  intro l D tc ad sz
  refine vx_ofWF (cc := cc) (maxL := nL) (ret := rt) hy rfl ?_
  intro p e s m args below meth c s₁ B hml hxt hv
  obtain ⟨rfl, hsz, hP, hK, hF, hinj⟩ := hv
  have hts := atoms_spec (ws := Cond.code y cc nL rt :: AL) B.pre
  have hown : s.vm.findClass own = some m.cls := by rw [← ho]; exact findClass_of_methodNamed B.named
  have hnm : meth.name = nme := by rw [← hm]; exact (name_of_methodNamed B.named B.method).1
  have hxn : c.exceptionTable.toList = [] := by
    cases h : c.exceptionTable.toList with
    | nil => rfl
    | cons a t => exact (hxt a (by rw [h]; exact List.mem_cons_self)).elim
  subst hsz
  rw [lg_entry_eq]
  exact k p l e s m _ below meth c D tc ad (Af ad rs s.heap.size) s.heap [] _
    ⟨B.exec, B.bytes, hml, hown, fun w hw => hts w (List.mem_cons_of_mem _ hw), B.notSynchronized, B.returns, hxn, hnm, hK, fun q h => Or.inr h, hF, fun r hr => Or.inl ⟨r, hr, rfl⟩, hinj⟩
    hP va_S.rf (zl_entry ad (hls ad).1 (hls ad).2)

