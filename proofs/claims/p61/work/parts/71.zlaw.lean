/-! THE CLAIM OUT OF ONE WALK OF THE LAW'S BODY. Your part is whole_start (and what it stands on); all else here is the same for every law, but numbers. -/
def R_law : String := "MusicBoxEditorLaw"
def lw_P (b : Addr) (xs : List Int32) (args : Array Value) (s : State) : Prop := args = #[.ref b] ∧ s.IntsAt b xs ∧ xs.length ≤ 260 ∧ (Jvm.Cond.and given_1 narrow_1).before args s = true
/-- what a walk over the start with the record d0 says of its end, said of the start itself -/
theorem lw_closed {s t : State} {o : Outcome} {d0 : Drawn} {L : List Loc} {k n : Nat} (hd0 : s.drawn.sameBut d0 lw_cs) (hv : ∃ v, o = .returned v) (hW : (s.setDrawn d0).WarmedH t.vm) (hs : (s.setDrawn d0).sameButNew ({ t with vm := s.vm } : State) L k n) : State.butDraws s t lw_cs (fun t1 => Framed s o t1 L k n) := by
  have h2 : t.drawn = d0 := congrArg State.drawn hs.1
  refine ⟨⟨hv, hW, State.sameButNew.setDrawn hs s.drawn⟩, ?_, by decide⟩
  rw [h2]
  exact hd0
def lw_Q (_ : Array Value) (s : State) (o : Outcome) (t : State) : Prop := o = .returned (some (.int 1)) ∧ State.butDraws s t lw_cs (fun t1 => Framed s o t1 [] room_1.cells room_1.slots)
def lw_Z (below : List Frame) (a : Array Value) (s : State) : State → Prop := fun t => ∃ o, t.status = .running ∧ Ended t below o ∧ lw_Q a s o t
/-- the law's own end, with 1 on the stack, nothing written that was there before, its room as the claim has it; d0: the record of draws at this point (at the entry s.drawn: begin with 'refine W.base ?_' and 'have hd0 := Drawn.sameBut.refl s.drawn lw_cs') -/
theorem lw_ret {p : Program} {l : Launch} {e : Env} {s : State} {m : MethodId} {below : List Frame} {meth : Method} {c : Code} {b : Nat} {d0 : Drawn} (hd0 : s.drawn.sameBut d0 lw_cs) (hx : p.tables.exec = Jvm.exec) (hb : c.code = code) (hr : meth.sig.returnType = ret) (hlocks : meth.locks = false) {pc : Nat} {H : Heap} {ls : Array Slot} (hdg : decode code pc = .ok (.ireturn, 1)) : W p l e room_1 (s.setDrawn d0) m #[Value.ref b] below meth c H [] room_1.cells room_1.slots (lw_Z below #[Value.ref b] s) (F0 m pc ls [.int 1]) := by
  intro T hT X
  obtain ⟨fs, hret, hrun, hended, hW, hframe⟩ := X.leave (v := some (.int 1)) (hlocks := hlocks) (fun h => by rw [hr] at h; cases h)
  have hmeth' : T.vm.method? m = some meth := X.method'
  refine ⟨T.setFrames fs, ?_, .returned (some (.int 1)), hrun, hended, rfl, lw_closed hd0 ⟨_, rfl⟩ hW hframe⟩
  jvm_step X.here [X.here.top, hx, hb, hdg, hmeth', hr, ret, narrow_b1]
  (try refine ⟨rfl, ?_⟩); (try refine ⟨rfl, ?_⟩)
  first | (intro acts; rw [hret _ acts rfl rfl rfl]) | rw [hret _ _ rfl rfl rfl]
  exact Steps.refl _
/-- what holds at the law's entry: the machine, the code, the tables' words (any of lw_tbl by 'hts w (by decide +kernel)'), the script of L ints xs at the cell b, what the Statement gives of the start (any of its parts by flat_of_before) -/
def lw_At (p : Program) (s : State) (m : MethodId) (meth : Method) (c : Code) (b L : Nat) (xs : Nat → Int32) : Prop :=
  p.tables.exec = Jvm.exec ∧ c.code = code ∧ meth.sig.returnType = ret ∧ c.maxLocals = 9 ∧ s.vm.findClass R_law = some m.cls ∧ (∀ w ∈ lw_tbl, w.before #[Value.ref b] s = true) ∧ va_X b L xs s s.heap ∧ b < s.heap.size ∧ meth.locks = false ∧ (Jvm.Cond.and given_1 narrow_1).before #[Value.ref b] s = true

theorem dL_law_0 : decode cL_law 0 = .ok (.new 30, 3) := by decide +kernel
theorem dL_law_3 : decode cL_law 3 = .ok (.dup, 1) := by decide +kernel
theorem dL_law_4 : decode cL_law 4 = .ok (.invokespecial 358, 3) := by decide +kernel
theorem dL_law_7 : decode cL_law 7 = .ok (.astore_n 1, 1) := by decide +kernel
theorem dL_law_8 : decode cL_law 8 = .ok (.new 40, 3) := by decide +kernel
theorem dL_law_11 : decode cL_law 11 = .ok (.dup, 1) := by decide +kernel
theorem dL_law_12 : decode cL_law 12 = .ok (.invokespecial 359, 3) := by decide +kernel
theorem dL_law_15 : decode cL_law 15 = .ok (.astore_n 2, 1) := by decide +kernel
theorem dL_law_16 : decode cL_law 16 = .ok (.aload_n 1, 1) := by decide +kernel
theorem dL_law_17 : decode cL_law 17 = .ok (.aload_n 2, 1) := by decide +kernel
theorem dL_law_18 : decode cL_law 18 = .ok (.aload_n 0, 1) := by decide +kernel
theorem dL_law_19 : decode cL_law 19 = .ok (.invokestatic 360, 3) := by decide +kernel
theorem dL_law_22 : decode cL_law 22 = .ok (.ifCond .ne 5, 3) := by decide +kernel
theorem dL_law_25 : decode cL_law 25 = .ok (.iconst 0, 1) := by decide +kernel
theorem dL_law_26 : decode cL_law 26 = .ok (.ireturn, 1) := by decide +kernel
theorem dL_law_27 : decode cL_law 27 = .ok (.bipush 42, 2) := by decide +kernel
theorem dL_law_29 : decode cL_law 29 = .ok (.anewarray 40, 3) := by decide +kernel
theorem dL_law_32 : decode cL_law 32 = .ok (.astore_n 3, 1) := by decide +kernel
theorem dL_law_33 : decode cL_law 33 = .ok (.iconst 0, 1) := by decide +kernel
theorem dL_law_34 : decode cL_law 34 = .ok (.istore 4, 2) := by decide +kernel
theorem dL_law_36 : decode cL_law 36 = .ok (.iconst 0, 1) := by decide +kernel
theorem dL_law_37 : decode cL_law 37 = .ok (.istore 5, 2) := by decide +kernel
theorem dL_law_39 : decode cL_law 39 = .ok (.iload 5, 2) := by decide +kernel
theorem dL_law_41 : decode cL_law 41 = .ok (.bipush 40, 2) := by decide +kernel
theorem dL_law_43 : decode cL_law 43 = .ok (.if_icmp .ge 137, 3) := by decide +kernel
theorem dL_law_46 : decode cL_law 46 = .ok (.bipush 126, 2) := by decide +kernel
theorem dL_law_48 : decode cL_law 48 = .ok (.iconst 5, 1) := by decide +kernel
theorem dL_law_49 : decode cL_law 49 = .ok (.iload 5, 2) := by decide +kernel
theorem dL_law_51 : decode cL_law 51 = .ok (.imul, 1) := by decide +kernel
theorem dL_law_52 : decode cL_law 52 = .ok (.iadd, 1) := by decide +kernel
theorem dL_law_53 : decode cL_law 53 = .ok (.istore 6, 2) := by decide +kernel
theorem dL_law_55 : decode cL_law 55 = .ok (.aload_n 1, 1) := by decide +kernel
theorem dL_law_56 : decode cL_law 56 = .ok (.aload_n 2, 1) := by decide +kernel
theorem dL_law_57 : decode cL_law 57 = .ok (.aload_n 0, 1) := by decide +kernel
theorem dL_law_58 : decode cL_law 58 = .ok (.iload 6, 2) := by decide +kernel
theorem dL_law_60 : decode cL_law 60 = .ok (.iconst 3, 1) := by decide +kernel
theorem dL_law_61 : decode cL_law 61 = .ok (.iadd, 1) := by decide +kernel
theorem dL_law_62 : decode cL_law 62 = .ok (.iconst 3, 1) := by decide +kernel
theorem dL_law_63 : decode cL_law 63 = .ok (.invokestatic 316, 3) := by decide +kernel
theorem dL_law_66 : decode cL_law 66 = .ok (.invokestatic 364, 3) := by decide +kernel
theorem dL_law_69 : decode cL_law 69 = .ok (.ifCond .eq 44, 3) := by decide +kernel
theorem dL_law_72 : decode cL_law 72 = .ok (.iload 5, 2) := by decide +kernel
theorem dL_law_74 : decode cL_law 74 = .ok (.bipush 8, 2) := by decide +kernel
theorem dL_law_76 : decode cL_law 76 = .ok (.irem, 1) := by decide +kernel
theorem dL_law_77 : decode cL_law 77 = .ok (.bipush 7, 2) := by decide +kernel
theorem dL_law_79 : decode cL_law 79 = .ok (.if_icmp .ne 36, 3) := by decide +kernel
theorem dL_law_82 : decode cL_law 82 = .ok (.aload_n 1, 1) := by decide +kernel
theorem dL_law_83 : decode cL_law 83 = .ok (.aload_n 2, 1) := by decide +kernel
theorem dL_law_84 : decode cL_law 84 = .ok (.aload_n 0, 1) := by decide +kernel
theorem dL_law_85 : decode cL_law 85 = .ok (.iload 6, 2) := by decide +kernel
theorem dL_law_87 : decode cL_law 87 = .ok (.iconst 4, 1) := by decide +kernel
theorem dL_law_88 : decode cL_law 88 = .ok (.iadd, 1) := by decide +kernel
theorem dL_law_89 : decode cL_law 89 = .ok (.aload_n 2, 1) := by decide +kernel
theorem dL_law_90 : decode cL_law 90 = .ok (.getfield 44, 3) := by decide +kernel
theorem dL_law_93 : decode cL_law 93 = .ok (.invokestatic 316, 3) := by decide +kernel
theorem dL_law_96 : decode cL_law 96 = .ok (.aload_n 0, 1) := by decide +kernel
theorem dL_law_97 : decode cL_law 97 = .ok (.iload 6, 2) := by decide +kernel
theorem dL_law_99 : decode cL_law 99 = .ok (.iconst 4, 1) := by decide +kernel
theorem dL_law_100 : decode cL_law 100 = .ok (.iadd, 1) := by decide +kernel
theorem dL_law_101 : decode cL_law 101 = .ok (.sipush 301, 3) := by decide +kernel
theorem dL_law_104 : decode cL_law 104 = .ok (.invokestatic 316, 3) := by decide +kernel
theorem dL_law_107 : decode cL_law 107 = .ok (.invokestatic 367, 3) := by decide +kernel
theorem dL_law_110 : decode cL_law 110 = .ok (.ifCond .ne 5, 3) := by decide +kernel
theorem dL_law_113 : decode cL_law 113 = .ok (.iconst 0, 1) := by decide +kernel
theorem dL_law_114 : decode cL_law 114 = .ok (.ireturn, 1) := by decide +kernel
theorem dL_law_115 : decode cL_law 115 = .ok (.aload_n 2, 1) := by decide +kernel
theorem dL_law_116 : decode cL_law 116 = .ok (.invokevirtual 250, 3) := by decide +kernel
theorem dL_law_119 : decode cL_law 119 = .ok (.astore 7, 2) := by decide +kernel
theorem dL_law_121 : decode cL_law 121 = .ok (.aload_n 1, 1) := by decide +kernel
theorem dL_law_122 : decode cL_law 122 = .ok (.aload 7, 2) := by decide +kernel
theorem dL_law_124 : decode cL_law 124 = .ok (.aload_n 0, 1) := by decide +kernel
theorem dL_law_125 : decode cL_law 125 = .ok (.iload 6, 2) := by decide +kernel
theorem dL_law_127 : decode cL_law 127 = .ok (.invokestatic 371, 3) := by decide +kernel
theorem dL_law_130 : decode cL_law 130 = .ok (.istore 8, 2) := by decide +kernel
theorem dL_law_132 : decode cL_law 132 = .ok (.iload 8, 2) := by decide +kernel
theorem dL_law_134 : decode cL_law 134 = .ok (.ifCond .ne 5, 3) := by decide +kernel
theorem dL_law_137 : decode cL_law 137 = .ok (.iconst 0, 1) := by decide +kernel
theorem dL_law_138 : decode cL_law 138 = .ok (.ireturn, 1) := by decide +kernel
theorem dL_law_139 : decode cL_law 139 = .ok (.iload 8, 2) := by decide +kernel
theorem dL_law_141 : decode cL_law 141 = .ok (.ifCond .ge 6, 3) := by decide +kernel
theorem dL_law_144 : decode cL_law 144 = .ok (.goto 30, 3) := by decide +kernel
theorem dL_law_147 : decode cL_law 147 = .ok (.aload_n 3, 1) := by decide +kernel
theorem dL_law_148 : decode cL_law 148 = .ok (.iload 4, 2) := by decide +kernel
theorem dL_law_150 : decode cL_law 150 = .ok (.aload_n 2, 1) := by decide +kernel
theorem dL_law_151 : decode cL_law 151 = .ok (.aastore, 1) := by decide +kernel
theorem dL_law_152 : decode cL_law 152 = .ok (.iinc 4 1, 3) := by decide +kernel
theorem dL_law_155 : decode cL_law 155 = .ok (.aload 7, 2) := by decide +kernel
theorem dL_law_157 : decode cL_law 157 = .ok (.astore_n 2, 1) := by decide +kernel
theorem dL_law_158 : decode cL_law 158 = .ok (.aload_n 1, 1) := by decide +kernel
theorem dL_law_159 : decode cL_law 159 = .ok (.invokevirtual 375, 3) := by decide +kernel
theorem dL_law_162 : decode cL_law 162 = .ok (.bipush 8, 2) := by decide +kernel
theorem dL_law_164 : decode cL_law 164 = .ok (.iload 4, 2) := by decide +kernel
theorem dL_law_166 : decode cL_law 166 = .ok (.invokestatic 378, 3) := by decide +kernel
theorem dL_law_169 : decode cL_law 169 = .ok (.if_icmp .eq 5, 3) := by decide +kernel
theorem dL_law_172 : decode cL_law 172 = .ok (.iconst 0, 1) := by decide +kernel
theorem dL_law_173 : decode cL_law 173 = .ok (.ireturn, 1) := by decide +kernel
theorem dL_law_174 : decode cL_law 174 = .ok (.iinc 5 1, 3) := by decide +kernel
theorem dL_law_177 : decode cL_law 177 = .ok (.goto (-138), 3) := by decide +kernel
theorem dL_law_180 : decode cL_law 180 = .ok (.aload_n 1, 1) := by decide +kernel
theorem dL_law_181 : decode cL_law 181 = .ok (.aload_n 2, 1) := by decide +kernel
theorem dL_law_182 : decode cL_law 182 = .ok (.aload_n 2, 1) := by decide +kernel
theorem dL_law_183 : decode cL_law 183 = .ok (.getfield 179, 3) := by decide +kernel
theorem dL_law_186 : decode cL_law 186 = .ok (.invokestatic 364, 3) := by decide +kernel
theorem dL_law_189 : decode cL_law 189 = .ok (.ifCond .ne 5, 3) := by decide +kernel
theorem dL_law_192 : decode cL_law 192 = .ok (.iconst 0, 1) := by decide +kernel
theorem dL_law_193 : decode cL_law 193 = .ok (.ireturn, 1) := by decide +kernel
theorem dL_law_194 : decode cL_law 194 = .ok (.bipush 8, 2) := by decide +kernel
theorem dL_law_196 : decode cL_law 196 = .ok (.iload 4, 2) := by decide +kernel
theorem dL_law_198 : decode cL_law 198 = .ok (.invokestatic 378, 3) := by decide +kernel
theorem dL_law_201 : decode cL_law 201 = .ok (.istore 5, 2) := by decide +kernel
theorem dL_law_203 : decode cL_law 203 = .ok (.iload 4, 2) := by decide +kernel
theorem dL_law_205 : decode cL_law 205 = .ok (.iconst 1, 1) := by decide +kernel
theorem dL_law_206 : decode cL_law 206 = .ok (.isub, 1) := by decide +kernel
theorem dL_law_207 : decode cL_law 207 = .ok (.istore 6, 2) := by decide +kernel
theorem dL_law_209 : decode cL_law 209 = .ok (.iload 5, 2) := by decide +kernel
theorem dL_law_211 : decode cL_law 211 = .ok (.ifCond .le 41, 3) := by decide +kernel
theorem dL_law_214 : decode cL_law 214 = .ok (.iinc 5 (-1), 3) := by decide +kernel
theorem dL_law_217 : decode cL_law 217 = .ok (.aload_n 1, 1) := by decide +kernel
theorem dL_law_218 : decode cL_law 218 = .ok (.invokevirtual 381, 3) := by decide +kernel
theorem dL_law_221 : decode cL_law 221 = .ok (.iload 5, 2) := by decide +kernel
theorem dL_law_223 : decode cL_law 223 = .ok (.if_icmp .ne 21, 3) := by decide +kernel
theorem dL_law_226 : decode cL_law 226 = .ok (.aload_n 1, 1) := by decide +kernel
theorem dL_law_227 : decode cL_law 227 = .ok (.aload_n 3, 1) := by decide +kernel
theorem dL_law_228 : decode cL_law 228 = .ok (.iload 6, 2) := by decide +kernel
theorem dL_law_230 : decode cL_law 230 = .ok (.aaload, 1) := by decide +kernel
theorem dL_law_231 : decode cL_law 231 = .ok (.aload_n 0, 1) := by decide +kernel
theorem dL_law_232 : decode cL_law 232 = .ok (.iload 6, 2) := by decide +kernel
theorem dL_law_234 : decode cL_law 234 = .ok (.iconst 3, 1) := by decide +kernel
theorem dL_law_235 : decode cL_law 235 = .ok (.invokestatic 316, 3) := by decide +kernel
theorem dL_law_238 : decode cL_law 238 = .ok (.invokestatic 364, 3) := by decide +kernel
theorem dL_law_241 : decode cL_law 241 = .ok (.ifCond .ne 5, 3) := by decide +kernel
theorem dL_law_244 : decode cL_law 244 = .ok (.iconst 0, 1) := by decide +kernel
theorem dL_law_245 : decode cL_law 245 = .ok (.ireturn, 1) := by decide +kernel
theorem dL_law_246 : decode cL_law 246 = .ok (.iinc 6 (-1), 3) := by decide +kernel
theorem dL_law_249 : decode cL_law 249 = .ok (.goto (-40), 3) := by decide +kernel
theorem dL_law_252 : decode cL_law 252 = .ok (.aload_n 1, 1) := by decide +kernel
theorem dL_law_253 : decode cL_law 253 = .ok (.invokevirtual 375, 3) := by decide +kernel
theorem dL_law_256 : decode cL_law 256 = .ok (.ifCond .ne 7, 3) := by decide +kernel
theorem dL_law_259 : decode cL_law 259 = .ok (.iconst 1, 1) := by decide +kernel
theorem dL_law_260 : decode cL_law 260 = .ok (.goto 4, 3) := by decide +kernel
theorem dL_law_263 : decode cL_law 263 = .ok (.iconst 0, 1) := by decide +kernel
theorem dL_law_264 : decode cL_law 264 = .ok (.ireturn, 1) := by decide +kernel
theorem kb_126 : (Int8.ofInt (126)).toInt32 = (126 : Int32) := by decide
theorem ks_301 : (Int16.ofInt (301)).toInt32 = (301 : Int32) := by decide
set_option maxRecDepth 20000 in
theorem nw_L_30 : Cond.classLink RL 30 (Rc 9) ∈ AL ∧ Cond.instantiable (Rc 9) (Nc 9) ∈ AL ∧ Cond.initialized (Rc 9) ∈ AL := ⟨al_mc al_c1 34 rfl (by decide +kernel), al_mc al_c1 35 rfl (by decide +kernel), al_mc al_c1 1 rfl (by decide +kernel)⟩
set_option maxRecDepth 20000 in
theorem nw_L_40 : Cond.classLink RL 40 (Rc 10) ∈ AL ∧ Cond.instantiable (Rc 10) (Nc 10) ∈ AL ∧ Cond.initialized (Rc 10) ∈ AL := ⟨al_mc al_c3 153 rfl (by decide +kernel), al_mc al_c3 154 rfl (by decide +kernel), al_mc al_c1 18 rfl (by decide +kernel)⟩
theorem cq_L_40 : Cond.classLink RL 40 RX10 ∈ AL ∧ Cond.arrayOver (.object RX10) ∈ nsw := ⟨al_mc al_c3 153 rfl (by decide +kernel), by decide +kernel⟩
/-! the law's walk over the model machine -/
def lwQ (b L : Nat) (xs : Nat → Int32) : QF := fun below args s D tc ad A t => (args = #[Value.ref b] ∧ va_X b L xs s s.heap ∧ b < s.heap.size ∧ ¬ A b ∧ ∀ q, A q → s.heap.size ≤ q) → lw_Z below #[Value.ref b] s t
theorem lwQ_G {b L : Nat} {xs : Nat → Int32} {rs : List Rf} : QG (lwQ b L xs) rs := fun below args s D tc ad ad' A t _ _ h => h
theorem lwQ_I {b L : Nat} {xs : Nat → Int32} {S : List Rf} : QI S (lwQ b L xs) := fun below args s D tc ad ad' A t _ h => h
theorem lwQ_V {b L : Nat} {xs : Nat → Int32} : QV b L xs (lwQ b L xs) := fun below args s D tc ad A t h hp => absurd ⟨hp.2.1, hp.2.2.1, hp.2.2.2.1⟩ h
theorem z_lend {b L : Nat} {xs : Nat → Int32} {nL : Nat} {xt : List ExceptionTableEntry} {nme : String} {rs : List Rf} {sh : Sh} {cells slots pc : Nat} {ls : List (Option MV)} {M : Mm} (hd : decode code pc = .ok (.ireturn, 1)) (hc : cells ≤ 75000) (hs : slots ≤ 4100000) : Z RL code nL ret xt nme room_1 (lwQ b L xs) rs sh cells slots pc ls [.inl (.int 1)] M := by
  intro p l e s m args below meth c D tc ad A H locs lsA C hP hS hl
  by_cases hp : (args = #[Value.ref b] ∧ va_X b L xs s s.heap ∧ b < s.heap.size ∧ ¬ A b ∧ ∀ q, A q → s.heap.size ≤ q)
  · obtain ⟨rfl, h1, h2, h3, h4⟩ := hp
    refine w_mono (Q := lw_Z below #[Value.ref b] s) (fun t ht _ => ht) ?_
    refine W.widen (show cells ≤ room_1.cells from Nat.le_trans hc (by decide)) (show slots ≤ room_1.slots from Nat.le_trans hs (by decide)) (va_forget (fun q hq => h4 _ (hS.2.2 q hq)) (W.base ?_))
    exact lw_ret (Drawn.sameBut.refl s.drawn lw_cs) C.1 C.2.1 C.2.2.2.2.2.2.1 C.2.2.2.2.2.1 hd
  · intro T hT X
    exact ⟨_, Steps.refl _, fun h => absurd h hp⟩
/-- what the pure layer gives: the class answers as its own box says, all along -/
def StepOK (L : Nat) (xs : Nat → Int32) (I : Nat → Nat → Mm → Prop) (t p : Nat) (M : Mm) : Prop :=
  ∃ (q1 r2 : Int32) (M2 M3 M4 : Mm) (r4 : Int32) (M5 : Mm), pickF L xs (126 + 5 * nI t + 3) 3 = some q1 ∧ fL_isAs M p q1 = some (r2, M2) ∧ r2 ≠ 0 ∧
    (t % 8 = 7 → ∃ q2 q3 r3 : Int32, pickF L xs (126 + 5 * nI t + 4) (M2.1 (18, p, 0) 3) = some q2 ∧ pickF L xs (126 + 5 * nI t + 4) 301 = some q3 ∧ fL_isForetold M2 p q2 q3 = some (r3, M3) ∧ r3 ≠ 0) ∧ (t % 8 ≠ 7 → M3 = M2) ∧
    fX10_copy (ow0M (mN M3 (18, p + 1, 0)) (p + 1)) p (p + 1) = some M4 ∧ fL_acts M4 (p + 1) L xs (126 + 5 * nI t) = some (r4, M5) ∧ r4 ≠ 0 ∧ (r4 < 0 → I (t + 1) p M5) ∧ (¬ r4 < 0 → fX9_undoCount M5 = fJ9_min_7cf53 M5 8 (nI (p + 1)) ∧ I (t + 1) (p + 1) M5)
def UndoOK (L : Nat) (xs : Nat → Int32) (J : Nat → Nat → Mm → Prop) (n c : Nat) (M : Mm) : Prop :=
  ∃ (M7 : Mm) (q r : Int32) (M8 : Mm), fX9_undo M = some (nI (n - 1), M7) ∧ pickF L xs (nI (c - 1)) 3 = some q ∧ fL_isAs M7 (c - 1) q = some (r, M8) ∧ r ≠ 0 ∧ J (n - 1) (c - 1) M8
def LawPure (L : Nat) (xs : Nat → Int32) (I J : Nat → Nat → Mm → Prop) (M0 : Mm) (r1 : Int32) (M1 : Mm) : Prop :=
  fX9_takeSetup (MT 123) = some M0 ∧ fL_begins (ow0M (mN M0 (18, 0, 0)) 0) 0 L xs = some (r1, M1) ∧ r1 ≠ 0 ∧ I 0 0 (mN M1 (23, 0, 0)) ∧ (∀ t p M, t < 40 → p ≤ t → I t p M → StepOK L xs I t p M) ∧
    (∀ p M, p ≤ 40 → I 40 p M → ∃ (r6 : Int32) (M6 : Mm), fL_isAs M p (M.1 (18, p, 0) 4) = some (r6, M6) ∧ r6 ≠ 0 ∧ fJ9_min_7cf53 M6 8 (nI p) = nI (min 8 p) ∧ J (min 8 p) p M6) ∧ (∀ n c M, 0 < n → n ≤ c → c ≤ 40 → J n c M → UndoOK L xs J n c M) ∧ (∀ c M, J 0 c M → fX9_undoCount M = 0)
section LP
variable {L : Nat} {xs : Nat → Int32} {I J : Nat → Nat → Mm → Prop} {M0 : Mm} {r1 : Int32} {M1 : Mm}
theorem LawPure.h0 (W : LawPure L xs I J M0 r1 M1) : fX9_takeSetup (MT 123) = some M0 := W.1
theorem LawPure.h1 (W : LawPure L xs I J M0 r1 M1) : fL_begins (ow0M (mN M0 (18, 0, 0)) 0) 0 L xs = some (r1, M1) := W.2.1
theorem LawPure.h1r (W : LawPure L xs I J M0 r1 M1) : r1 ≠ 0 := W.2.2.1
theorem LawPure.hI (W : LawPure L xs I J M0 r1 M1) : I 0 0 (mN M1 (23, 0, 0)) := W.2.2.2.1
theorem LawPure.step (W : LawPure L xs I J M0 r1 M1) : (∀ t p M, t < 40 → p ≤ t → I t p M → StepOK L xs I t p M) := W.2.2.2.2.1
theorem LawPure.fin (W : LawPure L xs I J M0 r1 M1) : (∀ p M, p ≤ 40 → I 40 p M → ∃ (r6 : Int32) (M6 : Mm), fL_isAs M p (M.1 (18, p, 0) 4) = some (r6, M6) ∧ r6 ≠ 0 ∧ fJ9_min_7cf53 M6 8 (nI p) = nI (min 8 p) ∧ J (min 8 p) p M6) := W.2.2.2.2.2.1
theorem LawPure.undo (W : LawPure L xs I J M0 r1 M1) : (∀ n c M, 0 < n → n ≤ c → c ≤ 40 → J n c M → UndoOK L xs J n c M) := W.2.2.2.2.2.2.1
theorem LawPure.last (W : LawPure L xs I J M0 r1 M1) : (∀ c M, J 0 c M → fX9_undoCount M = 0) := W.2.2.2.2.2.2.2
end LP
section ZLAW
variable {I J : Nat → Nat → Mm → Prop} {M0 : Mm} {r1 : Int32} {M1 : Mm} {b L : Nat} {xs : Nat → Int32} {xt : List ExceptionTableEntry} {nme : String}
def lsL (b p t : Nat) : List (Option MV) := [some (.inl (.ref b)), some (.inr (0, 0, 0)), some (.inr (18, p, 0)), some (.inr (23, p, 0)), some (.inl (.int (nI p))), some (.inl (.int (nI t))), none, none, none]
theorem nI_lt0 {n : Nat} (h : n < 1000) : ¬ nI n < 0 := nI_pos (by omega)
theorem nI_gt0 {n : Nat} (h0 : 0 < n) (h : n < 9) : ¬ nI n ≤ 0 := (by decide : ∀ n, n < 9 → 0 < n → ¬ nI n ≤ 0) n h h0
theorem nI_pr {c : Nat} (h : 0 < c) : nI c - 1 = nI (c - 1) := (Int32.ofNat_sub c 1 h).symm
theorem nI_dec (n : Nat) : nI (n + 1) + Int32.ofInt (-1) = nI n := by
  rw [nI_succ n, Int32.add_assoc, show (1 : Int32) + Int32.ofInt (-1) = 0 by decide, Int32.add_zero]
theorem i_m1 (x : Int32) : x + Int32.ofInt (-1) = x - 1 := by
  rw [Int32.sub_eq_add_neg, show Int32.ofInt (-1) = -1 by decide]
theorem rm_c {c : Nat} (h : c ≤ 75000) : c ≤ room_1.cells := Nat.le_trans h (by decide)
theorem rm_s {c : Nat} (h : c ≤ 4100000) : c ≤ room_1.slots := Nat.le_trans h (by decide)
theorem rq_rr {d n1 kc ks c s : Nat} (h1 : d + 1 ≤ 16) (h2 : 8 + (n1 + 11) + 31 * d ≤ 634) (h3 : c + kc ≤ 75000) (h4 : s + ks ≤ 4100000) : rq d n1 kc ks room_1 c s := ⟨h1, h2, rm_c h3, rm_s h4⟩
theorem rmk_rr {d n1 c s : Nat} (h1 : d + 1 ≤ 16) (h2 : 8 + (n1 + 11) + 31 * d ≤ 634) (h3 : c ≤ 75000) (h4 : s ≤ 4100000) : rmk d n1 room_1 c s = true := by
  simp only [rmk, Bool.and_eq_true, Nat.ble_eq]
  exact ⟨⟨⟨h1, h2⟩, rm_c h3⟩, rm_s h4⟩
theorem m0P {p : Nat} : ((0, 0, 0) : Rf) ∈ allR (wvP p) := mk0
set_option maxRecDepth 20000 in
set_option maxHeartbeats 2000000 in
theorem law_undo (W : LawPure L xs I J M0 r1 M1) {p : Nat} (hp : p ≤ 40) : ∀ (n c cells slots : Nat) (M : Mm), n ≤ 8 → n ≤ c → c ≤ p → J n c M → cells + n * 1006 ≤ 70000 → slots + n * 63286 ≤ 4050000 →
    Z RL code 9 ret xt nme room_1 (lwQ b L xs) (allR (wvP p)) SH cells slots 209 [some (.inl (.ref b)), some (.inr (0, 0, 0)), some (.inr (18, p, 0)), some (.inr (23, p, 0)), some (.inl (.int (nI p))), some (.inl (.int (nI n))), some (.inl (.int (nI c - 1))), none, none] [] M := by
  intro n
  induction n with
  | zero =>
    intro c cells slots M _ _ _ hJ hc hs
    refine z_iload (i := 5) dL_law_209 rfl ?_
    refine z_if_le (tgt := 252) dL_law_211 rfl (fun _ => ?_) (fun h => absurd (by decide) h)
    refine z_aload_n (i := 1) dL_law_252 rfl rfl ?_
    refine z_fVi (sX9_undoCount M) dL_law_253 ml_L_375 cd_X9_undoCount mk0 rfl rfl rfl (rmk_rr (by decide) (by decide) (by omega) (by omega)) rfl rfl ?_
    rw [W.last c M hJ]
    refine z_if_ne (tgt := 263) dL_law_256 rfl (fun h => absurd rfl h) (fun _ => ?_)
    refine z_iconst (v := (1 : Int32)) dL_law_259 kc_1 ?_
    refine z_goto (tgt := 264) dL_law_260 rfl ?_
    exact z_lend dL_law_264 (by omega) (by omega)
  | succ n ih =>
    intro c cells slots M hn hnc hcp hJ hc hs
    obtain ⟨M7, q, r, M8, e1, e2, e3, e4, e5⟩ := W.undo (n + 1) c M (Nat.succ_pos n) hnc (by omega) hJ
    have hc1 : nI c - 1 = nI (c - 1) := nI_pr (by omega)
    refine z_iload (i := 5) dL_law_209 rfl ?_
    refine z_if_le (tgt := 252) dL_law_211 rfl (fun h => absurd h (nI_gt0 (by omega) (by omega))) (fun _ => ?_)
    refine z_iinc (i := 5) (v := nI n) dL_law_214 rfl (nI_dec n) (by decide) rfl ?_
    refine z_aload_n (i := 1) dL_law_217 rfl rfl ?_
    refine z_fVi (sX9_undo M e1) dL_law_218 ml_L_381 cd_X9_undo mk0 rfl rfl rfl (rmk_rr (by decide) (by decide) (by omega) (by omega)) rfl rfl ?_
    refine z_iload (i := 5) dL_law_221 rfl ?_
    refine z_icmp_ne (tgt := 244) dL_law_223 rfl (fun h => absurd rfl h) (fun _ => ?_)
    refine z_aload_n (i := 1) dL_law_226 rfl rfl ?_
    refine z_aload_n (i := 3) dL_law_227 rfl rfl ?_
    refine z_iload (i := 6) dL_law_228 rfl ?_
    refine z_aaldO (j := c - 1) dL_law_230 (by rw [hc1]; exact nI_clamp (by omega)) (by rw [hc1]; exact nI_lt0 (by omega)) (by omega) (by omega) ?_
    refine z_aloadQ_n (i := 0) dL_law_231 rfl rfl ?_
    refine z_iload (i := 6) dL_law_232 rfl ?_
    refine z_iconst (v := (3 : Int32)) dL_law_234 kc_3 ?_
    refine z_gSix lwQ_V (sL_pick b M7 L xs (nI c - 1) 3 (by rw [hc1]; exact e2)) dL_law_235 ml_L_316 cd_L_pick rfl rfl (rq_rr (by decide) (by decide) (by omega) (by omega)) rfl rfl ?_
    refine z_gSi (sL_isAs M7 (c - 1) q (owP (by omega)) (nvP (by omega)) e3) dL_law_238 ml_L_364 cd_L_isAs rfl rfl (rq_rr (by decide) (by decide) (by omega) (by omega)) rfl rfl ?_
    refine z_if_ne (tgt := 246) dL_law_241 rfl (fun _ => ?_) (fun h => absurd h e4)
    refine z_iinc (i := 6) (v := nI (c - 1) - 1) dL_law_246 rfl (by rw [hc1]; exact i_m1 _) (by decide) rfl ?_
    refine z_goto (tgt := 209) dL_law_249 rfl ?_
    exact ih (c - 1) _ _ M8 (by omega) (by omega) (by omega) e5 (by omega) (by omega)
def fg2 (l : List (Option MV)) : List (Option MV) := l
set_option maxRecDepth 20000 in
set_option maxHeartbeats 4000000 in
theorem law_loop (W : LawPure L xs I J M0 r1 M1) : ∀ (n t p cells slots : Nat) (M : Mm), t + n = 40 → p ≤ t → I t p M → cells + n * 1100 ≤ 60000 → slots + n * 75000 ≤ 3450000 →
    Z RL code 9 ret xt nme room_1 (lwQ b L xs) (allR (wvP p)) SH cells slots 39 (lsL b p t) [] M := by
  intro n
  induction n with
  | zero =>
    intro t p cells slots M ht hpt hI hc hs
    have et : t = 40 := by omega
    subst et
    obtain ⟨r6, M6, e1, e2, e3, e4⟩ := W.fin p M hpt hI
    refine z_iload (i := 5) dL_law_39 rfl ?_
    refine z_bipush (v := (40 : Int32)) dL_law_41 kb_40 ?_
    refine z_icmp_ge (tgt := 180) dL_law_43 rfl (fun _ => ?_) (fun h => absurd (by decide) h)
    refine z_aload_n (i := 1) dL_law_180 rfl rfl ?_
    refine z_aload_n (i := 2) dL_law_181 rfl rfl ?_
    refine z_aload_n (i := 2) dL_law_182 rfl rfl ?_
    refine z_getIG (x := M.1 (18, p, 0) 4) dL_law_183 fg_L_179 (owP (Nat.le_refl p)).1 rfl rfl ?_
    refine z_gSi (sL_isAs M p _ (owP (Nat.le_refl p)) (nvP (by omega)) e1) dL_law_186 ml_L_364 cd_L_isAs rfl rfl (rq_rr (by decide) (by decide) (by omega) (by omega)) rfl rfl ?_
    refine z_if_ne (tgt := 194) dL_law_189 rfl (fun _ => ?_) (fun h => absurd h e2)
    refine z_bipush (v := (8 : Int32)) dL_law_194 kb_8 ?_
    refine z_iload (i := 4) dL_law_196 rfl ?_
    refine z_fSi (sJ9_min_7cf53 M6 8 (nI p)) dL_law_198 ml_L_378 cd_J9_min_7cf53 rfl rfl (rmk_rr (by decide) (by decide) (by omega) (by omega)) rfl rfl ?_
    rw [e3]
    refine z_istore (i := 5) dL_law_201 (by decide) rfl ?_
    refine z_iload (i := 4) dL_law_203 rfl ?_
    refine z_iconst (v := (1 : Int32)) dL_law_205 kc_1 ?_
    refine z_isub dL_law_206 ?_
    refine z_istore (i := 6) dL_law_207 (by decide) rfl ?_
    exact law_undo W hpt (min 8 p) p _ _ M6 (by omega) (by omega) (by omega) e4 (by omega) (by omega)
  | succ n ih =>
    intro t p cells slots M ht hpt hI hc hs
    obtain ⟨q1, r2, M2, M3, M4, r4, M5, e1, e2, e3, e4, e5, e6, e7, e8, e9, e10⟩ := W.step t p M (by omega) hpt hI
    have hAo : ((wvP p).1 ++ owR (p + 1)).Nodup ∧ clo (owR (p + 1)) := nd_ow (frP (Nat.lt_succ_self p))
    have hnv : NoV (wvA (wvP p) (owR (p + 1)) hAo) 0 := fun r hr => by
      rcases List.mem_append.mp hr with h | h
      · exact nvP (by omega) r h
      · exact vol_ow (by omega) h
    refine z_iload (i := 5) dL_law_39 rfl ?_
    refine z_bipush (v := (40 : Int32)) dL_law_41 kb_40 ?_
    refine z_icmp_ge (tgt := 180) dL_law_43 rfl (fun h => absurd h (nI_ge (b := 40) (by omega) (by decide))) (fun _ => ?_)
    refine z_bipush (v := (126 : Int32)) dL_law_46 kb_126 ?_
    refine z_iconst (v := (5 : Int32)) dL_law_48 kc_5 ?_
    refine z_iload (i := 5) dL_law_49 rfl ?_
    refine z_imul dL_law_51 ?_
    refine z_iadd dL_law_52 ?_
    refine z_istore (i := 6) dL_law_53 (by decide) rfl ?_
    refine z_aload_n (i := 1) dL_law_55 rfl rfl ?_
    refine z_aload_n (i := 2) dL_law_56 rfl rfl ?_
    refine z_aloadQ_n (i := 0) dL_law_57 rfl rfl ?_
    refine z_iload (i := 6) dL_law_58 rfl ?_
    refine z_iconst (v := (3 : Int32)) dL_law_60 kc_3 ?_
    refine z_iadd dL_law_61 ?_
    refine z_iconst (v := (3 : Int32)) dL_law_62 kc_3 ?_
    refine z_gSix lwQ_V (sL_pick b M L xs _ 3 e1) dL_law_63 ml_L_316 cd_L_pick rfl rfl (rq_rr (by decide) (by decide) (by omega) (by omega)) rfl rfl ?_
    refine z_gSi (sL_isAs M p q1 (owP (Nat.le_refl p)) (nvP (by omega)) e2) dL_law_66 ml_L_364 cd_L_isAs rfl rfl (rq_rr (by decide) (by decide) (by omega) (by omega)) rfl rfl ?_
    refine z_if_eq (tgt := 113) dL_law_69 rfl (fun h => absurd h e3) (fun _ => ?_)
    refine z_iload (i := 5) dL_law_72 rfl ?_
    refine z_bipush (v := (8 : Int32)) dL_law_74 kb_8 ?_
    refine z_irem dL_law_76 (by decide) ?_
    refine z_bipush (v := (7 : Int32)) dL_law_77 kb_7 ?_
    have hmod : nI t - nI t / 8 * 8 = nI (t % 8) := (by decide : ∀ t, t < 40 → nI t - nI t / 8 * 8 = nI (t % 8)) t (by omega)
    have h115 : ∀ (c2 s2 : Nat), c2 ≤ cells + 1006 + 16 → s2 ≤ slots + 63286 + 4788 → Z RL code 9 ret xt nme room_1 (lwQ b L xs) (allR (wvP p)) SH c2 s2 115 [some (.inl (.ref b)), some (.inr (0, 0, 0)), some (.inr (18, p, 0)), some (.inr (23, p, 0)), some (.inl (.int (nI p))), some (.inl (.int (nI t))), some (.inl (.int (126 + 5 * nI t))), none, none] [] M3 := by
      intro c2 s2 hc2 hs2
      refine z_aload_n (i := 2) dL_law_115 rfl rfl ?_
      refine z_cGV (sX10_copy M3 p (p + 1) (owP (Nat.le_refl p)) (frP (Nat.lt_succ_self p)) hAo e6) dL_law_116 ml_L_250 cd_X10_copy (owP (Nat.le_refl p)).1 rfl rfl rfl (rq_rr (by decide) (by decide) (by omega) (by omega)) rfl rfl lwQ_I rfl (by simp [noC, owR]) rfl ?_
      refine z_astore (i := 7) dL_law_119 (by decide) rfl ?_
      refine z_aload_n (i := 1) dL_law_121 rfl rfl ?_
      refine z_aload (i := 7) dL_law_122 rfl ?_
      refine z_aloadQ_n (i := 0) dL_law_124 rfl rfl ?_
      refine z_iload (i := 6) dL_law_125 rfl ?_
      refine z_gSix lwQ_V (sL_acts b M4 (p + 1) L xs _ ow0 hnv e7) dL_law_127 ml_L_371 cd_L_acts rfl rfl (rq_rr (by decide) (by decide) (by omega) (by omega)) rfl rfl ?_
      refine z_istore (i := 8) dL_law_130 (by decide) rfl ?_
      refine z_iload (i := 8) dL_law_132 rfl ?_
      refine z_if_ne (tgt := 139) dL_law_134 rfl (fun _ => ?_) (fun h => absurd h e8)
      refine z_iload (i := 8) dL_law_139 rfl ?_
      refine z_if_ge (tgt := 147) dL_law_141 rfl (fun hr => ?_) (fun hr => ?_)
      · have hr2 : ¬ r4 < 0 := Int32.not_lt.mpr hr
        obtain ⟨f1, f2⟩ := e10 hr2
        refine z_aload_n (i := 3) dL_law_147 rfl rfl ?_
        refine z_iload (i := 4) dL_law_148 rfl ?_
        refine z_aload_n (i := 2) dL_law_150 rfl rfl ?_
        refine z_aast (t := 2) (n := 42) (ci := 10) (j := p) hAo.1 dL_law_151 (List.mem_append_left _ m23) (List.mem_append_left _ (owP (Nat.le_refl p)).1) rfl rfl (by decide) (fun _ => rfl) (fun h => by rcases h with h | h; exact nI_lt0 (by omega) h; rw [nI_clamp (by omega)] at h; omega) (nI_clamp (by omega)) ?_
        refine z_iinc (i := 4) (v := nI (p + 1)) dL_law_152 rfl (nI_succ p).symm (by decide) rfl ?_
        refine z_aload (i := 7) dL_law_155 rfl ?_
        refine z_astore_n (i := 2) dL_law_157 rfl (by decide) rfl ?_
        refine z_ren23 (p := p) (ls' := [some (.inl (.ref b)), some (.inr (0, 0, 0)), some (.inr (18, p + 1, 0)), some (.inr (23, p + 1, 0)), some (.inl (.int (nI (p + 1)))), some (.inl (.int (nI t))), none, none, none]) (by omega) hAo.1 lwQ_I (fun i v hi => ?_) rfl ?_
        · match i, hi with
          | 0, hi => cases hi; exact Or.inl ⟨by simp, rfl⟩
          | 1, hi => cases hi; exact Or.inl ⟨by simp, rfl⟩
          | 2, hi => cases hi; exact Or.inl ⟨by simp, rfl⟩
          | 3, hi => cases hi; exact Or.inr ⟨rfl, rfl⟩
          | 4, hi => cases hi; exact Or.inl ⟨by simp, rfl⟩
          | 5, hi => cases hi; exact Or.inl ⟨by simp, rfl⟩
          | 6, hi => cases hi
          | 7, hi => cases hi
          | 8, hi => cases hi
          | i + 9, hi => simp at hi
        refine z_aload_n (i := 1) dL_law_158 rfl rfl ?_
        refine z_fVi (sX9_undoCount M5) dL_law_159 ml_L_375 cd_X9_undoCount mk0 rfl rfl rfl (rmk_rr (by decide) (by decide) (by omega) (by omega)) rfl rfl ?_
        refine z_bipush (v := (8 : Int32)) dL_law_162 kb_8 ?_
        refine z_iload (i := 4) dL_law_164 rfl ?_
        refine z_fSi (sJ9_min_7cf53 M5 8 (nI (p + 1))) dL_law_166 ml_L_378 cd_J9_min_7cf53 rfl rfl (rmk_rr (by decide) (by decide) (by omega) (by omega)) rfl rfl ?_
        refine z_icmp_eq (tgt := 174) dL_law_169 rfl (fun _ => ?_) (fun h => absurd f1 h)
        refine z_iinc (i := 5) (v := nI (t + 1)) dL_law_174 rfl (nI_succ t).symm (by decide) rfl ?_
        refine z_goto (tgt := 39) dL_law_177 rfl ?_
        exact ih (t + 1) (p + 1) _ _ M5 (by omega) (by omega) f2 (by omega) (by omega)
      · have hr2 : r4 < 0 := Int32.not_le.mp hr
        refine z_goto (tgt := 174) dL_law_144 rfl ?_
        refine z_iinc (i := 5) (v := nI (t + 1)) dL_law_174 rfl (nI_succ t).symm (by decide) rfl ?_
        refine z_goto (tgt := 39) dL_law_177 rfl ?_
        refine z_fgt (i := 6) ?_
        refine z_fgt (i := 7) ?_
        refine z_fgt (i := 8) ?_
        refine z_sub (w0 := wvP p) swA ?_
        exact ih (t + 1) p _ _ M5 (by omega) (by omega) (e9 hr2) (by omega) (by omega)
    refine z_icmp_ne (tgt := 115) dL_law_79 rfl (fun h => ?_) (fun h => ?_)
    · have ht8 : t % 8 ≠ 7 := fun c => h (by rw [hmod, c]; rfl)
      rw [e5 ht8] at h115
      exact h115 _ _ (by omega) (by omega)
    · have ht8 : t % 8 = 7 := by
        rw [hmod] at h
        exact (by decide : ∀ k, k < 8 → nI k = 7 → k = 7) (t % 8) (Nat.mod_lt _ (by decide)) h
      obtain ⟨q2, q3, r3, g1, g2, g3, g4⟩ := e4 ht8
      refine z_aload_n (i := 1) dL_law_82 rfl rfl ?_
      refine z_aload_n (i := 2) dL_law_83 rfl rfl ?_
      refine z_aloadQ_n (i := 0) dL_law_84 rfl rfl ?_
      refine z_iload (i := 6) dL_law_85 rfl ?_
      refine z_iconst (v := (4 : Int32)) dL_law_87 kc_4 ?_
      refine z_iadd dL_law_88 ?_
      refine z_aload_n (i := 2) dL_law_89 rfl rfl ?_
      refine z_getIG (x := M2.1 (18, p, 0) 3) dL_law_90 fg_L_44 (owP (Nat.le_refl p)).1 rfl rfl ?_
      refine z_gSix lwQ_V (sL_pick b M2 L xs _ _ g1) dL_law_93 ml_L_316 cd_L_pick rfl rfl (rq_rr (by decide) (by decide) (by omega) (by omega)) rfl rfl ?_
      refine z_aloadQ_n (i := 0) dL_law_96 rfl rfl ?_
      refine z_iload (i := 6) dL_law_97 rfl ?_
      refine z_iconst (v := (4 : Int32)) dL_law_99 kc_4 ?_
      refine z_iadd dL_law_100 ?_
      refine z_sipush (v := (301 : Int32)) dL_law_101 ks_301 ?_
      refine z_gSix lwQ_V (sL_pick b M2 L xs _ 301 g2) dL_law_104 ml_L_316 cd_L_pick rfl rfl (rq_rr (by decide) (by decide) (by omega) (by omega)) rfl rfl ?_
      refine z_gSi (sL_isForetold M2 p q2 q3 (owP (Nat.le_refl p)) (nvP (by omega)) g3) dL_law_107 ml_L_367 cd_L_isForetold rfl rfl (rq_rr (by decide) (by decide) (by omega) (by omega)) rfl rfl ?_
      refine z_if_ne (tgt := 115) dL_law_110 rfl (fun _ => ?_) (fun h => absurd h g4)
      exact h115 _ _ (by omega) (by omega)
end ZLAW

