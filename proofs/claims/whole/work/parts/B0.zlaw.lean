/-! THE CLAIM OUT OF ONE WALK OF THE LAW'S BODY. Your part is whole_start (and what it stands on); all else here is the same for every law, but numbers. -/
def R_law : String := "MusicBoxEditorLaw"
def lw_P (b : Addr) (xs : List Int32) (args : Array Value) (s : State) : Prop := args = #[.ref b] ∧ s.IntsAt b xs ∧ xs.length ≤ 3072 ∧ (Jvm.Cond.and given_1 narrow_1).before args s = true
/-- what a walk over the start with the record d0 says of its end, said of the start itself -/
theorem lw_closed {s t : State} {o : Outcome} {d0 : Drawn} {L : List Loc} {k n : Nat} (hd0 : s.drawn.sameBut d0 lw_cs) (hv : ∃ v, o = .returned v) (hW : (s.setDrawn d0).WarmedH t.vm) (hs : (s.setDrawn d0).sameButNew ({ t with vm := s.vm } : State) L k n) : State.butDraws s t lw_cs (fun t1 => Framed s o t1 L k n) := by
  have h2 : t.drawn = d0 := congrArg State.drawn hs.1
  refine ⟨⟨hv, hW, State.sameButNew.setDrawn hs s.drawn⟩, ?_, by decide⟩
  rw [h2]
  exact hd0
def lw_Q (_ : Array Value) (s : State) (o : Outcome) (t : State) : Prop := o = .returned (some (.int 1)) ∧ State.butDraws s t lw_cs (fun t1 => Framed s o t1 [] 601024 7293034)
def lw_Z (below : List Frame) (a : Array Value) (s : State) : State → Prop := fun t => ∃ o, t.status = .running ∧ Ended t below o ∧ lw_Q a s o t
/-- the law's own end, with 1 on the stack, nothing written that was there before, its room as the claim has it; d0: the record of draws at this point (at the entry s.drawn: begin with 'refine W.base ?_' and 'have hd0 := Drawn.sameBut.refl s.drawn lw_cs') -/
theorem lw_ret {p : Program} {l : Launch} {e : Env} {s : State} {m : MethodId} {below : List Frame} {meth : Method} {c : Code} {b : Nat} {d0 : Drawn} (hd0 : s.drawn.sameBut d0 lw_cs) (hx : p.tables.exec = Jvm.exec) (hb : c.code = code) (hr : meth.sig.returnType = ret) (hlocks : meth.locks = false) {pc : Nat} {H : Heap} {ls : Array Slot} (hdg : decode code pc = .ok (.ireturn, 1)) : W p l e room_1 (s.setDrawn d0) m #[Value.ref b] below meth c H [] 601024 7293034 (lw_Z below #[Value.ref b] s) (F0 m pc ls [.int 1]) := by
  intro T hT X
  obtain ⟨fs, hret, hrun, hended, hW, hframe⟩ := X.leave (v := some (.int 1)) (hlocks := hlocks) (fun h => by rw [hr] at h; cases h)
  have hmeth' : T.vm.method? m = some meth := X.method'
  refine ⟨T.setFrames fs, ?_, .returned (some (.int 1)), hrun, hended, rfl, lw_closed hd0 ⟨_, rfl⟩ hW hframe⟩
  jvm_step X.here [X.here.top, hx, hb, hdg, hmeth', hr, ret, narrow_b1]
  (try refine ⟨rfl, ?_⟩); (try refine ⟨rfl, ?_⟩)
  first | (intro acts; rw [hret _ acts rfl rfl rfl]) | rw [hret _ _ rfl rfl rfl]
  exact Steps.refl _
/-- what holds at the law's entry: the machine, the code, the tables' words (any of lw_tbl by 'hts w (by decide +kernel)'), the script of L ints xs at the cell b, what the Statement gives of the start (any of its parts by flat_of_before) -/
def lw_At (p : Program) (s : State) (m : MethodId) (meth : Method) (c : Code) (b L : Nat) (xs : Nat → Int32) : Prop :=
  p.tables.exec = Jvm.exec ∧ c.code = code ∧ meth.sig.returnType = ret ∧ c.maxLocals = 10 ∧ s.vm.findClass R_law = some m.cls ∧ (∀ w ∈ lw_tbl, w.before #[Value.ref b] s = true) ∧ va_X b L xs s s.heap ∧ b < s.heap.size ∧ meth.locks = false ∧ (Jvm.Cond.and given_1 narrow_1).before #[Value.ref b] s = true
/-! the law's walk over the model machine: its own script is known through the end -/
def lwQ (b L : Nat) (xs : Nat → Int32) : QF := fun below args s D tc ad A t => (args = #[Value.ref b] ∧ va_X b L xs s s.heap ∧ b < s.heap.size ∧ ¬ A b ∧ ∀ q, A q → s.heap.size ≤ q) → lw_Z below #[Value.ref b] s t
theorem lwQ_G {b L : Nat} {xs : Nat → Int32} {rs : List Rf} : QG (lwQ b L xs) rs := fun below args s D tc ad ad' A t _ _ h => h
section ZLW
variable {b L : Nat} {xs : Nat → Int32} {nL : Nat} {rt : Option FieldType} {xt : List ExceptionTableEntry} {nme : String} {R : Room} {rs : List Rf} {sh : Sh} {cells slots pc : Nat} {ls : List (Option MV)} {st : List MV} {M : Mm}
theorem z_sld {i : Int32} (hd : decode code pc = .ok (.iaload, 1)) (hin : ¬ (i < 0 ∨ L ≤ i.toNatClampNeg)) (k : Z RL code nL rt xt nme R (lwQ b L xs) rs sh cells slots (pc + 1) ls (.inl (.int (xs i.toNatClampNeg)) :: st) M) : Z RL code nL rt xt nme R (lwQ b L xs) rs sh cells slots pc ls (.inl (.int i) :: .inl (.ref b) :: st) M := by
  intro p l e s m args below meth c D tc ad A H locs lsA C hP hS hl
  by_cases hp : (args = #[Value.ref b] ∧ va_X b L xs s s.heap ∧ b < s.heap.size ∧ ¬ A b ∧ ∀ q, A q → s.heap.size ≤ q)
  · exact va_sld C.1 C.2.1 hp.2.1 hp.2.2.1 hp.2.2.2.1 hS hin hd (k p l e s m args below meth c D tc ad A H locs lsA C hP hS hl)
  · intro T hT X
    exact ⟨_, Steps.refl _, fun h => absurd h hp⟩
theorem z_slenL (hd : decode code pc = .ok (.arraylength, 1)) (k : Z RL code nL rt xt nme R (lwQ b L xs) rs sh cells slots (pc + 1) ls (.inl (.int (nI L)) :: st) M) : Z RL code nL rt xt nme R (lwQ b L xs) rs sh cells slots pc ls (.inl (.ref b) :: st) M := by
  intro p l e s m args below meth c D tc ad A H locs lsA C hP hS hl
  by_cases hp : (args = #[Value.ref b] ∧ va_X b L xs s s.heap ∧ b < s.heap.size ∧ ¬ A b ∧ ∀ q, A q → s.heap.size ≤ q)
  · exact va_slen C.1 C.2.1 hp.2.1 hp.2.2.1 hp.2.2.2.1 hS hd (k p l e s m args below meth c D tc ad A H locs lsA C hP hS hl)
  · intro T hT X
    exact ⟨_, Steps.refl _, fun h => absurd h hp⟩
theorem z_arg {d : Int32} {dn : Int} {x : Int32} (h0 : decode code pc = .ok (.aload_n 0, 1)) (h1 : decode code (pc + 1) = .ok (.iload 5, 2)) (h2 : decode code (pc + 3) = .ok (.iconst dn, 1)) (h3 : decode code (pc + 4) = .ok (.iadd, 1)) (h4 : decode code (pc + 5) = .ok (.iaload, 1)) (hd : Int32.ofInt dn = d) (hx0 : ls[0]? = some (some (.inl (.ref b)))) (hx5 : ls[5]? = some (some (.inl (.int x)))) (hin : ¬ (x + d < 0 ∨ L ≤ (x + d).toNatClampNeg))
    (k : Z RL code nL rt xt nme R (lwQ b L xs) rs sh cells slots (pc + 6) ls (.inl (.int (xs (x + d).toNatClampNeg)) :: st) M) : Z RL code nL rt xt nme R (lwQ b L xs) rs sh cells slots pc ls st M := by
  refine z_aloadQ_n (i := 0) h0 rfl hx0 ?_
  refine z_iload (i := 5) h1 hx5 ?_
  refine z_iconst h2 hd ?_
  refine z_iadd h3 ?_
  exact z_sld h4 hin k
theorem z_lend (hd : decode code pc = .ok (.ireturn, 1)) (hc : cells ≤ 601024) (hs : slots ≤ 7293034) : Z RL code nL ret xt nme room_1 (lwQ b L xs) rs sh cells slots pc ls [.inl (.int 1)] M := by
  intro p l e s m args below meth c D tc ad A H locs lsA C hP hS hl
  by_cases hp : (args = #[Value.ref b] ∧ va_X b L xs s s.heap ∧ b < s.heap.size ∧ ¬ A b ∧ ∀ q, A q → s.heap.size ≤ q)
  · obtain ⟨rfl, h1, h2, h3, h4⟩ := hp
    refine w_mono (Q := lw_Z below #[Value.ref b] s) (fun t ht _ => ht) ?_
    refine W.widen hc hs (va_forget (fun q hq => h4 _ (hS.2.2 q hq)) (W.base ?_))
    exact lw_ret (Drawn.sameBut.refl s.drawn lw_cs) C.1 C.2.1 C.2.2.2.2.2.2.1 C.2.2.2.2.2.1 hd
  · intro T hT X
    exact ⟨_, Steps.refl _, fun h => absurd h hp⟩
end ZLW
/-- the law's locals at its loop's head -/
def ls0 (b : Nat) (x : Int32) : List (Option MV) := [some (.inl (.ref b)), some (.inr (0, 0, 0)), some (.inr (18, 0, 0)), some (.inr (21, 0, 0)), some (.inr (22, 0, 0)), some (.inl (.int x)), none, none, none, none]
theorem rmk_r {d n1 c s : Nat} (h1 : d ≤ 100) (h2 : n1 ≤ 41) (hc : c ≤ 601024) (hs : s ≤ 7293034) : rmk d n1 room_1 c s = true := by
  have e1 : room_1.frames = 2048 := rfl
  have e2 : room_1.locals = 84000 := rfl
  have e3 : room_1.cells = 601024 := rfl
  have e4 : room_1.slots = 7293034 := rfl
  simp only [rmk, Bool.and_eq_true, Nat.ble_eq, e1, e2, e3, e4]
  omega
theorem ag_in {α : Type} {cs : List Nat} {res : α ⊕ Nat} {r : α} {th : Int32} (h : AGT cs res r th) : ∀ e, res = .inr e → e ∈ cs := by
  intro e he
  subst he
  obtain ⟨i, -, h2, -⟩ := h
  exact List.mem_of_getElem? h2
theorem ag_T {cs : List Nat} {res : Int32 ⊕ Nat} {r th : Int32} (h : AG cs res r th) : AGT cs res r th := by
  cases res with
  | inl x => exact h
  | inr e => exact h
theorem fr_out {M : Mm} {R : Rf} {v : Int64} (h : sOut R = true) : Fr sOut M (putL M R 0 v) := by
  intro r hr
  have hne : r ≠ R := fun c => by rw [c, h] at hr; cases hr
  exact ⟨rfl, putL_ne hne⟩
theorem wp_k {α : Type} {cs : List Nat} {R : Rf} {f : α → Int64} {res : α ⊕ Nat} {M1 M9 : Mm} {v : Option Value} (hR : sOut R = true) (h : WP cs R f res M1 v M9) : ∃ k : Int32, v = some (.int k) ∧ Fr sOut M1 M9 ∧ WP cs R f res M1 (some (.int k)) M9 := by
  cases res with
  | inl x =>
    obtain ⟨h1, h2⟩ := h
    exact ⟨0, h1, by rw [h2]; exact fr_out hR, rfl, h2⟩
  | inr e =>
    obtain ⟨i, h1, h2, h3, h4, h5⟩ := h
    exact ⟨nI (i + 1), h4, by rw [h5]; exact fr_rf, i, h1, h2, h3, rfl, h5⟩
theorem wp_th {α : Type} {cs : List Nat} {R : Rf} {f : α → Int64} {res : α ⊕ Nat} {M1 M9 : Mm} {k th : Int32} {r : α} (h : WP cs R f res M1 (some (.int k)) M9) (ag : AGT cs res r th) : th = k := by
  cases res with
  | inl x =>
    have h1 := h.1
    cases h1
    exact ag.1
  | inr e =>
    obtain ⟨i, h1, h2, h3, h4, h5⟩ := h
    obtain ⟨j, g1, g2, g3, g4⟩ := ag
    cases h4
    have e : i = j := by
      rcases Nat.lt_trichotomy i j with c | c | c
      · exact absurd h2 (g3 i c)
      · exact c
      · exact absurd g2 (h3 j c)
    rw [g4, e]
theorem wp_val {α : Type} {cs : List Nat} {R : Rf} {f : α → Int64} {res : α ⊕ Nat} {M1 M9 M2 : Mm} {k th : Int32} {r : α} (h : WP cs R f res M1 (some (.int k)) M9) (ag : AGT cs res r th) (h0 : k = 0) (hR : sRf R = false) (hF : Fr sRf M9 M2) : M2.2 R 0 = f r ∧ res = .inl r := by
  cases res with
  | inl x =>
    obtain ⟨-, h2⟩ := h
    have e : r = x := ag.2
    subst e
    rw [(hF R hR).2, h2, gp2]
    exact ⟨rfl, rfl⟩
  | inr e =>
    obtain ⟨i, h1, h2, h3, h4, h5⟩ := h
    cases h4
    exfalso
    match i, h1 with
    | 0, _ => exact absurd h0 (by decide)
    | 1, _ => exact absurd h0 (by decide)
    | 2, _ => exact absurd h0 (by decide)
theorem lcmp_0 {x : Int64} : lg_cmp x x = 0 := by
  unfold lg_cmp
  simp
theorem cmpv {o : Option Ordering} (h : FP.cmpInt (-1) o = 0) : Op.cmpValue o .l = 0 := by
  cases o with
  | none => exact absurd h (by decide)
  | some q =>
    cases q with
    | lt => exact absurd h (by decide)
    | eq => rfl
    | gt => exact absurd h (by decide)
theorem dcmp_0 {x : UInt64} (h : noN x) : Op.cmpValue (FP.dcmp x x) .l = 0 := cmpv (Jvm.Free.Fl.dcmp_of_noNaN64 h)
theorem fcmp_0 {x : UInt32} (h : noF x) : Op.cmpValue (FP.fcmp x x) .l = 0 := cmpv (Jvm.Free.Fl.fcmp_of_noNaN32 h)
theorem f2d_n {x : UInt32} (h : noF x) : vf_n64 (FP.f2d x) := (Jvm.Free.Fl.noNaN_f2d x).mpr h
theorem u64_i (x : UInt64) : x.toInt64.toUInt64 = x := by simp
