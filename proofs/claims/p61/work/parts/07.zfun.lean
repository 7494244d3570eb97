/-! contracts that say: the answer is this, the things are then so -/
abbrev TF (wv : Wv) (y : MethodName) (c1 : ByteArray) (n1 : Nat) (rt1 : Option FieldType) (d : Nat) (av : List MV) (M : Mm) (v0 : Option Value) (M2 : Mm) : Prop := Tri y (.code y c1 n1 rt1) d 0 0 SH (allR wv) av M (fun v M' => v = v0 ∧ M' = M2) (fun _ _ => False)
theorem it_t {α : Type} {c : Prop} {dc : Decidable c} {a b r : α} (h : (@ite α c dc a b) = r) (hc : c) : a = r := by rw [if_pos hc] at h; exact h
theorem it_f {α : Type} {c : Prop} {dc : Decidable c} {a b r : α} (h : (@ite α c dc a b) = r) (hc : ¬ c) : b = r := by rw [if_neg hc] at h; exact h
theorem chk {α : Type} {c : Prop} {dc : Decidable c} {b : Option α} {r : α} (h : (@ite (Option α) c dc none b) = some r) : ¬ c ∧ b = some r := by
  by_cases hc : c
  · rw [if_pos hc] at h; cases h
  · rw [if_neg hc] at h; exact ⟨hc, h⟩
theorem chk2 {α : Type} {c : Prop} {dc : Decidable c} {b : Option α} {r : α} (h : (@ite (Option α) c dc b none) = some r) : c ∧ b = some r := by
  by_cases hc : c
  · rw [if_pos hc] at h; exact ⟨hc, h⟩
  · rw [if_neg hc] at h; cases h
theorem bnd {α β : Type} {o : Option α} {k : α → Option β} {r : β} (h : o.bind k = some r) : ∃ q, o = some q ∧ k q = some r := by
  cases o with
  | none => cases h
  | some q => exact ⟨q, rfl, h⟩
theorem ltN {i : Int32} {n : Nat} (h : ¬ (i < 0 ∨ n ≤ i.toNatClampNeg)) : i.toNatClampNeg < n := Nat.lt_of_not_le fun h2 => h (Or.inr h2)
theorem ltA {i : Int32} {n a b : Nat} (h : ¬ (i < 0 ∨ n ≤ i.toNatClampNeg)) (hb : (a + n).ble b = true) : a + i.toNatClampNeg < b := by
  have h1 := ltN h
  have h2 := Nat.le_of_ble_eq_true hb
  omega
def bz (v : Int32) : Int32 := v &&& 1
theorem bz_ok (v : Int32) : narrow .boolean (.int v) = .int (bz v) := rfl
theorem bz0 : narrow .boolean (.int 0) = .int 0 := rfl
theorem bz1 : narrow .boolean (.int 1) = .int 1 := rfl
theorem gp1 {M : Mm} {r : Rf} {j : Nat} {v : Int32} : (putI M r j v).1 r j = v := by simp [putI]
theorem gp2 {M : Mm} {r : Rf} {j : Nat} {v : Int64} : (putL M r j v).2 r j = v := by simp [putL]
def mc (v : MV) : Nat := match v with
  | .inl x => x.category
  | .inr _ => 1
def els : List MV → List (Option MV)
  | [] => []
  | v :: t => match mc v with
    | 2 => some v :: none :: els t
    | _ => some v :: els t
theorem mc_rv (ad : Rf → Nat) (v : MV) : (rv ad v).category = mc v := by cases v <;> rfl
theorem els_2 {v : MV} {t : List MV} (h : mc v = 2) : els (v :: t) = some v :: none :: els t := by
  rw [els, h]; rfl
theorem els_1 {v : MV} {t : List MV} (h : ¬ mc v = 2) : els (v :: t) = some v :: els t := by
  rw [els]
  split
  · rename_i h2; exact absurd h2 h
  · rfl
theorem els_len (ad : Rf → Nat) : ∀ av : List MV, (lg_sl (av.map (rv ad))).length = (els av).length
  | [] => rfl
  | v :: t => by
    have ih := els_len ad t
    have h2 : lg_sl ((v :: t).map (rv ad)) = (if (rv ad v).category = 2 then [Slot.val (rv ad v), .second] else [.val (rv ad v)]) ++ lg_sl (t.map (rv ad)) := by simp [lg_sl]
    rw [h2, List.length_append, ih, mc_rv ad v]
    by_cases h3 : mc v = 2
    · rw [if_pos h3, els_2 h3]; simp; omega
    · rw [if_neg h3, els_1 h3]; simp; omega
theorem els_at (ad : Rf → Nat) : ∀ (av : List MV) (k i : Nat) (v : MV), (els av)[i]? = some (some v) → (k + i, rv ad v) ∈ lv_args k (av.map (rv ad))
  | [], _, _, _, h => by simp [els] at h
  | w :: t, k, i, v, h => by
    have hm := mc_rv ad w
    rw [List.map_cons, lv_args, hm]
    by_cases h3 : mc w = 2
    · rw [els_2 h3] at h
      rw [if_pos h3]
      match i, h with
      | 0, h => simp at h; subst h; exact List.mem_cons_self
      | 1, h => simp at h
      | i + 2, h =>
        have := els_at ad t (k + 2) i v (by simpa using h)
        rw [show k + 2 + i = k + (i + 2) by omega] at this
        exact List.mem_cons_of_mem _ this
    · rw [els_1 h3] at h
      rw [if_neg h3]
      match i, h with
      | 0, h => simp at h; subst h; exact List.mem_cons_self
      | i + 1, h =>
        have := els_at ad t (k + 1) i v (by simpa using h)
        rw [show k + 1 + i = k + (i + 1) by omega] at this
        exact List.mem_cons_of_mem _ this
theorem els_pad (ad : Rf → Nat) {av : List MV} {n i : Nat} {v : MV} (h : (els av ++ List.replicate n none)[i]? = some (some v)) : (i, rv ad v) ∈ lv_args 0 (av.map (rv ad)) := by
  rw [List.getElem?_append] at h
  split at h
  · have := els_at ad av 0 i v h
    rwa [Nat.zero_add] at this
  · rw [List.getElem?_replicate] at h
    split at h <;> cases h
theorem TF.go {wv : Wv} {y : MethodName} {own nme : String} {cc : ByteArray} {nL : Nat} {rt : Option FieldType} {d : Nat} {av : List MV} {M M2 : Mm} {v0 : Option Value} {ls : List (Option MV)} {n : Nat}
    (hy : plainFor y = true) (ho : y.cls = own) (hm : y.name = nme) (hls : els av ++ List.replicate n none = ls) (hn : (els av).length.ble nL = true)
    (k : Z own cc nL rt [] nme (rmD d 0 0) (QM SH (allR wv) 0 0 (fun v M' => v = v0 ∧ M' = M2) (fun _ _ => False)) (allR wv) SH 0 0 0 ls [] M) : TF wv y cc nL rt d av M v0 M2 :=
  Tri.of hy ho hm ls (fun ad => ⟨by rw [els_len]; exact Nat.le_of_ble_eq_true hn, fun i v h => els_pad ad (n := n) (by rw [hls]; exact h)⟩) k
def okO (r : Rf) (y : MethodName) : Bool := match kd r with
  | .inl (ci, _) => decide (ci < 13) && (Rc ci == y.cls)
  | .inr _ => false
theorem okO_spec {r : Rf} {y : MethodName} (h : okO r y = true) : ∃ (ci : Nat) (ks : List Bool), kd r = .inl (ci, ks) ∧ (ci < 13 ∧ Rc ci = y.cls) := by
  unfold okO at h
  split at h
  · rename_i ci ks hk
    simp only [Bool.and_eq_true, decide_eq_true_eq, beq_iff_eq] at h
    exact ⟨ci, ks, hk, h⟩
  · cases h
def rmk (d n1 : Nat) (R : Room) (cells slots : Nat) : Bool := (d + 1).ble R.frames && (8 + (n1 + 11) + 31 * d).ble R.locals && cells.ble R.cells && slots.ble R.slots
theorem rmk_spec {d n1 : Nat} {R : Room} {cells slots : Nat} (h : rmk d n1 R cells slots = true) : d + 1 ≤ R.frames ∧ 8 + (n1 + 11) + 31 * d ≤ R.locals ∧ cells + 0 ≤ R.cells ∧ slots + 0 ≤ R.slots := by
  simp only [rmk, Bool.and_eq_true] at h
  exact ⟨Nat.le_of_ble_eq_true h.1.1.1, Nat.le_of_ble_eq_true h.1.1.2, Nat.le_of_ble_eq_true h.1.2, Nat.le_of_ble_eq_true h.2⟩
theorem tswo {x : Int32} {lo hi : Int} (h : ∀ k : Int, lo ≤ k → k ≤ hi → ¬ x.toInt = k) : x.toInt < lo ∨ hi < x.toInt := by
  by_cases h1 : x.toInt < lo
  · exact Or.inl h1
  · by_cases h2 : hi < x.toInt
    · exact Or.inr h2
    · exact absurd rfl (h x.toInt (by omega) (by omega))
/-- the length of a String constant, and a sign of it -/
def slen (j : Nat) : Int32 := Int32.ofNat (sby j).length
def sch (j : Nat) (i : Int32) : Option Int32 := if i < 0 ∨ (sby j).length ≤ i.toNatClampNeg then none else some ((sby j).getD i.toNatClampNeg 0)
/-- how many loops are run at most -/
def NF : Nat := 5000
theorem iinc_k {n : Int} {v x : Int32} (h : Int32.ofInt n = v) : x + Int32.ofInt n = x + v := by rw [h]
theorem rmk_d {d n1 D : Nat} (h1 : d + 1 ≤ D) (h2 : n1.ble 12 = true) : rmk d n1 (rmD D 0 0) 0 0 = true := by
  have h3 := Nat.le_of_ble_eq_true h2
  simp only [rmk, rmD, Bool.and_eq_true, Nat.ble_eq]
  omega
theorem mk0 {wv : Wv} : (0, 0, 0) ∈ allR wv := al_cl (by decide +kernel)
theorem mk3 {wv : Wv} : (3, 0, 0) ∈ allR wv := al_cl (by decide +kernel)
theorem mk5 {wv : Wv} : (5, 0, 0) ∈ allR wv := al_cl (by decide +kernel)
theorem mk6 {wv : Wv} : (6, 0, 0) ∈ allR wv := al_cl (by decide +kernel)
theorem mk7 {wv : Wv} : (7, 0, 0) ∈ allR wv := al_cl (by decide +kernel)
theorem mk14 {wv : Wv} : (14, 0, 0) ∈ allR wv := al_cl (by decide +kernel)
theorem mk15 {wv : Wv} : (15, 0, 0) ∈ allR wv := al_cl (by decide +kernel)
theorem mk16 {wv : Wv} : (16, 0, 0) ∈ allR wv := al_cl (by decide +kernel)
theorem mk17 {wv : Wv} : (17, 0, 0) ∈ allR wv := al_cl (by decide +kernel)
theorem ac_ml : Cond.methodLink RX3 31 arraycopyName ∈ AL := al_mem 473 (by decide +kernel) (by decide +kernel)
theorem ac_nat : Cond.native arraycopyName ∈ AL := al_mem 475 (by decide +kernel) (by decide +kernel)
theorem ac_sta : Cond.static arraycopyName ∈ AL := al_mem 474 (by decide +kernel) (by decide +kernel)
theorem ac_ini : Cond.initialized "java/lang/System" ∈ AL := al_mem 20 (by decide +kernel) (by decide +kernel)
def bl (i : Nat) : Nat := if i = 0 then 800 else 64

section ZF
variable {own : String} {cc : ByteArray} {nL : Nat} {rt : Option FieldType} {xt : List ExceptionTableEntry} {nme : String} {R : Room} {Q : QF} {cells slots pc : Nat} {ls : List (Option MV)} {st stk : List MV} {M M2 : Mm}
theorem z_fVi {wv : Wv} {x : Int32} {idx n1 d n : Nat} {y : MethodName} {c1 : ByteArray} {rt1 : Option FieldType} {av : List MV} {r : Rf} (hT : TF wv y c1 n1 rt1 d (.inr r :: av) M (some (.int x)) M2) (hd : decode cc pc = .ok (.invokevirtual idx, 3)) (hw : lkV own idx y) (hcd : Cond.code y c1 n1 rt1 ∈ AL) (hr : r ∈ (allR wv)) (hk : okO r y = true) (hn : av.length = n) (hy : mhOk y n = true) (hrm : rmk d n1 R cells slots = true) (hst : (mcs st).ble 8 = true) (hstk : stk = av.reverse ++ .inr r :: st)
    (kk : Z own cc nL rt xt nme R Q (allR wv) SH cells slots (pc + 3) ls (.inl (.int x) :: st) M2) : Z own cc nL rt xt nme R Q (allR wv) SH cells slots pc ls stk M := by
  obtain ⟨ci, ks, h1, h2⟩ := okO_spec hk
  subst hn
  refine z_callV hT hd hw hcd hr h1 h2 hy (rmk_spec hrm) (Nat.le_of_ble_eq_true hst) hstk (fun v M1 h => ?_) (fun E M1 h => h.elim)
  obtain ⟨rfl, rfl⟩ := h
  exact kk
theorem z_fSi {wv : Wv} {x : Int32} {idx n1 d n : Nat} {y : MethodName} {c1 : ByteArray} {rt1 : Option FieldType} {av : List MV} (hT : TF wv y c1 n1 rt1 d av M (some (.int x)) M2) (hd : decode cc pc = .ok (.invokestatic idx, 3)) (hw : lkS own idx y) (hcd : Cond.code y c1 n1 rt1 ∈ AL) (hn : av.length = n) (hy : mhOk y n = true) (hrm : rmk d n1 R cells slots = true) (hst : (mcs st).ble 8 = true) (hstk : stk = av.reverse ++ st)
    (kk : Z own cc nL rt xt nme R Q (allR wv) SH cells slots (pc + 3) ls (.inl (.int x) :: st) M2) : Z own cc nL rt xt nme R Q (allR wv) SH cells slots pc ls stk M := by
  subst hn
  refine z_callS hT hd hw hcd hy (rmk_spec hrm) (Nat.le_of_ble_eq_true hst) hstk (fun v M1 h => ?_) (fun E M1 h => h.elim)
  obtain ⟨rfl, rfl⟩ := h
  exact kk
theorem z_fVNi {wv : Wv} {x : Int32} {idx n1 d n : Nat} {y : MethodName} {host : String} {c1 : ByteArray} {rt1 : Option FieldType} {av : List MV} {r : Rf} (hT : TF wv y c1 n1 rt1 d (.inr r :: av) M (some (.int x)) M2) (hd : decode cc pc = .ok (.invokevirtual idx, 3)) (hw : lkN own idx y host) (hsl : Cond.selects y.cls y y ∈ AL) (hcd : Cond.code y c1 n1 rt1 ∈ AL) (hr : r ∈ (allR wv)) (hk : okO r y = true) (hn : av.length = n) (hy : mhOk y n = true) (hrm : rmk d n1 R cells slots = true) (hst : (mcs st).ble 8 = true) (hstk : stk = av.reverse ++ .inr r :: st)
    (kk : Z own cc nL rt xt nme R Q (allR wv) SH cells slots (pc + 3) ls (.inl (.int x) :: st) M2) : Z own cc nL rt xt nme R Q (allR wv) SH cells slots pc ls stk M := by
  obtain ⟨ci, ks, h1, h2⟩ := okO_spec hk
  subst hn
  refine z_callVN hT hd hw hsl hcd hr h1 h2 hy (rmk_spec hrm) (Nat.le_of_ble_eq_true hst) hstk (fun v M1 h => ?_)
  obtain ⟨rfl, rfl⟩ := h
  exact kk
theorem z_fSNi {wv : Wv} {x : Int32} {idx n1 d n : Nat} {y : MethodName} {host : String} {c1 : ByteArray} {rt1 : Option FieldType} {av : List MV} (hT : TF wv y c1 n1 rt1 d av M (some (.int x)) M2) (hd : decode cc pc = .ok (.invokestatic idx, 3)) (hw : lkM own idx y host) (hcd : Cond.code y c1 n1 rt1 ∈ AL) (hn : av.length = n) (hy : mhOk y n = true) (hrm : rmk d n1 R cells slots = true) (hst : (mcs st).ble 8 = true) (hstk : stk = av.reverse ++ st)
    (kk : Z own cc nL rt xt nme R Q (allR wv) SH cells slots (pc + 3) ls (.inl (.int x) :: st) M2) : Z own cc nL rt xt nme R Q (allR wv) SH cells slots pc ls stk M := by
  subst hn
  refine z_callSN hT hd hw hcd hy (rmk_spec hrm) (Nat.le_of_ble_eq_true hst) hstk (fun v M1 h => ?_)
  obtain ⟨rfl, rfl⟩ := h
  exact kk
theorem z_fVl {wv : Wv} {x : Int64} {idx n1 d n : Nat} {y : MethodName} {c1 : ByteArray} {rt1 : Option FieldType} {av : List MV} {r : Rf} (hT : TF wv y c1 n1 rt1 d (.inr r :: av) M (some (.long x)) M2) (hd : decode cc pc = .ok (.invokevirtual idx, 3)) (hw : lkV own idx y) (hcd : Cond.code y c1 n1 rt1 ∈ AL) (hr : r ∈ (allR wv)) (hk : okO r y = true) (hn : av.length = n) (hy : mhOk y n = true) (hrm : rmk d n1 R cells slots = true) (hst : (mcs st).ble 8 = true) (hstk : stk = av.reverse ++ .inr r :: st)
    (kk : Z own cc nL rt xt nme R Q (allR wv) SH cells slots (pc + 3) ls (.inl (.long x) :: st) M2) : Z own cc nL rt xt nme R Q (allR wv) SH cells slots pc ls stk M := by
  obtain ⟨ci, ks, h1, h2⟩ := okO_spec hk
  subst hn
  refine z_callV hT hd hw hcd hr h1 h2 hy (rmk_spec hrm) (Nat.le_of_ble_eq_true hst) hstk (fun v M1 h => ?_) (fun E M1 h => h.elim)
  obtain ⟨rfl, rfl⟩ := h
  exact kk
theorem z_fSl {wv : Wv} {x : Int64} {idx n1 d n : Nat} {y : MethodName} {c1 : ByteArray} {rt1 : Option FieldType} {av : List MV} (hT : TF wv y c1 n1 rt1 d av M (some (.long x)) M2) (hd : decode cc pc = .ok (.invokestatic idx, 3)) (hw : lkS own idx y) (hcd : Cond.code y c1 n1 rt1 ∈ AL) (hn : av.length = n) (hy : mhOk y n = true) (hrm : rmk d n1 R cells slots = true) (hst : (mcs st).ble 8 = true) (hstk : stk = av.reverse ++ st)
    (kk : Z own cc nL rt xt nme R Q (allR wv) SH cells slots (pc + 3) ls (.inl (.long x) :: st) M2) : Z own cc nL rt xt nme R Q (allR wv) SH cells slots pc ls stk M := by
  subst hn
  refine z_callS hT hd hw hcd hy (rmk_spec hrm) (Nat.le_of_ble_eq_true hst) hstk (fun v M1 h => ?_) (fun E M1 h => h.elim)
  obtain ⟨rfl, rfl⟩ := h
  exact kk
theorem z_fVNl {wv : Wv} {x : Int64} {idx n1 d n : Nat} {y : MethodName} {host : String} {c1 : ByteArray} {rt1 : Option FieldType} {av : List MV} {r : Rf} (hT : TF wv y c1 n1 rt1 d (.inr r :: av) M (some (.long x)) M2) (hd : decode cc pc = .ok (.invokevirtual idx, 3)) (hw : lkN own idx y host) (hsl : Cond.selects y.cls y y ∈ AL) (hcd : Cond.code y c1 n1 rt1 ∈ AL) (hr : r ∈ (allR wv)) (hk : okO r y = true) (hn : av.length = n) (hy : mhOk y n = true) (hrm : rmk d n1 R cells slots = true) (hst : (mcs st).ble 8 = true) (hstk : stk = av.reverse ++ .inr r :: st)
    (kk : Z own cc nL rt xt nme R Q (allR wv) SH cells slots (pc + 3) ls (.inl (.long x) :: st) M2) : Z own cc nL rt xt nme R Q (allR wv) SH cells slots pc ls stk M := by
  obtain ⟨ci, ks, h1, h2⟩ := okO_spec hk
  subst hn
  refine z_callVN hT hd hw hsl hcd hr h1 h2 hy (rmk_spec hrm) (Nat.le_of_ble_eq_true hst) hstk (fun v M1 h => ?_)
  obtain ⟨rfl, rfl⟩ := h
  exact kk
theorem z_fSNl {wv : Wv} {x : Int64} {idx n1 d n : Nat} {y : MethodName} {host : String} {c1 : ByteArray} {rt1 : Option FieldType} {av : List MV} (hT : TF wv y c1 n1 rt1 d av M (some (.long x)) M2) (hd : decode cc pc = .ok (.invokestatic idx, 3)) (hw : lkM own idx y host) (hcd : Cond.code y c1 n1 rt1 ∈ AL) (hn : av.length = n) (hy : mhOk y n = true) (hrm : rmk d n1 R cells slots = true) (hst : (mcs st).ble 8 = true) (hstk : stk = av.reverse ++ st)
    (kk : Z own cc nL rt xt nme R Q (allR wv) SH cells slots (pc + 3) ls (.inl (.long x) :: st) M2) : Z own cc nL rt xt nme R Q (allR wv) SH cells slots pc ls stk M := by
  subst hn
  refine z_callSN hT hd hw hcd hy (rmk_spec hrm) (Nat.le_of_ble_eq_true hst) hstk (fun v M1 h => ?_)
  obtain ⟨rfl, rfl⟩ := h
  exact kk
theorem z_fVd {wv : Wv} {x : UInt64} {idx n1 d n : Nat} {y : MethodName} {c1 : ByteArray} {rt1 : Option FieldType} {av : List MV} {r : Rf} (hT : TF wv y c1 n1 rt1 d (.inr r :: av) M (some (.double x)) M2) (hd : decode cc pc = .ok (.invokevirtual idx, 3)) (hw : lkV own idx y) (hcd : Cond.code y c1 n1 rt1 ∈ AL) (hr : r ∈ (allR wv)) (hk : okO r y = true) (hn : av.length = n) (hy : mhOk y n = true) (hrm : rmk d n1 R cells slots = true) (hst : (mcs st).ble 8 = true) (hstk : stk = av.reverse ++ .inr r :: st)
    (kk : Z own cc nL rt xt nme R Q (allR wv) SH cells slots (pc + 3) ls (.inl (.double x) :: st) M2) : Z own cc nL rt xt nme R Q (allR wv) SH cells slots pc ls stk M := by
  obtain ⟨ci, ks, h1, h2⟩ := okO_spec hk
  subst hn
  refine z_callV hT hd hw hcd hr h1 h2 hy (rmk_spec hrm) (Nat.le_of_ble_eq_true hst) hstk (fun v M1 h => ?_) (fun E M1 h => h.elim)
  obtain ⟨rfl, rfl⟩ := h
  exact kk
theorem z_fSd {wv : Wv} {x : UInt64} {idx n1 d n : Nat} {y : MethodName} {c1 : ByteArray} {rt1 : Option FieldType} {av : List MV} (hT : TF wv y c1 n1 rt1 d av M (some (.double x)) M2) (hd : decode cc pc = .ok (.invokestatic idx, 3)) (hw : lkS own idx y) (hcd : Cond.code y c1 n1 rt1 ∈ AL) (hn : av.length = n) (hy : mhOk y n = true) (hrm : rmk d n1 R cells slots = true) (hst : (mcs st).ble 8 = true) (hstk : stk = av.reverse ++ st)
    (kk : Z own cc nL rt xt nme R Q (allR wv) SH cells slots (pc + 3) ls (.inl (.double x) :: st) M2) : Z own cc nL rt xt nme R Q (allR wv) SH cells slots pc ls stk M := by
  subst hn
  refine z_callS hT hd hw hcd hy (rmk_spec hrm) (Nat.le_of_ble_eq_true hst) hstk (fun v M1 h => ?_) (fun E M1 h => h.elim)
  obtain ⟨rfl, rfl⟩ := h
  exact kk
theorem z_fVNd {wv : Wv} {x : UInt64} {idx n1 d n : Nat} {y : MethodName} {host : String} {c1 : ByteArray} {rt1 : Option FieldType} {av : List MV} {r : Rf} (hT : TF wv y c1 n1 rt1 d (.inr r :: av) M (some (.double x)) M2) (hd : decode cc pc = .ok (.invokevirtual idx, 3)) (hw : lkN own idx y host) (hsl : Cond.selects y.cls y y ∈ AL) (hcd : Cond.code y c1 n1 rt1 ∈ AL) (hr : r ∈ (allR wv)) (hk : okO r y = true) (hn : av.length = n) (hy : mhOk y n = true) (hrm : rmk d n1 R cells slots = true) (hst : (mcs st).ble 8 = true) (hstk : stk = av.reverse ++ .inr r :: st)
    (kk : Z own cc nL rt xt nme R Q (allR wv) SH cells slots (pc + 3) ls (.inl (.double x) :: st) M2) : Z own cc nL rt xt nme R Q (allR wv) SH cells slots pc ls stk M := by
  obtain ⟨ci, ks, h1, h2⟩ := okO_spec hk
  subst hn
  refine z_callVN hT hd hw hsl hcd hr h1 h2 hy (rmk_spec hrm) (Nat.le_of_ble_eq_true hst) hstk (fun v M1 h => ?_)
  obtain ⟨rfl, rfl⟩ := h
  exact kk
theorem z_fSNd {wv : Wv} {x : UInt64} {idx n1 d n : Nat} {y : MethodName} {host : String} {c1 : ByteArray} {rt1 : Option FieldType} {av : List MV} (hT : TF wv y c1 n1 rt1 d av M (some (.double x)) M2) (hd : decode cc pc = .ok (.invokestatic idx, 3)) (hw : lkM own idx y host) (hcd : Cond.code y c1 n1 rt1 ∈ AL) (hn : av.length = n) (hy : mhOk y n = true) (hrm : rmk d n1 R cells slots = true) (hst : (mcs st).ble 8 = true) (hstk : stk = av.reverse ++ st)
    (kk : Z own cc nL rt xt nme R Q (allR wv) SH cells slots (pc + 3) ls (.inl (.double x) :: st) M2) : Z own cc nL rt xt nme R Q (allR wv) SH cells slots pc ls stk M := by
  subst hn
  refine z_callSN hT hd hw hcd hy (rmk_spec hrm) (Nat.le_of_ble_eq_true hst) hstk (fun v M1 h => ?_)
  obtain ⟨rfl, rfl⟩ := h
  exact kk
theorem z_fVf {wv : Wv} {x : UInt32} {idx n1 d n : Nat} {y : MethodName} {c1 : ByteArray} {rt1 : Option FieldType} {av : List MV} {r : Rf} (hT : TF wv y c1 n1 rt1 d (.inr r :: av) M (some (.float x)) M2) (hd : decode cc pc = .ok (.invokevirtual idx, 3)) (hw : lkV own idx y) (hcd : Cond.code y c1 n1 rt1 ∈ AL) (hr : r ∈ (allR wv)) (hk : okO r y = true) (hn : av.length = n) (hy : mhOk y n = true) (hrm : rmk d n1 R cells slots = true) (hst : (mcs st).ble 8 = true) (hstk : stk = av.reverse ++ .inr r :: st)
    (kk : Z own cc nL rt xt nme R Q (allR wv) SH cells slots (pc + 3) ls (.inl (.float x) :: st) M2) : Z own cc nL rt xt nme R Q (allR wv) SH cells slots pc ls stk M := by
  obtain ⟨ci, ks, h1, h2⟩ := okO_spec hk
  subst hn
  refine z_callV hT hd hw hcd hr h1 h2 hy (rmk_spec hrm) (Nat.le_of_ble_eq_true hst) hstk (fun v M1 h => ?_) (fun E M1 h => h.elim)
  obtain ⟨rfl, rfl⟩ := h
  exact kk
theorem z_fSf {wv : Wv} {x : UInt32} {idx n1 d n : Nat} {y : MethodName} {c1 : ByteArray} {rt1 : Option FieldType} {av : List MV} (hT : TF wv y c1 n1 rt1 d av M (some (.float x)) M2) (hd : decode cc pc = .ok (.invokestatic idx, 3)) (hw : lkS own idx y) (hcd : Cond.code y c1 n1 rt1 ∈ AL) (hn : av.length = n) (hy : mhOk y n = true) (hrm : rmk d n1 R cells slots = true) (hst : (mcs st).ble 8 = true) (hstk : stk = av.reverse ++ st)
    (kk : Z own cc nL rt xt nme R Q (allR wv) SH cells slots (pc + 3) ls (.inl (.float x) :: st) M2) : Z own cc nL rt xt nme R Q (allR wv) SH cells slots pc ls stk M := by
  subst hn
  refine z_callS hT hd hw hcd hy (rmk_spec hrm) (Nat.le_of_ble_eq_true hst) hstk (fun v M1 h => ?_) (fun E M1 h => h.elim)
  obtain ⟨rfl, rfl⟩ := h
  exact kk
theorem z_fVNf {wv : Wv} {x : UInt32} {idx n1 d n : Nat} {y : MethodName} {host : String} {c1 : ByteArray} {rt1 : Option FieldType} {av : List MV} {r : Rf} (hT : TF wv y c1 n1 rt1 d (.inr r :: av) M (some (.float x)) M2) (hd : decode cc pc = .ok (.invokevirtual idx, 3)) (hw : lkN own idx y host) (hsl : Cond.selects y.cls y y ∈ AL) (hcd : Cond.code y c1 n1 rt1 ∈ AL) (hr : r ∈ (allR wv)) (hk : okO r y = true) (hn : av.length = n) (hy : mhOk y n = true) (hrm : rmk d n1 R cells slots = true) (hst : (mcs st).ble 8 = true) (hstk : stk = av.reverse ++ .inr r :: st)
    (kk : Z own cc nL rt xt nme R Q (allR wv) SH cells slots (pc + 3) ls (.inl (.float x) :: st) M2) : Z own cc nL rt xt nme R Q (allR wv) SH cells slots pc ls stk M := by
  obtain ⟨ci, ks, h1, h2⟩ := okO_spec hk
  subst hn
  refine z_callVN hT hd hw hsl hcd hr h1 h2 hy (rmk_spec hrm) (Nat.le_of_ble_eq_true hst) hstk (fun v M1 h => ?_)
  obtain ⟨rfl, rfl⟩ := h
  exact kk
theorem z_fSNf {wv : Wv} {x : UInt32} {idx n1 d n : Nat} {y : MethodName} {host : String} {c1 : ByteArray} {rt1 : Option FieldType} {av : List MV} (hT : TF wv y c1 n1 rt1 d av M (some (.float x)) M2) (hd : decode cc pc = .ok (.invokestatic idx, 3)) (hw : lkM own idx y host) (hcd : Cond.code y c1 n1 rt1 ∈ AL) (hn : av.length = n) (hy : mhOk y n = true) (hrm : rmk d n1 R cells slots = true) (hst : (mcs st).ble 8 = true) (hstk : stk = av.reverse ++ st)
    (kk : Z own cc nL rt xt nme R Q (allR wv) SH cells slots (pc + 3) ls (.inl (.float x) :: st) M2) : Z own cc nL rt xt nme R Q (allR wv) SH cells slots pc ls stk M := by
  subst hn
  refine z_callSN hT hd hw hcd hy (rmk_spec hrm) (Nat.le_of_ble_eq_true hst) hstk (fun v M1 h => ?_)
  obtain ⟨rfl, rfl⟩ := h
  exact kk
theorem z_fVv {wv : Wv}  {idx n1 d n : Nat} {y : MethodName} {c1 : ByteArray} {rt1 : Option FieldType} {av : List MV} {r : Rf} (hT : TF wv y c1 n1 rt1 d (.inr r :: av) M (none) M2) (hd : decode cc pc = .ok (.invokevirtual idx, 3)) (hw : lkV own idx y) (hcd : Cond.code y c1 n1 rt1 ∈ AL) (hr : r ∈ (allR wv)) (hk : okO r y = true) (hn : av.length = n) (hy : mhOk y n = true) (hrm : rmk d n1 R cells slots = true) (hst : (mcs st).ble 8 = true) (hstk : stk = av.reverse ++ .inr r :: st)
    (kk : Z own cc nL rt xt nme R Q (allR wv) SH cells slots (pc + 3) ls (st) M2) : Z own cc nL rt xt nme R Q (allR wv) SH cells slots pc ls stk M := by
  obtain ⟨ci, ks, h1, h2⟩ := okO_spec hk
  subst hn
  refine z_callV hT hd hw hcd hr h1 h2 hy (rmk_spec hrm) (Nat.le_of_ble_eq_true hst) hstk (fun v M1 h => ?_) (fun E M1 h => h.elim)
  obtain ⟨rfl, rfl⟩ := h
  exact kk
theorem z_fSv {wv : Wv}  {idx n1 d n : Nat} {y : MethodName} {c1 : ByteArray} {rt1 : Option FieldType} {av : List MV} (hT : TF wv y c1 n1 rt1 d av M (none) M2) (hd : decode cc pc = .ok (.invokestatic idx, 3)) (hw : lkS own idx y) (hcd : Cond.code y c1 n1 rt1 ∈ AL) (hn : av.length = n) (hy : mhOk y n = true) (hrm : rmk d n1 R cells slots = true) (hst : (mcs st).ble 8 = true) (hstk : stk = av.reverse ++ st)
    (kk : Z own cc nL rt xt nme R Q (allR wv) SH cells slots (pc + 3) ls (st) M2) : Z own cc nL rt xt nme R Q (allR wv) SH cells slots pc ls stk M := by
  subst hn
  refine z_callS hT hd hw hcd hy (rmk_spec hrm) (Nat.le_of_ble_eq_true hst) hstk (fun v M1 h => ?_) (fun E M1 h => h.elim)
  obtain ⟨rfl, rfl⟩ := h
  exact kk
theorem z_fVNv {wv : Wv}  {idx n1 d n : Nat} {y : MethodName} {host : String} {c1 : ByteArray} {rt1 : Option FieldType} {av : List MV} {r : Rf} (hT : TF wv y c1 n1 rt1 d (.inr r :: av) M (none) M2) (hd : decode cc pc = .ok (.invokevirtual idx, 3)) (hw : lkN own idx y host) (hsl : Cond.selects y.cls y y ∈ AL) (hcd : Cond.code y c1 n1 rt1 ∈ AL) (hr : r ∈ (allR wv)) (hk : okO r y = true) (hn : av.length = n) (hy : mhOk y n = true) (hrm : rmk d n1 R cells slots = true) (hst : (mcs st).ble 8 = true) (hstk : stk = av.reverse ++ .inr r :: st)
    (kk : Z own cc nL rt xt nme R Q (allR wv) SH cells slots (pc + 3) ls (st) M2) : Z own cc nL rt xt nme R Q (allR wv) SH cells slots pc ls stk M := by
  obtain ⟨ci, ks, h1, h2⟩ := okO_spec hk
  subst hn
  refine z_callVN hT hd hw hsl hcd hr h1 h2 hy (rmk_spec hrm) (Nat.le_of_ble_eq_true hst) hstk (fun v M1 h => ?_)
  obtain ⟨rfl, rfl⟩ := h
  exact kk
theorem z_fSNv {wv : Wv}  {idx n1 d n : Nat} {y : MethodName} {host : String} {c1 : ByteArray} {rt1 : Option FieldType} {av : List MV} (hT : TF wv y c1 n1 rt1 d av M (none) M2) (hd : decode cc pc = .ok (.invokestatic idx, 3)) (hw : lkM own idx y host) (hcd : Cond.code y c1 n1 rt1 ∈ AL) (hn : av.length = n) (hy : mhOk y n = true) (hrm : rmk d n1 R cells slots = true) (hst : (mcs st).ble 8 = true) (hstk : stk = av.reverse ++ st)
    (kk : Z own cc nL rt xt nme R Q (allR wv) SH cells slots (pc + 3) ls (st) M2) : Z own cc nL rt xt nme R Q (allR wv) SH cells slots pc ls stk M := by
  subst hn
  refine z_callSN hT hd hw hcd hy (rmk_spec hrm) (Nat.le_of_ble_eq_true hst) hstk (fun v M1 h => ?_)
  obtain ⟨rfl, rfl⟩ := h
  exact kk
theorem z_acopyl {wv : Wv} {idx : Nat} {r1 r2 : Rf} {n1 n2 : Nat} {sp dp n : Int32} (hd : decode cc pc = .ok (.invokestatic idx, 3)) (hml : Cond.methodLink own idx arraycopyName ∈ AL) (hnat : Cond.native arraycopyName ∈ AL) (hsta : Cond.static arraycopyName ∈ AL) (hini : Cond.initialized "java/lang/System" ∈ AL)
    (hr1 : r1 ∈ (allR wv)) (hr2 : r2 ∈ (allR wv)) (hk1 : kd r1 = .inr (2, n1)) (hk2 : kd r2 = .inr (2, n2)) (h1 : ¬ sp < 0) (h2 : ¬ dp < 0) (h3 : ¬ n < 0) (h4 : sp.toNatClampNeg + n.toNatClampNeg ≤ n1) (h5 : dp.toNatClampNeg + n.toNatClampNeg ≤ n2)
    (hR : 1 ≤ R.frames ∧ mcs st + (nativeFrameWords "java/lang/System" "arraycopy" 5 + 11) ≤ R.locals)
    (kk : Z own cc nL rt xt nme R Q (allR wv) SH cells slots (pc + 3) ls st (M.1, fun r j => if r = r2 then va_cpy (M.2 r1) (M.2 r2) sp.toNatClampNeg dp.toNatClampNeg n.toNatClampNeg j else M.2 r j)) : Z own cc nL rt xt nme R Q (allR wv) SH cells slots pc ls (.inl (.int n) :: .inl (.int dp) :: .inr r2 :: .inl (.int sp) :: .inr r1 :: st) M := by
  intro p l e s m args below meth c D tc ad A H locs lsA C hP hS hl
  obtain ⟨q1, -, hq1⟩ := wl_at (tc := tc) (ad := ad) (sh := SH) (M := M) hr1
  obtain ⟨q2, hq0, hq2⟩ := wl_at (tc := tc) (ad := ad) (sh := SH) (M := M) hr2
  have he1 : ∀ M : Mm, ent tc ad SH M r1 = .inl (tc 2, n1, .inr (.inl (M.2 r1))) := fun M => by unfold ent; rw [hk1]
  have he2 : ∀ M : Mm, ent tc ad SH M r2 = .inl (tc 2, n2, .inr (.inl (M.2 r2))) := fun M => by unfold ent; rw [hk2]
  rw [he1] at hq1
  rw [he2] at hq2
  have hts := C.2.2.2.2.1
  refine va_copyl C.1 C.2.1 (C.2.2.1.trans hl.1.symm) C.2.2.2.1 (hts _ hml) (hts _ hnat) (hts _ hsta) (hts _ hini) C.2.2.2.2.2.2.2.2.2.1 hP (Wd.D allR_nd C SH M) hS q1 q2 2 2 hq1 hq2 rfl rfl rfl h1 h2 h3 h4 h5 (fun i _ => rfl) hR.1 (by rw [mcs_map]; exact hR.2) hd (fun H1 locs1 hP1 _ hS1 => ?_)
  rw [wl_set (M := M) (M' := (M.1, fun r j => if r = r2 then va_cpy (M.2 r1) (M.2 r2) sp.toNatClampNeg dp.toNatClampNeg n.toNatClampNeg j else M.2 r j)) allR_nd hq0 (by rw [he2]; simp) (fun r' h => ent_other rfl (by funext j; simp [h]))] at hP1
  exact kk p l e s m args below meth c D tc ad A H1 locs1 lsA C hP1 hS1 hl
theorem z_fgt {i : Nat} {rs : List Rf} {sh : Sh} (k : Z own cc nL rt xt nme R Q rs sh cells slots pc (ls.set i none) st M) : Z own cc nL rt xt nme R Q rs sh cells slots pc ls st M := by
  intro p l e s m args below meth c D tc ad A H locs lsA C hP hS hl
  refine k p l e s m args below meth c D tc ad A H locs lsA C hP hS ⟨hl.1, hl.2.1, fun j v hj => hl.2.2 j v ?_⟩
  rw [List.getElem?_set] at hj
  split at hj
  · split at hj <;> cases hj
  · exact hj
/-- a method of String, of a constant -/
theorem z_callT {wv : Wv} {idx n1 d j : Nat} {y : MethodName} {c1 : ByteArray} {rt1 : Option FieldType} {av : List MV} {v0 : Option Value} (hT : TF wv y c1 n1 rt1 d (.inr (30, j, 0) :: av) M v0 M2) (hd : decode cc pc = .ok (.invokevirtual idx, 3)) (hw : lkV own idx y) (hcd : Cond.code y c1 n1 rt1 ∈ AL) (hj : j < 15) (hyc : y.cls = "java/lang/String") (hy : mhOk y av.length = true)
    (hrm : rmk d n1 R cells slots = true) (hst : (mcs st).ble 8 = true) (hstk : stk = av.reverse ++ .inr (30, j, 0) :: st)
    (kk : Z own cc nL rt xt nme R Q (allR wv) SH cells slots (pc + 3) ls (v0.toList.map Sum.inl ++ st) M2) : Z own cc nL rt xt nme R Q (allR wv) SH cells slots pc ls stk M := by
  intro p l e s m args below meth c D tc ad A H locs lsA C hP hS hl
  have hts := C.2.2.2.2.1
  have hroom := rmk_spec hrm
  obtain ⟨y1, y2, y3⟩ := mhOk_spec hy
  obtain ⟨cell, g1, g2, g3, -⟩ := ((C.2.2.2.2.2.2.2.2.2.2.2.1.1 j hj).1).kept hS.2.1
  rw [← hyc] at g3
  refine z_run (st := st) C hS hl (PR1 := fun v M9 => v = v0 ∧ M9 = M2) (PX1 := fun _ _ => False) (a := (Value.ref (ad (30, j, 0)) :: av.map (rv ad)).toArray) (vx_runV (Ts := AL) (As := av.map (rv ad)) (b := ad (30, j, 0)) ⟨C.1, C.2.1, C.2.2.1, C.2.2.2.1, hts⟩ (hT l D tc ad H.size)
    ⟨callB_of (n := av.length) hts (al_code hcd) rfl rfl rfl (hts _ hw.2.2.2) (hts _ hw.1) ⟨y1, y2, y3⟩ ⟨hroom.1, hroom.2.1⟩, hts _ hw.2.1, hts _ hw.2.2.1⟩
    ⟨Ps.blind, ⟨cell, g1, g2, g3⟩, C.pre hP hS _⟩ rfl (by rw [List.length_map]) hl.1 ?_ ?_ hd ⟨hroom.2.2.1, hroom.2.2.2⟩) (fun v M1 h => by obtain ⟨rfl, rfl⟩ := h; exact kk) (fun _ _ h => h.elim)
  · rw [hstk, List.map_append, List.map_reverse]; rfl
  · have h9 := mcs_map (ad := ad) st
    exact lv_room (by rw [h9]; exact Nat.le_of_ble_eq_true hst)
theorem z_fTi {wv : Wv} {x : Int32} {idx n1 d j n : Nat} {y : MethodName} {c1 : ByteArray} {rt1 : Option FieldType} {av : List MV} (hT : TF wv y c1 n1 rt1 d (.inr (30, j, 0) :: av) M (some (.int x)) M2) (hd : decode cc pc = .ok (.invokevirtual idx, 3)) (hw : lkV own idx y) (hcd : Cond.code y c1 n1 rt1 ∈ AL) (hj : j < 15) (hn : av.length = n) (hy : (mhOk y n && (y.cls == "java/lang/String")) = true)
    (hrm : rmk d n1 R cells slots = true) (hst : (mcs st).ble 8 = true) (hstk : stk = av.reverse ++ .inr (30, j, 0) :: st)
    (kk : Z own cc nL rt xt nme R Q (allR wv) SH cells slots (pc + 3) ls (.inl (.int x) :: st) M2) : Z own cc nL rt xt nme R Q (allR wv) SH cells slots pc ls stk M := by
  subst hn
  simp only [Bool.and_eq_true, beq_iff_eq] at hy
  exact z_callT hT hd hw hcd hj hy.2 hy.1 hrm hst hstk kk
def dbits (x : UInt64) : Int64 := if Op.cmpValue (FP.dcmp x x) .l = 0 then x.toInt64 else 9221120237041090560

end ZF
