/-! rows of the JDK's texts -/
theorem qi_nil {Q : QF} : QI [] Q := fun below args s D tc ad ad' A t h hq => by
  have e : ad' = ad := funext fun r => h r List.not_mem_nil
  rw [e] at hq
  exact hq
theorem tg_of {wv : Wv} {y : MethodName} {c1 : ByteArray} {n1 d mc ms : Nat} {rt1 : Option FieldType} {av : List MV} {M M2 : Mm} {v0 : Option Value} (h : Tri y (.code y c1 n1 rt1) d mc ms SH (allR wv) av M (fun v M' => v = v0 ∧ M' = M2) (fun _ _ => False)) : TG y c1 n1 rt1 d mc ms [] (allR wv) SH av M (v0.map Sum.inl) (allR wv) SH M2 := by
  intro l D tc ad sz p e ha hc hk s m args below hf happ hP hK
  obtain ⟨n, o, h1, h2, h3, h4⟩ := h l D tc ad sz p e ha hc hk s m args below hf happ hP hK
  refine ⟨n, o, h1, h2, h3, ?_⟩
  obtain ⟨-, -, -, -, -, hinj⟩ := hP
  rcases h4 with ⟨⟨⟨v, M', e1, ⟨e2, e3⟩, e4⟩, e5⟩, e6⟩ | ⟨q, -, E, ce, L, ⟨⟨M1, h5, -⟩, -⟩, -⟩
  · subst e2
    subst e3
    exact Or.inl ⟨⟨⟨ad, fun _ _ => rfl, fun r hr => Or.inl ⟨r, hr, rfl⟩, hinj, by rw [e1]; cases v <;> rfl, e4⟩, e5⟩, e6⟩
  · exact h5.elim
section ZR4
variable {own : String} {cc : ByteArray} {nL : Nat} {rt : Option FieldType} {xt : List ExceptionTableEntry} {nme : String} {R : Room} {Q : QF} {rs : List Rf} {sh : Sh} {cells slots pc : Nat} {ls : List (Option MV)} {st : List MV} {M : Mm}
theorem z_ishl0 {x : Int32} (hd : decode cc pc = .ok (.ishl, 1)) (k : Z own cc nL rt xt nme R Q rs sh cells slots (pc + 1) ls (.inl (.int x) :: st) M) : Z own cc nL rt xt nme R Q rs sh cells slots pc ls (.inl (.int 0) :: .inl (.int x) :: st) M := by
  refine z_ishl hd ?_
  rw [show x <<< ((0 : Int32) &&& 31) = x from sb_shl0 x]
  exact k
theorem z_ishr0 {x : Int32} (hd : decode cc pc = .ok (.ishr, 1)) (k : Z own cc nL rt xt nme R Q rs sh cells slots (pc + 1) ls (.inl (.int x) :: st) M) : Z own cc nL rt xt nme R Q rs sh cells slots pc ls (.inl (.int 0) :: .inl (.int x) :: st) M := by
  refine z_ishr hd ?_
  rw [sh0]
  exact k
theorem z_i2b {x v : Int32} (hd : decode cc pc = .ok (.i2b, 1)) (hv : x.toInt8.toInt32 = v) (k : Z own cc nL rt xt nme R Q rs sh cells slots (pc + 1) ls (.inl (.int v) :: st) M) : Z own cc nL rt xt nme R Q rs sh cells slots pc ls (.inl (.int x) :: st) M := fun p l e s m args below meth c D tc ad A H locs lsA C hP hS hl => lv_i2b C.1 C.2.1 hd hv (k p l e s m args below meth c D tc ad A H locs lsA C hP hS hl)
theorem z_dup_x1 {v w : MV} (hd : decode cc pc = .ok (.dup_x1, 1)) (hc : (match v with | .inl x => x.category == 1 | .inr _ => true) = true) (hc2 : (match w with | .inl x => x.category == 1 | .inr _ => true) = true) (k : Z own cc nL rt xt nme R Q rs sh cells slots (pc + 1) ls (v :: w :: v :: st) M) : Z own cc nL rt xt nme R Q rs sh cells slots pc ls (v :: w :: st) M := fun p l e s m args below meth c D tc ad A H locs lsA C hP hS hl => lv_dup_x1 C.1 C.2.1 hd (rv_cat hc) (rv_cat hc2) (k p l e s m args below meth c D tc ad A H locs lsA C hP hS hl)
theorem z_ifnonnull {r : Rf} {off : Int} {tgt : Nat} (hd : decode cc pc = .ok (.ifnonnull off, 3)) (ht : (pc : Int) + off = (tgt : Int)) (k : Z own cc nL rt xt nme R Q rs sh cells slots tgt ls st M) : Z own cc nL rt xt nme R Q rs sh cells slots pc ls (.inr r :: st) M := fun p l e s m args below meth c D tc ad A H locs lsA C hP hS hl => lv_ifnonnull C.1 C.2.1 hd ht (k p l e s m args below meth c D tc ad A H locs lsA C hP hS hl)
theorem z_dig0 {idx : Nat} (hd : decode cc pc = .ok (.getstatic idx, 3)) (hw : Cond.fieldLink own idx "java/lang/Integer" "DigitOnes" "[B" ∈ AL)
    (k : Z own cc nL rt xt nme R Q rs sh cells slots (pc + 3) ls (.inr (31, 0, 0) :: st) M) : Z own cc nL rt xt nme R Q rs sh cells slots pc ls st M := by
  intro p l e s m args below meth c D tc ad A H locs lsA C hP hS hl
  have hF := C.2.2.2.2.2.2.2.2.2.2.2.1
  exact va_gets C.1 C.2.1 hF.2.2.2.1.1.1 hS C.2.2.2.1 (C.2.2.2.2.1 _ hw) (fun _ h => h) hd (k p l e s m args below meth c D tc ad A H locs lsA C hP hS hl)
theorem z_dig1 {idx : Nat} (hd : decode cc pc = .ok (.getstatic idx, 3)) (hw : Cond.fieldLink own idx "java/lang/Integer" "DigitTens" "[B" ∈ AL)
    (k : Z own cc nL rt xt nme R Q rs sh cells slots (pc + 3) ls (.inr (31, 1, 0) :: st) M) : Z own cc nL rt xt nme R Q rs sh cells slots pc ls st M := by
  intro p l e s m args below meth c D tc ad A H locs lsA C hP hS hl
  have hF := C.2.2.2.2.2.2.2.2.2.2.2.1
  exact va_gets C.1 C.2.1 hF.2.2.2.1.2.1 hS C.2.2.2.1 (C.2.2.2.2.1 _ hw) (fun _ h => h) hd (k p l e s m args below meth c D tc ad A H locs lsA C hP hS hl)
theorem z_digb {q : Nat} {i : Int32} (hd : decode cc pc = .ok (.baload, 1)) (hq : q < 2) (hi : ¬ (i < 0 ∨ 100 ≤ i.toNatClampNeg))
    (k : Z own cc nL rt xt nme R Q rs sh cells slots (pc + 1) ls (.inl (.int (dgt q i.toNatClampNeg)) :: st) M) : Z own cc nL rt xt nme R Q rs sh cells slots pc ls (.inl (.int i) :: .inr (31, q, 0) :: st) M := by
  intro p l e s m args below meth c D tc ad A H locs lsA C hP hS hl
  have hF := C.2.2.2.2.2.2.2.2.2.2.2.1
  match q, hq with
  | 0, _ => exact va_tb C.1 C.2.1 hF.2.2.2.1.1.2 hS hi rfl hd (k p l e s m args below meth c D tc ad A H locs lsA C hP hS hl)
  | 1, _ => exact va_tb C.1 C.2.1 hF.2.2.2.1.2.2 hS hi rfl hd (k p l e s m args below meth c D tc ad A H locs lsA C hP hS hl)
/-- a row of bytes copied into another, or a constant's -/
def cpB (M : Mm) (f : Nat → Int32) (r2 : Rf) (dp n : Nat) : Mm := (fun r j => if r = r2 ∧ j ≠ LG then va_cpy f (M.1 r2) 0 dp n j else M.1 r j, M.2)
def fitB (f : Nat → Int32) (n : Nat) : Bool := (List.range n).all fun i => fits .byte (.int (f i))
theorem fitB_s {f : Nat → Int32} {n : Nat} (h : fitB f n = true) : ∀ i, i < n → fits .byte (.int (f i)) = true := fun i hi => List.all_eq_true.mp h i (List.mem_range.mpr hi)
theorem sby_fit : ∀ j, j < 15 → fitB (fun i => (sby j).getD i 0) (sby j).length = true := by decide +kernel
theorem cpB_e {M : Mm} {tc : Nat → ClassId} {ad : Rf → Nat} {sh : Sh} {f : Nat → Int32} {r2 : Rf} {dp n : Nat} (hk : kd r2 = .inr (3, 0)) (h5 : dp + n ≤ (M.1 r2 LG).toNatClampNeg) (hL : (M.1 r2 LG).toNatClampNeg ≤ LG) : ent tc ad sh (cpB M f r2 dp n) r2 = .inl (tc 3, (M.1 r2 LG).toNatClampNeg, .inl (va_cpy f (M.1 r2) 0 dp n)) := by
  have e1 : (cpB M f r2 dp n).1 r2 = va_cpy f (M.1 r2) 0 dp n := by
    funext j
    by_cases hj : j = LG
    · subst hj
      show (if r2 = r2 ∧ LG ≠ LG then _ else M.1 r2 LG) = _
      rw [if_neg (fun c => c.2 rfl)]
      unfold va_cpy
      rw [if_neg (by omega)]
    · show (if r2 = r2 ∧ j ≠ LG then _ else _) = _
      rw [if_pos ⟨rfl, hj⟩]
  have e2 : va_cpy f (M.1 r2) 0 dp n LG = M.1 r2 LG := by
    unfold va_cpy
    rw [if_neg (by omega)]
  rw [ent_b hk, e1, e2]
theorem z_acopyB {idx : Nat} {r1 r2 : Rf} {dp n : Int32} (hn : rs.Nodup) (hd : decode cc pc = .ok (.invokestatic idx, 3)) (hml : Cond.methodLink own idx arraycopyName ∈ AL) (hr1 : r1 ∈ rs) (hr2 : r2 ∈ rs) (hk1 : kd r1 = .inr (3, 0)) (hk2 : kd r2 = .inr (3, 0))
    (h2 : ¬ dp < 0) (h3 : ¬ n < 0) (h4 : n.toNatClampNeg ≤ (M.1 r1 LG).toNatClampNeg) (h5 : dp.toNatClampNeg + n.toNatClampNeg ≤ (M.1 r2 LG).toNatClampNeg) (hL : (M.1 r2 LG).toNatClampNeg ≤ LG) (hfit : fitB (M.1 r1) n.toNatClampNeg = true) (hR : 1 ≤ R.frames ∧ mcs st + (nativeFrameWords "java/lang/System" "arraycopy" 5 + 11) ≤ R.locals)
    (kk : Z own cc nL rt xt nme R Q rs sh cells slots (pc + 3) ls st (cpB M (M.1 r1) r2 dp.toNatClampNeg n.toNatClampNeg)) : Z own cc nL rt xt nme R Q rs sh cells slots pc ls (.inl (.int n) :: .inl (.int dp) :: .inr r2 :: .inl (.int 0) :: .inr r1 :: st) M := by
  intro p l e s m args below meth c D tc ad A H locs lsA C hP hS hl
  obtain ⟨q1, -, hq1⟩ := wl_at (tc := tc) (ad := ad) (sh := sh) (M := M) hr1
  obtain ⟨q2, hq0, hq2⟩ := wl_at (tc := tc) (ad := ad) (sh := sh) (M := M) hr2
  rw [ent_b hk1] at hq1
  rw [ent_b hk2] at hq2
  have hts := C.2.2.2.2.1
  have hf := fitB_s hfit
  refine va_copyi C.1 C.2.1 (C.2.2.1.trans hl.1.symm) C.2.2.2.1 (hts _ hml) (hts _ ac_nat) (hts _ ac_sta) (hts _ ac_ini) C.2.2.2.2.2.2.2.2.2.1 hP (Wd.D hn C sh M) hS q1 q2 3 3 hq1 hq2 rfl rfl rfl (by decide) h2 h3 (by rw [show (0 : Int32).toNatClampNeg = 0 from rfl, Nat.zero_add]; exact h4) h5 (fun i hi => by rw [show (0 : Int32).toNatClampNeg = 0 from rfl, Nat.zero_add]; exact hf i hi) hR.1 (by rw [mcs_map]; exact hR.2) hd (fun H1 locs1 hP1 _ hS1 => ?_)
  rw [show (0 : Int32).toNatClampNeg = 0 from rfl, wl_set (M := M) (M' := cpB M (M.1 r1) r2 dp.toNatClampNeg n.toNatClampNeg) hn hq0 (cpB_e hk2 h5 hL) (fun r' h => ent_other (by funext j; exact if_neg (fun c => h c.1)) rfl)] at hP1
  exact kk p l e s m args below meth c D tc ad A H1 locs1 lsA C hP1 hS1 hl
theorem z_acopyK {idx j : Nat} {r2 : Rf} {dp : Int32} (hn : rs.Nodup) (hd : decode cc pc = .ok (.invokestatic idx, 3)) (hml : Cond.methodLink own idx arraycopyName ∈ AL) (hj : j < 15) (hr2 : r2 ∈ rs) (hk2 : kd r2 = .inr (3, 0))
    (h2 : ¬ dp < 0) (h5 : dp.toNatClampNeg + (sby j).length ≤ (M.1 r2 LG).toNatClampNeg) (hL : (M.1 r2 LG).toNatClampNeg ≤ LG) (hR : 1 ≤ R.frames ∧ mcs st + (nativeFrameWords "java/lang/System" "arraycopy" 5 + 11) ≤ R.locals)
    (kk : Z own cc nL rt xt nme R Q rs sh cells slots (pc + 3) ls st (cpB M (fun i => (sby j).getD i 0) r2 dp.toNatClampNeg (sby j).length)) : Z own cc nL rt xt nme R Q rs sh cells slots pc ls (.inl (.int (slen j)) :: .inl (.int dp) :: .inr r2 :: .inl (.int 0) :: .inr (33, j, 0) :: st) M := by
  intro p l e s m args below meth c D tc ad A H locs lsA C hP hS hl
  obtain ⟨q2, hq0, hq2⟩ := wl_at (tc := tc) (ad := ad) (sh := sh) (M := M) hr2
  rw [ent_b hk2] at hq2
  have hts := C.2.2.2.2.1
  have hF := C.2.2.2.2.2.2.2.2.2.2.2.1
  have hlen := (sb_ok j hj).1
  have e0 : (slen j).toNatClampNeg = (sby j).length := nI_clamp (by omega)
  have h3 : ¬ slen j < 0 := nI_pos (by omega)
  refine vk_copyt C.1 C.2.1 (C.2.2.1.trans hl.1.symm) C.2.2.2.1 (hts _ hml) (hts _ ac_nat) (hts _ ac_sta) (hts _ ac_ini) C.2.2.2.2.2.2.2.2.2.1 hP (Wd.D hn C sh M) hS (f := fun i => (sby j).getD i 0) (hF.1 j hj).2.2.2 q2 3 hq2 rfl (by decide) h2 h3 (by rw [show (0 : Int32).toNatClampNeg = 0 from rfl, e0]; omega) (by rw [e0]; exact h5) ?_ hR.1 (by rw [mcs_map]; exact hR.2) hd (fun H1 locs1 hP1 _ hS1 => ?_)
  · intro i hi
    rw [show (0 : Int32).toNatClampNeg = 0 from rfl, Nat.zero_add]
    rw [e0] at hi
    exact fitB_s (sby_fit j hj) i hi
  · rw [show (0 : Int32).toNatClampNeg = 0 from rfl, e0, wl_set (M := M) (M' := cpB M (fun i => (sby j).getD i 0) r2 dp.toNatClampNeg (sby j).length) hn hq0 (cpB_e hk2 h5 hL) (fun r' h => ent_other (by funext i; exact if_neg (fun c => h c.1)) rfl)] at hP1
    exact kk p l e s m args below meth c D tc ad A H1 locs1 lsA C hP1 hS1 hl
end ZR4
