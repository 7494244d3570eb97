/-! Bytes -/
theorem dX1_init_0 : decode cX1_init 0 = .ok (.aload_n 0, 1) := by decide +kernel
theorem dX1_init_1 : decode cX1_init 1 = .ok (.invokespecial 3, 3) := by decide +kernel
theorem dX1_init_4 : decode cX1_init 4 = .ok (.aload_n 0, 1) := by decide +kernel
theorem dX1_init_5 : decode cX1_init 5 = .ok (.iconst 0, 1) := by decide +kernel
theorem dX1_init_6 : decode cX1_init 6 = .ok (.iload_n 1, 1) := by decide +kernel
theorem dX1_init_7 : decode cX1_init 7 = .ok (.invokestatic 9, 3) := by decide +kernel
theorem dX1_init_10 : decode cX1_init 10 = .ok (.newarray .int, 2) := by decide +kernel
theorem dX1_init_12 : decode cX1_init 12 = .ok (.putfield 15, 3) := by decide +kernel
theorem dX1_init_15 : decode cX1_init 15 = .ok (.return_, 1) := by decide +kernel
theorem ow_1 : Cond.methodLink RX1 3 Lib.objectInit ∈ AL := al_mc al_c1 47 rfl (by decide +kernel)
theorem z_mmax {own : String} {cc : ByteArray} {nL : Nat} {rt : Option FieldType} {xt : List ExceptionTableEntry} {nme : String} {R : Room} {Q : QF} {rs : List Rf} {sh : Sh} {cells slots pc idx : Nat} {ls : List (Option MV)} {st : List MV} {M : Mm} {x y : Int32} (hd : decode cc pc = .ok (.invokestatic idx, 3)) (hw : Cond.methodLink own idx Lib.Math.max.name ∈ AL ∧ Cond.static Lib.Math.max.name ∈ AL ∧ Cond.initialized "java/lang/Math" ∈ AL) (hcd : Cond.code Lib.Math.max.name Lib.Math.max.code 2 (some .int) ∈ AL) (hf : 1 ≤ R.frames) (hlo : mcs st + 13 ≤ R.locals) (hc : cells ≤ R.cells) (hs : slots ≤ R.slots)
    (k : Z own cc nL rt xt nme R Q rs sh cells slots (pc + 3) ls (.inl (.int (if x < y then y else x)) :: st) M) : Z own cc nL rt xt nme R Q rs sh cells slots pc ls (.inl (.int y) :: .inl (.int x) :: st) M := by
  intro p l e s m args below meth c D tc ad A H locs lsA C hP hS hl
  have hts := C.2.2.2.2.1
  have h9 := mcs_map (ad := ad) st
  exact va_mmax C.1 C.2.1 (C.2.2.1.trans hl.1.symm) C.2.2.2.1 (hts _ hw.1) (hts _ hw.2.1) (hts _ hw.2.2) (hts _ hcd) hf (by rw [h9]; exact hlo) hc hs hd (k p l e s m args below meth c D tc ad A H locs lsA C hP hS hl)
theorem nY1_0 {rs : List Rf} {sh : Sh} {M : Mm} (hn : rs.Nodup) (hc : shC sh rs) (hr : (1, 0, 0) ∈ rs) (h0 : (2, 0, 0) ∉ rs) (hz : Zr M (1, 0, 0)) : TriN yX1_init cX1_init 2 2 1 800 rs sh [.inr (1, 0, 0), .inl (.int 800)] M (rs ++ [(2, 0, 0)]) (shG (fun x => x == (1, 0, 0) || x == (2, 0, 0)) sh) (mG (fun x => x == (1, 0, 0) || x == (2, 0, 0)) M) := by
  refine TriN.go (own := RX1) (nme := "<init>") (n := 0) (ls := [some (.inr (1, 0, 0)), some (.inl (.int 800))]) (by decide) rfl rfl rfl rfl ?_
  refine z_aload_n (i := 0) dX1_init_0 rfl rfl ?_
  refine z_objI dX1_init_1 ⟨ow_1, ow_i, ow_c⟩ (by decide) (Nat.le_of_ble_eq_true rfl) ?_
  refine z_aload_n (i := 0) dX1_init_4 rfl rfl ?_
  refine z_iconst (v := (0 : Int32)) dX1_init_5 (by decide) ?_
  refine z_iload_n (i := 1) (x := (800 : Int32)) dX1_init_6 rfl rfl ?_
  refine z_mmax dX1_init_7 ml_X1_9 cd_J9_max_7cf53 (by decide) (Nat.le_of_ble_eq_true rfl) (Nat.zero_le _) (Nat.zero_le _) ?_
  refine z_newa (atype := .int) (ty := .int) (t := 0) (N := 800) (a0 := (800, .inl fun _ => 0)) (r := (2, 0, 0)) hn h0 (by decide) dX1_init_10 ac_i rfl (fun _ => rfl) (fun _ => rfl) (fun tc ad => he_I rfl) (by decide) (by decide) (Nat.le_of_ble_eq_true rfl) hc (qmn_G fun x h => h) (fun i v hi => by
    match i, hi with
    | 0, hi => cases hi; exact inr_ne (by decide)
    | 1, hi => cases hi; exact inl_ne) (st_1 (P := fun v => v ≠ .inr (2, 0, 0)) (inr_ne (by decide))) (Nat.le_of_ble_eq_true rfl) (Nat.le_of_ble_eq_true rfl) ?_
  refine z_putR (ci := 1) (j := 0) (r := (1, 0, 0)) (y := (2, 0, 0)) (nd_snoc hn h0) dX1_init_12 fl_X1_15 (m_l hr) rfl rfl rfl rfl (fun _ => rfl) (fun _ => rfl) ?_
  refine z_nret2 dX1_init_15 rfl (Nat.le_of_ble_eq_true rfl) (Nat.le_of_ble_eq_true rfl) (fun x _ => ?_) (fun x => Iff.rfl)
  by_cases e0 : x = (1, 0, 0)
  · subst e0
    refine ⟨fun j hj => ?_, fun j => ?_, fun j => ?_⟩
    · have hj : ([true, false] : List Bool)[j]? = some true := hj
      match j, hj with
      | 0, _ => simp [shP, shN, shG, SH]
      | 1, h => cases h
      | _ + 2, h => cases h
    · have := hz.1 j
      simp [mG, MI, mN, this]
    · have := hz.2 j
      simp [mG, MI, mN, this]
  · by_cases e1 : x = (2, 0, 0)
    · subst e1
      refine ⟨fun j hj => ?_, fun j => ?_, fun j => ?_⟩
      · exact absurd (show 4 ≤ 0 from hj.1) (by decide)
      · simp [mG, MI, mN]
      · simp [mG, MI, mN]
    · refine ⟨fun j _ => ?_, fun j => ?_, fun j => ?_⟩ <;> simp [shP, shN, shG, mG, mN, e0, e1]
theorem nY1_1 {rs : List Rf} {sh : Sh} {M : Mm} (hn : rs.Nodup) (hc : shC sh rs) (hr : (1, 1, 0) ∈ rs) (h0 : (2, 1, 0) ∉ rs) (hz : Zr M (1, 1, 0)) : TriN yX1_init cX1_init 2 2 1 64 rs sh [.inr (1, 1, 0), .inl (.int 64)] M (rs ++ [(2, 1, 0)]) (shG (fun x => x == (1, 1, 0) || x == (2, 1, 0)) sh) (mG (fun x => x == (1, 1, 0) || x == (2, 1, 0)) M) := by
  refine TriN.go (own := RX1) (nme := "<init>") (n := 0) (ls := [some (.inr (1, 1, 0)), some (.inl (.int 64))]) (by decide) rfl rfl rfl rfl ?_
  refine z_aload_n (i := 0) dX1_init_0 rfl rfl ?_
  refine z_objI dX1_init_1 ⟨ow_1, ow_i, ow_c⟩ (by decide) (Nat.le_of_ble_eq_true rfl) ?_
  refine z_aload_n (i := 0) dX1_init_4 rfl rfl ?_
  refine z_iconst (v := (0 : Int32)) dX1_init_5 (by decide) ?_
  refine z_iload_n (i := 1) (x := (64 : Int32)) dX1_init_6 rfl rfl ?_
  refine z_mmax dX1_init_7 ml_X1_9 cd_J9_max_7cf53 (by decide) (Nat.le_of_ble_eq_true rfl) (Nat.zero_le _) (Nat.zero_le _) ?_
  refine z_newa (atype := .int) (ty := .int) (t := 0) (N := 64) (a0 := (64, .inl fun _ => 0)) (r := (2, 1, 0)) hn h0 (by decide) dX1_init_10 ac_i rfl (fun _ => rfl) (fun _ => rfl) (fun tc ad => he_I rfl) (by decide) (by decide) (Nat.le_of_ble_eq_true rfl) hc (qmn_G fun x h => h) (fun i v hi => by
    match i, hi with
    | 0, hi => cases hi; exact inr_ne (by decide)
    | 1, hi => cases hi; exact inl_ne) (st_1 (P := fun v => v ≠ .inr (2, 1, 0)) (inr_ne (by decide))) (Nat.le_of_ble_eq_true rfl) (Nat.le_of_ble_eq_true rfl) ?_
  refine z_putR (ci := 1) (j := 0) (r := (1, 1, 0)) (y := (2, 1, 0)) (nd_snoc hn h0) dX1_init_12 fl_X1_15 (m_l hr) rfl rfl rfl rfl (fun _ => rfl) (fun _ => rfl) ?_
  refine z_nret2 dX1_init_15 rfl (Nat.le_of_ble_eq_true rfl) (Nat.le_of_ble_eq_true rfl) (fun x _ => ?_) (fun x => Iff.rfl)
  by_cases e0 : x = (1, 1, 0)
  · subst e0
    refine ⟨fun j hj => ?_, fun j => ?_, fun j => ?_⟩
    · have hj : ([true, false] : List Bool)[j]? = some true := hj
      match j, hj with
      | 0, _ => simp [shP, shN, shG, SH]
      | 1, h => cases h
      | _ + 2, h => cases h
    · have := hz.1 j
      simp [mG, MI, mN, this]
    · have := hz.2 j
      simp [mG, MI, mN, this]
  · by_cases e1 : x = (2, 1, 0)
    · subst e1
      refine ⟨fun j hj => ?_, fun j => ?_, fun j => ?_⟩
      · exact absurd (show 4 ≤ 0 from hj.1) (by decide)
      · simp [mG, MI, mN]
      · simp [mG, MI, mN]
    · refine ⟨fun j _ => ?_, fun j => ?_, fun j => ?_⟩ <;> simp [shP, shN, shG, mG, mN, e0, e1]

