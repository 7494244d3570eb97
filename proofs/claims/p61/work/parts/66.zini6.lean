/-! Tokens, Script -/
theorem dX4_init_0 : decode cX4_init 0 = .ok (.aload_n 0, 1) := by decide +kernel
theorem dX4_init_1 : decode cX4_init 1 = .ok (.invokespecial 3, 3) := by decide +kernel
theorem dX4_init_4 : decode cX4_init 4 = .ok (.aload_n 0, 1) := by decide +kernel
theorem dX4_init_5 : decode cX4_init 5 = .ok (.bipush 30, 2) := by decide +kernel
theorem dX4_init_7 : decode cX4_init 7 = .ok (.newarray .int, 2) := by decide +kernel
theorem dX4_init_9 : decode cX4_init 9 = .ok (.putfield 11, 3) := by decide +kernel
theorem dX4_init_12 : decode cX4_init 12 = .ok (.aload_n 0, 1) := by decide +kernel
theorem dX4_init_13 : decode cX4_init 13 = .ok (.bipush 30, 2) := by decide +kernel
theorem dX4_init_15 : decode cX4_init 15 = .ok (.newarray .int, 2) := by decide +kernel
theorem dX4_init_17 : decode cX4_init 17 = .ok (.putfield 15, 3) := by decide +kernel
theorem dX4_init_20 : decode cX4_init 20 = .ok (.aload_n 0, 1) := by decide +kernel
theorem dX4_init_21 : decode cX4_init 21 = .ok (.bipush 30, 2) := by decide +kernel
theorem dX4_init_23 : decode cX4_init 23 = .ok (.newarray .int, 2) := by decide +kernel
theorem dX4_init_25 : decode cX4_init 25 = .ok (.putfield 18, 3) := by decide +kernel
theorem dX4_init_28 : decode cX4_init 28 = .ok (.aload_n 0, 1) := by decide +kernel
theorem dX4_init_29 : decode cX4_init 29 = .ok (.bipush 90, 2) := by decide +kernel
theorem dX4_init_31 : decode cX4_init 31 = .ok (.newarray .int, 2) := by decide +kernel
theorem dX4_init_33 : decode cX4_init 33 = .ok (.putfield 21, 3) := by decide +kernel
theorem dX4_init_36 : decode cX4_init 36 = .ok (.return_, 1) := by decide +kernel
theorem ow_4 : Cond.methodLink RX4 3 Lib.objectInit ∈ AL := al_mc al_c1 102 rfl (by decide +kernel)
theorem nY4 {rs : List Rf} {sh : Sh} {M : Mm} (hn : rs.Nodup) (hc : shC sh rs) (hr : (7, 0, 0) ∈ rs) (h0 : (8, 0, 0) ∉ rs) (h1 : (8, 1, 0) ∉ rs) (h2 : (8, 2, 0) ∉ rs) (h3 : (8, 3, 0) ∉ rs) (hz : Zr M (7, 0, 0)) : TriN yX4_init cX4_init 1 1 4 180 rs sh [.inr (7, 0, 0)] M (((((rs ++ [(8, 0, 0)]) ++ [(8, 1, 0)]) ++ [(8, 2, 0)]) ++ [(8, 3, 0)])) (shG (fun x => x == (7, 0, 0) || x == (8, 0, 0) || x == (8, 1, 0) || x == (8, 2, 0) || x == (8, 3, 0)) sh) (mG (fun x => x == (7, 0, 0) || x == (8, 0, 0) || x == (8, 1, 0) || x == (8, 2, 0) || x == (8, 3, 0)) M) := by
  refine TriN.go (own := RX4) (nme := "<init>") (n := 0) (ls := [some (.inr (7, 0, 0))]) (by decide) rfl rfl rfl rfl ?_
  refine z_aload_n (i := 0) dX4_init_0 rfl rfl ?_
  refine z_objI dX4_init_1 ⟨ow_4, ow_i, ow_c⟩ (Nat.le_refl _) (Nat.le_of_ble_eq_true rfl) ?_
  refine z_aload_n (i := 0) dX4_init_4 rfl rfl ?_
  refine z_bipush (v := (30 : Int32)) dX4_init_5 (by decide) ?_
  refine z_newa (atype := .int) (ty := .int) (t := 0) (N := 30) (a0 := (30, .inl fun _ => 0)) (r := (8, 0, 0)) hn h0 (by decide) dX4_init_7 ac_i rfl (fun _ => rfl) (fun _ => rfl) (fun tc ad => he_I rfl) (by decide) (by decide) (Nat.le_of_ble_eq_true rfl) hc (qmn_G fun x h => h) (fun i v hi => by
    match i, hi with
    | 0, hi => cases hi; exact inr_ne (by decide)) (st_1 (P := fun v => v ≠ .inr (8, 0, 0)) (inr_ne (by decide))) (Nat.le_of_ble_eq_true rfl) (Nat.le_of_ble_eq_true rfl) ?_
  have n1 := nd_snoc hn h0
  refine z_putR (ci := 4) (j := 0) (r := (7, 0, 0)) (y := (8, 0, 0)) n1 dX4_init_9 fl_X4_11 (m_l hr) rfl rfl rfl rfl (fun _ => rfl) (fun _ => rfl) ?_
  refine z_aload_n (i := 0) dX4_init_12 rfl rfl ?_
  refine z_bipush (v := (30 : Int32)) dX4_init_13 (by decide) ?_
  refine z_newa (atype := .int) (ty := .int) (t := 0) (N := 30) (a0 := (30, .inl fun _ => 0)) (r := (8, 1, 0)) n1 (nm_snoc h1 (by decide)) (by decide) dX4_init_15 ac_i rfl (fun _ => rfl) (fun _ => rfl) (fun tc ad => he_I rfl) (by decide) (by decide) (Nat.le_of_ble_eq_true rfl) (shC_P (shC_N hc) m_r) (qmn_G fun x h => (m_l h)) (fun i v hi => by
    match i, hi with
    | 0, hi => cases hi; exact inr_ne (by decide)) (st_1 (P := fun v => v ≠ .inr (8, 1, 0)) (inr_ne (by decide))) (Nat.le_of_ble_eq_true rfl) (Nat.le_of_ble_eq_true rfl) ?_
  have n2 := nd_snoc n1 (nm_snoc h1 (by decide))
  refine z_putR (ci := 4) (j := 1) (r := (7, 0, 0)) (y := (8, 1, 0)) n2 dX4_init_17 fl_X4_15 (m_l (m_l hr)) rfl rfl rfl rfl (fun _ => rfl) (fun _ => rfl) ?_
  refine z_aload_n (i := 0) dX4_init_20 rfl rfl ?_
  refine z_bipush (v := (30 : Int32)) dX4_init_21 (by decide) ?_
  refine z_newa (atype := .int) (ty := .int) (t := 0) (N := 30) (a0 := (30, .inl fun _ => 0)) (r := (8, 2, 0)) n2 (nm_snoc (nm_snoc h2 (by decide)) (by decide)) (by decide) dX4_init_23 ac_i rfl (fun _ => rfl) (fun _ => rfl) (fun tc ad => he_I rfl) (by decide) (by decide) (Nat.le_of_ble_eq_true rfl) (shC_P (shC_N (shC_P (shC_N hc) m_r)) m_r) (qmn_G fun x h => (m_l (m_l h))) (fun i v hi => by
    match i, hi with
    | 0, hi => cases hi; exact inr_ne (by decide)) (st_1 (P := fun v => v ≠ .inr (8, 2, 0)) (inr_ne (by decide))) (Nat.le_of_ble_eq_true rfl) (Nat.le_of_ble_eq_true rfl) ?_
  have n3 := nd_snoc n2 (nm_snoc (nm_snoc h2 (by decide)) (by decide))
  refine z_putR (ci := 4) (j := 2) (r := (7, 0, 0)) (y := (8, 2, 0)) n3 dX4_init_25 fl_X4_18 (m_l (m_l (m_l hr))) rfl rfl rfl rfl (fun _ => rfl) (fun _ => rfl) ?_
  refine z_aload_n (i := 0) dX4_init_28 rfl rfl ?_
  refine z_bipush (v := (90 : Int32)) dX4_init_29 (by decide) ?_
  refine z_newa (atype := .int) (ty := .int) (t := 0) (N := 90) (a0 := (90, .inl fun _ => 0)) (r := (8, 3, 0)) n3 (nm_snoc (nm_snoc (nm_snoc h3 (by decide)) (by decide)) (by decide)) (by decide) dX4_init_31 ac_i rfl (fun _ => rfl) (fun _ => rfl) (fun tc ad => he_I rfl) (by decide) (by decide) (Nat.le_of_ble_eq_true rfl) (shC_P (shC_N (shC_P (shC_N (shC_P (shC_N hc) m_r)) m_r)) m_r) (qmn_G fun x h => (m_l (m_l (m_l h)))) (fun i v hi => by
    match i, hi with
    | 0, hi => cases hi; exact inr_ne (by decide)) (st_1 (P := fun v => v ≠ .inr (8, 3, 0)) (inr_ne (by decide))) (Nat.le_of_ble_eq_true rfl) (Nat.le_of_ble_eq_true rfl) ?_
  have n4 := nd_snoc n3 (nm_snoc (nm_snoc (nm_snoc h3 (by decide)) (by decide)) (by decide))
  refine z_putR (ci := 4) (j := 3) (r := (7, 0, 0)) (y := (8, 3, 0)) n4 dX4_init_33 fl_X4_21 (m_l (m_l (m_l (m_l hr)))) rfl rfl rfl rfl (fun _ => rfl) (fun _ => rfl) ?_
  refine z_nret2 dX4_init_36 rfl (Nat.le_of_ble_eq_true rfl) (Nat.le_of_ble_eq_true rfl) (fun x _ => ?_) (fun x => Iff.rfl)
  have hzz := hz
  by_cases e0 : x = (7, 0, 0)
  · subst e0
    refine ⟨fun j hj => ?_, fun j => ?_, fun j => ?_⟩
    · have hj : ([true, true, true, true, false, false, false] : List Bool)[j]? = some true := hj
      match j, hj with
      | 0, _ => simp [shP, shN, shG, SH]
      | 1, _ => simp [shP, shN, shG, SH]
      | 2, _ => simp [shP, shN, shG, SH]
      | 3, _ => simp [shP, shN, shG, SH]
      | 4, h => cases h
      | 5, h => cases h
      | 6, h => cases h
      | _ + 7, h => cases h
    · have := hz.1 j
      by_cases ej : j = 8
      · subst ej; simp [mG, MI, putI, mN, this]
      · simp [mG, MI, putI, mN, this, ej]
    · have := hz.2 j
      simp [mG, MI, putI, mN, this]
  · by_cases e1 : x = (8, 0, 0)
    · subst e1
      refine ⟨fun j hj => ?_, fun j => ?_, fun j => ?_⟩
      · exact absurd (show 4 ≤ 0 from hj.1) (by decide)
      · simp [mG, MI, putI, mN]
      · simp [mG, MI, putI, mN]
    · by_cases e2 : x = (8, 1, 0)
      · subst e2
        refine ⟨fun j hj => ?_, fun j => ?_, fun j => ?_⟩
        · exact absurd (show 4 ≤ 0 from hj.1) (by decide)
        · simp [mG, MI, putI, mN]
        · simp [mG, MI, putI, mN]
      · by_cases e3 : x = (8, 2, 0)
        · subst e3
          refine ⟨fun j hj => ?_, fun j => ?_, fun j => ?_⟩
          · exact absurd (show 4 ≤ 0 from hj.1) (by decide)
          · simp [mG, MI, putI, mN]
          · simp [mG, MI, putI, mN]
        · by_cases e4 : x = (8, 3, 0)
          · subst e4
            refine ⟨fun j hj => ?_, fun j => ?_, fun j => ?_⟩
            · exact absurd (show 4 ≤ 0 from hj.1) (by decide)
            · simp [mG, MI, putI, mN]
            · simp [mG, MI, putI, mN]
          · refine ⟨fun j _ => ?_, fun j => ?_, fun j => ?_⟩ <;> simp [shP, shN, shG, mG, putI, mN, e0, e1, e2, e3, e4]
theorem dX7_init_0 : decode cX7_init 0 = .ok (.aload_n 0, 1) := by decide +kernel
theorem dX7_init_1 : decode cX7_init 1 = .ok (.invokespecial 3, 3) := by decide +kernel
theorem dX7_init_4 : decode cX7_init 4 = .ok (.aload_n 0, 1) := by decide +kernel
theorem dX7_init_5 : decode cX7_init 5 = .ok (.sipush 801, 3) := by decide +kernel
theorem dX7_init_8 : decode cX7_init 8 = .ok (.newarray .int, 2) := by decide +kernel
theorem dX7_init_10 : decode cX7_init 10 = .ok (.putfield 9, 3) := by decide +kernel
theorem dX7_init_13 : decode cX7_init 13 = .ok (.aload_n 0, 1) := by decide +kernel
theorem dX7_init_14 : decode cX7_init 14 = .ok (.sipush 801, 3) := by decide +kernel
theorem dX7_init_17 : decode cX7_init 17 = .ok (.newarray .int, 2) := by decide +kernel
theorem dX7_init_19 : decode cX7_init 19 = .ok (.putfield 15, 3) := by decide +kernel
theorem dX7_init_22 : decode cX7_init 22 = .ok (.aload_n 0, 1) := by decide +kernel
theorem dX7_init_23 : decode cX7_init 23 = .ok (.sipush 801, 3) := by decide +kernel
theorem dX7_init_26 : decode cX7_init 26 = .ok (.newarray .int, 2) := by decide +kernel
theorem dX7_init_28 : decode cX7_init 28 = .ok (.putfield 18, 3) := by decide +kernel
theorem dX7_init_31 : decode cX7_init 31 = .ok (.aload_n 0, 1) := by decide +kernel
theorem dX7_init_32 : decode cX7_init 32 = .ok (.sipush 801, 3) := by decide +kernel
theorem dX7_init_35 : decode cX7_init 35 = .ok (.newarray .int, 2) := by decide +kernel
theorem dX7_init_37 : decode cX7_init 37 = .ok (.putfield 21, 3) := by decide +kernel
theorem dX7_init_40 : decode cX7_init 40 = .ok (.aload_n 0, 1) := by decide +kernel
theorem dX7_init_41 : decode cX7_init 41 = .ok (.aload_n 1, 1) := by decide +kernel
theorem dX7_init_42 : decode cX7_init 42 = .ok (.putfield 24, 3) := by decide +kernel
theorem dX7_init_45 : decode cX7_init 45 = .ok (.aload_n 0, 1) := by decide +kernel
theorem dX7_init_46 : decode cX7_init 46 = .ok (.iconst (-1), 1) := by decide +kernel
theorem dX7_init_47 : decode cX7_init 47 = .ok (.putfield 28, 3) := by decide +kernel
theorem dX7_init_50 : decode cX7_init 50 = .ok (.return_, 1) := by decide +kernel
theorem ow_7 : Cond.methodLink RX7 3 Lib.objectInit ∈ AL := al_mc al_c1 66 rfl (by decide +kernel)
theorem nY7 {rs : List Rf} {sh : Sh} {M : Mm} (hn : rs.Nodup) (hc : shC sh rs) (hr : (3, 0, 0) ∈ rs) (ha0 : (1, 0, 0) ∈ rs) (h0 : (4, 0, 0) ∉ rs) (h1 : (4, 1, 0) ∉ rs) (h2 : (4, 2, 0) ∉ rs) (h3 : (4, 3, 0) ∉ rs) (hz : Zr M (3, 0, 0)) : TriN yX7_init cX7_init 2 1 4 3204 rs sh [.inr (3, 0, 0), .inr (1, 0, 0)] M (((((rs ++ [(4, 0, 0)]) ++ [(4, 1, 0)]) ++ [(4, 2, 0)]) ++ [(4, 3, 0)])) (shG (fun x => x == (3, 0, 0) || x == (4, 0, 0) || x == (4, 1, 0) || x == (4, 2, 0) || x == (4, 3, 0)) sh) (mG (fun x => x == (3, 0, 0) || x == (4, 0, 0) || x == (4, 1, 0) || x == (4, 2, 0) || x == (4, 3, 0)) M) := by
  refine TriN.go (own := RX7) (nme := "<init>") (n := 0) (ls := [some (.inr (3, 0, 0)), some (.inr (1, 0, 0))]) (by decide) rfl rfl rfl rfl ?_
  refine z_aload_n (i := 0) dX7_init_0 rfl rfl ?_
  refine z_objI dX7_init_1 ⟨ow_7, ow_i, ow_c⟩ (Nat.le_refl _) (Nat.le_of_ble_eq_true rfl) ?_
  refine z_aload_n (i := 0) dX7_init_4 rfl rfl ?_
  refine z_sipush (v := (801 : Int32)) dX7_init_5 (by decide) ?_
  refine z_newa (atype := .int) (ty := .int) (t := 0) (N := 801) (a0 := (801, .inl fun _ => 0)) (r := (4, 0, 0)) hn h0 (by decide) dX7_init_8 ac_i rfl (fun _ => rfl) (fun _ => rfl) (fun tc ad => he_I rfl) (by decide) (by decide) (Nat.le_of_ble_eq_true rfl) hc (qmn_G fun x h => h) (fun i v hi => by
    match i, hi with
    | 0, hi => cases hi; exact inr_ne (by decide)
    | 1, hi => cases hi; exact inr_ne (by decide)) (st_1 (P := fun v => v ≠ .inr (4, 0, 0)) (inr_ne (by decide))) (Nat.le_of_ble_eq_true rfl) (Nat.le_of_ble_eq_true rfl) ?_
  have n1 := nd_snoc hn h0
  refine z_putR (ci := 7) (j := 1) (r := (3, 0, 0)) (y := (4, 0, 0)) n1 dX7_init_10 fl_X7_9 (m_l hr) rfl rfl rfl rfl (fun _ => rfl) (fun _ => rfl) ?_
  refine z_aload_n (i := 0) dX7_init_13 rfl rfl ?_
  refine z_sipush (v := (801 : Int32)) dX7_init_14 (by decide) ?_
  refine z_newa (atype := .int) (ty := .int) (t := 0) (N := 801) (a0 := (801, .inl fun _ => 0)) (r := (4, 1, 0)) n1 (nm_snoc h1 (by decide)) (by decide) dX7_init_17 ac_i rfl (fun _ => rfl) (fun _ => rfl) (fun tc ad => he_I rfl) (by decide) (by decide) (Nat.le_of_ble_eq_true rfl) (shC_P (shC_N hc) m_r) (qmn_G fun x h => (m_l h)) (fun i v hi => by
    match i, hi with
    | 0, hi => cases hi; exact inr_ne (by decide)
    | 1, hi => cases hi; exact inr_ne (by decide)) (st_1 (P := fun v => v ≠ .inr (4, 1, 0)) (inr_ne (by decide))) (Nat.le_of_ble_eq_true rfl) (Nat.le_of_ble_eq_true rfl) ?_
  have n2 := nd_snoc n1 (nm_snoc h1 (by decide))
  refine z_putR (ci := 7) (j := 2) (r := (3, 0, 0)) (y := (4, 1, 0)) n2 dX7_init_19 fl_X7_15 (m_l (m_l hr)) rfl rfl rfl rfl (fun _ => rfl) (fun _ => rfl) ?_
  refine z_aload_n (i := 0) dX7_init_22 rfl rfl ?_
  refine z_sipush (v := (801 : Int32)) dX7_init_23 (by decide) ?_
  refine z_newa (atype := .int) (ty := .int) (t := 0) (N := 801) (a0 := (801, .inl fun _ => 0)) (r := (4, 2, 0)) n2 (nm_snoc (nm_snoc h2 (by decide)) (by decide)) (by decide) dX7_init_26 ac_i rfl (fun _ => rfl) (fun _ => rfl) (fun tc ad => he_I rfl) (by decide) (by decide) (Nat.le_of_ble_eq_true rfl) (shC_P (shC_N (shC_P (shC_N hc) m_r)) m_r) (qmn_G fun x h => (m_l (m_l h))) (fun i v hi => by
    match i, hi with
    | 0, hi => cases hi; exact inr_ne (by decide)
    | 1, hi => cases hi; exact inr_ne (by decide)) (st_1 (P := fun v => v ≠ .inr (4, 2, 0)) (inr_ne (by decide))) (Nat.le_of_ble_eq_true rfl) (Nat.le_of_ble_eq_true rfl) ?_
  have n3 := nd_snoc n2 (nm_snoc (nm_snoc h2 (by decide)) (by decide))
  refine z_putR (ci := 7) (j := 3) (r := (3, 0, 0)) (y := (4, 2, 0)) n3 dX7_init_28 fl_X7_18 (m_l (m_l (m_l hr))) rfl rfl rfl rfl (fun _ => rfl) (fun _ => rfl) ?_
  refine z_aload_n (i := 0) dX7_init_31 rfl rfl ?_
  refine z_sipush (v := (801 : Int32)) dX7_init_32 (by decide) ?_
  refine z_newa (atype := .int) (ty := .int) (t := 0) (N := 801) (a0 := (801, .inl fun _ => 0)) (r := (4, 3, 0)) n3 (nm_snoc (nm_snoc (nm_snoc h3 (by decide)) (by decide)) (by decide)) (by decide) dX7_init_35 ac_i rfl (fun _ => rfl) (fun _ => rfl) (fun tc ad => he_I rfl) (by decide) (by decide) (Nat.le_of_ble_eq_true rfl) (shC_P (shC_N (shC_P (shC_N (shC_P (shC_N hc) m_r)) m_r)) m_r) (qmn_G fun x h => (m_l (m_l (m_l h)))) (fun i v hi => by
    match i, hi with
    | 0, hi => cases hi; exact inr_ne (by decide)
    | 1, hi => cases hi; exact inr_ne (by decide)) (st_1 (P := fun v => v ≠ .inr (4, 3, 0)) (inr_ne (by decide))) (Nat.le_of_ble_eq_true rfl) (Nat.le_of_ble_eq_true rfl) ?_
  have n4 := nd_snoc n3 (nm_snoc (nm_snoc (nm_snoc h3 (by decide)) (by decide)) (by decide))
  refine z_putR (ci := 7) (j := 4) (r := (3, 0, 0)) (y := (4, 3, 0)) n4 dX7_init_37 fl_X7_21 (m_l (m_l (m_l (m_l hr)))) rfl rfl rfl rfl (fun _ => rfl) (fun _ => rfl) ?_
  refine z_aload_n (i := 0) dX7_init_40 rfl rfl ?_
  refine z_aload_n (i := 1) dX7_init_41 rfl rfl ?_
  refine z_putR (ci := 7) (j := 0) (r := (3, 0, 0)) (y := (1, 0, 0)) n4 dX7_init_42 fl_X7_24 (m_l (m_l (m_l (m_l hr)))) rfl rfl rfl rfl (fun _ => rfl) (fun _ => rfl) ?_
  refine z_aload_n (i := 0) dX7_init_45 rfl rfl ?_
  refine z_iconst (v := (-1 : Int32)) dX7_init_46 (by decide) ?_
  refine z_putI n4 dX7_init_47 fl_X7_28 (m_l (m_l (m_l (m_l hr)))) rfl rfl ?_
  refine z_nret2 dX7_init_50 rfl (Nat.le_of_ble_eq_true rfl) (Nat.le_of_ble_eq_true rfl) (fun x _ => ?_) (fun x => Iff.rfl)
  have hzz := hz
  by_cases e0 : x = (3, 0, 0)
  · subst e0
    refine ⟨fun j hj => ?_, fun j => ?_, fun j => ?_⟩
    · have hj : ([true, true, true, true, true, false, false, false, false] : List Bool)[j]? = some true := hj
      match j, hj with
      | 0, _ => simp [shP, shN, shG, SH]
      | 1, _ => simp [shP, shN, shG, SH]
      | 2, _ => simp [shP, shN, shG, SH]
      | 3, _ => simp [shP, shN, shG, SH]
      | 4, _ => simp [shP, shN, shG, SH]
      | 5, h => cases h
      | 6, h => cases h
      | 7, h => cases h
      | 8, h => cases h
      | _ + 9, h => cases h
    · have := hz.1 j
      by_cases ej : j = 8
      · subst ej; simp [mG, MI, putI, mN, this]
      · simp [mG, MI, putI, mN, this, ej]
    · have := hz.2 j
      simp [mG, MI, putI, mN, this]
  · by_cases e1 : x = (4, 0, 0)
    · subst e1
      refine ⟨fun j hj => ?_, fun j => ?_, fun j => ?_⟩
      · exact absurd (show 4 ≤ 0 from hj.1) (by decide)
      · simp [mG, MI, putI, mN]
      · simp [mG, MI, putI, mN]
    · by_cases e2 : x = (4, 1, 0)
      · subst e2
        refine ⟨fun j hj => ?_, fun j => ?_, fun j => ?_⟩
        · exact absurd (show 4 ≤ 0 from hj.1) (by decide)
        · simp [mG, MI, putI, mN]
        · simp [mG, MI, putI, mN]
      · by_cases e3 : x = (4, 2, 0)
        · subst e3
          refine ⟨fun j hj => ?_, fun j => ?_, fun j => ?_⟩
          · exact absurd (show 4 ≤ 0 from hj.1) (by decide)
          · simp [mG, MI, putI, mN]
          · simp [mG, MI, putI, mN]
        · by_cases e4 : x = (4, 3, 0)
          · subst e4
            refine ⟨fun j hj => ?_, fun j => ?_, fun j => ?_⟩
            · exact absurd (show 4 ≤ 0 from hj.1) (by decide)
            · simp [mG, MI, putI, mN]
            · simp [mG, MI, putI, mN]
          · refine ⟨fun j _ => ?_, fun j => ?_, fun j => ?_⟩ <;> simp [shP, shN, shG, mG, putI, mN, e0, e1, e2, e3, e4]

