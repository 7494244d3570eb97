/-! the two readers -/
theorem mi_z {x : Rf} (h10 : x.1 ≠ 10) (h3 : x.1 ≠ 3) (j : Nat) : MI.1 x j = 0 := by
  show (if x.1 = 10 ∧ j = 1 then (4 : Int32) else if x.1 = 3 ∧ j = 8 then -1 else 0) = 0
  rw [if_neg (fun c => h10 c.1), if_neg (fun c => h3 c.1)]
theorem dX6_init_0 : decode cX6_init 0 = .ok (.aload_n 0, 1) := by decide +kernel
theorem dX6_init_1 : decode cX6_init 1 = .ok (.invokespecial 3, 3) := by decide +kernel
theorem dX6_init_4 : decode cX6_init 4 = .ok (.aload_n 0, 1) := by decide +kernel
theorem dX6_init_5 : decode cX6_init 5 = .ok (.aload_n 1, 1) := by decide +kernel
theorem dX6_init_6 : decode cX6_init 6 = .ok (.putfield 9, 3) := by decide +kernel
theorem dX6_init_9 : decode cX6_init 9 = .ok (.aload_n 0, 1) := by decide +kernel
theorem dX6_init_10 : decode cX6_init 10 = .ok (.aload_n 2, 1) := by decide +kernel
theorem dX6_init_11 : decode cX6_init 11 = .ok (.putfield 15, 3) := by decide +kernel
theorem dX6_init_14 : decode cX6_init 14 = .ok (.return_, 1) := by decide +kernel
theorem ow_6 : Cond.methodLink RX6 3 Lib.objectInit ∈ AL := al_mc al_c1 235 rfl (by decide +kernel)
theorem nY6 {rs : List Rf} {sh : Sh} {M : Mm} (hn : rs.Nodup) (hr : (5, 0, 0) ∈ rs) (hz : Zr M (5, 0, 0)) : TriN yX6_init cX6_init 3 1 0 0 rs sh [.inr (5, 0, 0), .inr (3, 0, 0), .inr (9, 1, 0)] M rs (shG (fun x => x == (5, 0, 0)) sh) (mG (fun x => x == (5, 0, 0)) M) := by
  refine TriN.go (own := RX6) (nme := "<init>") (n := 0) (ls := [some (.inr (5, 0, 0)), some (.inr (3, 0, 0)), some (.inr (9, 1, 0))]) (by decide) rfl rfl rfl rfl ?_
  refine z_aload_n (i := 0) dX6_init_0 rfl rfl ?_
  refine z_objI dX6_init_1 ⟨ow_6, ow_i, ow_c⟩ (Nat.le_refl _) (Nat.le_of_ble_eq_true rfl) ?_
  refine z_aload_n (i := 0) dX6_init_4 rfl rfl ?_
  refine z_aload_n (i := 1) dX6_init_5 rfl rfl ?_
  refine z_putR (ci := 6) (j := 0) (r := (5, 0, 0)) (y := (3, 0, 0)) hn dX6_init_6 fl_X6_9 hr rfl rfl rfl rfl (fun _ => rfl) (fun _ => rfl) ?_
  refine z_aload_n (i := 0) dX6_init_9 rfl rfl ?_
  refine z_aload_n (i := 2) dX6_init_10 rfl rfl ?_
  refine z_putR (ci := 6) (j := 1) (r := (5, 0, 0)) (y := (9, 1, 0)) hn dX6_init_11 fl_X6_15 hr rfl rfl rfl rfl (fun _ => rfl) (fun _ => rfl) ?_
  refine z_nret2 dX6_init_14 rfl (Nat.le_refl _) (Nat.le_refl _) (fun x _ => ?_) (fun x => Iff.rfl)
  by_cases e1 : x = (5, 0, 0)
  · subst e1
    refine ⟨fun j hj => ?_, fun j => ?_, fun j => ?_⟩
    · have hj : ([true, true] : List Bool)[j]? = some true := hj
      match j, hj with
      | 0, _ => rw [shP_o (fun c => absurd c.2 (by decide)), shP_s, shG, if_pos (by decide)]; rfl
      | 1, _ => rw [shP_s, shG, if_pos (by decide)]; rfl
    · show (if (((5, 0, 0) : Rf) == (5, 0, 0)) = true then MI.1 (5, 0, 0) j else M.1 (5, 0, 0) j) = _
      rw [if_pos (by decide), hz.1]
      exact mi_z (by decide) (by decide) j
    · show (if (((5, 0, 0) : Rf) == (5, 0, 0)) = true then MI.2 (5, 0, 0) j else M.2 (5, 0, 0) j) = _
      rw [if_pos (by decide), hz.2]; rfl
  · have g : (x == (5, 0, 0)) = false := beq_eq_false_iff_ne.mpr e1
    refine ⟨fun j _ => ?_, fun j => ?_, fun j => ?_⟩
    · rw [shP_o (fun c => e1 c.1), shP_o (fun c => e1 c.1), shG, if_neg (by rw [g]; decide)]
    · show (if (x == (5, 0, 0)) = true then MI.1 x j else M.1 x j) = _
      rw [if_neg (by rw [g]; decide)]
    · show (if (x == (5, 0, 0)) = true then MI.2 x j else M.2 x j) = _
      rw [if_neg (by rw [g]; decide)]
theorem dX5_init_0 : decode cX5_init 0 = .ok (.aload_n 0, 1) := by decide +kernel
theorem dX5_init_1 : decode cX5_init 1 = .ok (.invokespecial 3, 3) := by decide +kernel
theorem dX5_init_4 : decode cX5_init 4 = .ok (.aload_n 0, 1) := by decide +kernel
theorem dX5_init_5 : decode cX5_init 5 = .ok (.aload_n 1, 1) := by decide +kernel
theorem dX5_init_6 : decode cX5_init 6 = .ok (.putfield 9, 3) := by decide +kernel
theorem dX5_init_9 : decode cX5_init 9 = .ok (.aload_n 0, 1) := by decide +kernel
theorem dX5_init_10 : decode cX5_init 10 = .ok (.aload_n 2, 1) := by decide +kernel
theorem dX5_init_11 : decode cX5_init 11 = .ok (.putfield 15, 3) := by decide +kernel
theorem dX5_init_14 : decode cX5_init 14 = .ok (.return_, 1) := by decide +kernel
theorem ow_5 : Cond.methodLink RX5 3 Lib.objectInit ∈ AL := al_mc al_c2 8 rfl (by decide +kernel)
theorem nY5 {rs : List Rf} {sh : Sh} {M : Mm} (hn : rs.Nodup) (hr : (6, 0, 0) ∈ rs) (hz : Zr M (6, 0, 0)) : TriN yX5_init cX5_init 3 1 0 0 rs sh [.inr (6, 0, 0), .inr (3, 0, 0), .inr (7, 0, 0)] M rs (shG (fun x => x == (6, 0, 0)) sh) (mG (fun x => x == (6, 0, 0)) M) := by
  refine TriN.go (own := RX5) (nme := "<init>") (n := 0) (ls := [some (.inr (6, 0, 0)), some (.inr (3, 0, 0)), some (.inr (7, 0, 0))]) (by decide) rfl rfl rfl rfl ?_
  refine z_aload_n (i := 0) dX5_init_0 rfl rfl ?_
  refine z_objI dX5_init_1 ⟨ow_5, ow_i, ow_c⟩ (Nat.le_refl _) (Nat.le_of_ble_eq_true rfl) ?_
  refine z_aload_n (i := 0) dX5_init_4 rfl rfl ?_
  refine z_aload_n (i := 1) dX5_init_5 rfl rfl ?_
  refine z_putR (ci := 5) (j := 0) (r := (6, 0, 0)) (y := (3, 0, 0)) hn dX5_init_6 fl_X5_9 hr rfl rfl rfl rfl (fun _ => rfl) (fun _ => rfl) ?_
  refine z_aload_n (i := 0) dX5_init_9 rfl rfl ?_
  refine z_aload_n (i := 2) dX5_init_10 rfl rfl ?_
  refine z_putR (ci := 5) (j := 1) (r := (6, 0, 0)) (y := (7, 0, 0)) hn dX5_init_11 fl_X5_15 hr rfl rfl rfl rfl (fun _ => rfl) (fun _ => rfl) ?_
  refine z_nret2 dX5_init_14 rfl (Nat.le_refl _) (Nat.le_refl _) (fun x _ => ?_) (fun x => Iff.rfl)
  by_cases e1 : x = (6, 0, 0)
  · subst e1
    refine ⟨fun j hj => ?_, fun j => ?_, fun j => ?_⟩
    · have hj : ([true, true] : List Bool)[j]? = some true := hj
      match j, hj with
      | 0, _ => rw [shP_o (fun c => absurd c.2 (by decide)), shP_s, shG, if_pos (by decide)]; rfl
      | 1, _ => rw [shP_s, shG, if_pos (by decide)]; rfl
    · show (if (((6, 0, 0) : Rf) == (6, 0, 0)) = true then MI.1 (6, 0, 0) j else M.1 (6, 0, 0) j) = _
      rw [if_pos (by decide), hz.1]
      exact mi_z (by decide) (by decide) j
    · show (if (((6, 0, 0) : Rf) == (6, 0, 0)) = true then MI.2 (6, 0, 0) j else M.2 (6, 0, 0) j) = _
      rw [if_pos (by decide), hz.2]; rfl
  · have g : (x == (6, 0, 0)) = false := beq_eq_false_iff_ne.mpr e1
    refine ⟨fun j _ => ?_, fun j => ?_, fun j => ?_⟩
    · rw [shP_o (fun c => e1 c.1), shP_o (fun c => e1 c.1), shG, if_neg (by rw [g]; decide)]
    · show (if (x == (6, 0, 0)) = true then MI.1 x j else M.1 x j) = _
      rw [if_neg (by rw [g]; decide)]
    · show (if (x == (6, 0, 0)) = true then MI.2 x j else M.2 x j) = _
      rw [if_neg (by rw [g]; decide)]
theorem nY8 {rs : List Rf} {sh : Sh} {M : Mm} {r : Rf} : TriN yX8_init cX8_init 1 1 0 0 rs sh [.inr r] M rs sh M := nX8

