/-! constructors, told by their groups: what a thing's group is at the start -/
def MI : Mm := (fun x j => if x.1 = 10 ∧ j = 1 then 4 else if x.1 = 3 ∧ j = 8 then -1 else 0, fun _ _ => 0)
def shG (g : Rf → Bool) (sh : Sh) : Sh := fun x j => if g x = true then SH x j else sh x j
def mG (g : Rf → Bool) (M : Mm) : Mm := (fun x j => if g x = true then MI.1 x j else M.1 x j, fun x j => if g x = true then MI.2 x j else M.2 x j)
def Zr (M : Mm) (r : Rf) : Prop := (∀ j, M.1 r j = 0) ∧ ∀ j, M.2 r j = 0
theorem zr_N {M : Mm} {r : Rf} : Zr (mN M r) r := ⟨fun _ => if_pos rfl, fun _ => if_pos rfl⟩
theorem zr_No {M : Mm} {r x : Rf} (h : x ≠ r) (hz : Zr M x) : Zr (mN M r) x := ⟨fun j => (if_neg h).trans (hz.1 j), fun j => (if_neg h).trans (hz.2 j)⟩
theorem shN_o {sh : Sh} {r x : Rf} {j : Nat} (h : x ≠ r) : shN sh r x j = sh x j := if_neg h
theorem shP_s {sh : Sh} {r : Rf} {j : Nat} {y : Option Rf} : shP sh r j y r j = y := if_pos ⟨rfl, rfl⟩
theorem shP_o {sh : Sh} {r x : Rf} {i j : Nat} {y : Option Rf} (h : ¬ (x = r ∧ i = j)) : shP sh r j y x i = sh x i := if_neg h
theorem mN_o {M : Mm} {r x : Rf} (h : x ≠ r) (j : Nat) : (mN M r).1 x j = M.1 x j ∧ (mN M r).2 x j = M.2 x j := ⟨if_neg h, if_neg h⟩
def g3 (i : Nat) (x : Rf) : Bool := x == (10, i, 0) || x == (11, i, 0)
theorem fst_ne {a b : Rf} (h : a.1 ≠ b.1) : a ≠ b := fun e => h (congrArg Prod.fst e)
theorem nY3 {rs : List Rf} {sh : Sh} {M : Mm} {i : Nat} (hn : rs.Nodup) (hc : shC sh rs) (hr : (10, i, 0) ∈ rs) (h1 : (11, i, 0) ∉ rs) (hz : Zr M (10, i, 0)) : TriN yX3_init cX3_init 1 1 1 36 rs sh [.inr (10, i, 0)] M (rs ++ [(11, i, 0)]) (shG (g3 i) sh) (mG (g3 i) M) := by
  have n1 := nd_snoc hn h1
  have d1 : ((10, i, 0) : Rf) ≠ (11, i, 0) := fst_ne (show (10 : Nat) ≠ 11 by decide)
  refine TriN.go (own := RX3) (nme := "<init>") (n := 0) (ls := [some (.inr (10, i, 0))]) (by decide) rfl rfl rfl rfl ?_
  refine z_aload_n (i := 0) dX3_init_0 rfl rfl ?_
  refine z_objI dX3_init_1 ⟨ow_3, ow_i, ow_c⟩ (Nat.le_refl _) (Nat.le_of_ble_eq_true rfl) ?_
  refine z_aload_n (i := 0) dX3_init_4 rfl rfl ?_
  refine z_bipush (v := (36 : Int32)) dX3_init_5 (by decide) ?_
  refine z_newa (atype := .long) (ty := .long) (t := 2) (N := 36) (a0 := (36, .inr (.inl fun _ => 0))) (r := (11, i, 0)) hn h1 (by show 11 < 30; decide) dX3_init_7 ac_l rfl (fun _ => rfl) (fun _ => rfl) (fun tc ad => he_L rfl) (by decide) (by decide) (Nat.le_of_ble_eq_true rfl) hc (qmn_G fun x h => h) (ls_1 (P := fun v => v ≠ .inr (11, i, 0)) (inr_ne (by show 10 ≠ 11; decide))) (st_1 (P := fun v => v ≠ .inr (11, i, 0)) (inr_ne (by show 10 ≠ 11; decide))) (Nat.le_of_ble_eq_true rfl) (Nat.le_of_ble_eq_true rfl) ?_
  refine z_putR (ci := 3) (j := 0) (r := (10, i, 0)) (y := (11, i, 0)) n1 dX3_init_9 fl_X3_9 (m_l hr) rfl rfl rfl rfl (fun _ => rfl) (fun _ => rfl) ?_
  refine z_aload_n (i := 0) dX3_init_12 rfl rfl ?_
  refine z_iconst (v := (4 : Int32)) dX3_init_13 (by decide) ?_
  refine z_putI n1 dX3_init_14 fl_X3_15 (m_l hr) rfl rfl ?_
  refine z_nret2 dX3_init_17 rfl (Nat.le_of_ble_eq_true rfl) (Nat.le_of_ble_eq_true rfl) (fun x _ => ?_) (fun x => Iff.rfl)
  by_cases e1 : x = (10, i, 0)
  · subst e1
    have g : g3 i (10, i, 0) = true := by simp [g3]
    refine ⟨fun j hj => ?_, fun j => ?_, fun j => ?_⟩
    · have hj0 : j = 0 := by
        have hj : ([true, false, false, false] : List Bool)[j]? = some true := hj
        match j, hj with
        | 0, _ => rfl
        | 1, h => cases h
        | 2, h => cases h
        | 3, h => cases h
      subst hj0
      rw [shP_s, shG, if_pos g]; rfl
    · show (if g3 i (10, i, 0) = true then MI.1 (10, i, 0) j else M.1 (10, i, 0) j) = _
      rw [if_pos g]
      by_cases ej : j = 1
      · subst ej; rw [g_row, upd_s]; rfl
      · rw [g_row, upd_o ej, (mN_o d1 j).1, hz.1]
        show (if 10 = 10 ∧ j = 1 then (4 : Int32) else if 10 = 3 ∧ j = 8 then -1 else 0) = 0
        rw [if_neg (fun c => ej c.2), if_neg (fun c => absurd c.1 (by decide))]
    · show (if g3 i (10, i, 0) = true then MI.2 (10, i, 0) j else M.2 (10, i, 0) j) = _
      rw [if_pos g]
      exact ((mN_o d1 j).2.trans (hz.2 j)).symm
  · by_cases e2 : x = (11, i, 0)
    · subst e2
      have g : g3 i (11, i, 0) = true := by simp [g3]
      refine ⟨fun j hj => ?_, fun j => ?_, fun j => ?_⟩
      · have hj : 4 ≤ 2 ∧ j < 36 := hj
        exact absurd hj.1 (by decide)
      · show (if g3 i (11, i, 0) = true then MI.1 (11, i, 0) j else M.1 (11, i, 0) j) = _
        rw [if_pos g, putI_ne d1.symm]
        exact (if_pos rfl).symm
      · show (if g3 i (11, i, 0) = true then MI.2 (11, i, 0) j else M.2 (11, i, 0) j) = _
        rw [if_pos g]
        exact (if_pos rfl).symm
    · have g : g3 i x = false := by simp [g3, e1, e2]
      refine ⟨fun j _ => ?_, fun j => ?_, fun j => ?_⟩
      · rw [shP_o (fun c => e1 c.1), shN_o e2, shG, if_neg (by rw [g]; decide)]
      · show (if g3 i x = true then MI.1 x j else M.1 x j) = _
        rw [if_neg (by rw [g]; decide), putI_ne e1]
        exact (mN_o e2 j).1.symm
      · show (if g3 i x = true then MI.2 x j else M.2 x j) = _
        rw [if_neg (by rw [g]; decide)]
        exact (mN_o e2 j).2.symm

