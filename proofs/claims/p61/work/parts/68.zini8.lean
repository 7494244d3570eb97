/-! Box: its constructor, for any place i -/
theorem dX0_init_0 : decode cX0_init 0 = .ok (.aload_n 0, 1) := by decide +kernel
theorem dX0_init_1 : decode cX0_init 1 = .ok (.invokespecial 3, 3) := by decide +kernel
theorem dX0_init_4 : decode cX0_init 4 = .ok (.aload_n 0, 1) := by decide +kernel
theorem dX0_init_5 : decode cX0_init 5 = .ok (.new 9, 3) := by decide +kernel
theorem dX0_init_8 : decode cX0_init 8 = .ok (.dup, 1) := by decide +kernel
theorem dX0_init_9 : decode cX0_init 9 = .ok (.invokespecial 11, 3) := by decide +kernel
theorem dX0_init_12 : decode cX0_init 12 = .ok (.putfield 12, 3) := by decide +kernel
theorem dX0_init_15 : decode cX0_init 15 = .ok (.aload_n 0, 1) := by decide +kernel
theorem dX0_init_16 : decode cX0_init 16 = .ok (.bipush 12, 2) := by decide +kernel
theorem dX0_init_18 : decode cX0_init 18 = .ok (.anewarray 18, 3) := by decide +kernel
theorem dX0_init_21 : decode cX0_init 21 = .ok (.putfield 20, 3) := by decide +kernel
theorem dX0_init_24 : decode cX0_init 24 = .ok (.iconst 0, 1) := by decide +kernel
theorem dX0_init_25 : decode cX0_init 25 = .ok (.istore_n 1, 1) := by decide +kernel
theorem dX0_init_26 : decode cX0_init 26 = .ok (.iload_n 1, 1) := by decide +kernel
theorem dX0_init_27 : decode cX0_init 27 = .ok (.bipush 12, 2) := by decide +kernel
theorem dX0_init_29 : decode cX0_init 29 = .ok (.if_icmp .ge 22, 3) := by decide +kernel
theorem dX0_init_32 : decode cX0_init 32 = .ok (.aload_n 0, 1) := by decide +kernel
theorem dX0_init_33 : decode cX0_init 33 = .ok (.getfield 20, 3) := by decide +kernel
theorem dX0_init_36 : decode cX0_init 36 = .ok (.iload_n 1, 1) := by decide +kernel
theorem dX0_init_37 : decode cX0_init 37 = .ok (.new 18, 3) := by decide +kernel
theorem dX0_init_40 : decode cX0_init 40 = .ok (.dup, 1) := by decide +kernel
theorem dX0_init_41 : decode cX0_init 41 = .ok (.invokespecial 24, 3) := by decide +kernel
theorem dX0_init_44 : decode cX0_init 44 = .ok (.aastore, 1) := by decide +kernel
theorem dX0_init_45 : decode cX0_init 45 = .ok (.iinc 1 1, 3) := by decide +kernel
theorem dX0_init_48 : decode cX0_init 48 = .ok (.goto (-22), 3) := by decide +kernel
theorem dX0_init_51 : decode cX0_init 51 = .ok (.return_, 1) := by decide +kernel
theorem ow_0 : Cond.methodLink RX0 3 Lib.objectInit ∈ AL := al_mc al_c1 127 rfl (by decide +kernel)
theorem cw_0_9 : Cond.classLink RX0 9 (Rc 3) ∈ AL ∧ Cond.instantiable (Rc 3) (Nc 3) ∈ AL ∧ Cond.initialized (Rc 3) ∈ AL := ⟨al_mc al_c1 128 rfl (by decide +kernel), al_mc al_c1 129 rfl (by decide +kernel), al_mc al_c1 7 rfl (by decide +kernel)⟩
theorem cw_0_18 : Cond.classLink RX0 18 (Rc 8) ∈ AL ∧ Cond.instantiable (Rc 8) (Nc 8) ∈ AL ∧ Cond.initialized (Rc 8) ∈ AL := ⟨al_mc al_c1 155 rfl (by decide +kernel), al_mc al_c1 157 rfl (by decide +kernel), al_mc al_c1 8 rfl (by decide +kernel)⟩
theorem cq_0_18 : Cond.classLink RX0 18 RX8 ∈ AL ∧ Cond.arrayOver (.object RX8) ∈ nsw := ⟨al_mc al_c1 155 rfl (by decide +kernel), by decide +kernel⟩
def bxT (i t : Nat) : List Rf := (10, i, 0) :: (11, i, 0) :: (12, i, 0) :: (List.range t).map (fun t => (13, i, t))
def bx (i : Nat) : List Rf := bxT i 12
theorem rg_at : ∀ t, t < 12 → List.range 12 = List.range t ++ t :: (List.range 12).drop (t + 1) := by decide +kernel
theorem bxi_at {i t : Nat} (h : t < 12) : bx i = bxT i t ++ (13, i, t) :: ((List.range 12).drop (t + 1)).map (fun t => (13, i, t)) := by
  have h1 := congrArg (List.map (fun t => ((13, i, t) : Rf))) (rg_at t h)
  rw [List.map_append, List.map_cons] at h1
  show (10, i, 0) :: (11, i, 0) :: (12, i, 0) :: (List.range 12).map (fun t => ((13, i, t) : Rf)) = _
  rw [h1]
  rfl
theorem bxT_s (i t : Nat) : bxT i (t + 1) = bxT i t ++ [(13, i, t)] := by
  unfold bxT
  rw [List.range_succ, List.map_append]
  rfl
theorem nd_p {rs a b : List Rf} (h : (rs ++ (a ++ b)).Nodup) : (rs ++ a).Nodup := by
  rw [← List.append_assoc] at h
  exact (List.nodup_append.mp h).1
theorem nm_p {rs a b : List Rf} {r : Rf} (h : (rs ++ (a ++ r :: b)).Nodup) : r ∉ rs ++ a := by
  rw [← List.append_assoc] at h
  intro hm
  exact (List.nodup_append.mp h).2.2 r hm r List.mem_cons_self rfl
def g9 (i : Nat) (x : Rf) : Bool := decide (x = (9, i, 0) ∨ x ∈ bx i)
theorem g9_t {i : Nat} {x : Rf} (h : x = (9, i, 0) ∨ x ∈ bx i) : g9 i x = true := decide_eq_true h
theorem g9_f {rs : List Rf} {i : Nat} {x : Rf} (hn : (rs ++ bx i).Nodup) (hx : x ∈ rs) (h9 : x ≠ (9, i, 0)) : g9 i x = false := decide_eq_false (fun h => h.elim h9 (fun h => (List.nodup_append.mp hn).2.2 x hx x h rfl))
theorem bx_10 {i : Nat} : (10, i, 0) ∈ bx i := List.mem_cons_self
theorem bx_11 {i : Nat} : (11, i, 0) ∈ bx i := List.mem_cons_of_mem _ List.mem_cons_self
theorem bx_12 {i : Nat} : (12, i, 0) ∈ bx i := List.mem_cons_of_mem _ (List.mem_cons_of_mem _ List.mem_cons_self)
theorem bxT_12 {i t : Nat} : (12, i, 0) ∈ bxT i t := List.mem_cons_of_mem _ (List.mem_cons_of_mem _ List.mem_cons_self)
theorem bxT_13 {i t k : Nat} (h : k < t) : (13, i, k) ∈ bxT i t := List.mem_cons_of_mem _ (List.mem_cons_of_mem _ (List.mem_cons_of_mem _ (List.mem_map.mpr ⟨k, List.mem_range.mpr h, rfl⟩)))
theorem bxT_in {i t : Nat} {x : Rf} (h : x ∈ bxT i t) : x = (10, i, 0) ∨ x = (11, i, 0) ∨ x = (12, i, 0) ∨ ∃ k, k < t ∧ x = (13, i, k) := by
  rcases List.mem_cons.mp h with h | h
  · exact Or.inl h
  · rcases List.mem_cons.mp h with h | h
    · exact Or.inr (Or.inl h)
    · rcases List.mem_cons.mp h with h | h
      · exact Or.inr (Or.inr (Or.inl h))
      · obtain ⟨k, h1, h2⟩ := List.mem_map.mp h
        exact Or.inr (Or.inr (Or.inr ⟨k, List.mem_range.mp h1, h2.symm⟩))
theorem he_Q {tc : Nat → ClassId} {ad : Rf → Nat} {sh : Sh} {M : Mm} {r : Rf} {t n : Nat} (hk : kd r = .inr (t + 4, n)) : ent tc ad (shN sh r) (mN M r) r = .inl (tc (t + 4), n, .inr (.inr (.inr (.inr fun _ => none)))) := by
  unfold ent
  rw [hk]
  show Sum.inl (tc (t + 4), n, Sum.inr (Sum.inr (Sum.inr (Sum.inr (fun j => if j < n then (shN sh r r j).map ad else none))))) = _
  rw [show (fun j => if j < n then (shN sh r r j).map ad else none) = fun _ => none from funext fun j => by rw [show shN sh r r j = none from if_pos rfl]; split <;> rfl]
def shL (i t : Nat) (sh : Sh) : Sh := fun x j => if x = (12, i, 0) then (if j < t then some (13, i, j) else none) else shG (g9 i) sh x j
theorem shL_12 {i t j : Nat} {sh : Sh} : shL i t sh (12, i, 0) j = if j < t then some (13, i, j) else none := if_pos rfl
theorem shL_o {i t j : Nat} {sh : Sh} {x : Rf} (h : x ≠ (12, i, 0)) : shL i t sh x j = shG (g9 i) sh x j := if_neg h
theorem shG_t {g : Rf → Bool} {sh : Sh} {x : Rf} {j : Nat} (h : g x = true) : shG g sh x j = SH x j := if_pos h
theorem shG_f {g : Rf → Bool} {sh : Sh} {x : Rf} {j : Nat} (h : g x = false) : shG g sh x j = sh x j := if_neg (by rw [h]; decide)
theorem mG_t {g : Rf → Bool} {M : Mm} {x : Rf} {j : Nat} (h : g x = true) : (mG g M).1 x j = MI.1 x j ∧ (mG g M).2 x j = MI.2 x j := ⟨if_pos h, if_pos h⟩
theorem mG_f {g : Rf → Bool} {M : Mm} {x : Rf} {j : Nat} (h : g x = false) : (mG g M).1 x j = M.1 x j ∧ (mG g M).2 x j = M.2 x j := ⟨if_neg (by rw [h]; decide), if_neg (by rw [h]; decide)⟩
theorem mi_0 {x : Rf} (h : x.1 ≠ 10 ∧ x.1 ≠ 3) (j : Nat) : MI.1 x j = 0 := by
  show (if x.1 = 10 ∧ j = 1 then (4 : Int32) else if x.1 = 3 ∧ j = 8 then -1 else 0) = 0
  rw [if_neg (fun c => h.1 c.1), if_neg (fun c => h.2 c.1)]
theorem shC_L {rs : List Rf} {sh : Sh} {i t : Nat} (ht : t ≤ 12) (hn : (rs ++ bx i).Nodup) (hr : (9, i, 0) ∈ rs) (hc : shC sh rs) : shC (shL i t sh) (rs ++ bxT i t) := by
  intro x hx j hjr y hy
  by_cases e : x = (12, i, 0)
  · subst e
    rw [shL_12] at hy
    by_cases hj : j < t
    · rw [if_pos hj] at hy; cases hy; exact List.mem_append_right _ (bxT_13 hj)
    · rw [if_neg hj] at hy; cases hy
  · rw [shL_o e] at hy
    have m10 : (10, i, 0) ∈ rs ++ bxT i t := List.mem_append_right _ List.mem_cons_self
    have m11 : (11, i, 0) ∈ rs ++ bxT i t := List.mem_append_right _ (List.mem_cons_of_mem _ List.mem_cons_self)
    have m12 : (12, i, 0) ∈ rs ++ bxT i t := List.mem_append_right _ bxT_12
    by_cases e9 : x = (9, i, 0)
    · subst e9
      rw [shG_t (g9_t (Or.inl rfl))] at hy
      match j, hy with
      | 0, hy => cases hy; exact m10
      | j + 1, hy => cases hy; exact m12
    · rcases List.mem_append.mp hx with hx | hx
      · rw [shG_f (g9_f hn hx e9)] at hy
        exact List.mem_append_left _ (hc x hx j hjr y hy)
      · rcases bxT_in hx with h | h | h | ⟨k, hk, h⟩
        · subst h
          rw [shG_t (g9_t (Or.inr bx_10))] at hy
          cases hy; exact m11
        · subst h
          rw [shG_t (g9_t (Or.inr bx_11))] at hy
          cases hy
        · exact absurd h e
        · subst h
          have hz : shG (g9 i) sh (13, i, k) j = some y := hy
          rw [shG_t (g9_t (Or.inr (bxT_13 (Nat.lt_of_lt_of_le hk ht))))] at hz
          cases hz
theorem g9_bxT {i t : Nat} {x : Rf} (ht : t ≤ 12) (h : x ∈ bxT i t) : g9 i x = true := by
  refine g9_t (Or.inr ?_)
  rcases bxT_in h with h | h | h | ⟨k, hk, h⟩ <;> subst h
  · exact bx_10
  · exact bx_11
  · exact bx_12
  · exact bxT_13 (Nat.lt_of_lt_of_le hk ht)
theorem df_8 : ∀ j, j < Nc 8 → defaultValue (tyc 8 j) = vp_V (([false, false, false, false, false, false] : List Bool).map fun b => if b = true then .null else .int 0) j := by
  intro j hj
  match j, hj with
  | 0, _ => rfl
  | 1, _ => rfl
  | 2, _ => rfl
  | 3, _ => rfl
  | 4, _ => rfl
  | 5, _ => rfl
theorem df_3 : ∀ j, j < Nc 3 → defaultValue (tyc 3 j) = vp_V (([true, false, false, false] : List Bool).map fun b => if b = true then .null else .int 0) j := by
  intro j hj
  match j, hj with
  | 0, _ => rfl
  | 1, _ => rfl
  | 2, _ => rfl
  | 3, _ => rfl
theorem fst_no {rs : List Rf} {a b : Rf} (h : a.1 ≠ b.1) (hn : a ∉ rs) : a ∉ rs ++ [b] := nm_snoc hn (fst_ne h)
theorem ls_2 {a b : MV} {P : MV → Prop} (h1 : P a) (h2 : P b) : ∀ (i : Nat) (v : MV), [some a, some b][i]? = some (some v) → P v := by
  intro i v hi
  match i, hi with
  | 0, hi => cases hi; exact h1
  | 1, hi => cases hi; exact h2
theorem st_2 {a b : MV} {P : MV → Prop} (h1 : P a) (h2 : P b) : ∀ v ∈ [a, b], P v := fun v hv => by
  rcases List.mem_cons.mp hv with rfl | hv
  · exact h1
  · rw [List.mem_singleton.mp hv]; exact h2
theorem st_3 {a b c : MV} {P : MV → Prop} (h1 : P a) (h2 : P b) (h3 : P c) : ∀ v ∈ [a, b, c], P v := fun v hv => by
  rcases List.mem_cons.mp hv with rfl | hv
  · exact h1
  · exact st_2 h2 h3 v hv
theorem ls_1n {a : MV} {P : MV → Prop} (h : P a) : ∀ (i : Nat) (v : MV), [some a, none][i]? = some (some v) → P v := by
  intro i v hi
  match i, hi with
  | 0, hi => cases hi; exact h
  | 1, hi => cases hi
set_option maxRecDepth 20000 in
set_option maxHeartbeats 2000000 in
theorem x0_loop {rs : List Rf} {sh : Sh} {M : Mm} {i : Nat} (hn : (rs ++ bx i).Nodup) (hr : (9, i, 0) ∈ rs) (hc : shC sh rs) : ∀ n t, t + n = 12 →
    Z RX0 cX0_init 2 none [] "<init>" (rmD 2 15 124) (QMN rs (rs ++ bx i) (shG (g9 i) sh) (mG (g9 i) M) 15 124) (rs ++ bxT i t) (shL i t sh) (3 + t) (52 + 6 * t) 26 [some (.inr (9, i, 0)), some (.inl (.int (nI t)))] [] (mG (g9 i) M) := by
  intro n
  induction n with
  | zero =>
    intro t ht
    have e : t = 12 := by omega
    subst e
    refine z_iload_n (i := 1) dX0_init_26 rfl rfl ?_
    refine z_bipush (v := (12 : Int32)) dX0_init_27 (by decide) ?_
    refine z_icmp_ge (tgt := 51) dX0_init_29 rfl (fun _ => ?_) (fun h => absurd (by decide) h)
    refine z_nret2 dX0_init_51 rfl (Nat.le_of_ble_eq_true rfl) (Nat.le_of_ble_eq_true rfl) (fun x hx => ⟨fun j hj => ?_, fun j => rfl, fun j => rfl⟩) (fun x => Iff.rfl)
    by_cases e12 : x = (12, i, 0)
    · subst e12
      have hj : 4 ≤ 4 ∧ j < 12 := hj
      rw [shL_12, if_pos hj.2, shG_t (g9_t (Or.inr bx_12))]
      rfl
    · rw [shL_o e12]
  | succ n ih =>
    intro t ht
    have ht12 : t < 12 := by omega
    have hna : (rs ++ bxT i t).Nodup := nd_p (b := (13, i, t) :: ((List.range 12).drop (t + 1)).map (fun t => (13, i, t))) (by rw [← bxi_at ht12]; exact hn)
    have hnm : (13, i, t) ∉ rs ++ bxT i t := nm_p (b := ((List.range 12).drop (t + 1)).map (fun t => (13, i, t))) (by rw [← bxi_at ht12]; exact hn)
    have hcl := shC_L (t := t) (by omega) hn hr hc
    have m9 : (9, i, 0) ∈ rs ++ bxT i t := List.mem_append_left _ hr
    have m12 : (12, i, 0) ∈ rs ++ bxT i t := List.mem_append_right _ bxT_12
    refine z_iload_n (i := 1) dX0_init_26 rfl rfl ?_
    refine z_bipush (v := (12 : Int32)) dX0_init_27 (by decide) ?_
    refine z_icmp_ge (tgt := 51) dX0_init_29 rfl (fun h => absurd h (nI_ge (b := 12) ht12 (by decide))) (fun _ => ?_)
    refine z_aload_n (i := 0) dX0_init_32 rfl rfl ?_
    refine z_getR (r := (9, i, 0)) (r' := (12, i, 0)) (ci := 0) (j := 1) dX0_init_33 fl_X0_20 m9 rfl (by rw [shL_o (fst_ne (by show (9 : Nat) ≠ 12; decide)), shG_t (g9_t (Or.inl rfl))]; rfl) ?_
    refine z_iload_n (i := 1) dX0_init_36 rfl rfl ?_
    refine z_new (ci := 8) (r := (13, i, t)) (ks := [false, false, false, false, false, false]) hna hnm (by show 13 < 30; decide) dX0_init_37 cw_0_18 rfl (by decide) df_8 hcl (qmn_G fun x h => List.mem_append_left _ h) (ls_2 (P := fun v => v ≠ .inr (13, i, t)) (inr_ne (by show (9 : Nat) ≠ 13; decide)) inl_ne) (st_2 (P := fun v => v ≠ .inr (13, i, t)) inl_ne (inr_ne (by show (12 : Nat) ≠ 13; decide))) (by show 3 + t + 1 ≤ 15; omega) (by show 52 + 6 * t + 6 ≤ 124; omega) ?_
    refine z_dup dX0_init_40 rfl ?_
    refine z_callIN (av := []) nX8 dX0_init_41 ml_X0_24 cd_X8_init rfl rfl ⟨by decide, by decide, by show 3 + t + 1 + 0 ≤ 15; omega, by show 52 + 6 * t + 6 + 0 ≤ 124; omega⟩ (Nat.le_of_ble_eq_true rfl) rfl (qmn_G fun x h => List.mem_append_left _ (List.mem_append_left _ h)) (ls_2 (P := inR _) (Or.inl (m_l m9)) trivial) (st_3 (P := inR _) (Or.inl m_r) trivial (Or.inl (m_l m12))) ?_
    refine z_aast (t := 0) (n := 12) (ci := 8) (j := t) (nd_snoc hna hnm) dX0_init_44 (m_l m12) m_r rfl rfl (by decide) (fun _ => rfl) (nI_in ht12 (by decide)) (nI_clamp (by omega)) ?_
    refine z_iinc (i := 1) (v := nI (t + 1)) dX0_init_45 rfl (nI_succ t).symm (by decide) rfl ?_
    refine z_goto (tgt := 26) dX0_init_48 rfl ?_
    have ihx := ih (t + 1) (by omega)
    rw [show 3 + (t + 1) = 3 + t + 1 + 0 by omega, show 52 + 6 * (t + 1) = 52 + 6 * t + 6 + 0 by omega] at ihx
    refine z_pic (fun x hx => ⟨fun j hj => ?_, fun j => ?_, fun j => ?_⟩) (fun x => by rw [bxT_s, List.append_assoc]) ihx
    · by_cases e12 : x = (12, i, 0)
      · subst e12
        rw [shL_12]
        by_cases ej : j = t
        · subst ej
          rw [shP_s, if_pos (Nat.lt_succ_self _)]
        · rw [shP_o (fun c => ej c.2), shN_o (fst_ne (by show (12 : Nat) ≠ 13; decide)), shL_12]
          by_cases e2 : j < t
          · rw [if_pos e2, if_pos (by omega)]
          · rw [if_neg e2, if_neg (by omega)]
      · rw [shL_o e12, shP_o (fun c => e12 c.1)]
        by_cases e13 : x = (13, i, t)
        · subst e13
          exact absurd hj (by show ¬ ([false, false, false, false, false, false] : List Bool)[j]? = some true; match j with | 0 => decide | 1 => decide | 2 => decide | 3 => decide | 4 => decide | 5 => decide | j + 6 => simp)
        · rw [shN_o e13, shL_o e12]
    · by_cases e13 : x = (13, i, t)
      · subst e13
        rw [(mG_t (g9_bxT (t := t + 1) (by omega) (bxT_13 (Nat.lt_succ_self _)))).1, mi_0 ⟨by show (13 : Nat) ≠ 10; decide, by show (13 : Nat) ≠ 3; decide⟩]
        exact (if_pos rfl).symm
      · exact (mN_o e13 j).1.symm
    · by_cases e13 : x = (13, i, t)
      · subst e13
        rw [(mG_t (g9_bxT (t := t + 1) (by omega) (bxT_13 (Nat.lt_succ_self _)))).2]
        exact (if_pos rfl).symm
      · exact (mN_o e13 j).2.symm
set_option maxRecDepth 20000 in
set_option maxHeartbeats 2000000 in
theorem nY0 {rs : List Rf} {sh : Sh} {M : Mm} {i : Nat} (hn : (rs ++ bx i).Nodup) (hr : (9, i, 0) ∈ rs) (hc : shC sh rs) (hz : Zr M (9, i, 0)) : TriN yX0_init cX0_init 2 2 15 124 rs sh [.inr (9, i, 0)] M (rs ++ bx i) (shG (g9 i) sh) (mG (g9 i) M) := by
  have n0 : rs.Nodup := (List.nodup_append.mp hn).1
  have a10 : (10, i, 0) ∉ rs := by
    have := nm_p (a := []) (b := (11, i, 0) :: (12, i, 0) :: (List.range 12).map (fun t => (13, i, t))) (r := (10, i, 0)) hn
    rwa [List.append_nil] at this
  have n1 := nd_snoc n0 a10
  have a11 : (11, i, 0) ∉ rs ++ [(10, i, 0)] := nm_p (a := [(10, i, 0)]) (b := (12, i, 0) :: (List.range 12).map (fun t => (13, i, t))) (r := (11, i, 0)) hn
  have n2 := nd_snoc n1 a11
  have a12 : (12, i, 0) ∉ (rs ++ [(10, i, 0)]) ++ [(11, i, 0)] := by
    have := nm_p (a := [(10, i, 0), (11, i, 0)]) (b := (List.range 12).map (fun t => (13, i, t))) (r := (12, i, 0)) hn
    rwa [List.append_assoc]
  have n3 := nd_snoc n2 a12
  have c1 := shC_N (r := (10, i, 0)) hc
  have q10 : (10, i, 0) ∈ (rs ++ [(10, i, 0)]) ++ [(11, i, 0)] := m_l m_r
  have c2 : shC (shG (g3 i) (shN sh (10, i, 0))) ((rs ++ [(10, i, 0)]) ++ [(11, i, 0)]) := by
    intro x hx j hjr y hy
    by_cases e : g3 i x = true
    · rw [shG_t e] at hy
      unfold g3 at e
      simp only [Bool.or_eq_true, beq_iff_eq] at e
      rcases e with e | e
      · subst e; cases hy; exact m_r
      · subst e; cases hy
    · have e : g3 i x = false := by simpa using e
      rw [shG_f e] at hy
      rcases List.mem_append.mp hx with h | h
      · exact m_l (c1 x h j hjr y hy)
      · rw [List.mem_singleton.mp h] at e
        simp [g3] at e
  have c3 := shC_P (r := (9, i, 0)) (j := 0) c2 q10
  have r1 : (9, i, 0) ∈ rs ++ [(10, i, 0)] := m_l hr
  refine TriN.go (own := RX0) (nme := "<init>") (n := 1) (ls := [some (.inr (9, i, 0)), none]) (by decide) rfl rfl rfl rfl ?_
  refine z_aload_n (i := 0) dX0_init_0 rfl rfl ?_
  refine z_objI dX0_init_1 ⟨ow_0, ow_i, ow_c⟩ (by decide) (Nat.le_of_ble_eq_true rfl) ?_
  refine z_aload_n (i := 0) dX0_init_4 rfl rfl ?_
  refine z_new (ci := 3) (r := (10, i, 0)) (ks := [true, false, false, false]) n0 a10 (by show 10 < 30; decide) dX0_init_5 cw_0_9 rfl (by decide) df_3 hc (qmn_G fun x h => h) (ls_1n (P := fun v => v ≠ .inr (10, i, 0)) (inr_ne (by show (9 : Nat) ≠ 10; decide))) (st_1 (P := fun v => v ≠ .inr (10, i, 0)) (inr_ne (by show (9 : Nat) ≠ 10; decide))) (by decide) (by decide) ?_
  refine z_dup dX0_init_8 rfl ?_
  refine z_callIN (av := []) (nY3 n1 c1 m_r a11 zr_N) dX0_init_9 ml_X0_11 cd_X3_init rfl rfl ⟨by decide, by decide, by decide, by decide⟩ (Nat.le_of_ble_eq_true rfl) rfl (qmn_G fun x h => m_l h) (ls_1n (P := inR _) (Or.inl r1)) (st_2 (P := inR _) (Or.inl m_r) (Or.inl r1)) ?_
  refine z_putR (ci := 0) (j := 0) (r := (9, i, 0)) (y := (10, i, 0)) n2 dX0_init_12 fl_X0_12 (m_l r1) rfl rfl rfl rfl (fun _ => rfl) (fun _ => rfl) ?_
  refine z_aload_n (i := 0) dX0_init_15 rfl rfl ?_
  refine z_bipush (v := (12 : Int32)) dX0_init_16 (by decide) ?_
  refine z_newq (t := 4) (N := 12) (r := (12, i, 0)) n2 a12 (by show 12 < 30; decide) dX0_init_18 cq_0_18 (fun _ => rfl) (fun tc ad => he_Q rfl) (by decide) (by decide) (by decide) c3 (qmn_G fun x h => m_l (m_l h)) (ls_1n (P := fun v => v ≠ .inr (12, i, 0)) (inr_ne (by show (9 : Nat) ≠ 12; decide))) (st_1 (P := fun v => v ≠ .inr (12, i, 0)) (inr_ne (by show (9 : Nat) ≠ 12; decide))) (by decide) (by decide) ?_
  refine z_putR (ci := 0) (j := 1) (r := (9, i, 0)) (y := (12, i, 0)) n3 dX0_init_21 fl_X0_20 (m_l (m_l r1)) rfl rfl rfl rfl (fun _ => rfl) (fun _ => rfl) ?_
  refine z_iconst (v := (0 : Int32)) dX0_init_24 (by decide) ?_
  refine z_istore_n (i := 1) dX0_init_25 rfl (by decide) rfl ?_
  have d910 : ((9, i, 0) : Rf) ≠ (10, i, 0) := fst_ne (by show (9 : Nat) ≠ 10; decide)
  have d911 : ((9, i, 0) : Rf) ≠ (11, i, 0) := fst_ne (by show (9 : Nat) ≠ 11; decide)
  have d912 : ((9, i, 0) : Rf) ≠ (12, i, 0) := fst_ne (by show (9 : Nat) ≠ 12; decide)
  have g39 : g3 i (9, i, 0) = false := by simp [g3]
  have g310 : g3 i (10, i, 0) = true := by simp [g3]
  have g311 : g3 i (11, i, 0) = true := by simp [g3]
  refine z_pic (fun x hx => ?_) (fun x => ?_) (x0_loop hn hr hc 12 0 rfl)
  · by_cases e9 : x = (9, i, 0)
    · subst e9
      refine ⟨fun j hj => ?_, fun j => ?_, fun j => ?_⟩
      · have hj : ([true, true, false, false, false, false, false, false, false, false] : List Bool)[j]? = some true := hj
        rw [shL_o d912, shG_t (g9_t (Or.inl rfl))]
        match j, hj with
        | 0, _ => rw [shP_o (fun c => absurd c.2 (by decide)), shN_o d912, shP_s]; rfl
        | 1, _ => rw [shP_s]; rfl
        | j + 2, h => exact absurd h (by match j with | 0 => decide | 1 => decide | 2 => decide | 3 => decide | 4 => decide | 5 => decide | 6 => decide | 7 => decide | j + 8 => simp)
      · rw [(mG_t (g9_t (Or.inl rfl))).1, mi_0 ⟨by show (9 : Nat) ≠ 10; decide, by show (9 : Nat) ≠ 3; decide⟩, (mN_o d912 j).1, (mG_f g39).1, (mN_o d910 j).1, hz.1]
      · rw [(mG_t (g9_t (Or.inl rfl))).2, (mN_o d912 j).2, (mG_f g39).2, (mN_o d910 j).2, hz.2]; rfl
    · by_cases e12 : x = (12, i, 0)
      · subst e12
        refine ⟨fun j hj => ?_, fun j => ?_, fun j => ?_⟩
        · rw [shL_12, if_neg (Nat.not_lt_zero j), shP_o (fun c => e9 c.1)]
          exact (if_pos rfl).symm
        · rw [(mG_t (g9_t (Or.inr bx_12))).1, mi_0 ⟨by show (12 : Nat) ≠ 10; decide, by show (12 : Nat) ≠ 3; decide⟩]
          exact (if_pos rfl).symm
        · rw [(mG_t (g9_t (Or.inr bx_12))).2]
          exact (if_pos rfl).symm
      · by_cases g : g3 i x = true
        · have hb : x ∈ bx i := by
            have g2 := g
            unfold g3 at g2
            simp only [Bool.or_eq_true, beq_iff_eq] at g2
            rcases g2 with h | h
            · rw [h]; exact bx_10
            · rw [h]; exact bx_11
          refine ⟨fun j hj => ?_, fun j => ?_, fun j => ?_⟩
          · rw [shL_o e12, shG_t (g9_t (Or.inr hb)), shP_o (fun c => e9 c.1), shN_o e12, shP_o (fun c => e9 c.1), shG_t g]
          · rw [(mG_t (g9_t (Or.inr hb))).1, (mN_o e12 j).1, (mG_t g).1]
          · rw [(mG_t (g9_t (Or.inr hb))).2, (mN_o e12 j).2, (mG_t g).2]
        · have g : g3 i x = false := by simpa using g
          have e10 : x ≠ (10, i, 0) := fun c => by rw [c, g310] at g; cases g
          have e11 : x ≠ (11, i, 0) := fun c => by rw [c, g311] at g; cases g
          have hxr : x ∈ rs := by
            rcases List.mem_append.mp hx with h | h
            · rcases List.mem_append.mp h with h | h
              · rcases List.mem_append.mp h with h | h
                · exact h
                · exact absurd (List.mem_singleton.mp h) e10
              · exact absurd (List.mem_singleton.mp h) e11
            · exact absurd (List.mem_singleton.mp h) e12
          have gf := g9_f hn hxr e9
          refine ⟨fun j hj => ?_, fun j => ?_, fun j => ?_⟩
          · rw [shL_o e12, shG_f gf, shP_o (fun c => e9 c.1), shN_o e12, shP_o (fun c => e9 c.1), shG_f g, shN_o e10]
          · rw [(mG_f gf).1, (mN_o e12 j).1, (mG_f g).1, (mN_o e10 j).1]
          · rw [(mG_f gf).2, (mN_o e12 j).2, (mG_f g).2, (mN_o e10 j).2]
  · rw [List.append_assoc, List.append_assoc]
    exact Iff.rfl

