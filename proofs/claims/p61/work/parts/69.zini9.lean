/-! History: its constructor, at its place in the order of making -/
theorem dX2_init_0 : decode cX2_init 0 = .ok (.aload_n 0, 1) := by decide +kernel
theorem dX2_init_1 : decode cX2_init 1 = .ok (.invokespecial 1, 3) := by decide +kernel
theorem dX2_init_4 : decode cX2_init 4 = .ok (.aload_n 0, 1) := by decide +kernel
theorem dX2_init_5 : decode cX2_init 5 = .ok (.bipush 8, 2) := by decide +kernel
theorem dX2_init_7 : decode cX2_init 7 = .ok (.anewarray 9, 3) := by decide +kernel
theorem dX2_init_10 : decode cX2_init 10 = .ok (.putfield 11, 3) := by decide +kernel
theorem dX2_init_13 : decode cX2_init 13 = .ok (.iconst 0, 1) := by decide +kernel
theorem dX2_init_14 : decode cX2_init 14 = .ok (.istore_n 1, 1) := by decide +kernel
theorem dX2_init_15 : decode cX2_init 15 = .ok (.iload_n 1, 1) := by decide +kernel
theorem dX2_init_16 : decode cX2_init 16 = .ok (.bipush 8, 2) := by decide +kernel
theorem dX2_init_18 : decode cX2_init 18 = .ok (.if_icmp .ge 22, 3) := by decide +kernel
theorem dX2_init_21 : decode cX2_init 21 = .ok (.aload_n 0, 1) := by decide +kernel
theorem dX2_init_22 : decode cX2_init 22 = .ok (.getfield 11, 3) := by decide +kernel
theorem dX2_init_25 : decode cX2_init 25 = .ok (.iload_n 1, 1) := by decide +kernel
theorem dX2_init_26 : decode cX2_init 26 = .ok (.new 9, 3) := by decide +kernel
theorem dX2_init_29 : decode cX2_init 29 = .ok (.dup, 1) := by decide +kernel
theorem dX2_init_30 : decode cX2_init 30 = .ok (.invokespecial 15, 3) := by decide +kernel
theorem dX2_init_33 : decode cX2_init 33 = .ok (.aastore, 1) := by decide +kernel
theorem dX2_init_34 : decode cX2_init 34 = .ok (.iinc 1 1, 3) := by decide +kernel
theorem dX2_init_37 : decode cX2_init 37 = .ok (.goto (-22), 3) := by decide +kernel
theorem dX2_init_40 : decode cX2_init 40 = .ok (.return_, 1) := by decide +kernel
theorem ow_2 : Cond.methodLink RX2 1 Lib.objectInit ∈ AL := al_mc al_c2 21 rfl (by decide +kernel)
theorem cw_2_9 : Cond.classLink RX2 9 (Rc 0) ∈ AL ∧ Cond.instantiable (Rc 0) (Nc 0) ∈ AL ∧ Cond.initialized (Rc 0) ∈ AL := ⟨al_mc al_c2 22 rfl (by decide +kernel), al_mc al_c1 123 rfl (by decide +kernel), al_mc al_c1 6 rfl (by decide +kernel)⟩
theorem cq_2_9 : Cond.classLink RX2 9 RX0 ∈ AL ∧ Cond.arrayOver (.object RX0) ∈ nsw := ⟨al_mc al_c2 22 rfl (by decide +kernel), by decide +kernel⟩
/-! the final picture, cut down to what is there -/
def shM (K : List Rf) : Sh := fun x j => match SH x j with
  | some y => if y ∈ K then some y else none
  | none => none
theorem shC_M {K : List Rf} : shC (shM K) K := by
  intro x _ j _ y h
  unfold shM at h
  split at h
  · rename_i z _
    by_cases e : z ∈ K
    · rw [if_pos e] at h; cases h; exact e
    · rw [if_neg e] at h; cases h
  · cases h
/-- the same, but for the class's own object -/
def shU (rs K : List Rf) : Sh := fun x j => if x = (0, 0, 0) then shM K x j else shM rs x j
theorem shC_U {rs K : List Rf} (h : ∀ x ∈ K, x ∈ rs) : shC (shU rs K) rs := by
  intro x hx j hjr y hy
  unfold shU at hy
  by_cases e : x = (0, 0, 0)
  · rw [if_pos e] at hy
    have h2 : ∀ (x : Rf) (j : Nat) (y : Rf), shM K x j = some y → y ∈ K := fun x j y hy => by
      unfold shM at hy
      split at hy
      · rename_i z _
        by_cases e : z ∈ K
        · rw [if_pos e] at hy; cases hy; exact e
        · rw [if_neg e] at hy; cases hy
      · cases hy
    exact h y (h2 x j y hy)
  · rw [if_neg e] at hy
    exact shC_M x hx j hjr y hy
def kdl (x : Rf) : Nat := match kd x with
  | .inl (_, ks) => ks.length
  | .inr (k, n) => if 4 ≤ k then n else 0
def rfb (x : Rf) (j : Nat) : Bool := match kd x with
  | .inl (_, ks) => ks[j]? == some true
  | .inr (k, n) => decide (4 ≤ k) && decide (j < n)
theorem rfb_of {x : Rf} {j : Nat} (h : rfc x j) : rfb x j = true ∧ j < kdl x := by
  unfold rfc at h
  unfold rfb kdl
  cases e : kd x with
  | inl p =>
    obtain ⟨c, ks⟩ := p
    rw [e] at h
    dsimp only at h ⊢
    exact ⟨by rw [h]; rfl, (List.getElem?_eq_some_iff.mp h).1⟩
  | inr p =>
    obtain ⟨k, n⟩ := p
    rw [e] at h
    dsimp only at h ⊢
    rw [if_pos h.1]
    exact ⟨by simp [h.1, h.2], h.2⟩
def agB (rs : List Rf) (sh sh' : Sh) : Bool := rs.all fun x => (List.range (kdl x)).all fun j => !rfb x j || (sh' x j == sh x j)
theorem agB_spec {rs : List Rf} {sh sh' : Sh} {M : Mm} (h : agB rs sh sh' = true) : ∀ x ∈ rs, AgR sh sh' M M x := by
  intro x hx
  refine ⟨fun j hj => ?_, fun _ => rfl, fun _ => rfl⟩
  have h1 := List.all_eq_true.mp h x hx
  obtain ⟨e1, e2⟩ := rfb_of hj
  have h2 := List.all_eq_true.mp h1 j (List.mem_range.mpr e2)
  rw [e1] at h2
  simpa using h2
theorem mi2 {x : Rf} {j : Nat} : MI.2 x j = 0 := rfl
theorem mGN {g : Rf → Bool} {r : Rf} (h : g r = true) : mG g (mN MI r) = MI := by
  refine Prod.ext (funext fun x => funext fun j => ?_) (funext fun x => funext fun j => ?_)
  · by_cases e : g x = true
    · exact if_pos e
    · rw [show (mG g (mN MI r)).1 x j = (mN MI r).1 x j from if_neg e]
      exact (mN_o (fun c : x = r => e (by rw [c]; exact h)) j).1
  · by_cases e : g x = true
    · exact if_pos e
    · rw [show (mG g (mN MI r)).2 x j = (mN MI r).2 x j from if_neg e]
      exact (mN_o (fun c : x = r => e (by rw [c]; exact h)) j).2
theorem mNI {r : Rf} (h : r.1 ≠ 10 ∧ r.1 ≠ 3) : mN MI r = MI := by
  refine Prod.ext (funext fun x => funext fun j => ?_) (funext fun x => funext fun j => ?_)
  · by_cases e : x = r
    · subst e
      rw [mi_0 h]
      exact if_pos rfl
    · exact (mN_o e j).1
  · by_cases e : x = r
    · subst e
      exact if_pos rfl
    · exact (mN_o e j).2
/-! the order of making -/
def K0 : List Rf := [(0, 0, 0)]
def K1 : List Rf := (K0 ++ [(1, 0, 0)]) ++ [(2, 0, 0)]
def K2 : List Rf := (K1 ++ [(1, 1, 0)]) ++ [(2, 1, 0)]
def K3 : List Rf := (((((K2 ++ [(3, 0, 0)]) ++ [(4, 0, 0)]) ++ [(4, 1, 0)]) ++ [(4, 2, 0)]) ++ [(4, 3, 0)])
def K4 : List Rf := (((((K3 ++ [(7, 0, 0)]) ++ [(8, 0, 0)]) ++ [(8, 1, 0)]) ++ [(8, 2, 0)]) ++ [(8, 3, 0)])
def K5 : List Rf := (K4 ++ [(9, 0, 0)]) ++ bx 0
def K6 : List Rf := (K5 ++ [(9, 1, 0)]) ++ bx 1
def K7 : List Rf := K6 ++ [(5, 0, 0)]
def K8 : List Rf := K7 ++ [(6, 0, 0)]
def bxs (a t : Nat) : List Rf := (List.range t).flatMap (fun k => (9, a + k, 0) :: bx (a + k))
theorem bxs_s (a t : Nat) : bxs a (t + 1) = (bxs a t ++ [(9, a + t, 0)]) ++ bx (a + t) := by
  unfold bxs
  rw [List.range_succ, List.flatMap_append, List.append_assoc]
  simp
def KH (t : Nat) : List Rf := ((K8 ++ [(14, 0, 0)]) ++ [(15, 0, 0)]) ++ bxs 2 t
theorem KH_s (t : Nat) : KH (t + 1) = (KH t ++ [(9, 2 + t, 0)]) ++ bx (2 + t) := by
  unfold KH
  rw [bxs_s]
  simp only [List.append_assoc]
theorem KH_nd : ∀ t, t < 8 → ((KH t ++ [(9, 2 + t, 0)]) ++ bx (2 + t)).Nodup := by decide +kernel
def shH (t : Nat) : Sh := shP (shG (g9 (2 + t)) (shN (shU (KH t) K8) (9, 2 + t, 0))) (15, 0, 0) t (some (9, 2 + t, 0))
theorem KH_ag : ∀ t, t < 8 → agB ((KH t ++ [(9, 2 + t, 0)]) ++ bx (2 + t)) (shH t) (shU (KH (t + 1)) K8) = true := by decide +kernel
theorem KH_a0 : agB ((K8 ++ [(14, 0, 0)]) ++ [(15, 0, 0)]) (shP (shN (shN (shM K8) (14, 0, 0)) (15, 0, 0)) (14, 0, 0) 0 (some (15, 0, 0))) (shU (KH 0) K8) = true := by decide +kernel
theorem KH_n0 : (K8 ++ [(14, 0, 0)]).Nodup ∧ (15, 0, 0) ∉ K8 ++ [(14, 0, 0)] := by decide +kernel
theorem KH_14 {t : Nat} : (14, 0, 0) ∈ KH t := List.mem_append_left _ (m_l m_r)
theorem KH_15 {t : Nat} : (15, 0, 0) ∈ KH t := List.mem_append_left _ m_r
theorem KH_8 {t : Nat} : ∀ x ∈ K8, x ∈ KH t := fun x h => List.mem_append_left _ (m_l (m_l h))
theorem KH_80 {t : Nat} : ∀ x ∈ K8 ++ [(14, 0, 0)], x ∈ KH t := fun x h => List.mem_append_left _ (m_l h)
theorem KH_r {t : Nat} : shU (KH t) K8 (14, 0, 0) 0 = some (15, 0, 0) := by
  show (match SH (14, 0, 0) 0 with | some y => if y ∈ KH t then some y else none | none => none) = _
  exact if_pos KH_15
theorem df_0 : ∀ j, j < Nc 0 → defaultValue (tyc 0 j) = vp_V (([true, true, false, false, false, false, false, false, false, false] : List Bool).map fun b => if b = true then .null else .int 0) j := by
  intro j hj
  match j, hj with
  | 0, _ => rfl
  | 1, _ => rfl
  | 2, _ => rfl
  | 3, _ => rfl
  | 4, _ => rfl
  | 5, _ => rfl
  | 6, _ => rfl
  | 7, _ => rfl
  | 8, _ => rfl
  | 9, _ => rfl
set_option maxRecDepth 20000 in
set_option maxHeartbeats 2000000 in
theorem x2_loop : ∀ n t, t + n = 8 →
    Z RX2 cX2_init 2 none [] "<init>" (rmD 3 129 1080) (QMN (K8 ++ [(14, 0, 0)]) (KH 8) (shU (KH 8) K8) MI 129 1080) (KH t) (shU (KH t) K8) (1 + 16 * t) (8 + 134 * t) 15 [some (.inr (14, 0, 0)), some (.inl (.int (nI t)))] [] MI := by
  intro n
  induction n with
  | zero =>
    intro t ht
    have e : t = 8 := by omega
    subst e
    refine z_iload_n (i := 1) dX2_init_15 rfl rfl ?_
    refine z_bipush (v := (8 : Int32)) dX2_init_16 (by decide) ?_
    refine z_icmp_ge (tgt := 40) dX2_init_18 rfl (fun _ => ?_) (fun h => absurd (by decide) h)
    exact z_nret2 dX2_init_40 rfl (Nat.le_of_ble_eq_true rfl) (Nat.le_of_ble_eq_true rfl) (fun x hx => ⟨fun j _ => rfl, fun j => rfl, fun j => rfl⟩) (fun x => Iff.rfl)
  | succ n ih =>
    intro t ht
    have ht8 : t < 8 := by omega
    have hN := KH_nd t ht8
    have hna : (KH t ++ [(9, 2 + t, 0)]).Nodup := (List.nodup_append.mp hN).1
    have hnb : (KH t).Nodup := (List.nodup_append.mp hna).1
    have hnm : (9, 2 + t, 0) ∉ KH t := fun h => (List.nodup_append.mp hna).2.2 _ h _ (List.mem_singleton.mpr rfl) rfl
    have hcl : shC (shU (KH t) K8) (KH t) := shC_U KH_8
    refine z_iload_n (i := 1) dX2_init_15 rfl rfl ?_
    refine z_bipush (v := (8 : Int32)) dX2_init_16 (by decide) ?_
    refine z_icmp_ge (tgt := 40) dX2_init_18 rfl (fun h => absurd h (nI_ge (b := 8) ht8 (by decide))) (fun _ => ?_)
    refine z_aload_n (i := 0) dX2_init_21 rfl rfl ?_
    refine z_getR (r := (14, 0, 0)) (r' := (15, 0, 0)) (ci := 2) (j := 0) dX2_init_22 fl_X2_11 KH_14 rfl KH_r ?_
    refine z_iload_n (i := 1) dX2_init_25 rfl rfl ?_
    refine z_new (ci := 0) (r := (9, 2 + t, 0)) (ks := [true, true, false, false, false, false, false, false, false, false]) hnb hnm (by show 9 < 30; decide) dX2_init_26 cw_2_9 rfl (by decide) df_0 hcl (qmn_G KH_80) (ls_2 (P := fun v => v ≠ .inr (9, 2 + t, 0)) (inr_ne (by show (14 : Nat) ≠ 9; decide)) inl_ne) (st_2 (P := fun v => v ≠ .inr (9, 2 + t, 0)) inl_ne (inr_ne (by show (15 : Nat) ≠ 9; decide))) (by show 1 + 16 * t + 1 ≤ 129; omega) (by show 8 + 134 * t + 10 ≤ 1080; omega) ?_
    refine z_dup dX2_init_29 rfl ?_
    refine z_callI (av := []) (nY0 hN m_r (shC_N hcl) zr_N) dX2_init_30 ml_X2_15 cd_X0_init rfl rfl ⟨by decide, by decide, by show 1 + 16 * t + 1 + 15 ≤ 129; omega, by show 8 + 134 * t + 10 + 124 ≤ 1080; omega⟩ (Nat.le_of_ble_eq_true rfl) rfl (qmn_G fun x h => m_l (KH_80 x h)) (ls_2 (P := inR _) (Or.inl (m_l KH_14)) trivial) (st_3 (P := inR _) (Or.inl m_r) trivial (Or.inl (m_l KH_15))) ?_
    rw [mGN (g9_t (Or.inl rfl))]
    refine z_aast (t := 1) (n := 8) (ci := 0) (j := t) hN dX2_init_33 (List.mem_append_left _ (m_l KH_15)) (List.mem_append_left _ m_r) rfl rfl (by decide) (fun _ => rfl) (nI_in ht8 (by decide)) (nI_clamp (by omega)) ?_
    refine z_iinc (i := 1) (v := nI (t + 1)) dX2_init_34 rfl (nI_succ t).symm (by decide) rfl ?_
    refine z_goto (tgt := 15) dX2_init_37 rfl ?_
    have ihx := ih (t + 1) (by omega)
    rw [show 1 + 16 * (t + 1) = 1 + 16 * t + 1 + 15 by omega, show 8 + 134 * (t + 1) = 8 + 134 * t + 10 + 124 by omega] at ihx
    exact z_pic (agB_spec (KH_ag t ht8)) (fun x => by rw [KH_s]) ihx
set_option maxRecDepth 20000 in
set_option maxHeartbeats 2000000 in
theorem nY2 : TriN yX2_init cX2_init 2 3 129 1080 (K8 ++ [(14, 0, 0)]) (shN (shM K8) (14, 0, 0)) [.inr (14, 0, 0)] MI (KH 8) (shU (KH 8) K8) MI := by
  refine TriN.go (own := RX2) (nme := "<init>") (n := 1) (ls := [some (.inr (14, 0, 0)), none]) (by decide) rfl rfl rfl rfl ?_
  refine z_aload_n (i := 0) dX2_init_0 rfl rfl ?_
  refine z_objI dX2_init_1 ⟨ow_2, ow_i, ow_c⟩ (by decide) (Nat.le_of_ble_eq_true rfl) ?_
  refine z_aload_n (i := 0) dX2_init_4 rfl rfl ?_
  refine z_bipush (v := (8 : Int32)) dX2_init_5 (by decide) ?_
  refine z_newq (t := 5) (N := 8) (r := (15, 0, 0)) KH_n0.1 KH_n0.2 (by decide) dX2_init_7 cq_2_9 (fun _ => rfl) (fun tc ad => he_Q (t := 1) rfl) (by decide) (by decide) (by decide) (shC_N shC_M) (qmn_G fun x h => h) (ls_1n (P := fun v => v ≠ .inr (15, 0, 0)) (inr_ne (by decide))) (st_1 (P := fun v => v ≠ .inr (15, 0, 0)) (inr_ne (by decide))) (by decide) (by decide) ?_
  rw [mNI (by decide)]
  refine z_putR (ci := 2) (j := 0) (r := (14, 0, 0)) (y := (15, 0, 0)) (nd_snoc KH_n0.1 KH_n0.2) dX2_init_10 fl_X2_11 (m_l m_r) rfl rfl rfl rfl (fun _ => rfl) (fun _ => rfl) ?_
  refine z_iconst (v := (0 : Int32)) dX2_init_13 (by decide) ?_
  refine z_istore_n (i := 1) dX2_init_14 rfl (by decide) rfl ?_
  exact z_pic (agB_spec KH_a0) (fun x => by unfold KH bxs; simp) (x2_loop 8 0 rfl)

