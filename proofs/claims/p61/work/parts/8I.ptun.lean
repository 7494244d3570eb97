/-! isTune: a tune of the class is Own's -/
def sA (r : Rf) : Bool := ((Nat.ble 24 r.1 && Nat.ble r.1 29) && r.2.1 == 0) || sO1 r
theorem dA (i : Nat) (r : Rf) (hr : sBx i r = true) : sA r = false := by
  refine or_f ?_ (dO1 i r hr)
  obtain ⟨a, b, c⟩ := r
  simp only [sBx, Bool.and_eq_true, Bool.or_eq_true, beq_iff_eq] at hr
  rcases hr.1 with ((rfl | rfl) | rfl) | rfl <;> rfl
theorem dAo (k : Nat) (r : Rf) (hr : r ∈ owR k) : sA r = false := by
  simp only [owR, List.mem_cons, List.not_mem_nil, or_false] at hr
  rcases hr with rfl | rfl | rfl | rfl | rfl | rfl | rfl | rfl <;> rfl
theorem zb_A : ∀ x ∈ ZB 0, sA x = true := by
  intro x hx
  simp only [ZB, List.mem_cons, List.not_mem_nil, or_false] at hx
  rcases hx with rfl | rfl | rfl <;> rfl
theorem y_A : ∀ x ∈ [((28, 0, 0) : Rf), (29, 0, 0)], sA x = true := by
  intro x hx
  simp only [List.mem_cons, List.not_mem_nil, or_false] at hx
  rcases hx with rfl | rfl <;> rfl
theorem o1_A {M M' : Mm} (h : Fr sO1 M M') : Fr sA M M' := fr_mono (fun r hr => by unfold sA; rw [hr, Bool.or_true]) h
theorem tx_eq {M M' : Mm} {z cap : Nat} {bs : List Int32} (h1 : M'.1 (24, z, 0) = M.1 (24, z, 0)) (h2 : M'.1 (25, z, 0) = M.1 (25, z, 0)) (h : TX M z bs cap) : TX M' z bs cap := by
  unfold TX
  rw [h1, h2]
  exact h
theorem sx_eq {M M' : Mm} {y : Nat} {bs : List Int32} (h1 : M'.1 (28, y, 0) = M.1 (28, y, 0)) (h2 : M'.1 (29, y, 0) = M.1 (29, y, 0)) (h : SX M y bs) : SX M' y bs := by
  unfold SX
  rw [h1, h2]
  exact h
theorem ou_eq {M M' : Mm} {bs : List Int32} (h1 : M'.1 (1, 1, 0) = M.1 (1, 1, 0)) (h2 : M'.1 (2, 1, 0) = M.1 (2, 1, 0)) (h : OUT M bs) : OUT M' bs := by
  unfold OUT
  rw [h1, h2]
  exact h
def C70 (cap : Nat) : Prop := cap = 16 ∨ cap = 34 ∨ cap = 70
theorem c70_e {cap n : Nat} (h : C70 cap) (hn : n ≤ cap + 3) (h64 : n ≤ 64) : C70 (ecp cap n) ∧ cap ≤ 70 ∧ n ≤ 70 ∧ (n ≤ cap ∨ 2 * cap + 2 ≤ 70) := by
  unfold ecp
  unfold C70 at *
  rcases h with rfl | rfl | rfl
  · split <;> omega
  · split <;> omega
  · split <;> omega
section ITU
variable {M : Mm} {k S T U A m0 p0 m t : Nat} {g : GF} {P : PF} {bs : List Int32} {cap : Nat}
theorem chS_add {s t : Nat} (ht : t < 12) : chS P m s t + ((1 : Int32) <<< (nI t &&& 31)) = chS P m s t ||| ((1 : Int32) <<< (nI t &&& 31)) := by
  apply Int32.toBitVec_inj.mp
  rw [Int32.toBitVec_add, Int32.toBitVec_or]
  refine BitVec.add_eq_or_of_and_eq_zero _ _ (BitVec.eq_of_getLsbD_eq fun i hi => ?_)
  rw [BitVec.getLsbD_and, BitVec.getLsbD_zero]
  show (bt (chS P m s t) i && bt ((1 : Int32) <<< (nI t &&& 31)) i) = false
  rw [chS_b t (by omega) i hi, b_one t (by omega) hi]
  by_cases e : i = t
  · subst e; simp
  · simp [e]
theorem chS_n {s t : Nat} (ht : t < 12) : chS P m s (t + 1) = chS P m s t + (if P m t s = true then (1 : Int32) <<< (nI t &&& 31) else 0) := by
  rw [chS]
  by_cases c : P m t s = true
  · rw [if_pos c, if_pos c, chS_add ht]
  · rw [if_neg c, if_neg c, Int32.add_zero]
theorem chS_T {s : Nat} (hT : T ≤ 12) (HP : ∀ m t s, P m t s = true → m < 3 ∧ t < T ∧ s < S) : chS P m s 12 = chS P m s T := by
  have key : ∀ d, T + d ≤ 12 → chS P m s (T + d) = chS P m s T := by
    intro d
    induction d with
    | zero => intro _; rfl
    | succ d ih =>
      intro h
      rw [show T + (d + 1) = (T + d) + 1 from rfl, chS, if_neg (fun c => by have := HP _ _ _ c; omega), ih (by omega)]
  have := key (12 - T) (by omega)
  rw [show T + (12 - T) = 12 by omega] at this
  exact this
theorem it_step {c5 c6 v3 v4 : Int32} {n s : Nat} (HB : BX M T 0 g P) (HO : OX M k T g P) (HI : Iv g P S T U A m0 p0) (hm : m < 3) (ht : t < T) (hs : s < S) (hx : TX M 0 bs cap) (hc : C70 cap) (hl : bs.length = s) :
    ∃ M1, (∀ K : Int32 → Int32 → Int32 → Mm → Option (Int32 × Mm), fL_isTune_L45 k (nI m) c5 c6 (nI t) K (n + 1) v3 v4 (nI s) M = fL_isTune_L45 k (nI m) c5 c6 (nI t) K n (v3 + bI (clS g P S m t s)) (v4 + if P m t s = true then ptS g t else 0) (nI (s + 1)) M1) ∧ TX M1 0 (bs ++ [chP g P S m t s]) (ecp cap (bs.length + 1)) ∧ M1.1 (26, 0, 0) = upd (M.1 (26, 0, 0)) s (M.1 (26, 0, 0) s + (if P m t s = true then (1 : Int32) <<< (nI t &&& 31) else 0)) ∧ Fr sA M M1 := by
  have hS := HI.hS
  have hT := HI.hT
  have hcap : bs.length ≤ cap := hx.2.2.2.1
  obtain ⟨q1, q2, q3, q4⟩ := c70_e (n := bs.length + 1) hc (by omega) (by omega)
  have e0 : M.1 (18, k, 0) 0 = nI S := (HO.1 0 (by decide)).trans HI.1
  have hg : ¬ (nI s < 0 ∨ 64 ≤ (nI s).toNatClampNeg) := nI_in (by omega) (by decide)
  have hg2 : ¬ (nI t < 0 ∨ 12 ≤ (nI t).toNatClampNeg) := nI_in (by omega) (by decide)
  have cl := nI_clamp (n := s) (by omega)
  have clt := nI_clamp (n := t) (by omega)
  have hgs : ¬ (nI s < 0 ∨ 64 ≤ s) := by rw [cl] at hg; exact hg
  have hge : ¬ M.1 (18, k, 0) 0 ≤ nI s := by rw [e0]; exact nI_ge (by omega) (by omega)
  have hN : nI s + (1 : Int32) = nI (s + 1) := nI_add s 1
  -- the chords' row with w at s
  have core : ∀ (w ch : Int32), b7 ch → ∃ Mc M1, Mc = putI M (26, 0, 0) s (M.1 (26, 0, 0) s + w) ∧ OX Mc k T g P ∧ fJ4_append_cf468 Mc 0 ch 70 = some M1 ∧ TX M1 0 (bs ++ [ch]) (ecp cap (bs.length + 1)) ∧ BX M1 T 0 g P ∧ OX M1 k T g P ∧ M1.1 (26, 0, 0) = upd (M.1 (26, 0, 0)) s (M.1 (26, 0, 0) s + w) ∧ Fr sA M M1 := by
    intro w ch hch
    have f1 : Fr sA M (putI M (26, 0, 0) s (M.1 (26, 0, 0) s + w)) := fr_putI rfl
    have x1 : TX (putI M (26, 0, 0) s (M.1 (26, 0, 0) s + w)) 0 bs cap := tx_eq (putI_ne (by simp)) (putI_ne (by simp)) hx
    obtain ⟨M1, a1, a2, a3, a4⟩ := apCx (B := 70) x1 hch q3 q4 q2 (by decide)
    have f2 : Fr sA M M1 := fr_tr f1 (fr_off zb_A a4)
    refine ⟨_, M1, rfl, ox_fr (dAo k) f1 HO, a1, a2, bx_fr (dA 0) f2 HB, ox_fr (dAo k) f2 HO, ?_, f2⟩
    rw [(a4 (26, 0, 0) (by simp [ZB])).1, g_row]
  cases hp : P m t s with
  | false =>
    have hcl : clS g P S m t s = false := by unfold clS; rw [hp]; rfl
    have hch : chP g P S m t s = 45 := by unfold chP; rw [hp]; rfl
    obtain ⟨Mc, M1, eM, oM, a1, a2, a3, a4, a5, a6⟩ := core 0 45 (by unfold b7; decide)
    have hh : fX10_has M k (nI m) (nI t) (nI s) = some 0 := by rw [has_ok HO hm (by omega) (by omega), hp]; rfl
    have hC : fX10_isClose Mc k (nI m) (nI t) (nI s) = some 0 := by rw [close_ok oM HI.1 hS.2 hm hT.2 ht hs, hcl]; rfl
    have hP : fX9_isPin M1 (nI m) (nI t) (nI s) = some (0, M1) := by rw [an_isPin a3 HI hm ht hs, hp]; rfl
    subst eM
    refine ⟨M1, fun K => ?_, by rw [hch]; exact a2, a5, a6⟩
    rw [fL_isTune_L45, cl]
    rw [← hN, hcl]
    refine cn hge (bd hh (cn hgs (cy rfl (cn hgs (cy rfl (bd hC (cy rfl (bd hC (cy rfl (cy rfl (bd a1 (bd hP (cy rfl (cy rfl rfl))))))))))))))
  | true =>
    have hh : fX10_has M k (nI m) (nI t) (nI s) = some 1 := by rw [has_ok HO hm (by omega) (by omega), hp]; rfl
    have ep : M.1 (19, k, 0) t + M.1 (19, k, 1) t = ptS g t := by
      rw [HO.2.1 t ht 0 (by decide), HO.2.1 t ht 1 (by decide)]; rfl
    have hgt : ¬ (nI t < 0 ∨ 12 ≤ t) := by rw [clt] at hg2; exact hg2
    cases hcl : clS g P S m t s with
    | false =>
      have hch : chP g P S m t s = 35 := by unfold chP; rw [hp, hcl]; rfl
      obtain ⟨Mc, M1, eM, oM, a1, a2, a3, a4, a5, a6⟩ := core ((1 : Int32) <<< (nI t &&& 31)) 35 (by unfold b7; decide)
      have hC : fX10_isClose Mc k (nI m) (nI t) (nI s) = some 0 := by rw [close_ok oM HI.1 hS.2 hm hT.2 ht hs, hcl]; rfl
      have hP : fX9_isPin M1 (nI m) (nI t) (nI s) = some (1, M1) := by rw [an_isPin a3 HI hm ht hs, hp]; rfl
      have hD := an_distance a3 HI hm ht hs hp
      have hE := dist_ok a4 HI.1 hS.2 hm (show t < 12 by omega) hs
      subst eM
      refine ⟨M1, fun K => ?_, by rw [hch]; exact a2, a5, a6⟩
      rw [fL_isTune_L45, cl, clt]
      rw [← hN, ← ep]
      refine cn hge (bd hh (cn hgs (cn one_n0 (cn hgs (cn one_n0 (cn hgt (cn hgt (bd hC (cy rfl (bd hC (cy rfl (cn one_n0 (bd a1 (bd hP (cy rfl (cn one_n0 (bd hD (bd hE (cy rfl rfl)))))))))))))))))))
    | true =>
      have hch : chP g P S m t s = 33 := by unfold chP; rw [hp, hcl]; rfl
      obtain ⟨Mc, M1, eM, oM, a1, a2, a3, a4, a5, a6⟩ := core ((1 : Int32) <<< (nI t &&& 31)) 33 (by unfold b7; decide)
      have hC : fX10_isClose Mc k (nI m) (nI t) (nI s) = some 1 := by rw [close_ok oM HI.1 hS.2 hm hT.2 ht hs, hcl]; rfl
      have hP : fX9_isPin M1 (nI m) (nI t) (nI s) = some (1, M1) := by rw [an_isPin a3 HI hm ht hs, hp]; rfl
      have hD := an_distance a3 HI hm ht hs hp
      have hE := dist_ok a4 HI.1 hS.2 hm (show t < 12 by omega) hs
      subst eM
      refine ⟨M1, fun K => ?_, by rw [hch]; exact a2, a5, a6⟩
      rw [fL_isTune_L45, cl, clt]
      rw [← hN, ← ep]
      refine cn hge (bd hh (cn hgs (cn one_n0 (cn hgs (cn one_n0 (cn hgt (cn hgt (bd hC (cn one_n0 (bd hC (cn one_n0 (bd a1 (bd hP (cy rfl (cn one_n0 (bd hD (bd hE (cy rfl rfl))))))))))))))))))
end ITU
