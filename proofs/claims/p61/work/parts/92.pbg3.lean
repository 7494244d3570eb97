/-! the law begins: pins, text, load -/
section BG3
variable {L S T U A : Nat} {xs : Nat → Int32}
theorem by_app {a b : List Nat} (h1 : BY a) (h2 : BY b) : BY (a ++ b) := fun x hx => by
  rcases List.mem_append.mp hx with h | h
  · exact h1 x h
  · exact h2 x h
theorem by_n3 {w : List Nat} {x y z : Nat} (hw : BY w) (hx : x < 1000) (hy : y < 1000) (hz : z < 1000) : BY (n3T w x y z) := by
  unfold n3T
  refine by_app hw (fun v hv => ?_)
  simp only [List.mem_cons, List.mem_append, List.not_mem_nil, or_false] at hv
  rcases hv with rfl | h | rfl | h | rfl | h | rfl
  · decide
  · exact dgN_b x hx v h
  · decide
  · exact dgN_b y hy v h
  · decide
  · exact dgN_b z hz v h
  · decide
theorem by_w : BY bxW ∧ BY toW ∧ BY piW := by
  unfold BY
  decide
theorem by_to : ∀ ts : List Tr, (∀ q ∈ ts, tOK q) → BY (toL ts)
  | [], _ => fun x hx => by cases hx
  | q :: ts, h => by
    obtain ⟨h1, h2, h3⟩ := h q List.mem_cons_self
    have e : toL (q :: ts) = n3T toW q.1 q.2.1 q.2.2 ++ toL ts := rfl
    rw [e]
    exact by_app (by_n3 by_w.2.1 (by omega) (by omega) (by omega)) (by_to ts (fun x hx => h x (List.mem_cons_of_mem _ hx)))
theorem by_pi (hS : S ≤ 64) (hT : T ≤ 12) : ∀ (ps : List Tr) (P : PF), pOK S T P ps → BY (piL ps)
  | [], _, _ => fun x hx => by cases hx
  | q :: ps, P, h => by
    obtain ⟨⟨h1, h2, h3⟩, h4, h5⟩ := h
    have e : piL (q :: ps) = n3T piW q.1 q.2.1 q.2.2 ++ piL ps := rfl
    rw [e]
    exact by_app (by_n3 by_w.2.2 (by omega) (by omega) (by omega)) (by_pi hS hT ps _ h5)
theorem tx_len {M : Mm} {bs : List Int32} {cap : Nat} (h : TX M 0 bs cap) : bs.length ≤ cap := h.2.2.2.1
theorem l276 {g : GF} {ts : List Tr} (hL : L ≤ 260) (hS : 4 ≤ S ∧ S ≤ 64) (hT : 1 ≤ T ∧ T ≤ 12) (hl : ts.length = T) (g0 : g 0 = nI S) (g3 : g 3 = nI T) : ∀ (d i f : Nat) (M : Mm) (ps : List Tr) (cap : Nat), i + d = 28 → d < f → ps.length ≤ i → OX M 0 T g (pTs (fun _ _ _ => false) ps) → pOK S T (fun _ _ _ => false) ps → TX M 0 ((suT S U A ts ps).map nI) cap → CB cap →
    ∃ M' ps' cap', (∀ K : Int32 → Mm → Option (Int32 × Mm), fL_begins_L276 0 L xs K f (nI i) M = K (nI 28) M') ∧ ps'.length ≤ 28 ∧ OX M' 0 T g (pTs (fun _ _ _ => false) ps') ∧ pOK S T (fun _ _ _ => false) ps' ∧ TX M' 0 ((suT S U A ts ps').map nI) cap' ∧ CB cap' ∧ Fr sBg M M' := by
  intro d
  induction d with
  | zero =>
    intro i f M ps cap hi hf hpl hO hp hX hC
    obtain ⟨f, rfl⟩ : ∃ x, f = x + 1 := ⟨f - 1, by omega⟩
    obtain rfl : i = 28 := by omega
    exact ⟨M, ps, cap, fun K => by rw [fL_begins_L276, show (28 : Int32) = nI 28 from rfl, if_pos (Int32.le_refl _)], hpl, hO, hp, hX, hC, fr_rf⟩
  | succ d ih =>
    intro i f M ps cap hi hf hpl hO hp hX hC
    obtain ⟨f, rfl⟩ : ∃ x, f = x + 1 := ⟨f - 1, by omega⟩
    have i3 : (3 : Int32) * nI i = nI (3 * i) := pk_mul 3 i
    have i40 : (40 : Int32) + nI (3 * i) = nI (40 + 3 * i) := nI_add 40 _
    have i41 : (41 : Int32) + nI (3 * i) = nI (41 + 3 * i) := nI_add 41 _
    have i42 : (42 : Int32) + nI (3 * i) = nI (42 + 3 * i) := nI_add 42 _
    have e0 : M.1 (18, 0, 0) 0 = nI S := (hO.1 0 (by decide)).trans g0
    have e3 : M.1 (18, 0, 0) 3 = nI T := (hO.1 3 (by decide)).trans g3
    have pa := pick_ok (L := L) (xs := xs) (k := 40 + 3 * i) (n := 4) hL (by omega) (by decide) (by decide)
    have la := pv_lt (L := L) (xs := xs) (k := 40 + 3 * i) (n := 4) hL (by omega) (by decide) (by decide)
    have pb := pick_ok (L := L) (xs := xs) (k := 41 + 3 * i) (n := T) hL (by omega) (by omega) (by omega)
    have lb := pv_lt (L := L) (xs := xs) (k := 41 + 3 * i) (n := T) hL (by omega) (by omega) (by omega)
    have pc := pick_ok (L := L) (xs := xs) (k := 42 + 3 * i) (n := S) hL (by omega) (by omega) (by omega)
    have lc := pv_lt (L := L) (xs := xs) (k := 42 + 3 * i) (n := S) hL (by omega) (by omega) (by omega)
    have hge : ¬ (28 : Int32) ≤ nI i := nI_ge (b := 28) (by omega) (by decide)
    have hN : nI i + (1 : Int32) = nI (i + 1) := nI_add i 1
    generalize pv L xs (40 + 3 * i) 4 = a at *
    generalize pv L xs (41 + 3 * i) T = y at *
    generalize pv L xs (42 + 3 * i) S = z at *
    have em : nI a - nI a / 3 * 3 = nI (a % 3) := pk_rem (d := 3) (by omega) (by decide) (by decide)
    have hm : a % 3 < 3 := Nat.mod_lt _ (by decide)
    generalize a % 3 = x at *
    have hh := has_ok hO hm (show y < 12 by omega) (show z < 64 by omega)
    have e28 : suT S U A ts ps = n3T bxW S U A ++ (toL ts ++ piL ps) := rfl
    cases hv : pTs (fun _ _ _ => false) ps x y z with
    | true =>
      obtain ⟨M', ps', cap', b1, b2⟩ := ih (i + 1) f M ps cap (by omega) (by omega) (by omega) hO hp hX hC
      refine ⟨M', ps', cap', fun K => ?_, b2⟩
      rw [fL_begins_L276, i3, i40, i41, i42, e0, e3, hN]
      refine cn hge (bd pa (bd pb (bd pc ?_)))
      (try dsimp only)
      rw [em]
      refine bd hh (cn ?_ (b1 K))
      rw [hv]
      decide
    | false =>
      have t1 := toL_l ts
      have t2 := piL_l ps
      have t3 := n3_l bxW S U A
      have t4 : bxW.length = 3 := rfl
      have ln : ((suT S U A ts ps).map nI).length ≤ 16 + 216 + 16 * 27 := by rw [List.length_map, e28, List.length_append, List.length_append]; omega
      have f0 : Off [(20, 0, 0)] M (putI M (20, 0, 0) (768 * x + 64 * y + z) 1) := Off.rf.put (by simp)
      have O1 := ox_20 (m := x) (c := true) hO (show y < 12 by omega) (show z < 64 by omega) rfl
      obtain ⟨M1, c1, a1, a2, a3, a4⟩ := bK (j := 13) (by decide) (by decide) (tx_eq (f0 (24, 0, 0) (by simp)).1 (f0 (25, 0, 0) (by simp)).1 hX) hC (by omega)
      have l1 : ((suT S U A ts ps).map nI ++ sby 13).length ≤ 16 + 216 + 16 * 27 + 4 := by rw [List.length_append]; show _ + 4 ≤ _; omega
      obtain ⟨M2, M3, M4, M5, M6, M7, c7, b1, b2, b3, b4, b5, b6, b7, b8, d1, d2, d3, d4, d5, d6⟩ := b6 (x := x) (y := y) (z := z) (by omega) (by omega) (by omega) a2 a3 (by omega)
      have fA : Fr sBg M M7 := fr_tr (fr_off (fun r hr => by
        rw [List.mem_singleton.mp hr]; rfl) f0) (fr_tr (fr_off zb_Bg a4) (fr_off zb_Bg d6))
      have O7 : OX M7 0 T g (pTs (fun _ _ _ => false) (ps ++ [(x, y, z)])) := by
        rw [pTs_a]
        refine ox_eq (M := putI M (20, 0, 0) (768 * x + 64 * y + z) 1) (fun r hr => ?_) (ox_P (fun m' t' s' _ _ _ => ?_) O1)
        · have hz : r ∉ ZB 0 := fun h => by
            have := (owR_i hr).2
            simp only [ZB, List.mem_cons, List.not_mem_nil, or_false] at h
            rcases h with rfl | rfl | rfl
            · exact absurd this.2 (by decide)
            · exact absurd this.2 (by decide)
            · exact absurd this.2 (by decide)
          exact (d6 r hz).1.trans (a4 r hz).1
        · unfold pSet pAdd
          by_cases e : m' = x ∧ t' = y ∧ s' = z
          · rw [if_pos e]; simp [e]
          · rw [if_neg e]; simp [e]
      have X7 : TX M7 0 ((suT S U A ts (ps ++ [(x, y, z)])).map nI) c7 := by
        have ew : sby 13 = (piW ++ [32]).map nI := by decide
        have el : (suT S U A ts (ps ++ [(x, y, z)])).map nI = (suT S U A ts ps).map nI ++ sby 13 ++ (dgN x ++ (32 :: (dgN y ++ (32 :: (dgN z ++ [59]))))).map nI := by
          rw [ew, ← List.map_append, ← List.map_append]
          refine congrArg (List.map nI) ?_
          unfold suT
          rw [piL_a]
          unfold n3T
          simp only [List.append_assoc, List.cons_append, List.nil_append]
        rw [el]
        exact b7
      obtain ⟨M', ps', cap', g1, g2, g3', g4, g5, g6, g7⟩ := ih (i + 1) f M7 (ps ++ [(x, y, z)]) c7 (by omega) (by omega) (by rw [List.length_append]; show _ + 1 ≤ _; omega) O7 (pOK_a ⟨hm, lb, lc⟩ ps _ hp hv) X7 b8
      refine ⟨M', ps', cap', fun K => ?_, g2, g3', g4, g5, g6, fr_tr fA g7⟩
      rw [fL_begins_L276, i3, i40, i41, i42, e0, e3, hN]
      refine cn hge (bd pa (bd pb (bd pc ?_)))
      (try dsimp only)
      rw [em, place_ok, nI_clamp (show 768 * x + 64 * y + z < 2 ^ 31 by omega)]
      refine bd hh (cy (by rw [hv]; rfl) (cn (fun c => by rcases c with c | c; exact nI_pos (by omega) c; omega) (bd a1 (bd b1 (bd b2 (bd b3 (bd b4 (bd b5 (bd b6 (g1 K)))))))))) 
end BG3
/-- the start: Own 0 and the class's box are one -/
def STA (M : Mm) (S T : Nat) (g : GF) (P : PF) : Prop := BX M T 0 g P ∧ OX M 0 T g P ∧ (∃ U A m p, Iv g P S T U A m p) ∧ uwS g T = 0 ∧ g 8 = 0 ∧ M.1 (14, 0, 0) 1 = 0 ∧ M.1 (14, 0, 0) 2 = 0
theorem beg_tail {L S T U A : Nat} {xs : Nat → Int32} {M : Mm} (hL : L ≤ 260) (hS : 4 ≤ S ∧ S ≤ 64) (hT : 1 ≤ T ∧ T ≤ 12) (hU : U ≤ 20) (hA : A ≤ 90) (h1 : M.1 (1, 0, 0) 1 = 0) (h14 : M.1 (14, 0, 0) 2 = 0) (hP : PTo M T S U A []) (h24 : M.1 (24, 0, 0) 3 = 0) :
    ∃ M', ((fJ5_init_K M 0 11 1406).bind fun q124 => (fJ4_append_bf812 q124 0 (q124.1 (18, 0, 0) 0) 1406).bind fun q126 => (fJ4_append_cf468 q126 0 (32 : Int32) 1406).bind fun q128 => (fJ4_append_bf812 q128 0 (q128.1 (18, 0, 0) 1) 1406).bind fun q130 => (fJ4_append_cf468 q130 0 (32 : Int32) 1406).bind fun q132 => (fJ4_append_bf812 q132 0 (q132.1 (18, 0, 0) 2) 1406).bind fun q134 => (fJ4_append_cf468 q134 0 (59 : Int32) 1406).bind fun q136 => fL_begins_L112 0 L xs (fun w138 M139 => fL_begins_L276 0 L xs (fun w140 M141 => (fJ4_toString M141 0 0 1406).bind fun q142 => (fL_feeds q142 0).bind fun q144 => if q144.1 = 0 then some ((0 : Int32), q144.2) else (fX9_load q144.2).bind fun q147 => if q147.1 = 0 then (if (fX9_errorPosition q147.2) = (-1 : Int32) then some ((1 : Int32), q147.2) else some ((0 : Int32), q147.2)) else some ((0 : Int32), q147.2)) 29 (0 : Int32) M139) 13 (0 : Int32) q136) = some (1, M') ∧ ∃ g P, STA M' S T g P := by
  obtain ⟨M1, c1, a1, a2, a3, a4⟩ := ini_ok h24
  obtain ⟨M2, M3, M4, M5, M6, M7, c7, b1, b2, b3, b4, b5, b6, b7, b8, d1, d2, d3, d4, d5, d6⟩ := b6 (x := S) (y := U) (z := A) (by omega) (by omega) (by omega) a2 a3 (by decide)
  have nz : ((18, 0, 0) : Rf) ∉ ZB 0 := by simp [ZB]
  have k1 : M1.1 (18, 0, 0) 0 = nI S := by rw [(a4 _ nz).1]; exact hP.1.1
  have k2 : M3.1 (18, 0, 0) 1 = nI U := by rw [(d2 _ nz).1, (a4 _ nz).1]; exact hP.1.2.1
  have k3 : M5.1 (18, 0, 0) 2 = nI A := by rw [(d4 _ nz).1, (a4 _ nz).1]; exact hP.1.2.2.1
  have f7 : Off (ZB 0) M M7 := a4.tr d6
  have X7 : TX M7 0 ((n3T bxW S U A ++ toL []).map nI) c7 := by
    have ew : sby 11 = (bxW ++ [32]).map nI := by decide
    have el : (n3T bxW S U A ++ toL []).map nI = sby 11 ++ (dgN S ++ (32 :: (dgN U ++ (32 :: (dgN A ++ [59]))))).map nI := by
      rw [ew, ← List.map_append]
      refine congrArg (List.map nI) ?_
      unfold n3T toL
      simp only [List.append_assoc, List.cons_append, List.nil_append, List.flatMap_nil, List.append_nil]
    rw [el]
    exact b7
  have P7 : PTo M7 T S U A [] := by
    obtain ⟨p1, p2, p3, p4, p5⟩ := hP
    rw [← (f7 (18, 0, 0) nz).1] at p1
    refine ⟨p1, fun j x y => by rw [(f7 (18, 0, 0) nz).1]; exact p2 j x y, fun u hu => absurd hu (Nat.not_lt_zero u), fun u => ?_, fun i => ?_⟩
    · rw [(f7 (19, 0, 1) (by simp [ZB])).1, (f7 (19, 0, 4) (by simp [ZB])).1]; exact p4 u
    · rw [(f7 (20, 0, 0) (by simp [ZB])).1]; exact p5 i
  obtain ⟨M8, ts, c8, e1, e2, e3, e4, e5, e6, e7⟩ := l112 (L := L) (xs := xs) hL hT.2 T 0 13 M7 [] c7 (by omega) (by omega) rfl (fun q hq => by cases hq) P7 X7 b8
  have O8 := pto_ox e2.symm e4
  obtain ⟨g1, g2, g3⟩ := (gz (S := S) (U := U) (A := A) (ts := ts) ts.length rfl).2
  have gS : gTs (gB S U A) 0 ts 0 = nI S := (g1 0 (by decide) (by decide)).trans rfl
  have X8 : TX M8 0 ((suT S U A ts []).map nI) c8 := by
    have : suT S U A ts [] = n3T bxW S U A ++ toL ts := by
      unfold suT piL
      rw [List.flatMap_nil, List.append_nil]
    rw [this]
    exact e5
  obtain ⟨M9, ps, c9, i1, i2, i3, i4, i5, i6, i7⟩ := l276 (L := L) (xs := xs) (U := U) (A := A) hL hS hT e2 gS (by rw [g2, e2]) 28 0 29 M8 [] c8 rfl (by decide) (Nat.zero_le _) O8 trivial X8 e6
  obtain ⟨M10, j1, j2, j3⟩ := toS_ok (y := 0) (B := 1406) i5 (by unfold CB at i6; omega) (by decide)
  have hbn : (suT S U A ts ps).length ≤ 800 := by
    have t1 := toL_l ts
    have t2 := piL_l ps
    have t3 := n3_l bxW S U A
    have t4 : bxW.length = 3 := rfl
    unfold suT
    rw [List.length_append, List.length_append]
    omega
  have hby : BY (suT S U A ts ps) := by_app (by_n3 by_w.1 (by omega) (by omega) (by omega)) (by_app (by_to ts e3) (by_pi hS.2 hT.2 ps _ i4))
  have fb : Fr sBg M M9 := fr_tr (fr_off zb_Bg f7) (fr_tr e7 i7)
  have r1 : M10.1 (1, 0, 0) 1 = 0 := by rw [(j3 (1, 0, 0) (by simp)).1, (fb (1, 0, 0) rfl).1]; exact h1
  obtain ⟨M11, k4, k5, k6⟩ := feeds_ok (z := 0) hby hbn j2 r1
  have hv : TV (tbL (suT S U A ts ps)) (suT S U A ts ps).length := ⟨hbn, fun k hk => by have := tb_in hby hk; omega⟩
  obtain ⟨q, tr, hq⟩ : ∃ q tr, ts = q :: tr := by
    cases ts with
    | nil => exact absurd e2 (by show ¬ 0 = T; omega)
    | cons q tr => exact ⟨q, tr, rfl⟩
  subst hq
  have hlr : tr.length + 1 = T := e2
  obtain ⟨M12, l1, l2, l3, l4, l5, l6, l7⟩ := an_load hS hU hA e3 (by omega) (by rw [hlr]; exact i4) (by omega) hv k5
  rw [hlr] at l3 l4
  have nO : ∀ r, r ∈ owR 0 → sTS r = false := fun r hr => by
    simp only [owR, List.mem_cons, List.not_mem_nil, or_false] at hr
    rcases hr with rfl | rfl | rfl | rfl | rfl | rfl | rfl | rfl <;> rfl
  have O12 : OX M12 0 T (gTs (gB S U A) 0 (q :: tr)) (pTs (fun _ _ _ => false) ps) := ox_fr nO l7 (ox_fr (S := sTx) (fun r hr => by
    simp only [owR, List.mem_cons, List.not_mem_nil, or_false] at hr
    rcases hr with rfl | rfl | rfl | rfl | rfl | rfl | rfl | rfl <;> rfl) k6 (ox_eq (fun r hr => (j3 r (fun h => by
      have := (owR_i hr).2
      simp only [List.mem_cons, List.not_mem_nil, or_false] at h
      rcases h with rfl | rfl
      · exact absurd this.2 (by decide)
      · exact absurd this.2 (by decide))).1) i3))
  refine ⟨M12, ?_, _, _, l3, O12, ⟨U, A, 0, 0, jv_iv l4 hT.1⟩, by rw [← e2]; exact uw_0, ?_, l5, ?_⟩
  · refine bd a1 ?_
    (try dsimp only)
    rw [k1]
    refine bd b1 (bd b2 ?_)
    (try dsimp only)
    rw [k2]
    refine bd b3 (bd b4 ?_)
    (try dsimp only)
    rw [k3]
    exact bd b5 (bd b6 ((e1 _).trans ((i1 _).trans (bd j1 (bd k4 (cn one_n0 (bd l1 (cy rfl (cy l2 rfl)))))))))
  · exact (g1 8 (by decide) (by decide)).trans (gB_0 8 (by decide))
  · rw [l6, (k6 (14, 0, 0) rfl).1, (j3 (14, 0, 0) (by simp)).1, (fb (14, 0, 0) rfl).1]
    exact h14
