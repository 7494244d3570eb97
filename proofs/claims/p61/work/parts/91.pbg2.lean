/-! the law begins -/
def sBg (r : Rf) : Bool := Nat.ble 18 r.1 && Nat.ble r.1 29
theorem zb_Bg : ∀ x ∈ ZB 0, sBg x = true := by
  intro x hx
  simp only [ZB, List.mem_cons, List.not_mem_nil, or_false] at hx
  rcases hx with rfl | rfl | rfl <;> rfl
theorem n3_l (w : List Nat) (x y z : Nat) : (n3T w x y z).length ≤ w.length + 13 := by
  have := (dgN_0 x).2
  have := (dgN_0 y).2
  have := (dgN_0 z).2
  unfold n3T
  simp only [List.length_append, List.length_cons, List.length_nil]
  omega
theorem toL_a {ts : List Tr} {q : Tr} : toL (ts ++ [q]) = toL ts ++ n3T toW q.1 q.2.1 q.2.2 := by
  unfold toL
  rw [List.flatMap_append]
  simp
theorem piL_a {ts : List Tr} {q : Tr} : piL (ts ++ [q]) = piL ts ++ n3T piW q.1 q.2.1 q.2.2 := by
  unfold piL
  rw [List.flatMap_append]
  simp
theorem toL_l : ∀ ts : List Tr, (toL ts).length ≤ 18 * ts.length
  | [] => Nat.le_refl _
  | q :: ts => by
    have h1 := toL_l ts
    have h2 := n3_l toW q.1 q.2.1 q.2.2
    have e : toL (q :: ts) = n3T toW q.1 q.2.1 q.2.2 ++ toL ts := rfl
    have e2 : toW.length = 5 := rfl
    rw [e, List.length_append, List.length_cons]
    omega
theorem piL_l : ∀ ts : List Tr, (piL ts).length ≤ 16 * ts.length
  | [] => Nat.le_refl _
  | q :: ts => by
    have h1 := piL_l ts
    have h2 := n3_l piW q.1 q.2.1 q.2.2
    have e : piL (q :: ts) = n3T piW q.1 q.2.1 q.2.2 ++ piL ts := rfl
    have e2 : piW.length = 3 := rfl
    rw [e, List.length_append, List.length_cons]
    omega
theorem pTs_a {q : Tr} : ∀ (ps : List Tr) (P : PF), pTs P (ps ++ [q]) = pAdd (pTs P ps) q.1 q.2.1 q.2.2
  | [], _ => rfl
  | p :: ps, P => pTs_a ps _
theorem pOK_a {S T : Nat} {q : Tr} (hq : q.1 < 3 ∧ q.2.1 < T ∧ q.2.2 < S) : ∀ (ps : List Tr) (P : PF), pOK S T P ps → pTs P ps q.1 q.2.1 q.2.2 = false → pOK S T P (ps ++ [q])
  | [], _, _, h2 => ⟨hq, h2, trivial⟩
  | p :: ps, P, h1, h2 => ⟨h1.1, h1.2.1, pOK_a hq ps _ h1.2.2 h2⟩
section BGL
variable {L S T U A : Nat} {xs : Nat → Int32}
theorem gd_a {ts : List Tr} {q : Tr} {u : Nat} (h : u < ts.length) : (ts ++ [q]).getD u (0, 0, 0) = ts.getD u (0, 0, 0) := by
  rw [List.getD_eq_getElem?_getD, List.getD_eq_getElem?_getD, List.getElem?_append_left h]
theorem gd_z {ts : List Tr} {q : Tr} : (ts ++ [q]).getD ts.length (0, 0, 0) = q := by
  rw [List.getD_eq_getElem?_getD, List.getElem?_append_right (Nat.le_refl _), Nat.sub_self]
  rfl
theorem l112_t {M : Mm} {t cap : Nat} {ts : List Tr} {x y z : Nat} (ht : t < T) (hT : T ≤ 12) (hl : ts.length = t) (hx : x < 1000) (hy : y < 1000) (hz : z < 1000) (hP : PTo M T S U A ts) (hX : TX M 0 ((n3T bxW S U A ++ toL ts).map nI) cap) (hC : CB cap) :
    ∃ M7 cap', (∀ (K : Int32 → Mm → Option (Int32 × Mm)) (n : Nat), ((fJ4_append_15ec4K (putI (putI (putI (putI M (19, 0, 0) t (nI x)) (19, 0, 2) t (nI y)) (19, 0, 3) t (nI z)) (19, 0, 5) t (-99)) 0 12 1406).bind fun q61 => if nI t < 0 ∨ 12 ≤ t then none else (fJ4_append_bf812 q61 0 (q61.1 (19, 0, 0) t) 1406).bind fun q64 => (fJ4_append_cf468 q64 0 (32 : Int32) 1406).bind fun q66 => if nI t < 0 ∨ 12 ≤ t then none else (fJ4_append_bf812 q66 0 (q66.1 (19, 0, 2) t) 1406).bind fun q69 => (fJ4_append_cf468 q69 0 (32 : Int32) 1406).bind fun q71 => if nI t < 0 ∨ 12 ≤ t then none else (fJ4_append_bf812 q71 0 (q71.1 (19, 0, 3) t) 1406).bind fun q74 => (fJ4_append_cf468 q74 0 (59 : Int32) 1406).bind fun q76 => fL_begins_L112 0 L xs K n (nI t + (1 : Int32)) q76) = fL_begins_L112 0 L xs K n (nI (t + 1)) M7) ∧ TX M7 0 ((n3T bxW S U A ++ toL (ts ++ [(x, y, z)])).map nI) cap' ∧ CB cap' ∧ PTo M7 T S U A (ts ++ [(x, y, z)]) ∧ Fr sBg M M7 := by
  have hgt : ¬ (nI t < 0 ∨ 12 ≤ t) := fun c => by rcases c with c | c; exact nI_pos (by omega) c; omega
  have e1 := toL_l ts
  have e2 := n3_l bxW S U A
  have e3 : bxW.length = 3 := rfl
  have ln : ((n3T bxW S U A ++ toL ts).map nI).length ≤ 16 + 18 * t := by rw [List.length_map, List.length_append]; omega
  have f0 : Off [(19, 0, 0), (19, 0, 2), (19, 0, 3), (19, 0, 5)] M (putI (putI (putI (putI M (19, 0, 0) t (nI x)) (19, 0, 2) t (nI y)) (19, 0, 3) t (nI z)) (19, 0, 5) t (-99)) := (((Off.rf.put (by simp)).put (by simp)).put (by simp)).put (by simp)
  obtain ⟨M1, c1, a1, a2, a3, a4⟩ := bK (j := 12) (by decide) (by decide) (tx_eq (f0 (24, 0, 0) (by simp)).1 (f0 (25, 0, 0) (by simp)).1 hX) hC (by omega)
  have l1 : ((n3T bxW S U A ++ toL ts).map nI ++ sby 12).length ≤ 22 + 18 * t := by rw [List.length_append]; show _ + 6 ≤ _; omega
  obtain ⟨M2, M3, M4, M5, M6, M7, c7, b1, b2, b3, b4, b5, b6, b7, b8, d1, d2, d3, d4, d5, d6⟩ := b6 (x := x) (y := y) (z := z) hx hy hz a2 a3 (by omega)
  have r0 : M1.1 (19, 0, 0) t = nI x := by
    rw [(a4 (19, 0, 0) (by simp [ZB])).1, putI_ne (by simp), putI_ne (by simp), putI_ne (by simp), g_row, upd_s]
  have r2 : M3.1 (19, 0, 2) t = nI y := by
    rw [(d2 (19, 0, 2) (by simp [ZB])).1, (a4 (19, 0, 2) (by simp [ZB])).1, putI_ne (by simp), putI_ne (by simp), g_row, upd_s]
  have r3 : M5.1 (19, 0, 3) t = nI z := by
    rw [(d4 (19, 0, 3) (by simp [ZB])).1, (a4 (19, 0, 3) (by simp [ZB])).1, putI_ne (by simp), g_row, upd_s]
  have row : ∀ r : Rf, r ∉ ZB 0 → M7.1 r = (putI (putI (putI (putI M (19, 0, 0) t (nI x)) (19, 0, 2) t (nI y)) (19, 0, 3) t (nI z)) (19, 0, 5) t (-99)).1 r := fun r hr => (d6 r hr).1.trans (a4 r hr).1
  have fA : Fr sBg M M7 := fr_tr (fr_off (fun r hr => by
    simp only [List.mem_cons, List.not_mem_nil, or_false] at hr
    rcases hr with rfl | rfl | rfl | rfl <;> rfl) f0) (fr_tr (fr_off zb_Bg a4) (fr_off zb_Bg d6))
  refine ⟨M7, c7, fun K n => ?_, ?_, b8, ?_, fA⟩
  · rw [show nI t + (1 : Int32) = nI (t + 1) from nI_add t 1]
    refine bd a1 (cn hgt ?_)
    (try dsimp only)
    rw [r0]
    refine bd b1 (bd b2 (cn hgt ?_))
    (try dsimp only)
    rw [r2]
    refine bd b3 (bd b4 (cn hgt ?_))
    (try dsimp only)
    rw [r3]
    exact bd b5 (bd b6 rfl)
  · rw [toL_a]
    have ew : sby 12 = (toW ++ [32]).map nI := by decide
    have el : (n3T bxW S U A ++ (toL ts ++ n3T toW x y z)).map nI = (n3T bxW S U A ++ toL ts).map nI ++ sby 12 ++ (dgN x ++ (32 :: (dgN y ++ (32 :: (dgN z ++ [59]))))).map nI := by
      rw [ew, ← List.map_append, ← List.map_append]
      refine congrArg (List.map nI) ?_
      unfold n3T
      simp only [List.append_assoc, List.cons_append, List.nil_append]
    rw [el]
    exact b7
  · obtain ⟨⟨p0, p1, p2, p3⟩, p4, p5, p6, p7⟩ := hP
    have n18 : M7.1 (18, 0, 0) = M.1 (18, 0, 0) := by
      rw [row (18, 0, 0) (by simp [ZB]), (f0 (18, 0, 0) (by simp)).1]
    refine ⟨by rw [n18]; exact ⟨p0, p1, p2, p3⟩, fun j h1 h2 => by rw [n18]; exact p4 j h1 h2, fun u hu => ?_, fun u => ?_, fun i => ?_⟩
    · rw [List.length_append] at hu
      have hu' : u < ts.length + 1 := hu
      rw [row (19, 0, 0) (by simp [ZB]), row (19, 0, 2) (by simp [ZB]), row (19, 0, 3) (by simp [ZB]), row (19, 0, 5) (by simp [ZB])]
      rw [putI_ne (r' := (19, 0, 0)) (by simp), putI_ne (r' := (19, 0, 0)) (by simp), putI_ne (r' := (19, 0, 0)) (by simp), putI_ne (r' := (19, 0, 2)) (by simp), putI_ne (r' := (19, 0, 2)) (by simp), putI_ne (r' := (19, 0, 3)) (by simp), g_row, g_row, g_row, g_row, putI_ne (r' := (19, 0, 2)) (by simp), putI_ne (r' := (19, 0, 3)) (by simp), putI_ne (r' := (19, 0, 3)) (by simp), putI_ne (r' := (19, 0, 5)) (by simp), putI_ne (r' := (19, 0, 5)) (by simp), putI_ne (r' := (19, 0, 5)) (by simp)]
      by_cases e : u = t
      · subst e
        rw [upd_s, upd_s, upd_s, upd_s, ← hl, gd_z]
        exact ⟨rfl, rfl, rfl, rfl⟩
      · rw [upd_o e, upd_o e, upd_o e, upd_o e, gd_a (by omega)]
        exact p5 u (by omega)
    · rw [row (19, 0, 1) (by simp [ZB]), row (19, 0, 4) (by simp [ZB]), (f0 (19, 0, 1) (by simp)).1, (f0 (19, 0, 4) (by simp)).1]
      exact p6 u
    · rw [row (20, 0, 0) (by simp [ZB]), (f0 (20, 0, 0) (by simp)).1]
      exact p7 i
set_option maxRecDepth 20000 in
theorem l112 (hL : L ≤ 260) (hT : T ≤ 12) : ∀ (d t f : Nat) (M : Mm) (ts : List Tr) (cap : Nat), t + d = T → d < f → ts.length = t → (∀ q ∈ ts, tOK q) → PTo M T S U A ts → TX M 0 ((n3T bxW S U A ++ toL ts).map nI) cap → CB cap →
    ∃ M' ts' cap', (∀ K : Int32 → Mm → Option (Int32 × Mm), fL_begins_L112 0 L xs K f (nI t) M = K (nI T) M') ∧ ts'.length = T ∧ (∀ q ∈ ts', tOK q) ∧ PTo M' T S U A ts' ∧ TX M' 0 ((n3T bxW S U A ++ toL ts').map nI) cap' ∧ CB cap' ∧ Fr sBg M M' := by
  intro d
  induction d with
  | zero =>
    intro t f M ts cap ht hf hl hq hP hX hC
    obtain ⟨f, rfl⟩ : ∃ x, f = x + 1 := ⟨f - 1, by omega⟩
    obtain rfl : t = T := by omega
    exact ⟨M, ts, cap, fun K => by rw [fL_begins_L112, if_pos (by rw [hP.1.2.2.2]; exact Int32.le_refl _)], hl, hq, hP, hX, hC, fr_rf⟩
  | succ d ih =>
    intro t f M ts cap ht hf hl hq hP hX hC
    obtain ⟨f, rfl⟩ : ∃ x, f = x + 1 := ⟨f - 1, by omega⟩
    have clt := nI_clamp (n := t) (by omega)
    have hgt : ¬ (nI t < 0 ∨ 12 ≤ t) := fun c => by rcases c with c | c; exact nI_pos (by omega) c; omega
    have i3 : (3 : Int32) * nI t = nI (3 * t) := pk_mul 3 t
    have i4 : (4 : Int32) + nI (3 * t) = nI (4 + 3 * t) := nI_add 4 _
    have i5 : (5 : Int32) + nI (3 * t) = nI (5 + 3 * t) := nI_add 5 _
    have i6 : (6 : Int32) + nI (3 * t) = nI (6 + 3 * t) := nI_add 6 _
    have pa := pick_ok (L := L) (xs := xs) (k := 4 + 3 * t) (n := 61) hL (by omega) (by decide) (by decide)
    have la := pv_lt (L := L) (xs := xs) (k := 4 + 3 * t) (n := 61) hL (by omega) (by decide) (by decide)
    have pb := pick_ok (L := L) (xs := xs) (k := 5 + 3 * t) (n := 9) hL (by omega) (by decide) (by decide)
    have lb := pv_lt (L := L) (xs := xs) (k := 5 + 3 * t) (n := 9) hL (by omega) (by decide) (by decide)
    have p2 := pick_ok (L := L) (xs := xs) (k := 6 + 3 * t) (n := 2) hL (by omega) (by decide) (by decide)
    have pc := pick_ok (L := L) (xs := xs) (k := 6 + 3 * t) (n := 990) hL (by omega) (by decide) (by decide)
    have lc := pv_lt (L := L) (xs := xs) (k := 6 + 3 * t) (n := 990) hL (by omega) (by decide) (by decide)
    have pd := pick_ok (L := L) (xs := xs) (k := 6 + 3 * t) (n := 40) hL (by omega) (by decide) (by decide)
    have ld := pv_lt (L := L) (xs := xs) (k := 6 + 3 * t) (n := 40) hL (by omega) (by decide) (by decide)
    have hge : ¬ M.1 (18, 0, 0) 3 ≤ nI t := by rw [hP.1.2.2.2]; exact nI_ge (by omega) (by omega)
    generalize pv L xs (4 + 3 * t) 61 = x at *
    generalize pv L xs (5 + 3 * t) 9 = y at *
    generalize pv L xs (6 + 3 * t) 2 = h2 at *
    generalize pv L xs (6 + 3 * t) 990 = z at *
    generalize pv L xs (6 + 3 * t) 40 = w at *
    have eb : (1 : Int32) + nI y = nI (1 + y) := nI_add 1 y
    have ez : (10 : Int32) + nI z = nI (10 + z) := nI_add 10 z
    have ew : (10 : Int32) + nI w = nI (10 + w) := nI_add 10 w
    have go : ∀ v, v ≤ 999 → 10 ≤ v → (∀ (K : Int32 → Mm → Option (Int32 × Mm)) (M7 : Mm), ((fJ4_append_15ec4K (putI (putI (putI (putI M (19, 0, 0) t (nI x)) (19, 0, 2) t (nI (1 + y))) (19, 0, 3) t (nI v)) (19, 0, 5) t (-99)) 0 12 1406).bind fun q61 => if nI t < 0 ∨ 12 ≤ t then none else (fJ4_append_bf812 q61 0 (q61.1 (19, 0, 0) t) 1406).bind fun q64 => (fJ4_append_cf468 q64 0 (32 : Int32) 1406).bind fun q66 => if nI t < 0 ∨ 12 ≤ t then none else (fJ4_append_bf812 q66 0 (q66.1 (19, 0, 2) t) 1406).bind fun q69 => (fJ4_append_cf468 q69 0 (32 : Int32) 1406).bind fun q71 => if nI t < 0 ∨ 12 ≤ t then none else (fJ4_append_bf812 q71 0 (q71.1 (19, 0, 3) t) 1406).bind fun q74 => (fJ4_append_cf468 q74 0 (59 : Int32) 1406).bind fun q76 => fL_begins_L112 0 L xs K f (nI t + (1 : Int32)) q76) = fL_begins_L112 0 L xs K f (nI (t + 1)) M7 → fL_begins_L112 0 L xs K (f + 1) (nI t) M = fL_begins_L112 0 L xs K f (nI (t + 1)) M7) →
        ∃ M' ts' cap', (∀ K : Int32 → Mm → Option (Int32 × Mm), fL_begins_L112 0 L xs K (f + 1) (nI t) M = K (nI T) M') ∧ ts'.length = T ∧ (∀ q ∈ ts', tOK q) ∧ PTo M' T S U A ts' ∧ TX M' 0 ((n3T bxW S U A ++ toL ts').map nI) cap' ∧ CB cap' ∧ Fr sBg M M' := by
      intro v hv1 hv2 hk
      obtain ⟨M7, c7, b1, b2, b3, b4, b5⟩ := l112_t (L := L) (xs := xs) (x := x) (y := 1 + y) (z := v) (show t < T by omega) hT hl (by omega) (by omega) (by omega) hP hX hC
      obtain ⟨M', ts', cap', d1, d2, d3, d4, d5, d6, d7⟩ := ih (t + 1) f M7 _ c7 (by omega) (by omega) (by rw [List.length_append, hl]; rfl) (fun q h => by
        rcases List.mem_append.mp h with h | h
        · exact hq q h
        · rw [List.mem_singleton.mp h]
          exact ⟨by show x ≤ 60; omega, ⟨by show 1 ≤ 1 + y; omega, by show 1 + y ≤ 9; omega⟩, hv2, hv1⟩) b4 b2 b3
      exact ⟨M', ts', cap', fun K => (hk K M7 (b1 K f)).trans (d1 K), d2, d3, d4, d5, d6, fr_tr b5 d7⟩
    by_cases c : nI h2 = 0
    · refine go (10 + z) (by omega) (by omega) fun K M7 h => ?_
      rw [fL_begins_L112, clt, i3, i4, i5, i6]
      refine cn hge (bd pa (cn hgt (bd pb (cn hgt (bd p2 (cy c (bd pc (cn hgt (cn hgt ?_)))))))))
      (try dsimp only)
      rw [eb, ez]
      exact h
    · refine go (10 + w) (by omega) (by omega) fun K M7 h => ?_
      rw [fL_begins_L112, clt, i3, i4, i5, i6]
      refine cn hge (bd pa (cn hgt (bd pb (cn hgt (bd p2 (cn c (bd pd (cn hgt (cn hgt ?_)))))))))
      (try dsimp only)
      rw [eb, ew]
      exact h
end BGL
