/-! the law draws its box and writes its text -/
def CB (cap : Nat) : Prop := cap = 20 ∨ cap = 42 ∨ cap = 86 ∨ cap = 174 ∨ cap = 350 ∨ cap = 702 ∨ cap = 1406
theorem cb_e {cap n : Nat} (h : CB cap) (hn : n ≤ cap + 8) (h7 : n ≤ 700) : CB (ecp cap n) ∧ cap ≤ 1406 ∧ n ≤ 1406 ∧ (n ≤ cap ∨ 2 * cap + 2 ≤ 1406) := by
  unfold ecp
  unfold CB at *
  rcases h with rfl | rfl | rfl | rfl | rfl | rfl | rfl
  all_goals (split <;> omega)
section BEG
variable {M : Mm} {bs : List Int32} {cap : Nat}
theorem bC {c : Int32} (h : TX M 0 bs cap) (hc : CB cap) (h7 : b7 c) (hn : bs.length + 1 ≤ 700) : ∃ M' cap', fJ4_append_cf468 M 0 c 1406 = some M' ∧ TX M' 0 (bs ++ [c]) cap' ∧ CB cap' ∧ Off (ZB 0) M M' := by
  have hl := h.2.2.2.1
  obtain ⟨q1, q2, q3, q4⟩ := cb_e (n := bs.length + 1) hc (by omega) hn
  obtain ⟨M', a1, a2, a3, a4⟩ := apCx (B := 1406) h h7 q3 q4 q2 (by decide)
  exact ⟨M', _, a1, a2, q1, a4⟩
theorem dgs_n (a : Nat) : (dgs a).length ≤ 3 := by
  rw [← dgN_s, List.length_map]
  exact (dgN_0 a).2
theorem bI3 {a : Nat} (ha : a < 1000) (h : TX M 0 bs cap) (hc : CB cap) (hn : bs.length + 3 ≤ 700) : ∃ M' cap', fJ4_append_bf812 M 0 (nI a) 1406 = some M' ∧ TX M' 0 (bs ++ dgs a) cap' ∧ CB cap' ∧ Off (ZB 0) M M' := by
  have hl := h.2.2.2.1
  have h3 := dgs_n a
  obtain ⟨q1, q2, q3, q4⟩ := cb_e (n := bs.length + (dgs a).length) hc (by omega) (by omega)
  obtain ⟨M', a1, a2, a3, a4⟩ := apIx (B := 1406) ha h q2 q3 q4 (by decide)
  exact ⟨M', _, a1, a2, q1, a4⟩
theorem bK {j : Nat} (hj : j < 15) (h6 : (sby j).length ≤ 6) (h : TX M 0 bs cap) (hc : CB cap) (hn : bs.length + 6 ≤ 700) : ∃ M' cap', fJ4_append_15ec4K M 0 j 1406 = some M' ∧ TX M' 0 (bs ++ sby j) cap' ∧ CB cap' ∧ Off (ZB 0) M M' := by
  have hl := h.2.2.2.1
  obtain ⟨q1, q2, q3, q4⟩ := cb_e (n := bs.length + (sby j).length) hc (by omega) (by omega)
  obtain ⟨M', a1, a2, a3, a4⟩ := apKx (B := 1406) hj h q2 q3 q4 (by decide)
  exact ⟨M', _, apK4 a1, a2, q1, a4⟩
/-- three numbers -/
theorem b6 {x y z : Nat} (hx : x < 1000) (hy : y < 1000) (hz : z < 1000) (h : TX M 0 bs cap) (hc : CB cap) (hn : bs.length + 12 ≤ 700) :
    ∃ M1 M2 M3 M4 M5 M6 cap', fJ4_append_bf812 M 0 (nI x) 1406 = some M1 ∧ fJ4_append_cf468 M1 0 32 1406 = some M2 ∧ fJ4_append_bf812 M2 0 (nI y) 1406 = some M3 ∧ fJ4_append_cf468 M3 0 32 1406 = some M4 ∧ fJ4_append_bf812 M4 0 (nI z) 1406 = some M5 ∧ fJ4_append_cf468 M5 0 59 1406 = some M6 ∧
      TX M6 0 (bs ++ ((dgN x ++ (32 :: (dgN y ++ (32 :: (dgN z ++ [59]))))).map nI)) cap' ∧ CB cap' ∧ Off (ZB 0) M M1 ∧ Off (ZB 0) M M2 ∧ Off (ZB 0) M M3 ∧ Off (ZB 0) M M4 ∧ Off (ZB 0) M M5 ∧ Off (ZB 0) M M6 := by
  have n1 := dgs_n x
  have n2 := dgs_n y
  have n3 := dgs_n z
  obtain ⟨M1, c1, a1, a2, a3, a4⟩ := bI3 hx h hc (by omega)
  obtain ⟨M2, c2, b1, b2, b3, b4⟩ := bC (c := 32) a2 a3 (by unfold b7; decide) (by rw [List.length_append]; omega)
  have l2 : (bs ++ dgs x ++ [(32 : Int32)]).length ≤ bs.length + 4 := by simp only [List.length_append, List.length_cons, List.length_nil]; omega
  obtain ⟨M3, c3, d1, d2, d3, d4⟩ := bI3 hy b2 b3 (by omega)
  have l3 : (bs ++ dgs x ++ [(32 : Int32)] ++ dgs y).length ≤ bs.length + 7 := by rw [List.length_append]; omega
  obtain ⟨M4, c4, e1, e2, e3, e4⟩ := bC (c := 32) d2 d3 (by unfold b7; decide) (by omega)
  have l4 : (bs ++ dgs x ++ [(32 : Int32)] ++ dgs y ++ [(32 : Int32)]).length ≤ bs.length + 8 := by rw [List.length_append]; show _ + 1 ≤ _; omega
  obtain ⟨M5, c5, f1, f2, f3, f4⟩ := bI3 hz e2 e3 (by omega)
  have l5 : (bs ++ dgs x ++ [(32 : Int32)] ++ dgs y ++ [(32 : Int32)] ++ dgs z).length ≤ bs.length + 11 := by rw [List.length_append]; omega
  obtain ⟨M6, c6, g1, g2, g3, g4⟩ := bC (c := 59) f2 f3 (by unfold b7; decide) (by omega)
  refine ⟨M1, M2, M3, M4, M5, M6, c6, a1, b1, d1, e1, f1, g1, ?_, g3, a4, a4.tr b4, (a4.tr b4).tr d4, ((a4.tr b4).tr d4).tr e4, (((a4.tr b4).tr d4).tr e4).tr f4, ((((a4.tr b4).tr d4).tr e4).tr f4).tr g4⟩
  have el : bs ++ ((dgN x ++ (32 :: (dgN y ++ (32 :: (dgN z ++ [59]))))).map nI) = bs ++ dgs x ++ [(32 : Int32)] ++ dgs y ++ [(32 : Int32)] ++ dgs z ++ [(59 : Int32)] := by
    simp only [List.map_append, List.map_cons, List.map_nil, dgN_s, List.append_assoc, List.cons_append, List.nil_append]
    rfl
  rw [el]
  exact g2
end BEG
/-- the builder begins with a constant -/
theorem ini_ok {M : Mm} (h3 : M.1 (24, 0, 0) 3 = 0) : ∃ M' cap', fJ5_init_K M 0 11 1406 = some M' ∧ TX M' 0 (sby 11) cap' ∧ CB cap' ∧ Off (ZB 0) M M' := by
  have hLG := LGv
  have es : slen 11 + (16 : Int32) = nI 20 := by decide
  have t0 : TX (nB (putI M (24, 0, 0) 1 0) (25, 0, 0) (nI 20)) 0 [] 20 := by
    have p24 : (nB (putI M (24, 0, 0) 1 0) (25, 0, 0) (nI 20)).1 (24, 0, 0) = upd (M.1 (24, 0, 0)) 1 0 := by rw [(nB_o _ (by simp)).1, g_row]
    refine ⟨?_, ?_, nB_L, Nat.zero_le _, by decide, fun i hi => absurd hi (Nat.not_lt_zero i), fitB_of fun i hi => ?_⟩
    · rw [p24, upd_s]
    · rw [p24, upd_o (by decide)]; exact h3
    · rw [nB_0 (by omega)]; decide
  have f0 : Off (ZB 0) M (nB (putI M (24, 0, 0) 1 0) (25, 0, 0) (nI 20)) := fun r hr => by
    simp only [ZB, List.mem_cons, List.not_mem_nil, or_false, not_or] at hr
    have h1 := nB_o (M := putI M (24, 0, 0) 1 0) (n := nI 20) r hr.2.1
    exact ⟨h1.1.trans (putI_ne hr.1), h1.2⟩
  obtain ⟨M', cap', a1, a2, a3, a4⟩ := bK (j := 11) (by decide) (by decide) t0 (Or.inl rfl) (by decide)
  refine ⟨M', cap', ?_, a2, a3, f0.tr a4⟩
  unfold fJ5_init_K fJ4_append_cf1ceK
  rw [es]
  exact cy ⟨nI_pos (by decide), by rw [nI_clamp (by decide)]; decide⟩ (bd a1 rfl)
/-! what the drawn teeth come to -/
theorem gTs_a {g : GF} {T : Nat} {q : Tr} : ∀ (ts : List Tr) (g : GF) (T : Nat), gTs g T (ts ++ [q]) = gTo (gTs g T ts) (T + ts.length) (nI q.1) (nI q.2.1) (nI q.2.2)
  | [], _, _ => rfl
  | t :: ts, g, T => by
    rw [List.cons_append, gTs, gTs, gTs_a (g := g) (T := T) ts, show T + 1 + ts.length = T + (t :: ts).length by rw [List.length_cons]; omega]
/-- the numbers of teeth that are drawn one by one -/
def gOK (S U A : Nat) (ts : List Tr) (g : GF) : Prop := (∀ k, k < 16 → k ≠ 3 → g k = gB S U A k) ∧ g 3 = nI ts.length ∧ ∀ u, u < ts.length → g (16 + 6 * u) = nI (ts.getD u (0, 0, 0)).1 ∧ g (16 + 6 * u + 1) = 0 ∧ g (16 + 6 * u + 2) = nI (ts.getD u (0, 0, 0)).2.1 ∧ g (16 + 6 * u + 3) = nI (ts.getD u (0, 0, 0)).2.2 ∧ g (16 + 6 * u + 4) = 0 ∧ g (16 + 6 * u + 5) = 99
theorem gz {S U A : Nat} {ts : List Tr} : ∀ n, n = ts.length → (∀ k, 16 + 6 * n ≤ k → gTs (gB S U A) 0 ts k = 0) ∧ gOK S U A ts (gTs (gB S U A) 0 ts) := by
  intro n
  induction n generalizing ts with
  | zero =>
    intro h
    have e : ts = [] := List.eq_nil_of_length_eq_zero h.symm
    subst e
    refine ⟨fun k hk => ?_, fun k _ _ => rfl, rfl, fun u hu => absurd hu (Nat.not_lt_zero u)⟩
    show gB S U A k = 0
    unfold gB
    rw [if_neg (by omega), if_neg (by omega), if_neg (by omega)]
  | succ n ih =>
    intro h
    obtain ⟨ts', q, rfl⟩ : ∃ ts' q, ts = ts' ++ [q] := ⟨ts.dropLast, ts.getLast (by intro c; rw [c] at h; cases h), (List.dropLast_concat_getLast _).symm⟩
    have hl : ts'.length = n := by rw [List.length_append] at h; have : n + 1 = ts'.length + 1 := h; omega
    obtain ⟨i1, i2, i3, i4⟩ := ih hl.symm
    rw [gTs_a (g := gB S U A) (T := 0), Nat.zero_add, hl]
    have ho : ∀ k, k ≠ 3 → (k < 16 + 6 * n ∨ 16 + 6 * n + 6 ≤ k) → gTo (gTs (gB S U A) 0 ts') n (nI q.1) (nI q.2.1) (nI q.2.2) k = gTs (gB S U A) 0 ts' k := fun k h1 h2 => by
      unfold gTo
      rw [upd_o h1, upd_o (by omega), upd_o (by omega), upd_o (by omega), upd_o (by omega)]
    refine ⟨fun k hk => by rw [ho k (by omega) (by omega)]; exact i1 k (by omega), fun k h1 h2 => by rw [ho k h2 (by omega)]; exact i2 k h1 h2, ?_, fun u hu => ?_⟩
    · unfold gTo
      rw [upd_s, List.length_append, hl]; rfl
    · rw [List.length_append, hl] at hu
      have hu' : u < n + 1 := hu
      by_cases e : u = n
      · subst e
        have eg : (ts' ++ [q]).getD u (0, 0, 0) = q := by
          rw [List.getD_eq_getElem?_getD, List.getElem?_append_right (by omega), hl, Nat.sub_self]; rfl
        rw [eg]
        unfold gTo
        refine ⟨?_, ?_, ?_, ?_, ?_, ?_⟩
        · rw [upd_o (by omega), upd_o (by omega), upd_o (by omega), upd_o (by omega), upd_s]
        · rw [upd_o (by omega), upd_o (by omega), upd_o (by omega), upd_o (by omega), upd_o (by omega)]; exact i1 _ (by omega)
        · rw [upd_o (by omega), upd_o (by omega), upd_o (by omega), upd_s]
        · rw [upd_o (by omega), upd_o (by omega), upd_s]
        · rw [upd_o (by omega), upd_o (by omega), upd_o (by omega), upd_o (by omega), upd_o (by omega)]; exact i1 _ (by omega)
        · rw [upd_o (by omega), upd_s]
      · have eg : (ts' ++ [q]).getD u (0, 0, 0) = ts'.getD u (0, 0, 0) := by
          rw [List.getD_eq_getElem?_getD, List.getD_eq_getElem?_getD, List.getElem?_append_left (by omega)]
        rw [eg, ho _ (by omega) (by omega), ho _ (by omega) (by omega), ho _ (by omega) (by omega), ho _ (by omega) (by omega), ho _ (by omega) (by omega), ho _ (by omega) (by omega)]
        exact i4 u (by omega)
theorem gB_0 {S U A : Nat} (k : Nat) (hk : 3 ≤ k) : gB S U A k = 0 := by
  unfold gB
  rw [if_neg (by omega), if_neg (by omega), if_neg (by omega)]
theorem uw_0 {S U A : Nat} {ts : List Tr} : uwS (gTs (gB S U A) 0 ts) ts.length = 0 := by
  obtain ⟨h1, h2, h3⟩ := (gz (S := S) (U := U) (A := A) (ts := ts) ts.length rfl).2
  have hs : sI (fun t => gTs (gB S U A) 0 ts (16 + 6 * t + 4)) ts.length = 0 := by
    rw [sI_cong ts.length (h := fun _ => 0) (fun t ht => (h3 t ht).2.2.2.2.1)]
    have : ∀ n, sI (fun _ => 0) n = 0 := fun n => by
      induction n with
      | zero => rfl
      | succ n ih => rw [sI, ih]; rfl
    exact this _
  unfold uwS
  rw [hs, h1 10 (by decide) (by decide), h1 6 (by decide) (by decide), h1 7 (by decide) (by decide), h1 9 (by decide) (by decide), gB_0 10 (by decide), gB_0 6 (by decide), gB_0 7 (by decide), gB_0 9 (by decide)]
  decide
/-! Own's teeth, drawn one by one -/
def PTo (M : Mm) (T S U A : Nat) (ts : List Tr) : Prop := (M.1 (18, 0, 0) 0 = nI S ∧ M.1 (18, 0, 0) 1 = nI U ∧ M.1 (18, 0, 0) 2 = nI A ∧ M.1 (18, 0, 0) 3 = nI T) ∧ (∀ j, 4 ≤ j → j < 11 → M.1 (18, 0, 0) j = 0) ∧
  (∀ u, u < ts.length → M.1 (19, 0, 0) u = nI (ts.getD u (0, 0, 0)).1 ∧ M.1 (19, 0, 2) u = nI (ts.getD u (0, 0, 0)).2.1 ∧ M.1 (19, 0, 3) u = nI (ts.getD u (0, 0, 0)).2.2 ∧ M.1 (19, 0, 5) u = -99) ∧ (∀ u, M.1 (19, 0, 1) u = 0 ∧ M.1 (19, 0, 4) u = 0) ∧ ∀ i, M.1 (20, 0, 0) i = 0
theorem pto_ox {M : Mm} {T S U A : Nat} {ts : List Tr} (hT : T = ts.length) (h : PTo M T S U A ts) : OX M 0 T (gTs (gB S U A) 0 ts) (fun _ _ _ => false) := by
  obtain ⟨g1, g2, g3⟩ := (gz (S := S) (U := U) (A := A) (ts := ts) ts.length rfl).2
  obtain ⟨⟨h0, h1, h2, h3⟩, h4, h5, h6, h7⟩ := h
  refine ⟨fun j hj => ?_, fun t ht q hq => ?_, fun t ht => ?_, fun m hm t ht s hs => h7 _⟩
  · by_cases e3 : j = 3
    · rw [e3, h3, g2, hT]
    · rw [g1 j (by omega) e3]
      have : j = 0 ∨ j = 1 ∨ j = 2 ∨ (4 ≤ j) := by omega
      rcases this with rfl | rfl | rfl | h8
      · exact h0
      · exact h1
      · exact h2
      · rw [h4 j h8 hj]
        unfold gB
        rw [if_neg (by omega), if_neg (by omega), if_neg (by omega)]
  · obtain ⟨k0, k1, k2, k3, k4, k5⟩ := g3 t (by omega)
    obtain ⟨l0, l2, l3, l5⟩ := h5 t (by omega)
    have : q = 0 ∨ q = 1 ∨ q = 2 ∨ q = 3 ∨ q = 4 := by omega
    rcases this with rfl | rfl | rfl | rfl | rfl
    · rw [l0]; exact k0.symm
    · rw [(h6 t).1, k1]
    · rw [l2, k2]
    · rw [l3, k3]
    · rw [(h6 t).2, k4]
  · obtain ⟨k0, k1, k2, k3, k4, k5⟩ := g3 t (by omega)
    obtain ⟨l0, l2, l3, l5⟩ := h5 t (by omega)
    rw [l5, h4 8 (by decide) (by decide), k5]
    exact ⟨by decide, by decide⟩
