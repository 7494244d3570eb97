/-! the class writes: pins and comb, as lists of bytes -/
def sO1 (r : Rf) : Bool := r == (1, 1, 0) || r == (2, 1, 0)
theorem or_f {a b : Bool} (h1 : a = false) (h2 : b = false) : (a || b) = false := by rw [h1, h2]; rfl
theorem bx_dis {i : Nat} {r a : Rf} (hr : sBx i r = true) (ha : sBx i a = false) : (r == a) = false := by
  cases e : (r == a) with
  | false => rfl
  | true =>
    have : r = a := by simpa using e
    rw [this, ha] at hr
    cases hr
theorem dO1 (i : Nat) (r : Rf) (hr : sBx i r = true) : sO1 r = false := or_f (bx_dis hr rfl) (bx_dis hr rfl)
section WRT
variable {M : Mm} {bs : List Int32}
theorem ou_put {x : Int32} (h : OUT M bs) (hq : bs.length < 64) : ∃ M', fX1_put M 1 x = some M' ∧ OUT M' (bs ++ [x]) ∧ Fr sO1 M M' := by
  have b64 : bl 1 = 64 := by decide
  have hb : Int32.ofNat (bl 1) = nI 64 := by decide
  rw [fX1_put, h.1, if_neg (nI_pos (by omega)), hb, if_neg (nI_ge (by omega) (by omega)), b64, if_neg (nI_in (by omega) (by decide)), nI_clamp (by omega)]
  refine ⟨_, rfl, ⟨?_, ?_, fun k hk => ?_⟩, fr_pI (fr_putI rfl) rfl⟩
  · rw [g_row, upd_s, ← nI_succ, List.length_append]; rfl
  · rw [List.length_append]; exact hq
  · rw [List.length_append] at hk
    have hk2 : k < bs.length + 1 := hk
    rw [putI_ne (by decide), g_row]
    by_cases e : k = bs.length
    · rw [e, upd_s, gd_e]
    · rw [upd_o e, h.2.2 k (by omega), gd_l (by omega)]
def chP (g : GF) (P : PF) (S m t s : Nat) : Int32 := if P m t s = true then (if clS g P S m t s = true then 33 else 35) else 45
def rwB (g : GF) (P : PF) (S m t n : Nat) : List Int32 := (List.range n).map (chP g P S m t)
theorem rwB_n {g : GF} {P : PF} {S m t n : Nat} : (rwB g P S m t n).length = n := by simp [rwB]
theorem rwB_s {g : GF} {P : PF} {S m t n : Nat} : rwB g P S m t (n + 1) = rwB g P S m t n ++ [chP g P S m t n] := by simp [rwB, List.range_succ]
theorem chP_7 {g : GF} {P : PF} {S m t s : Nat} : b7 (chP g P S m t s) := by
  unfold chP b7
  split
  · split <;> decide
  · decide
theorem rwB_7 {g : GF} {P : PF} {S m t n : Nat} : b7s (rwB g P S m t n) := fun i hi => by
  rw [rwB_n] at hi
  rw [List.getD_eq_getElem?_getD]
  simp only [rwB, List.getElem?_map, List.getElem?_range hi]
  exact chP_7
variable {g : GF} {P : PF} {S T U A m0 p0 : Nat}
theorem cl_wpL {m t : Nat} (HI : Iv g P S T U A m0 p0) (hm : m < 3) (ht : t < T) {K : Int32 → Mm → Option (Int32 × Mm)} : ∀ (d v : Nat) (M : Mm) (n : Nat), v + d = S → d < n → BX M T 0 g P → OUT M (rwB g P S m t v) →
    ∃ M', fX9_writePins_L32 (nI m) (nI t) K n (nI v) M = K (nI S) M' ∧ OUT M' (rwB g P S m t S) ∧ Fr sO1 M M' := by
  have hT := HI.hT
  have hS := HI.hS
  intro d
  induction d with
  | zero =>
    intro v M n h1 h2 HB hw
    obtain ⟨n, rfl⟩ : ∃ q, n = q + 1 := ⟨n - 1, by omega⟩
    obtain rfl : v = S := by omega
    exact ⟨M, by rw [fX9_writePins_L32, bx_0 HB HI, if_pos (nI_le (Nat.le_refl _) (by omega))], hw, fr_rf⟩
  | succ d ih =>
    intro v M n h1 h2 HB hw
    obtain ⟨n, rfl⟩ : ∃ q, n = q + 1 := ⟨n - 1, by omega⟩
    obtain ⟨M1, a1, a2, a3⟩ := ou_put (x := chP g P S m t v) hw (by rw [rwB_n]; omega)
    rw [← rwB_s] at a2
    obtain ⟨M2, b1, b2, b3⟩ := ih (v + 1) M1 n (by omega) (by omega) (bx_fr (dO1 0) a3 HB) a2
    refine ⟨M2, ?_, b2, fr_tr a3 b3⟩
    rw [← b1, fX9_writePins_L32, bx_0 HB HI, if_neg (nI_ge (by omega) (by omega)), cl_hasPin HB hm (by omega) (by omega), Option.bind_some, ← nI_succ]
    unfold chP at a1
    cases hp : P m t v with
    | false =>
      rw [hp, if_neg (by decide)] at a1
      rw [if_pos (bI_0.mpr rfl), a1, Option.bind_some]
    | true =>
      rw [hp, if_pos rfl] at a1
      rw [if_neg (by decide), cl_close HB HI hm ht (by omega), Option.bind_some]
      cases hc : clS g P S m t v with
      | false =>
        rw [hc, if_neg (by decide)] at a1
        rw [if_pos (bI_0.mpr rfl), a1, Option.bind_some]
      | true =>
        rw [hc, if_pos rfl] at a1
        rw [if_neg (by decide), a1, Option.bind_some]
theorem an_writePins {m t : Nat} (HB : BX M T 0 g P) (HI : Iv g P S T U A m0 p0) (hm : m < 3) (ht : t < T) : ∃ M', fX9_writePins M (nI m) (nI t) = some (nI S, M') ∧ OUT M' (rwB g P S m t S) ∧ Fr sO1 M M' := by
  have hT := HI.hT
  have hS := HI.hS
  obtain ⟨M1, a1, a2, a3⟩ := cl_wpL HI hm ht (K := fun w15 M16 => some (M16.1 (1, 1, 0) 1, M16)) S 0 (putI M (1, 1, 0) 1 0) NF (by omega) (by unfold NF; omega) (bx_fr (dO1 0) (fr_putI rfl) HB) ⟨by rw [g_row, upd_s]; rfl, by rw [rwB_n]; omega, fun k hk => absurd hk (by rw [rwB_n]; exact Nat.not_lt_zero _)⟩
  refine ⟨M1, ?_, a2, fr_tr (fr_putI rfl) a3⟩
  rw [fX9_writePins, tf_ok hm, thf_ok (bx_3 HB HI) (by omega) ht, mx_00]
  refine bd rfs_0 (a1.trans ?_)
  rw [a2.1, rwB_n]
/-- a number from -9 to 99 -/
def nmB (x : Int32) : List Int32 := if 0 ≤ x then dgs x.toNatClampNeg else 45 :: dgs (-x).toNatClampNeg
theorem nmb_p : ∀ a, a < 100 → (nI a < 10 ↔ a < 10) ∧ (48 : Int32) + (nI a - nI a / 10 * 10) = nI (48 + a % 10) ∧ (48 : Int32) + nI a / 10 = nI (48 + a / 10) := by decide +kernel
theorem ou_dg {a : Nat} (ha : a < 100) (h : OUT M bs) (hq : bs.length + 2 ≤ 64) : ∃ M', (if nI a < (10 : Int32) then ((fX1_put M 1 ((48 : Int32) + (nI a - nI a / (10 : Int32) * (10 : Int32)))).bind fun q4 => some q4) else (fX1_put M 1 ((48 : Int32) + (nI a / (10 : Int32)))).bind fun q6 => (fX1_put q6 1 ((48 : Int32) + (nI a - nI a / (10 : Int32) * (10 : Int32)))).bind fun q8 => some q8) = some M' ∧ OUT M' (bs ++ dgs a) ∧ Fr sO1 M M' := by
  obtain ⟨f1, f2, f3⟩ := nmb_p a ha
  rw [f2, f3]
  unfold dgs
  by_cases c : a < 10
  · rw [if_pos (f1.mpr c), if_pos c]
    obtain ⟨M1, a1, a2, a3⟩ := ou_put (x := nI (48 + a % 10)) h (by omega)
    refine ⟨M1, by rw [a1]; rfl, ?_, a3⟩
    rw [show a % 10 = a by omega] at a2
    exact a2
  · rw [if_neg (fun x => c (f1.mp x)), if_neg c, if_pos ha]
    obtain ⟨M1, a1, a2, a3⟩ := ou_put (x := nI (48 + a / 10)) h (by omega)
    obtain ⟨M2, b1, b2, b3⟩ := ou_put (x := nI (48 + a % 10)) a2 (by rw [List.length_append]; show bs.length + 1 < 64; omega)
    refine ⟨M2, by rw [a1, Option.bind_some, b1]; rfl, ?_, fr_tr a3 b3⟩
    rw [List.append_assoc] at b2
    exact b2
/-- the pitches of the law: -3 to 63 -/
def ptc (x : Int32) : Prop := (∃ a, a < 64 ∧ x = nI a) ∨ ∃ a, 1 ≤ a ∧ a < 4 ∧ x = -nI a
theorem ptc_B {x : Int32} (h : ptc x) : (nmB x).length ≤ 2 := by
  rcases h with ⟨a, ha, rfl⟩ | ⟨a, h1, h2, rfl⟩
  · exact (by decide +kernel : ∀ a, a < 64 → (nmB (nI a)).length ≤ 2) a ha
  · exact (by decide +kernel : ∀ a, a < 4 → 1 ≤ a → (nmB (-nI a)).length ≤ 2) a h2 h1
theorem ou_num {x : Int32} (hx : ptc x) (h : OUT M bs) (hq : bs.length + 3 ≤ 64) : ∃ M', fX1_putNumber M 1 x = some M' ∧ OUT M' (bs ++ nmB x) ∧ Fr sO1 M M' := by
  unfold nmB
  rcases hx with ⟨a, ha, rfl⟩ | ⟨a, h1, h2, rfl⟩
  · have c : 0 ≤ nI a := nI_pos' (by omega)
    rw [fX1_putNumber, if_pos c, if_pos c, if_pos c, nI_clamp (by omega)]
    exact ou_dg (by omega) h (by omega)
  · have c : ¬ 0 ≤ -nI a := (neg_f a (by omega) h1).2
    rw [fX1_putNumber, if_neg c, if_neg c, if_neg c, show -(-nI a) = nI a from Int32.neg_neg, nI_clamp (by omega)]
    obtain ⟨M1, a1, a2, a3⟩ := ou_put (x := 45) h (by omega)
    obtain ⟨M2, b1, b2, b3⟩ := ou_dg (a := a) (by omega) a2 (by rw [List.length_append]; show bs.length + 1 + 2 ≤ 64; omega)
    refine ⟨M2, by rw [a1, Option.bind_some]; exact b1, ?_, fr_tr a3 b3⟩
    rw [List.append_assoc] at b2
    exact b2
theorem ptS_c (HI : Iv g P S T U A m0 p0) {t : Nat} (ht : t < T) : ptc (ptS g t) := by
  obtain ⟨⟨h1, h2⟩, h3, h4⟩ := HI.hq t ht
  obtain ⟨a, ha, e⟩ := nI_of2 (x := g (16 + 6 * t)) (M := 60) (n := 60) (by decide) (Int32.not_lt.mpr h1) h2
  have hb : ∃ b, b < 7 ∧ g (16 + 6 * t + 1) = nI b - 3 := by
    have k1 := Int32.le_iff_toInt_le.mp h3
    have k2 := Int32.le_iff_toInt_le.mp h4
    rw [show (-3 : Int32).toInt = -3 by decide] at k1
    rw [show (3 : Int32).toInt = 3 by decide] at k2
    refine ⟨((g (16 + 6 * t + 1)).toInt + 3).toNat, by omega, ?_⟩
    apply Int32.toInt_inj.mp
    rw [Int32.toInt_sub, nI_toInt (by omega), show (3 : Int32).toInt = 3 by decide, Int.bmod_eq_of_le (by omega) (by omega)]
    omega
  obtain ⟨b, hb, eb⟩ := hb
  unfold ptS
  rw [e, eb]
  unfold ptc
  have key : ∀ a, a < 61 → ∀ b, b < 7 → (3 ≤ a + b → nI a + (nI b - 3) = nI (a + b - 3)) ∧ (a + b < 3 → nI a + (nI b - 3) = -nI (3 - (a + b))) := by decide +kernel
  by_cases c : 3 ≤ a + b
  · exact Or.inl ⟨a + b - 3, by omega, (key a (by omega) b hb).1 c⟩
  · exact Or.inr ⟨3 - (a + b), by omega, by omega, (key a (by omega) b hb).2 (by omega)⟩
/-- the comb's text -/
def cmT (g : GF) (t : Nat) : List Int32 := (if t = 0 then [] else [32]) ++ (if brS g t = true then [120] else nmB (ptS g t))
def cmB (g : GF) : Nat → List Int32
  | 0 => []
  | t + 1 => cmB g t ++ cmT g t
theorem cmT_n (HI : Iv g P S T U A m0 p0) {t : Nat} (ht : t < T) : (cmT g t).length ≤ 3 := by
  have := ptc_B (ptS_c HI ht)
  unfold cmT
  rw [List.length_append]
  have h1 : (if t = 0 then ([] : List Int32) else [32]).length ≤ 1 := by split <;> decide
  have h2 : (if brS g t = true then ([120] : List Int32) else nmB (ptS g t)).length ≤ 2 := by split; decide; exact this
  omega
theorem cmB_n (HI : Iv g P S T U A m0 p0) : ∀ t, t ≤ T → (cmB g t).length ≤ 3 * t
  | 0, _ => Nat.le_refl _
  | t + 1, h => by
    have := cmB_n HI t (by omega)
    have := cmT_n HI (show t < T by omega)
    rw [cmB, List.length_append]
    omega
theorem b7s_app {as bs : List Int32} (h1 : b7s as) (h2 : b7s bs) : b7s (as ++ bs) := fun i hi => by
  rw [List.length_append] at hi
  by_cases c : i < as.length
  · rw [gd_l c]; exact h1 i c
  · rw [gd_r (by omega)]; exact h2 _ (by omega)
theorem b7s_all {bs : List Int32} (h : ∀ x ∈ bs, b7 x) : b7s bs := fun i hi => by
  rw [List.getD_eq_getElem?_getD, List.getElem?_eq_getElem hi]
  exact h _ (List.getElem_mem hi)
theorem dgs_7 : ∀ a, a < 1000 → ∀ x ∈ dgs a, b7 x := by
  intro a ha x hx
  have k : ∀ a, a < 1000 → (dgs a).all (fun x => decide (0 ≤ x ∧ x < 128)) = true := by decide +kernel
  have := List.all_eq_true.mp (k a ha) x hx
  exact (of_decide_eq_true this : 0 ≤ x ∧ x < 128)
theorem nmB_7 {x : Int32} (h : ptc x) : b7s (nmB x) := b7s_all (by
  rcases h with ⟨a, ha, rfl⟩ | ⟨a, h1, h2, rfl⟩
  · unfold nmB
    rw [if_pos (nI_pos' (by omega)), nI_clamp (by omega)]
    exact dgs_7 a (by omega)
  · unfold nmB
    rw [if_neg (neg_f a (by omega) h1).2, show -(-nI a) = nI a from Int32.neg_neg, nI_clamp (by omega)]
    intro y hy
    rcases List.mem_cons.mp hy with e | e
    · subst e; unfold b7; decide
    · exact dgs_7 a (by omega) y e)
theorem cmB_7 (HI : Iv g P S T U A m0 p0) : ∀ t, t ≤ T → b7s (cmB g t)
  | 0, _ => fun i hi => absurd hi (Nat.not_lt_zero i)
  | t + 1, h => b7s_app (cmB_7 HI t (by omega)) (by
    unfold cmT
    refine b7s_app ?_ ?_
    · split
      · exact fun i hi => absurd hi (Nat.not_lt_zero i)
      · exact b7s_all (by unfold b7; decide)
    · split
      · exact b7s_all (by unfold b7; decide)
      · exact nmB_7 (ptS_c HI (by omega)))
theorem cl_cmL (HI : Iv g P S T U A m0 p0) {K : Int32 → Mm → Option (Int32 × Mm)} : ∀ (d v : Nat) (M : Mm) (n : Nat), v + d = T → d < n → BX M T 0 g P → OUT M (cmB g v) →
    ∃ M', fX9_writeComb_L10 K n (nI v) M = K (nI T) M' ∧ OUT M' (cmB g T) ∧ Fr sO1 M M' := by
  have hT := HI.hT
  intro d
  induction d with
  | zero =>
    intro v M n h1 h2 HB hw
    obtain ⟨n, rfl⟩ : ∃ q, n = q + 1 := ⟨n - 1, by omega⟩
    obtain rfl : v = T := by omega
    exact ⟨M, by rw [fX9_writeComb_L10, bx_3 HB HI, if_pos (nI_le (Nat.le_refl _) (by omega))], hw, fr_rf⟩
  | succ d ih =>
    intro v M n h1 h2 HB hw
    obtain ⟨n, rfl⟩ : ∃ q, n = q + 1 := ⟨n - 1, by omega⟩
    have hn := cmB_n HI v (by omega)
    have hg : ¬ (nI v < 0 ∨ 12 ≤ (nI v).toNatClampNeg) := nI_in (by omega) (by decide)
    have tail : ∀ (M0 : Mm) (bs : List Int32), bs.length ≤ 3 * v + 1 → BX M0 T 0 g P → OUT M0 bs → ∃ M1, (if nI v < 0 ∨ 12 ≤ (nI v).toNatClampNeg then none else if (fX8_brokenNow M0 0 (nI v).toNatClampNeg) = 0 then (if nI v < 0 ∨ 12 ≤ (nI v).toNatClampNeg then none else (fX1_putNumber M0 1 (fX8_pitchNow M0 0 (nI v).toNatClampNeg)).bind fun q6 => fX9_writeComb_L10 K n (nI v + (1 : Int32)) q6) else (fX1_put M0 1 (120 : Int32)).bind fun q8 => fX9_writeComb_L10 K n (nI v + (1 : Int32)) q8) = fX9_writeComb_L10 K n (nI (v + 1)) M1 ∧ OUT M1 (bs ++ (if brS g v = true then [120] else nmB (ptS g v))) ∧ Fr sO1 M0 M1 := by
      intro M0 bs hbs HB0 hw0
      rw [if_neg hg, if_neg hg, nI_clamp (by omega), cl_brB HB0 (by omega), ← nI_succ]
      cases hb : brS g v with
      | false =>
        rw [if_pos (bI_0.mpr rfl), if_neg (by decide), cl_pitch HB0 (by omega)]
        obtain ⟨M1, a1, a2, a3⟩ := ou_num (ptS_c HI (show v < T by omega)) hw0 (by omega)
        exact ⟨M1, by rw [a1, Option.bind_some], a2, a3⟩
      | true =>
        rw [if_neg (by decide), if_pos rfl]
        obtain ⟨M1, a1, a2, a3⟩ := ou_put (x := 120) hw0 (by omega)
        exact ⟨M1, by rw [a1, Option.bind_some], a2, a3⟩
    rw [fX9_writeComb_L10, bx_3 HB HI, if_neg (nI_ge (by omega) (by omega)), if_neg (nI_g12 (by omega))]
    by_cases c : v = 0
    · have e : cmB g (v + 1) = cmB g v ++ (if brS g v = true then [120] else nmB (ptS g v)) := by
        rw [cmB, cmT, if_pos c]; rfl
      obtain ⟨M1, a1, a2, a3⟩ := tail M _ (by omega) HB hw
      rw [← e] at a2
      obtain ⟨M2, b1, b2, b3⟩ := ih (v + 1) M1 n (by omega) (by omega) (bx_fr (dO1 0) a3 HB) a2
      exact ⟨M2, by rw [if_pos (show nI v ≤ 0 by rw [c]; decide)]; exact a1.trans b1, b2, fr_tr a3 b3⟩
    · have e : cmB g (v + 1) = (cmB g v ++ [32]) ++ (if brS g v = true then [120] else nmB (ptS g v)) := by
        rw [cmB, cmT, if_neg c, List.append_assoc]
      obtain ⟨M0, z1, z2, z3⟩ := ou_put (x := 32) hw (by omega)
      obtain ⟨M1, a1, a2, a3⟩ := tail M0 _ (by rw [List.length_append]; show _ + 1 ≤ _; omega) (bx_fr (dO1 0) z3 HB) z2
      rw [← e] at a2
      obtain ⟨M2, b1, b2, b3⟩ := ih (v + 1) M1 n (by omega) (by omega) (bx_fr (dO1 0) a3 (bx_fr (dO1 0) z3 HB)) a2
      exact ⟨M2, by rw [if_neg (nI_nle (by omega) (by omega)), z1, Option.bind_some]; exact a1.trans b1, b2, fr_tr z3 (fr_tr a3 b3)⟩
theorem an_writeComb (HB : BX M T 0 g P) (HI : Iv g P S T U A m0 p0) : ∃ M', fX9_writeComb M = some (nI (cmB g T).length, M') ∧ OUT M' (cmB g T) ∧ Fr sO1 M M' := by
  have hT := HI.hT
  obtain ⟨M1, a1, a2, a3⟩ := cl_cmL HI (K := fun w15 M16 => some (M16.1 (1, 1, 0) 1, M16)) T 0 (putI M (1, 1, 0) 1 0) NF (by omega) (by unfold NF; omega) (bx_fr (dO1 0) (fr_putI rfl) HB) ⟨by rw [g_row, upd_s]; rfl, Nat.zero_le _, fun k hk => absurd hk (Nat.not_lt_zero _)⟩
  refine ⟨M1, ?_, a2, fr_tr (fr_putI rfl) a3⟩
  rw [fX9_writeComb]
  refine a1.trans ?_
  rw [a2.1]
end WRT
