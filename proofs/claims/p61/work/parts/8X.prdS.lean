/-! the class reads a setup that is known -/
theorem oth_c {q x : Nat} {xs : List Nat} (h : kN x ≠ q) : OTH q (x :: xs) := fun y ys e => by
  cases e
  exact h
theorem oth_n {q : Nat} : OTH q [] := fun y ys e => by cases e
def n3T (w : List Nat) (x y z : Nat) : List Nat := w ++ (32 :: (dgN x ++ (32 :: (dgN y ++ (32 :: (dgN z ++ [59]))))))
def bxW : List Nat := [98, 111, 120]
def toW : List Nat := [116, 111, 111, 116, 104]
def piW : List Nat := [112, 105, 110]
theorem w_1 : sby 1 = bxW.map nI ∧ sby 2 = toW.map nI ∧ sby 3 = piW.map nI := by decide
theorem w_k : (∀ x ∈ bxW, kN x = 1) ∧ (∀ x ∈ toW, kN x = 1) ∧ (∀ x ∈ piW, kN x = 1) := by decide
section RSU
variable {M : Mm} {bs pre post : List Nat} {c h : Nat}
theorem rd_3 {x y z L1 H1 L2 H2 L3 H3 : Nat} (hx : x < 1000 ∧ L1 ≤ x ∧ x ≤ H1 ∧ H1 ≤ 999) (hy : y < 1000 ∧ L2 ≤ y ∧ y ≤ H2 ∧ H2 ≤ 999) (hz : z < 1000 ∧ L3 ≤ z ∧ z ≤ H3 ∧ H3 ≤ 999) (H : ATp M bs c h pre (32 :: (dgN x ++ (32 :: (dgN y ++ (32 :: (dgN z ++ (59 :: post)))))))) :
    ∃ M1 M2 M3 h' pre', fX7_takeNumber M (nI L1) (nI H1) = some (nI x, M1) ∧ fX7_takeNumber M1 (nI L2) (nI H2) = some (nI y, M2) ∧ fX7_takeNumber M2 (nI L3) (nI H3) = some (nI z, M3) ∧ ATp M3 bs c h' pre' (59 :: post) ∧ Fr sT M M1 ∧ Fr sT M M2 ∧ Fr sT M M3 := by
  obtain ⟨M1, a1, a2, a3⟩ := rd_num (sep := true) hx.1 rfl rfl hx.2.1 hx.2.2.1 hx.2.2.2 (oth_c (by decide)) H
  obtain ⟨M2, b1, b2, b3⟩ := rd_num (sep := true) hy.1 rfl rfl hy.2.1 hy.2.2.1 hy.2.2.2 (oth_c (by decide)) a2
  obtain ⟨M3, c1, c2, c3⟩ := rd_num (sep := true) hz.1 rfl rfl hz.2.1 hz.2.2.1 hz.2.2.2 (oth_c (by decide)) b2
  exact ⟨M1, M2, M3, _, _, a1, b1, c1, c2, a3, fr_tr a3 b3, fr_tr a3 (fr_tr b3 c3)⟩
theorem at_B {M' : Mm} {rest : List Nat} (hF : Fr (sBx 1) M M') (H : ATp M bs c h pre rest) : ATp M' bs c h pre rest := ⟨pc_B hF H.1, H.2⟩
theorem bzr1 {M : Mm} : (some (bz (1 : Int32), M) : Option (Int32 × Mm)) = some (1, M) := by rw [show bz 1 = 1 by decide]
theorem nI_n1 {v : Nat} (h : v < 2 ^ 31) : ¬ nI v = -1 := nI_m1 h
theorem rd_head {S U A : Nat} (hS : 4 ≤ S ∧ S ≤ 64) (hU : U ≤ 20) (hA : A ≤ 90) (H : ATp M bs c h pre (n3T bxW S U A ++ post)) :
    ∃ M' h' pre', fX6_readHead M = some (1, M') ∧ ATp M' bs c h' pre' post ∧ BX M' 0 1 (gB S U A) (fun _ _ _ => false) ∧ Fr sS1 M M' := by
  have H' : ATp M bs c h pre (bxW ++ (32 :: (dgN S ++ (32 :: (dgN U ++ (32 :: (dgN A ++ (59 :: post)))))))) := by
    unfold n3T at H
    simpa only [List.append_assoc, List.cons_append, List.nil_append] using H
  obtain ⟨w1, w2, w3, w4⟩ := rd_word (j := 1) (by decide) w_1.1 w_k.1 (by decide) (oth_c (by decide)) H'
  obtain ⟨M1, M2, M3, h', pre', a1, a2, a3, a4, -, -, a7⟩ := rd_3 (L1 := 4) (H1 := 64) (L2 := 0) (H2 := 20) (L3 := 0) (H3 := 90) ⟨by omega, hS.1, hS.2, by decide⟩ ⟨by omega, Nat.zero_le _, hU, by decide⟩ ⟨by omega, Nat.zero_le _, hA, by decide⟩ w3
  obtain ⟨M4, b1, b2, b3⟩ := cl_begin (M := M3) (i := 1) (S := S) (U := U) (A := A)
  obtain ⟨M5, c1, c2, c3⟩ := rd_sign (at_B b3 a4)
  refine ⟨M5, _, _, ?_, c2, bx_T c3 b2, fr_tr (s1_T w4) (fr_tr (s1_T a7) (fr_tr (s1_B b3) (s1_T c3)))⟩
  rw [fX6_readHead]
  exact bd w2 (cn one_n0 (bd a1 (cn (nI_n1 (by omega)) (bd a2 (cn (nI_n1 (by omega)) (bd a3 (cn (nI_n1 (by omega)) (bd b1 (bd c1 bzr1)))))))))
theorem rd_tooth {S U A T x y z : Nat} {g : GF} {P : PF} (hx : x ≤ 60) (hy : 1 ≤ y ∧ y ≤ 9) (hz : 10 ≤ z ∧ z ≤ 999) (hT : T < 12) (HB : BX M T 1 g P) (HJ : Jv g P S T U A) (H : ATp M bs c h pre (n3T toW x y z ++ post)) :
    fX7_atWord M 2 = some 1 ∧ ∃ M' h' pre', fX6_readTooth M = some (1, M') ∧ ATp M' bs c h' pre' post ∧ BX M' (T + 1) 1 (gTo g T (nI x) (nI y) (nI z)) P ∧ Jv (gTo g T (nI x) (nI y) (nI z)) P S (T + 1) U A ∧ Fr sS1 M M' := by
  have H' : ATp M bs c h pre (toW ++ (32 :: (dgN x ++ (32 :: (dgN y ++ (32 :: (dgN z ++ (59 :: post)))))))) := by
    unfold n3T at H
    simpa only [List.append_assoc, List.cons_append, List.nil_append] using H
  obtain ⟨w1, w2, w3, w4⟩ := rd_word (j := 2) (by decide) w_1.2.1 w_k.2.1 (by decide) (oth_c (by decide)) H'
  obtain ⟨M1, M2, M3, h', pre', a1, a2, a3, a4, -, -, a7⟩ := rd_3 (L1 := 0) (H1 := 60) (L2 := 1) (H2 := 9) (L3 := 10) (H3 := 999) ⟨by omega, Nat.zero_le _, hx, by decide⟩ ⟨by omega, hy.1, hy.2, by decide⟩ ⟨by omega, hz.1, hz.2, by decide⟩ w3
  have hz0 := HJ.2.2.2.2.2.2.2.2.2.2.2.2
  obtain ⟨M4, b1, b2, b3⟩ := cl_putTooth (a := nI x) (b := nI y) (c := nI z) (bx_T a7 (bx_T w4 HB)) HJ.2.2.2.1 hT (hz0 _ (by omega) (by omega)) (hz0 _ (by omega) (by omega))
  obtain ⟨M5, c1, c2, c3⟩ := rd_sign (at_B b3 a4)
  refine ⟨w1, M5, _, _, ?_, c2, bx_T c3 b2, jv_to HJ hT hx, fr_tr (s1_T w4) (fr_tr (s1_T a7) (fr_tr (s1_B b3) (s1_T c3)))⟩
  have e3 : M.1 (9, 1, 0) 2 = nI T := (HB.1 3 (vk_s rfl)).trans HJ.2.2.2.1
  rw [fX6_readTooth]
  refine bd w1 (cn one_n0 (cy ?_ (bd w2 (cn one_n0 (bd a1 (cn (nI_n1 (by omega)) (bd a2 (cn (nI_n1 (by omega)) (bd a3 (cn (nI_n1 (by omega)) (bd b1 (bd c1 bzr1))))))))))))
  rw [e3]
  exact nI_lt (b := 12) hT (by decide)
abbrev Tr : Type := Nat × Nat × Nat
def toL (ts : List Tr) : List Nat := ts.flatMap fun q => n3T toW q.1 q.2.1 q.2.2
def piL (ps : List Tr) : List Nat := ps.flatMap fun q => n3T piW q.1 q.2.1 q.2.2
def gTs : GF → Nat → List Tr → GF
  | g, _, [] => g
  | g, T, q :: r => gTs (gTo g T (nI q.1) (nI q.2.1) (nI q.2.2)) (T + 1) r
def tOK (q : Tr) : Prop := q.1 ≤ 60 ∧ (1 ≤ q.2.1 ∧ q.2.1 ≤ 9) ∧ (10 ≤ q.2.2 ∧ q.2.2 ≤ 999)
theorem rd_25 {S U A : Nat} {P : PF} (hno : ∀ (M : Mm) (h : Nat) (pre : List Nat), ATp M bs c h pre post → fX7_atWord M 2 = some 0) : ∀ (ts : List Tr) (T v h f : Nat) (pre : List Nat) (M : Mm) (g : GF), (∀ q ∈ ts, tOK q) → T + ts.length ≤ 12 → v + ts.length < 12 → ts.length < f → ATp M bs c h pre (toL ts ++ post) → BX M T 1 g P → Jv g P S T U A →
    ∃ M' h' pre', (∀ K : Int32 → Mm → Option (Int32 × Mm), fX6_readSetup_L25 K f (nI v) M = K (nI (v + ts.length)) M') ∧ ATp M' bs c h' pre' post ∧ BX M' (T + ts.length) 1 (gTs g T ts) P ∧ Jv (gTs g T ts) P S (T + ts.length) U A ∧ Fr sS1 M M' := by
  intro ts
  induction ts with
  | nil =>
    intro T v h f pre M g hq hT hv hf H HB HJ
    obtain ⟨f, rfl⟩ : ∃ x, f = x + 1 := ⟨f - 1, by omega⟩
    have hv' : v < 12 := hv
    refine ⟨M, h, pre, fun K => ?_, H, HB, HJ, fr_rf⟩
    rw [fX6_readSetup_L25, if_neg (show ¬ (12 : Int32) ≤ nI v from nI_ge (b := 12) hv' (by decide))]
    exact bd (hno M h pre H) (cy rfl rfl)
  | cons q ts ih =>
    intro T v h f pre M g hq hT hv hf H HB HJ
    obtain ⟨f, rfl⟩ : ∃ x, f = x + 1 := ⟨f - 1, by omega⟩
    have hl : (q :: ts).length = ts.length + 1 := rfl
    rw [hl] at hT hv hf
    obtain ⟨q1, q2, q3⟩ := hq q List.mem_cons_self
    have H' : ATp M bs c h pre (n3T toW q.1 q.2.1 q.2.2 ++ (toL ts ++ post)) := by
      unfold toL at H ⊢
      rw [List.flatMap_cons, List.append_assoc] at H
      exact H
    obtain ⟨w1, M1, h1, p1, a1, a2, a3, a4, a5⟩ := rd_tooth q1 q2 q3 (by omega) HB HJ H'
    obtain ⟨M', h', p', b1, b2, b3, b4, b5⟩ := ih (T + 1) (v + 1) h1 f p1 M1 _ (fun x hx => hq x (List.mem_cons_of_mem _ hx)) (by omega) (by omega) (by omega) a2 a3 a4
    refine ⟨M', h', p', fun K => ?_, b2, ?_, ?_, fr_tr a5 b5⟩
    · rw [fX6_readSetup_L25, if_neg (show ¬ (12 : Int32) ≤ nI v from nI_ge (b := 12) (by omega) (by decide))]
      refine bd w1 (cn one_n0 (bd a1 (cn one_n0 ?_)))
      rw [show nI v + (1 : Int32) = nI (v + 1) from nI_add v 1, hl, show v + (ts.length + 1) = v + 1 + ts.length by omega]
      exact b1 K
    · rw [hl, show T + (ts.length + 1) = T + 1 + ts.length by omega]; exact b3
    · rw [hl, show T + (ts.length + 1) = T + 1 + ts.length by omega]; exact b4
def pTs : PF → List Tr → PF
  | P, [] => P
  | P, q :: r => pTs (pAdd P q.1 q.2.1 q.2.2) r
def pOK (S T : Nat) : PF → List Tr → Prop
  | _, [] => True
  | P, q :: r => (q.1 < 3 ∧ q.2.1 < T ∧ q.2.2 < S) ∧ P q.1 q.2.1 q.2.2 = false ∧ pOK S T (pAdd P q.1 q.2.1 q.2.2) r
theorem rd_place {S U A T x y z : Nat} {g : GF} {P : PF} (hx : x < 3) (hy : y < T) (hz : z < S) (hT : 1 ≤ T) (hp : P x y z = false) (HB : BX M T 1 g P) (HJ : Jv g P S T U A) (H : ATp M bs c h pre (n3T piW x y z ++ post)) :
    fX7_atWord M 3 = some 1 ∧ ∃ M' h' pre', fX6_readPlace (fX7_advance M) = some (1, M') ∧ ATp M' bs c h' pre' post ∧ BX M' T 1 g (pAdd P x y z) ∧ Jv g (pAdd P x y z) S T U A ∧ Fr sS1 M M' := by
  have hS12 := HJ.2.2.2.2.2.2.1
  have hT12 := HJ.2.2.2.2.2.2.2.1
  have H' : ATp M bs c h pre (piW ++ (32 :: (dgN x ++ (32 :: (dgN y ++ (32 :: (dgN z ++ (59 :: post)))))))) := by
    unfold n3T at H
    simpa only [List.append_assoc, List.cons_append, List.nil_append] using H
  obtain ⟨w1, w2, w3, w4⟩ := rd_word (j := 3) (by decide) w_1.2.2 w_k.2.2 (by decide) (oth_c (by decide)) H'
  obtain ⟨M1, M2, M3, h', pre', a1, a2, a3, a4, a5, a6, a7⟩ := rd_3 (L1 := 0) (H1 := 2) (L2 := 0) (H2 := T - 1) (L3 := 0) (H3 := S - 1) ⟨by omega, Nat.zero_le _, by omega, by decide⟩ ⟨by omega, Nat.zero_le _, by omega, by omega⟩ ⟨by omega, Nat.zero_le _, by omega, by omega⟩ w3
  have B3 := bx_T a7 (bx_T w4 HB)
  have B1 := bx_T a5 (bx_T w4 HB)
  have B2 := bx_T a6 (bx_T w4 HB)
  have e1 : M1.1 (9, 1, 0) 2 - (1 : Int32) = nI (T - 1) := by
    rw [show M1.1 (9, 1, 0) 2 = nI T from (B1.1 3 (vk_s rfl)).trans HJ.2.2.2.1]
    exact pk_sub (b := 1) hT
  have e2 : M2.1 (10, 1, 0) 1 - (1 : Int32) = nI (S - 1) := by
    rw [show M2.1 (10, 1, 0) 1 = nI S from (B2.1 0 (vk_s rfl)).trans HJ.1]
    exact pk_sub (b := 1) (by omega)
  obtain ⟨M4, b1, b2, b3⟩ := cl_putPin B3 hx (show y < 12 by omega) (show z < 64 by omega)
  obtain ⟨M5, c1, c2, c3⟩ := rd_sign (at_B b3 a4)
  refine ⟨w1, M5, _, _, ?_, c2, bx_T c3 b2, jv_add HJ hx hy hz, fr_tr (s1_T w4) (fr_tr (s1_T a7) (fr_tr (s1_B b3) (s1_T c3)))⟩
  have hpin : fX3_hasPin M3 1 (nI x) (nI y) (nI z) = some 0 := by
    rw [cl_hasPin B3 hx (by omega) (by omega), hp]; rfl
  have a2' : fX7_takeNumber M1 0 (M1.1 (9, 1, 0) 2 - (1 : Int32)) = some (nI y, M2) := by rw [e1]; exact a2
  have a3' : fX7_takeNumber M2 0 (M2.1 (10, 1, 0) 1 - (1 : Int32)) = some (nI z, M3) := by rw [e2]; exact a3
  rw [fX6_readPlace]
  refine bd a1 (cn (nI_n1 (by omega)) (bd a2' (cn (nI_n1 (by omega)) (bd a3' (cn (nI_n1 (by omega)) (bd hpin (cy rfl (bd b1 (bd c1 bzr1)))))))))
theorem rd_60 {S U A T : Nat} {g : GF} (hT : 1 ≤ T) : ∀ (ps : List Tr) (v h f : Nat) (pre : List Nat) (M : Mm) (P : PF), pOK S T P ps → v + ps.length < 800 → ps.length < f → ATp M bs c h pre (piL ps) → BX M T 1 g P → Jv g P S T U A →
    ∃ M' h' pre', (∀ K : Int32 → Mm → Option (Int32 × Mm), fX6_readSetup_L60 K f (nI v) M = K (nI (v + ps.length)) M') ∧ ATp M' bs c h' pre' [] ∧ BX M' T 1 g (pTs P ps) ∧ Jv g (pTs P ps) S T U A ∧ Fr sS1 M M' := by
  intro ps
  induction ps with
  | nil =>
    intro v h f pre M P hq hv hf H HB HJ
    obtain ⟨f, rfl⟩ : ∃ x, f = x + 1 := ⟨f - 1, by omega⟩
    have hv' : v < 800 := hv
    refine ⟨M, h, pre, fun K => ?_, H, HB, HJ, fr_rf⟩
    rw [fX6_readSetup_L60, if_neg (show ¬ (800 : Int32) ≤ nI v from nI_ge (b := 800) hv' (by decide))]
    exact bd (rd_noE (by decide) H) (cy rfl rfl)
  | cons q ps ih =>
    intro v h f pre M P hq hv hf H HB HJ
    obtain ⟨f, rfl⟩ : ∃ x, f = x + 1 := ⟨f - 1, by omega⟩
    have hl : (q :: ps).length = ps.length + 1 := rfl
    rw [hl] at hv hf
    obtain ⟨⟨q1, q2, q3⟩, q4, q5⟩ := hq
    have H' : ATp M bs c h pre (n3T piW q.1 q.2.1 q.2.2 ++ piL ps) := by
      unfold piL at H ⊢
      rw [List.flatMap_cons] at H
      exact H
    obtain ⟨w1, M1, h1, p1, a1, a2, a3, a4, a5⟩ := rd_place q1 q2 q3 hT q4 HB HJ H'
    obtain ⟨M', h', p', b1, b2, b3, b4, b5⟩ := ih (v + 1) h1 f p1 M1 _ q5 (by omega) (by omega) a2 a3 a4
    refine ⟨M', h', p', fun K => ?_, b2, b3, b4, fr_tr a5 b5⟩
    rw [fX6_readSetup_L60, if_neg (show ¬ (800 : Int32) ≤ nI v from nI_ge (b := 800) (by omega) (by decide))]
    refine bd w1 (cn one_n0 (bd a1 (cn one_n0 ?_)))
    rw [show nI v + (1 : Int32) = nI (v + 1) from nI_add v 1, hl, show v + (ps.length + 1) = v + 1 + ps.length by omega]
    exact b1 K
end RSU
/-- the drawn text -/
def suT (S U A : Nat) (ts ps : List Tr) : List Nat := n3T bxW S U A ++ (toL ts ++ piL ps)
theorem rd_noT {M : Mm} {bs pre : List Nat} {c h : Nat} {ps : List Tr} (H : ATp M bs c h pre (piL ps)) : fX7_atWord M 2 = some 0 := by
  cases ps with
  | nil => exact rd_noE (by decide) H
  | cons q ps =>
    have H' : ATp M bs c h pre (piW ++ (32 :: (dgN q.1 ++ (32 :: (dgN q.2.1 ++ (32 :: (dgN q.2.2 ++ (59 :: piL ps)))))))) := by
      unfold piL n3T at H ⊢
      rw [List.flatMap_cons] at H
      simpa only [List.append_assoc, List.cons_append, List.nil_append] using H
    exact rd_noW (by decide) (by decide) w_k.2.2 (by decide) (oth_c (by decide)) H'
theorem jv_0 {S U A : Nat} (hS : 4 ≤ S ∧ S ≤ 64) (hU : U ≤ 20) (hA : A ≤ 90) : Jv (gB S U A) (fun _ _ _ => false) S 0 U A := ⟨rfl, rfl, rfl, rfl, rfl, rfl, hS, Nat.zero_le _, hU, hA, fun t h => absurd h (Nat.not_lt_zero _), fun _ _ _ h => (by cases h), fun k h1 h2 => (by unfold gB; rw [if_neg (by omega), if_neg (by omega), if_neg (by omega)])⟩
/-- the class's setup reader upon the drawn text -/
theorem rd_setup {M : Mm} {S U A : Nat} {q : Tr} {ts ps : List Tr} (hS : 4 ≤ S ∧ S ≤ 64) (hU : U ≤ 20) (hA : A ≤ 90) (hq : ∀ x ∈ q :: ts, tOK x) (hl : ts.length < 12) (hp : pOK S (ts.length + 1) (fun _ _ _ => false) ps) (hpl : ps.length < 800) (hv : TV (tbL (suT S U A (q :: ts) ps)) (suT S U A (q :: ts) ps).length) (ht : TCl M (tbL (suT S U A (q :: ts) ps)) (suT S U A (q :: ts) ps).length) :
    ∃ M', fX6_readSetup M = some (1, M') ∧ M'.1 (3, 0, 0) 7 = 0 ∧ M'.1 (3, 0, 0) 8 = -1 ∧ BX M' (ts.length + 1) 1 (gTs (gB S U A) 0 (q :: ts)) (pTs (fun _ _ _ => false) ps) ∧ Jv (gTs (gB S U A) 0 (q :: ts)) (pTs (fun _ _ _ => false) ps) S (ts.length + 1) U A ∧ Fr (fun r => sTk r || sS1 r) M M' := by
  obtain ⟨M1, c, a1, a2, a3, a4, a5, a6, a7⟩ := cl_scan ht hv
  have H0 : ATp M1 (suT S U A (q :: ts) ps) c 0 [] (n3T bxW S U A ++ (toL (q :: ts) ++ piL ps)) := ⟨⟨hv, a2, Nat.zero_le _, a3, a4, a5, a6⟩, rfl, rfl⟩
  obtain ⟨M2, h2, p2, b1, b2, b3, b4⟩ := rd_head hS hU hA H0
  have H2 : ATp M2 (suT S U A (q :: ts) ps) c h2 p2 (n3T toW q.1 q.2.1 q.2.2 ++ (toL ts ++ piL ps)) := by
    unfold toL at b2 ⊢
    rw [List.flatMap_cons, List.append_assoc] at b2
    exact b2
  obtain ⟨q1, q2, q3⟩ := hq q List.mem_cons_self
  obtain ⟨w1, M3, h3, p3, d1, d2, d3, d4, d5⟩ := rd_tooth q1 q2 q3 (by decide) b3 (jv_0 hS hU hA) H2
  obtain ⟨M4, h4, p4, e1, e2, e3, e4, e5⟩ := rd_25 (fun M h pre H => rd_noT H) ts 1 0 h3 NF p3 M3 _ (fun x hx => hq x (List.mem_cons_of_mem _ hx)) (by omega) (by omega) (by unfold NF; omega) d2 d3 d4
  rw [show 1 + ts.length = ts.length + 1 from Nat.add_comm _ _] at e3 e4
  obtain ⟨M5, h5, p5, f1, f2, f3, f4, f5⟩ := rd_60 (Nat.succ_le_succ (Nat.zero_le _)) ps 0 h4 NF p4 M4 _ hp (by omega) (by unfold NF; omega) e2 e3 e4
  refine ⟨M5, ?_, f2.1.2.2.2.2.1, f2.1.2.2.2.2.2.1, f3, f4, fr_tr (fr_mono (fun r hr => by rw [hr]; rfl) a7) (fr_mono (fun r hr => by rw [hr, Bool.or_true]) (fr_tr b4 (fr_tr d5 (fr_tr e5 f5))))⟩
  rw [fX6_readSetup]
  refine bd a1 (bd b1 (cn one_n0 (bd d1 (cn one_n0 ((e1 _).trans ((f1 _).trans (bd (rd_end f2) bzr1)))))))
