/-! the class's parser (mk8U.py, from whole) -/
def sT (r : Rf) : Bool := r == (3, 0, 0)
def PC (M : Mm) (tb : Nat → Nat) (n c h : Nat) : Prop := TV tb n ∧ TKs M tb n c ∧ h ≤ c ∧ M.1 (3, 0, 0) 6 = nI h ∧ M.1 (3, 0, 0) 7 = 0 ∧ M.1 (3, 0, 0) 8 = -1 ∧ TCl M tb n
def EC (M : Mm) (e p : Int32) : Prop := M.1 (3, 0, 0) 7 = e ∧ M.1 (3, 0, 0) 8 = p
def mtS (tb : Nat → Nat) (b : Nat) (L : List Int32) : Nat → Nat → Bool
  | 0, _ => true
  | d + 1, v => decide (nI (tb (b + v)) = L.getD v 0) && mtS tb b L d (v + 1)
def wdS (tb : Nat → Nat) (n p : Nat) (L : List Int32) : Bool := decide (tkK tb n p = 1) && (decide (tkE tb n p - tkB tb n p = L.length) && mtS tb (tkB tb n p) L L.length 0)
theorem wdS_1 {tb : Nat → Nat} {n p : Nat} {L : List Int32} (h : wdS tb n p L = true) : tkK tb n p = 1 := by
  unfold wdS at h
  simp only [Bool.and_eq_true, decide_eq_true_eq] at h
  exact h.1
def sgS (tb : Nat → Nat) (n p c : Nat) : Bool := decide (tkK tb n p = 3 ∧ tb (tkB tb n p) = c)
def nuS (tb : Nat → Nat) (n p : Nat) : Nat := wS 10000 tb (tkB tb n p) (tkE tb n p - tkB tb n p)
section PAR
variable {tb : Nat → Nat} {n c h : Nat} {M : Mm}
theorem pc_tok (H : PC M tb n c h) : tkOK M tb n h := H.2.1.2.2.1 h H.2.2.1
theorem pc_g (H : PC M tb n c h) : ¬ (nI h < 0 ∨ 801 ≤ (nI h).toNatClampNeg) := nI_in (by have := H.2.1.2.1; have := H.2.2.1; omega) (by decide)
theorem pc_cl (H : PC M tb n c h) : (nI h).toNatClampNeg = h := nI_clamp (by have := H.2.1.2.1; have := H.2.2.1; omega)
theorem pc_a (H : PC M tb n c h) : ¬ nI h < 0 := nI_pos (by have := H.2.1.2.1; have := H.2.2.1; omega)
theorem pc_b (H : PC M tb n c h) : ¬ (801 : Int32) ≤ nI h := nI_ge (b := 801) (by have := H.2.1.2.1; have := H.2.2.1; omega) (by decide)
theorem pc_kd {K : Int32} (H : PC M tb n c h) : fX7_atKind M K = if nI (tkK tb n (tE tb n h)) = K then some 1 else some 0 := by
  rw [fX7_atKind, H.2.2.2.1, if_neg (pc_a H), if_neg (pc_b H), if_neg (pc_g H), pc_cl H, (pc_tok H).1]
theorem pc_lt (H : PC M tb n c h) (hk : tkK tb n (tE tb n h) ≠ 0) : h < c := by
  have h1 := H.2.2.1
  rcases Nat.lt_or_ge h c with g | g
  · exact g
  · have e : h = c := by omega
    rw [e, H.2.1.2.2.2.2] at hk
    exact absurd rfl hk
theorem sch_at {j k : Nat} (hk : k < (sby j).length) (hl : (sby j).length < 2 ^ 31) : sch j (nI k) = some ((sby j).getD k 0) := by
  rw [sch, if_neg (nI_in hk hl), nI_clamp (by omega)]
theorem pc_wordL {j b : Nat} (ht : TCl M tb n) (hn : n ≤ 800) (hl : (sby j).length ≤ 800) (hb : b + (sby j).length ≤ n) : ∀ (d v f : Nat), v + d = (sby j).length → d < f →
    fX7_atWord_L48 M j (nI b) (fun _ => some 1) f (nI v) = some (bI (mtS tb b (sby j) d v)) := by
  intro d
  induction d with
  | zero =>
    intro v f hv hf
    obtain ⟨f, rfl⟩ : ∃ q, f = q + 1 := ⟨f - 1, by omega⟩
    rw [fX7_atWord_L48, if_pos (show slen j ≤ nI v from nI_le (by omega) (by omega))]
    rfl
  | succ d ih =>
    intro v f hv hf
    obtain ⟨f, rfl⟩ : ∃ q, f = q + 1 := ⟨f - 1, by omega⟩
    rw [fX7_atWord_L48, if_neg (show ¬ slen j ≤ nI v from nI_ge (by omega) (by omega)), nI_add, cl_at ht hn (by omega), Option.bind_some, sch_at (by omega) (by omega), Option.bind_some, ← nI_succ, ih (v + 1) f (by omega) (by omega)]
    by_cases e : nI (tb (b + v)) = (sby j).getD v 0
    · rw [if_pos e, mtS, decide_eq_true e, Bool.true_and]
    · rw [if_neg e, mtS, decide_eq_false e, Bool.false_and]
      rfl
theorem sby_len : ∀ j, j < 15 → (sby j).length ≤ 200 := by decide +kernel
theorem pc_word {j : Nat} (hj : j < 15) (H : PC M tb n c h) : fX7_atWord M j = some (bI (wdS tb n (tE tb n h) (sby j))) := by
  have hk := tkK_c (tb := tb) (tE_le (tb := tb) (n := n) h)
  have hl := sby_len j hj
  have hn := H.1.1
  have hE := tkE_le (tb := tb) (n := n) (tE_le (tb := tb) (n := n) h)
  have hg := pc_g H
  obtain ⟨k0, k1, k2, -⟩ := pc_tok H
  rw [fX7_atWord, pc_kd H, wdS]
  by_cases e : tkK tb n (tE tb n h) = 1
  · rw [decide_eq_true e, Bool.true_and, e, if_pos (show nI 1 = (1 : Int32) from rfl), Option.bind_some, if_neg (by decide), H.2.2.2.1]
    simp only [hg, if_false]
    rw [pc_cl H, k1, k2, show tE tb n (h + 1) = tkE tb n (tE tb n h) from rfl, pk_sub hE.2]
    by_cases e2 : tkE tb n (tE tb n h) - tkB tb n (tE tb n h) = (sby j).length
    · rw [decide_eq_true e2, Bool.true_and, if_pos (show nI _ = slen j by rw [e2]; rfl), show (0 : Int32) = nI 0 from rfl, pc_wordL H.2.2.2.2.2.2 hn (by omega) (by omega) (sby j).length 0 NF (by omega) (by unfold NF; omega)]
    · rw [decide_eq_false e2, Bool.false_and, if_neg (show ¬ nI _ = slen j from fun x => e2 ((nI_eq (b := (sby j).length) (by omega) (by omega)).mp x))]; rfl
  · rw [if_neg (by_ne (c := 1) (L := 1) (by omega) (by decide) rfl e), decide_eq_false e, Bool.false_and, Option.bind_some, if_pos rfl]; rfl
theorem pc_sign {k : Nat} {L : Int32} (hL : L = nI k) (hk : k < 256) (H : PC M tb n c h) : fX7_atSign M L = some (bI (sgS tb n (tE tb n h) k)) := by
  subst hL
  have hc := tkK_c (tb := tb) (tE_le (tb := tb) (n := n) h)
  have hg := pc_g H
  have hn := H.1.1
  obtain ⟨k0, k1, k2, -⟩ := pc_tok H
  rw [fX7_atSign, pc_kd H, sgS]
  by_cases e : tkK tb n (tE tb n h) = 3
  · have hlt : tkB tb n (tE tb n h) < n := by
      unfold tkK at e
      by_cases c0 : n ≤ tkB tb n (tE tb n h)
      · rw [if_pos c0] at e; omega
      · omega
    have hb := H.1.2 _ hlt
    rw [e, if_pos (show nI 3 = (3 : Int32) from rfl), Option.bind_some, if_neg (by decide), H.2.2.2.1, if_neg hg, pc_cl H, k1, cl_at H.2.2.2.2.2.2 hn hlt, Option.bind_some]
    by_cases e2 : tb (tkB tb n (tE tb n h)) = k
    · rw [if_pos (by rw [e2]), decide_eq_true ⟨rfl, e2⟩]; rfl
    · rw [if_neg (fun x => e2 ((nI_eq (by omega) (by omega)).mp x)), decide_eq_false (fun hh => e2 hh.2)]; rfl
  · rw [if_neg (by_ne (c := 3) (L := 3) (by omega) (by decide) rfl e), Option.bind_some, if_pos rfl, decide_eq_false (fun hh => e hh.1)]; rfl
theorem tks_T {M' : Mm} (hF : Fr sT M M') (h5 : M'.1 (3, 0, 0) 5 = M.1 (3, 0, 0) 5) (H : TKs M tb n c) : TKs M' tb n c := by
  obtain ⟨h1, h2, h3, h4, h6⟩ := H
  exact ⟨h5.trans h1, h2, fun j hj => tk_fr (by rw [(hF (4, 0, 0) rfl).1]) (by rw [(hF (4, 1, 0) rfl).1]) (by rw [(hF (4, 2, 0) rfl).1]) (by rw [(hF (4, 3, 0) rfl).1]) (h3 j hj), h4, h6⟩
theorem pc_adv (H : PC M tb n c h) (hk : tkK tb n (tE tb n h) ≠ 0) : PC (fX7_advance M) tb n c (h + 1) ∧ Fr sT M (fX7_advance M) := by
  have hc := H.2.1.2.1
  have hlt := pc_lt H hk
  obtain ⟨h1, h2, h3, h4, h5, h6, h7⟩ := H
  have e : fX7_advance M = putI M (3, 0, 0) 6 (nI (h + 1)) := by
    rw [fX7_advance, h2.1, nI_pred, h4, if_neg (nI_ge hlt (by omega)), ← nI_succ]
  rw [e]
  have hF : Fr sT M (putI M (3, 0, 0) 6 (nI (h + 1))) := fr_putI rfl
  exact ⟨⟨h1, tks_T hF (by rw [g_row, upd_o (by decide)]) h2, hlt, by rw [g_row, upd_s], by rw [g_row, upd_o (by decide)]; exact h5, by rw [g_row, upd_o (by decide)]; exact h6, tc_fr rfl rfl hF h7⟩, hF⟩
theorem pc_fail {e : Int32} (H : PC M tb n c h) : ∃ M', fX7_fail M e = some (0, M') ∧ EC M' e (nI (tkB tb n (tE tb n h))) ∧ Fr sT M M' := by
  rw [fX7_fail, H.2.2.2.1, if_neg (pc_a H), if_neg (pc_b H), if_neg (pc_g H), pc_cl H, (pc_tok H).2.1]
  exact ⟨_, rfl, ⟨by rw [g_row, upd_o (by decide), g_row, upd_s], by rw [g_row, upd_s]⟩, fr_pI (fr_putI rfl) rfl⟩
theorem pc_num {L Hi : Nat} {l hi : Int32} (hl : l = nI L) (hh : hi = nI Hi) (hL : L ≤ 999) (hH : Hi ≤ 999) (H : PC M tb n c h) :
    (tkK tb n (tE tb n h) = 2 ∧ L ≤ nuS tb n (tE tb n h) ∧ nuS tb n (tE tb n h) ≤ Hi ∧ fX7_takeNumber M l hi = some (nI (nuS tb n (tE tb n h)), fX7_advance M)) ∨
    (∃ e M', fX7_takeNumber M l hi = some (-1, M') ∧ EC M' (nI e) (nI (tkB tb n (tE tb n h))) ∧ Fr sT M M' ∧ ((e = 1 ∧ tkK tb n (tE tb n h) ≠ 2) ∨ (e = 2 ∧ tkK tb n (tE tb n h) = 2 ∧ ¬ (L ≤ nuS tb n (tE tb n h) ∧ nuS tb n (tE tb n h) ≤ Hi)))) := by
  subst hl
  subst hh
  have hc := tkK_c (tb := tb) (tE_le (tb := tb) (n := n) h)
  have hg := pc_g H
  obtain ⟨k0, k1, k2, k3⟩ := pc_tok H
  rw [fX7_takeNumber, pc_kd H]
  by_cases e : tkK tb n (tE tb n h) = 2
  · have hw := wS_min (tb := tb) (b := tkB tb n (tE tb n h)) (tkE tb n (tE tb n h) - tkB tb n (tE tb n h))
    have hw2 := wS_le (cap := 1000000) (tb := tb) (b := tkB tb n (tE tb n h)) (tkE tb n (tE tb n h) - tkB tb n (tE tb n h))
    have k4 := k3 e
    rw [show tE tb n (h + 1) = tkE tb n (tE tb n h) from rfl] at k4
    rw [e, if_pos (show nI 2 = (2 : Int32) from rfl), Option.bind_some, if_neg (by decide), H.2.2.2.1, if_neg hg, pc_cl H, k4]
    unfold nuS
    rw [← hw]
    generalize wS 1000000 tb (tkB tb n (tE tb n h)) (tkE tb n (tE tb n h) - tkB tb n (tE tb n h)) = w at *
    by_cases c1 : w < L
    · rw [if_pos (nI_lt c1 (by omega))]
      obtain ⟨M', a1, a2, a3⟩ := pc_fail (e := 2) H
      exact Or.inr ⟨2, M', by rw [a1]; rfl, a2, a3, Or.inr ⟨rfl, rfl, by omega⟩⟩
    · rw [if_neg (nI_nlt (by omega) (by omega))]
      by_cases c2 : w ≤ Hi
      · rw [if_pos (nI_le c2 (by omega))]
        exact Or.inl ⟨rfl, by omega, by omega, by rw [Nat.min_eq_right (by omega)]⟩
      · rw [if_neg (nI_ge (by omega) (by omega))]
        obtain ⟨M', a1, a2, a3⟩ := pc_fail (e := 2) H
        exact Or.inr ⟨2, M', by rw [a1]; rfl, a2, a3, Or.inr ⟨rfl, rfl, by omega⟩⟩
  · rw [if_neg (by_ne (c := 2) (L := 2) (by omega) (by decide) rfl e), Option.bind_some, if_pos rfl]
    obtain ⟨M', a1, a2, a3⟩ := pc_fail (e := 1) H
    exact Or.inr ⟨1, M', by rw [a1]; rfl, a2, a3, Or.inl ⟨rfl, e⟩⟩
end PAR
theorem nI_m1 {v : Nat} (h : v < 2 ^ 31) : ¬ nI v = -1 := by
  intro c
  have : (nI v).toInt = (-1 : Int32).toInt := by rw [c]
  rw [nI_toInt h, show (-1 : Int32).toInt = -1 by decide] at this
  omega
section PST
variable {tb : Nat → Nat} {n c h S T U A : Nat} {g : GF} {P : PF}
theorem pc_fr {M M' : Mm} {S : Rf → Bool} (h1 : S (1, 0, 0) = false) (h2 : S (2, 0, 0) = false) (h3 : S (3, 0, 0) = false) (h4 : ∀ a, S (4, a, 0) = false) (hF : Fr S M M') (H : PC M tb n c h) : PC M' tb n c h := by
  obtain ⟨x1, ⟨y1, y2, y3, y4, y5⟩, x3, x4, x5, x6, x7⟩ := H
  have e3 := (hF _ h3).1
  exact ⟨x1, ⟨by rw [e3]; exact y1, y2, fun j hj => tk_fr (by rw [(hF _ (h4 0)).1]) (by rw [(hF _ (h4 1)).1]) (by rw [(hF _ (h4 2)).1]) (by rw [(hF _ (h4 3)).1]) (y3 j hj), y4, y5⟩, x3, by rw [e3]; exact x4, by rw [e3]; exact x5, by rw [e3]; exact x6, tc_fr h1 h2 hF x7⟩
def Jv (g : GF) (P : PF) (S T U A : Nat) : Prop := g 0 = nI S ∧ g 1 = nI U ∧ g 2 = nI A ∧ g 3 = nI T ∧ g 4 = nI 0 ∧ g 5 = nI 0 ∧ (4 ≤ S ∧ S ≤ 64) ∧ T ≤ 12 ∧ U ≤ 20 ∧ A ≤ 90 ∧ (∀ t, t < T → (0 ≤ g (16 + 6 * t) ∧ g (16 + 6 * t) ≤ 60) ∧ (-3 ≤ g (16 + 6 * t + 1) ∧ g (16 + 6 * t + 1) ≤ 3)) ∧ (∀ m t s, P m t s = true → m < 3 ∧ t < T ∧ s < S) ∧ ∀ k, 16 + 6 * T ≤ k → k < 88 → g k = 0
theorem jv_iv {g : GF} {P : PF} {S T U A : Nat} (h : Jv g P S T U A) (hT : 1 ≤ T) : Iv g P S T U A 0 0 := by
  obtain ⟨h0, h1, h2, h3, h4, h5, h6, h7, h8, h9, h10, h11, h12⟩ := h
  exact ⟨h0, h1, h2, h3, h4, h5, h6, ⟨hT, h7⟩, h8, h9, by decide, by omega, h10, h11⟩
def sS1 (r : Rf) : Bool := r == (3, 0, 0) || sBx 1 r
theorem s1_T {M M1 : Mm} (h : Fr sT M M1) : Fr sS1 M M1 := fr_mono (fun r hr => by unfold sT at hr; unfold sS1; rw [hr]; rfl) h
theorem s1_B {M M1 : Mm} (h : Fr (sBx 1) M M1) : Fr sS1 M M1 := fr_mono (fun r hr => by unfold sS1; rw [hr]; cases (r == (3, 0, 0)) <;> rfl) h
theorem bx_T {M M' : Mm} {T : Nat} {g : GF} {P : PF} (hF : Fr sT M M') (H : BX M T 1 g P) : BX M' T 1 g P := bx_fr (fun r hr => by
  obtain ⟨a, b, d⟩ := r
  cases e : sT (a, b, d) with
  | false => rfl
  | true =>
    have : (a, b, d) = ((3, 0, 0) : Rf) := by simpa [sT] using e
    cases this
    cases hr) hF H
theorem pc_B {M M' : Mm} (hF : Fr (sBx 1) M M') (H : PC M tb n c h) : PC M' tb n c h := pc_fr (S := sBx 1) rfl rfl rfl (fun _ => rfl) hF H
theorem jv_to {a b d : Nat} (h : Jv g P S T U A) (hT : T < 12) (ha : a ≤ 60) : Jv (gTo g T (nI a) (nI b) (nI d)) P S (T + 1) U A := by
  obtain ⟨h0, h1, h2, h3, h4, h5, h6, h7, h8, h9, h10, h11, h12⟩ := h
  refine ⟨(gTo_o (by decide) (by decide)).trans h0, (gTo_o (by decide) (by decide)).trans h1, (gTo_o (by decide) (by decide)).trans h2, by rw [gTo, upd_s], (gTo_o (by decide) (by decide)).trans h4, (gTo_o (by decide) (by decide)).trans h5, h6, by omega, h8, h9, fun t ht => ?_, fun m t s hp => ?_, fun k h1 h2 => ?_⟩
  · by_cases e : t = T
    · subst e
      have z1 := h12 (16 + 6 * t + 1) (by omega) (by omega)
      rw [gTo, upd_o (by omega), upd_o (by omega), upd_o (by omega), upd_o (by omega), upd_s, upd_o (by omega), upd_o (by omega), upd_o (by omega), upd_o (by omega), upd_o (by omega), z1]
      exact ⟨⟨nI_pos' (by omega), nI_le (b := 60) ha (by decide)⟩, by decide, by decide⟩
    · rw [gTo, upd_o (by omega), upd_o (by omega), upd_o (by omega), upd_o (by omega), upd_o (by omega), upd_o (by omega), upd_o (by omega), upd_o (by omega), upd_o (by omega), upd_o (by omega)]
      exact h10 t (by omega)
  · have := h11 m t s hp
    omega
  · rw [gTo, upd_o (by omega), upd_o (by omega), upd_o (by omega), upd_o (by omega), upd_o (by omega)]
    exact h12 k (by omega) h2
theorem jv_add {m t s : Nat} (h : Jv g P S T U A) (hm : m < 3) (ht : t < T) (hs : s < S) : Jv g (pAdd P m t s) S T U A := by
  obtain ⟨h0, h1, h2, h3, h4, h5, h6, h7, h8, h9, h10, h11, h12⟩ := h
  refine ⟨h0, h1, h2, h3, h4, h5, h6, h7, h8, h9, h10, fun m' t' s' hp => ?_, h12⟩
  unfold pAdd at hp
  simp only [Bool.or_eq_true, decide_eq_true_eq] at hp
  rcases hp with hp | ⟨rfl, rfl, rfl⟩
  · exact h11 _ _ _ hp
  · exact ⟨hm, ht, hs⟩
end PST
