/-! a script is read, side by side: arguments -/
def sQ1 (r : Rf) : Bool := r == (3, 0, 0) || r.1 == 7 || r.1 == 8
def sQ2 (r : Rf) : Bool := r == R8 || r == (19, 7, 0) || r == (19, 8, 0) || r == (19, 9, 0) || r == (19, 10, 0)
def FQ (M M' : Mm) : Prop := Fr sQ2 M M' ∧ ∀ j, j < 13 ∨ (18 < j ∧ j ≠ 23) → M'.1 R8 j = M.1 R8 j
theorem fq_rf {M : Mm} : FQ M M := ⟨fr_rf, fun _ _ => rfl⟩
theorem fq_tr {M M1 M2 : Mm} (h : FQ M M1) (h2 : FQ M1 M2) : FQ M M2 := ⟨fr_tr h.1 h2.1, fun k hk => (h2.2 k hk).trans (h.2 k hk)⟩
theorem fq_18 {M M1 : Mm} (h : F18 M M1) : FQ M M1 := ⟨fr_mono (fun r hr => by unfold s8 at hr; unfold sQ2; rw [hr]; rfl) h.1, fun j hj => h.2 j (by omega)⟩
theorem fq_p {M M1 : Mm} {a j : Nat} {v : Int32} (h : FQ M M1) (ha : a = 7 ∨ a = 8 ∨ a = 9 ∨ a = 10) : FQ M (putI M1 (19, a, 0) j v) := by
  refine ⟨fr_pI h.1 ?_, fun k hk => by rw [putI_ne (fun c => by cases c)]; exact h.2 k hk⟩
  rcases ha with rfl | rfl | rfl | rfl <;> rfl
theorem q1_T {M M1 : Mm} (h : Fr sT M M1) : Fr sQ1 M M1 := fr_mono (fun r hr => by unfold sT at hr; unfold sQ1; rw [hr]; rfl) h
section AR
variable {tb : Nat → Nat} {n c h k : Nat} {M1 M2 : Mm}
theorem pc_8 {a j : Nat} {v : Int32} (H : PC M1 tb n c h) : PC (putI M1 (8, a, 0) j v) tb n c h := pc_fr (S := fun r => r.1 == 8) rfl rfl rfl (fun _ => rfl) (fr_putI rfl) H
theorem pc_7 {j : Nat} {v : Int32} (H : PC M1 tb n c h) : PC (putI M1 (7, 0, 0) j v) tb n c h := pc_fr (S := fun r => r.1 == 7) rfl rfl rfl (fun _ => rfl) (fr_putI rfl) H
theorem pr_q {a j : Nat} {v : Int32} (ha : a = 7 ∨ a = 8 ∨ a = 9 ∨ a = 10) (H : PR M2 tb n h) : PR (putI M2 (19, a, 0) j v) tb n h := by
  refine pr_fr (S := fun r => r == (19, a, 0)) ?_ ?_ (fr_putI (by simp)) H
  · rcases ha with rfl | rfl | rfl | rfl <;> rfl
  · rcases ha with rfl | rfl | rfl | rfl <;> rfl
theorem pr_23 {v : Int32} (H : PR M2 tb n h) : PR (putI M2 R8 23 v) tb n h := by
  obtain ⟨⟨x1, x2⟩, x3, x4, y1, y2, y3, y4⟩ := H
  exact ⟨⟨by rw [g_row, upd_o (by decide)]; exact x1, fun k a b => by rw [putI_ne (by decide)]; exact x2 k a b⟩, by rw [g_row, upd_o (by decide)]; exact x3, by rw [g_row, upd_o (by decide)]; exact x4, by rw [g_row, upd_o (by decide)]; exact y1, by rw [g_row, upd_o (by decide)]; exact y2, by rw [g_row, upd_o (by decide)]; exact y3, fun z => by rw [g_row, upd_o (by decide)]; exact y4 z⟩
theorem ix3 (k q : Nat) : nI k * 3 + nI q = nI (3 * k + q) := by
  show nI k * nI 3 + nI q = _
  rw [pk_mul, nI_add, Nat.mul_comm]
theorem cl_putArg {M : Mm} {q : Nat} {Q v : Int32} (hQ : Q = nI q) (hk : k < 30) (hq : q < 3) : fX4_putArgument M (nI k) Q v = some (putI M (8, 3, 0) (3 * k + q) v) := by
  subst hQ
  rw [fX4_putArgument, ix3, if_neg (nI_pos (by omega)), if_neg (show ¬ (90 : Int32) ≤ nI _ from nI_ge (b := 90) (by omega) (by decide)), if_neg (nI_in (by omega) (by decide)), nI_clamp (by omega)]
theorem cl_arg {M : Mm} {q : Nat} {Q : Int32} (hQ : Q = nI q) (hk : k < 30) (hq : q < 3) : fX4_argument M (nI k) Q = some (M.1 (8, 3, 0) (3 * k + q)) := by
  subst hQ
  rw [fX4_argument, ix3, if_neg (nI_pos (by omega)), if_neg (show ¬ (90 : Int32) ≤ nI _ from nI_ge (b := 90) (by omega) (by decide)), if_neg (nI_in (by omega) (by decide)), nI_clamp (by omega)]
theorem st_arg {q L Hi : Nat} {Q l hi : Int32} (hQ : Q = nI q) (hl : l = nI L) (hh : hi = nI Hi) (hk : k < 30) (hq : q < 3) (hL : L ≤ 999) (hH : Hi ≤ 999) (HC : PC M1 tb n c h) (HR : PR M2 tb n h) :
    (∃ v N1 M2', L ≤ v ∧ v ≤ Hi ∧ fX5_readArgument M1 (nI k) Q l hi = some (1, putI N1 (8, 3, 0) (3 * k + q) (nI v)) ∧ fX10_number M2 l hi = some (nI v, M2') ∧ PC (putI N1 (8, 3, 0) (3 * k + q) (nI v)) tb n c (h + 1) ∧ PR M2' tb n (h + 1) ∧ Fr sT M1 N1 ∧ F18 M2 M2') ∨
    (∃ e p x M1' M2', fX5_readArgument M1 (nI k) Q l hi = some (0, M1') ∧ fX10_number M2 l hi = some (x, M2') ∧ EC M1' e p ∧ ER M2' e p ∧ Fr sT M1 M1' ∧ F18 M2 M2') := by
  rcases st_num hl hh hL hH HC HR with ⟨v, O1, O2, s1, s2, b1, b2, b3, b4, b5, b6⟩ | ⟨e, p, x, O1, O2, b1, b2, b3, b4, b5, b6⟩
  · refine Or.inl ⟨v, O1, O2, s1, s2, ?_, b2, pc_8 b3, b4, b5, b6⟩
    rw [fX5_readArgument, b1, Option.bind_some, if_neg (nI_m1 (by omega)), cl_putArg hQ hk hq, Option.bind_some]
  · refine Or.inr ⟨e, p, x, O1, O2, ?_, b2, b3, b4, b5, b6⟩
    rw [fX5_readArgument, b1, Option.bind_some, if_pos rfl]
/-- what the class and the reference keep of command k, of kind K, beside what they kept before -/
def DA (M1 M2 : Mm) (k K : Nat) : Prop := M1.1 (8, 3, 0) (3 * k) = M2.1 (19, 8, 0) k ∧ (K ≤ 2 → M1.1 (8, 3, 0) (3 * k + 1) = M2.1 (19, 9, 0) k) ∧ (K ≤ 1 → M1.1 (8, 3, 0) (3 * k + 2) = M2.1 (19, 10, 0) k) ∧ (K = 3 → M1.1 (8, 3, 0) (3 * k + 1) * M1.1 (8, 3, 0) (3 * k + 2) = M2.1 (19, 9, 0) k)
/-- nothing but command k's arguments has changed -/
def KC (k : Nat) (M M' : Mm) : Prop := Fr (fun r => r == (3, 0, 0) || r == (8, 3, 0)) M M' ∧ ∀ i, i < 3 * k → M'.1 (8, 3, 0) i = M.1 (8, 3, 0) i
def KR (k : Nat) (M M' : Mm) : Prop := FQ M M' ∧ M'.1 R8 23 = M.1 R8 23 ∧ M'.1 (19, 7, 0) = M.1 (19, 7, 0) ∧ ∀ j, j < k → M'.1 (19, 8, 0) j = M.1 (19, 8, 0) j ∧ M'.1 (19, 9, 0) j = M.1 (19, 9, 0) j ∧ M'.1 (19, 10, 0) j = M.1 (19, 10, 0) j
theorem kc_rf {M : Mm} : KC k M M := ⟨fr_rf, fun _ _ => rfl⟩
theorem kc_tr {M N O : Mm} (h : KC k M N) (h2 : KC k N O) : KC k M O := ⟨fr_tr h.1 h2.1, fun i hi => (h2.2 i hi).trans (h.2 i hi)⟩
theorem kc_T {M N : Mm} (h : Fr sT M N) : KC k M N := ⟨fr_mono (fun r hr => by unfold sT at hr; rw [hr]; rfl) h, fun i _ => by rw [(h (8, 3, 0) rfl).1]⟩
theorem kc_p {M N : Mm} {q : Nat} {v : Int32} (h : KC k M N) : KC k M (putI N (8, 3, 0) (3 * k + q) v) := ⟨fr_pI h.1 rfl, fun i hi => by rw [g_row, upd_o (by omega)]; exact h.2 i hi⟩
theorem kr_rf {M : Mm} : KR k M M := ⟨fq_rf, rfl, rfl, fun _ _ => ⟨rfl, rfl, rfl⟩⟩
theorem kr_tr {M N O : Mm} (h : KR k M N) (h2 : KR k N O) : KR k M O := ⟨fq_tr h.1 h2.1, h2.2.1.trans h.2.1, h2.2.2.1.trans h.2.2.1, fun j hj => ⟨(h2.2.2.2 j hj).1.trans (h.2.2.2 j hj).1, (h2.2.2.2 j hj).2.1.trans (h.2.2.2 j hj).2.1, (h2.2.2.2 j hj).2.2.trans (h.2.2.2 j hj).2.2⟩⟩
theorem kr_18 {M N : Mm} (h : F18 M N) : KR k M N := ⟨fq_18 h, h.2 23 (by decide), by rw [(h.1 (19, 7, 0) rfl).1], fun j _ => ⟨by rw [(h.1 (19, 8, 0) rfl).1], by rw [(h.1 (19, 9, 0) rfl).1], by rw [(h.1 (19, 10, 0) rfl).1]⟩⟩
theorem kr_p {M N : Mm} {a : Nat} {v : Int32} (h : KR k M N) (ha : a = 8 ∨ a = 9 ∨ a = 10) : KR k M (putI N (19, a, 0) k v) := by
  refine kr_tr h ⟨fq_p fq_rf (by omega), by rw [putI_ne (fun c => by cases c)], ?_, fun j hj => ⟨?_, ?_, ?_⟩⟩
  · rw [putI_ne (fun c => by simp at c; omega)]
  · rw [g_put, if_neg (fun c => by omega)]
  · rw [g_put, if_neg (fun c => by omega)]
  · rw [g_put, if_neg (fun c => by omega)]
theorem er_q {M : Mm} {e p v : Int32} {a j : Nat} (H : ER M e p) : ER (putI M (19, a, 0) j v) e p := er_put (fun c => by cases c) H
theorem st_dir (hk : k < 30) (HC : PC M1 tb n c h) (HR : PR M2 tb n h) :
    (∃ d N1 M2', fX5_readDirection M1 (nI k) 1 = some (1, putI N1 (8, 3, 0) (3 * k + 1) d) ∧ fX10_takesDirection M2 = some (d, M2') ∧ PC (putI N1 (8, 3, 0) (3 * k + 1) d) tb n c (h + 1) ∧ PR M2' tb n (h + 1) ∧ Fr sT M1 N1 ∧ F18 M2 M2') ∨
    (∃ e p x M1' M2', fX5_readDirection M1 (nI k) 1 = some (0, M1') ∧ fX10_takesDirection M2 = some (x, M2') ∧ EC M1' e p ∧ ER M2' e p ∧ Fr sT M1 M1' ∧ F18 M2 M2') := by
  have u1 := pc_word (j := 13) (by decide) HC
  have d1 := pc_word (j := 14) (by decide) HC
  have u2 := pr_word (j := 13) (by decide) HC.1 HR
  have d2 := pr_word (j := 14) (by decide) HC.1 HR
  have ok : ∀ d : Int32, tkK tb n (tE tb n h) ≠ 0 → ∃ M2', fX4_putArgument (fX7_advance M1) (nI k) 1 d = some (putI (fX7_advance M1) (8, 3, 0) (3 * k + 1) d) ∧ fX10_goesOn M2 = some M2' ∧ PC (putI (fX7_advance M1) (8, 3, 0) (3 * k + 1) d) tb n c (h + 1) ∧ PR M2' tb n (h + 1) ∧ Fr sT M1 (fX7_advance M1) ∧ F18 M2 M2' := by
    intro d hk0
    obtain ⟨a1, a2⟩ := pc_adv HC hk0
    obtain ⟨M2', b1, b2, b3⟩ := pr_goes HC.1 HR
    exact ⟨M2', cl_putArg (q := 1) rfl hk (by decide), b1, pc_8 a1, b2, a2, b3⟩
  cases wu : wdS tb n (tE tb n h) (sby 13) with
  | true =>
    rw [wu] at u1 u2
    obtain ⟨M2', a1, a2, a3, a4, a5, a6⟩ := ok 1 (by rw [wdS_1 wu]; decide)
    refine Or.inl ⟨1, _, M2', ?_, ?_, a3, a4, a5, a6⟩
    · rw [fX5_readDirection, u1, Option.bind_some, if_neg (by decide), if_neg (by decide), a1, Option.bind_some]
    · rw [fX10_takesDirection, u2, Option.bind_some, if_neg (by decide), if_pos rfl, pr_ok HR.2.1, Option.bind_some]
      dsimp only
      rw [a2, Option.bind_some]
  | false =>
    rw [wu] at u1 u2
    cases wd : wdS tb n (tE tb n h) (sby 14) with
    | true =>
      rw [wd] at d1 d2
      obtain ⟨M2', a1, a2, a3, a4, a5, a6⟩ := ok (-1) (by rw [wdS_1 wd]; decide)
      refine Or.inl ⟨-1, _, M2', ?_, ?_, a3, a4, a5, a6⟩
      · rw [fX5_readDirection, u1, Option.bind_some, if_pos (bI_0.mpr rfl), d1, Option.bind_some, if_neg (by decide), if_pos (bI_0.mpr rfl), a1, Option.bind_some]
      · rw [fX10_takesDirection, u2, Option.bind_some, if_pos (bI_0.mpr rfl), if_neg (by decide), d2, Option.bind_some, if_neg (by decide), pr_ok HR.2.1, Option.bind_some]
        dsimp only
        rw [a2, Option.bind_some]
    | false =>
      rw [wd] at d1 d2
      obtain ⟨X1, x1, x2, x3⟩ := pc_fail (e := 1) HC
      obtain ⟨X2, y1, y2, y3⟩ := pr_no (e := 1) HR.2.1 (by decide)
      rw [HR.2.2.2.2.1] at y2
      refine Or.inr ⟨_, _, -1, X1, X2, ?_, ?_, x2, y2, x3, y3⟩
      · rw [fX5_readDirection, u1, Option.bind_some, if_pos (bI_0.mpr rfl), d1, Option.bind_some, if_pos (bI_0.mpr rfl), x1]
        exact bzr0 _
      · rw [fX10_takesDirection, u2, Option.bind_some, if_pos (bI_0.mpr rfl), if_neg (by decide), d2, Option.bind_some, if_pos (bI_0.mpr rfl), y1, Option.bind_some]
        dsimp only
        rw [er_goes y2, Option.bind_some]
def stR (M1 M2 : Mm) (tb : Nat → Nat) (n c h k K : Nat) : Prop := ∃ b M1' M2', fX5_readArguments M1 (nI k) (nI K) = some (b, M1') ∧ fX10_readsSingle M2 (nI k) = some M2' ∧
    ((b = 1 ∧ ∃ h', h < h' ∧ PC M1' tb n c h' ∧ PR M2' tb n h' ∧ DA M1' M2' k K) ∨ (b = 0 ∧ ∃ e p, EC M1' e p ∧ ER M2' e p)) ∧ KC k M1 M1' ∧ KR k M2 M2'
theorem hgk (hk : k < 30) : ¬ (nI k < 0 ∨ 30 ≤ (nI k).toNatClampNeg) := nI_in hk (by decide)
theorem bz_e1 (M : Mm) : (some ((1 : Int32), M)).bind (fun q => some (bz q.1, q.2)) = some (1, M) := bzr1 M
theorem st_k4 (hk : k < 30) (hK : M2.1 (19, 7, 0) k = nI 4) (HC : PC M1 tb n c h) (HR : PR M2 tb n h) : stR M1 M2 tb n c h k 4 := by
  have hg := hgk hk
  rcases st_arg (q := 0) (Q := 0) (L := 0) (Hi := 11) (l := 0) (hi := 11) rfl rfl rfl hk (by decide) (by decide) (by decide) HC HR with ⟨v, N1, N2, s1, s2, b1, b2, b3, b4, b5, b6⟩ | ⟨e, p, x, N1, N2, b1, b2, b3, b4, b5, b6⟩
  · refine ⟨1, _, putI N2 (19, 8, 0) k (nI v), ?_, ?_, Or.inl ⟨rfl, h + 1, by omega, b3, pr_q (by decide) b4, ?_, fun c => absurd c (by decide), fun c => absurd c (by decide), fun c => absurd c (by decide)⟩, kc_p (kc_T b5), kr_p (kr_18 b6) (by decide)⟩
    · rw [fX5_readArguments, if_neg (show ¬ nI 4 = (0 : Int32) by decide), if_neg (show ¬ nI 4 = (1 : Int32) by decide), if_neg (show ¬ nI 4 = (2 : Int32) by decide), if_neg (show ¬ nI 4 = (3 : Int32) by decide), if_pos (show nI 4 = (4 : Int32) from rfl), b1]
      exact bzr1 _
    · rw [fX10_readsSingle]
      simp only [hg, if_false]
      rw [nI_clamp (by omega), hK, if_neg (show ¬ nI 4 = (0 : Int32) by decide), if_neg (show ¬ nI 4 = (1 : Int32) by decide), if_neg (show ¬ nI 4 = (2 : Int32) by decide), if_neg (show ¬ nI 4 = (3 : Int32) by decide), if_pos (show nI 4 = (4 : Int32) from rfl), b2, Option.bind_some]
    · rw [g_row, g_row, Nat.add_zero, upd_s, upd_s]
  · refine ⟨0, N1, putI N2 (19, 8, 0) k x, ?_, ?_, Or.inr ⟨rfl, e, p, b3, er_q b4⟩, kc_T b5, kr_p (kr_18 b6) (by decide)⟩
    · rw [fX5_readArguments, if_neg (show ¬ nI 4 = (0 : Int32) by decide), if_neg (show ¬ nI 4 = (1 : Int32) by decide), if_neg (show ¬ nI 4 = (2 : Int32) by decide), if_neg (show ¬ nI 4 = (3 : Int32) by decide), if_pos (show nI 4 = (4 : Int32) from rfl), b1]
      exact bzr0 _
    · rw [fX10_readsSingle]
      simp only [hg, if_false]
      rw [nI_clamp (by omega), hK, if_neg (show ¬ nI 4 = (0 : Int32) by decide), if_neg (show ¬ nI 4 = (1 : Int32) by decide), if_neg (show ¬ nI 4 = (2 : Int32) by decide), if_neg (show ¬ nI 4 = (3 : Int32) by decide), if_pos (show nI 4 = (4 : Int32) from rfl), b2, Option.bind_some]
theorem st_k5 (hk : k < 30) (hK : M2.1 (19, 7, 0) k = nI 5) (HC : PC M1 tb n c h) (HR : PR M2 tb n h) : stR M1 M2 tb n c h k 5 := by
  have hg := hgk hk
  rcases st_arg (q := 0) (Q := 0) (L := 0) (Hi := 90) (l := 0) (hi := 90) rfl rfl rfl hk (by decide) (by decide) (by decide) HC HR with ⟨v, N1, N2, s1, s2, b1, b2, b3, b4, b5, b6⟩ | ⟨e, p, x, N1, N2, b1, b2, b3, b4, b5, b6⟩
  · refine ⟨1, _, putI N2 (19, 8, 0) k (nI v), ?_, ?_, Or.inl ⟨rfl, h + 1, by omega, b3, pr_q (by decide) b4, ?_, fun c => absurd c (by decide), fun c => absurd c (by decide), fun c => absurd c (by decide)⟩, kc_p (kc_T b5), kr_p (kr_18 b6) (by decide)⟩
    · rw [fX5_readArguments, if_neg (show ¬ nI 5 = (0 : Int32) by decide), if_neg (show ¬ nI 5 = (1 : Int32) by decide), if_neg (show ¬ nI 5 = (2 : Int32) by decide), if_neg (show ¬ nI 5 = (3 : Int32) by decide), if_neg (show ¬ nI 5 = (4 : Int32) by decide), if_pos (show nI 5 = (5 : Int32) from rfl), b1]
      exact bzr1 _
    · rw [fX10_readsSingle]
      simp only [hg, if_false]
      rw [nI_clamp (by omega), hK, if_neg (show ¬ nI 5 = (0 : Int32) by decide), if_neg (show ¬ nI 5 = (1 : Int32) by decide), if_neg (show ¬ nI 5 = (2 : Int32) by decide), if_neg (show ¬ nI 5 = (3 : Int32) by decide), if_neg (show ¬ nI 5 = (4 : Int32) by decide), if_pos (show nI 5 = (5 : Int32) from rfl), b2, Option.bind_some]
    · rw [g_row, g_row, Nat.add_zero, upd_s, upd_s]
  · refine ⟨0, N1, putI N2 (19, 8, 0) k x, ?_, ?_, Or.inr ⟨rfl, e, p, b3, er_q b4⟩, kc_T b5, kr_p (kr_18 b6) (by decide)⟩
    · rw [fX5_readArguments, if_neg (show ¬ nI 5 = (0 : Int32) by decide), if_neg (show ¬ nI 5 = (1 : Int32) by decide), if_neg (show ¬ nI 5 = (2 : Int32) by decide), if_neg (show ¬ nI 5 = (3 : Int32) by decide), if_neg (show ¬ nI 5 = (4 : Int32) by decide), if_pos (show nI 5 = (5 : Int32) from rfl), b1]
      exact bzr0 _
    · rw [fX10_readsSingle]
      simp only [hg, if_false]
      rw [nI_clamp (by omega), hK, if_neg (show ¬ nI 5 = (0 : Int32) by decide), if_neg (show ¬ nI 5 = (1 : Int32) by decide), if_neg (show ¬ nI 5 = (2 : Int32) by decide), if_neg (show ¬ nI 5 = (3 : Int32) by decide), if_neg (show ¬ nI 5 = (4 : Int32) by decide), if_pos (show nI 5 = (5 : Int32) from rfl), b2, Option.bind_some]
theorem st_k6 (hk : k < 30) (hK : M2.1 (19, 7, 0) k = nI 6) (HC : PC M1 tb n c h) (HR : PR M2 tb n h) : stR M1 M2 tb n c h k 6 := by
  have hg := hgk hk
  rcases st_arg (q := 0) (Q := 0) (L := 1) (Hi := 20) (l := 1) (hi := 20) rfl rfl rfl hk (by decide) (by decide) (by decide) HC HR with ⟨v, N1, N2, s1, s2, b1, b2, b3, b4, b5, b6⟩ | ⟨e, p, x, N1, N2, b1, b2, b3, b4, b5, b6⟩
  · refine ⟨1, _, putI N2 (19, 8, 0) k (nI v), ?_, ?_, Or.inl ⟨rfl, h + 1, by omega, b3, pr_q (by decide) b4, ?_, fun c => absurd c (by decide), fun c => absurd c (by decide), fun c => absurd c (by decide)⟩, kc_p (kc_T b5), kr_p (kr_18 b6) (by decide)⟩
    · rw [fX5_readArguments, if_neg (show ¬ nI 6 = (0 : Int32) by decide), if_neg (show ¬ nI 6 = (1 : Int32) by decide), if_neg (show ¬ nI 6 = (2 : Int32) by decide), if_neg (show ¬ nI 6 = (3 : Int32) by decide), if_neg (show ¬ nI 6 = (4 : Int32) by decide), if_neg (show ¬ nI 6 = (5 : Int32) by decide), if_pos (show nI 6 = (6 : Int32) from rfl), b1]
      exact bzr1 _
    · rw [fX10_readsSingle]
      simp only [hg, if_false]
      rw [nI_clamp (by omega), hK, if_neg (show ¬ nI 6 = (0 : Int32) by decide), if_neg (show ¬ nI 6 = (1 : Int32) by decide), if_neg (show ¬ nI 6 = (2 : Int32) by decide), if_neg (show ¬ nI 6 = (3 : Int32) by decide), if_neg (show ¬ nI 6 = (4 : Int32) by decide), if_neg (show ¬ nI 6 = (5 : Int32) by decide), if_pos (show nI 6 = (6 : Int32) from rfl), b2, Option.bind_some]
    · rw [g_row, g_row, Nat.add_zero, upd_s, upd_s]
  · refine ⟨0, N1, putI N2 (19, 8, 0) k x, ?_, ?_, Or.inr ⟨rfl, e, p, b3, er_q b4⟩, kc_T b5, kr_p (kr_18 b6) (by decide)⟩
    · rw [fX5_readArguments, if_neg (show ¬ nI 6 = (0 : Int32) by decide), if_neg (show ¬ nI 6 = (1 : Int32) by decide), if_neg (show ¬ nI 6 = (2 : Int32) by decide), if_neg (show ¬ nI 6 = (3 : Int32) by decide), if_neg (show ¬ nI 6 = (4 : Int32) by decide), if_neg (show ¬ nI 6 = (5 : Int32) by decide), if_pos (show nI 6 = (6 : Int32) from rfl), b1]
      exact bzr0 _
    · rw [fX10_readsSingle]
      simp only [hg, if_false]
      rw [nI_clamp (by omega), hK, if_neg (show ¬ nI 6 = (0 : Int32) by decide), if_neg (show ¬ nI 6 = (1 : Int32) by decide), if_neg (show ¬ nI 6 = (2 : Int32) by decide), if_neg (show ¬ nI 6 = (3 : Int32) by decide), if_neg (show ¬ nI 6 = (4 : Int32) by decide), if_neg (show ¬ nI 6 = (5 : Int32) by decide), if_pos (show nI 6 = (6 : Int32) from rfl), b2, Option.bind_some]
theorem st_k7 (hk : k < 30) (hK : M2.1 (19, 7, 0) k = nI 7) (HC : PC M1 tb n c h) (HR : PR M2 tb n h) : stR M1 M2 tb n c h k 7 := by
  have hg := hgk hk
  rcases st_arg (q := 0) (Q := 0) (L := 0) (Hi := 2) (l := 0) (hi := 2) rfl rfl rfl hk (by decide) (by decide) (by decide) HC HR with ⟨v, N1, N2, s1, s2, b1, b2, b3, b4, b5, b6⟩ | ⟨e, p, x, N1, N2, b1, b2, b3, b4, b5, b6⟩
  · refine ⟨1, _, putI N2 (19, 8, 0) k (nI v), ?_, ?_, Or.inl ⟨rfl, h + 1, by omega, b3, pr_q (by decide) b4, ?_, fun c => absurd c (by decide), fun c => absurd c (by decide), fun c => absurd c (by decide)⟩, kc_p (kc_T b5), kr_p (kr_18 b6) (by decide)⟩
    · rw [fX5_readArguments, if_neg (show ¬ nI 7 = (0 : Int32) by decide), if_neg (show ¬ nI 7 = (1 : Int32) by decide), if_neg (show ¬ nI 7 = (2 : Int32) by decide), if_neg (show ¬ nI 7 = (3 : Int32) by decide), if_neg (show ¬ nI 7 = (4 : Int32) by decide), if_neg (show ¬ nI 7 = (5 : Int32) by decide), if_neg (show ¬ nI 7 = (6 : Int32) by decide), if_pos (show nI 7 = (7 : Int32) from rfl), b1]
      exact bzr1 _
    · rw [fX10_readsSingle]
      simp only [hg, if_false]
      rw [nI_clamp (by omega), hK, if_neg (show ¬ nI 7 = (0 : Int32) by decide), if_neg (show ¬ nI 7 = (1 : Int32) by decide), if_neg (show ¬ nI 7 = (2 : Int32) by decide), if_neg (show ¬ nI 7 = (3 : Int32) by decide), if_neg (show ¬ nI 7 = (4 : Int32) by decide), if_neg (show ¬ nI 7 = (5 : Int32) by decide), if_neg (show ¬ nI 7 = (6 : Int32) by decide), if_pos (show nI 7 = (7 : Int32) from rfl), b2, Option.bind_some]
    · rw [g_row, g_row, Nat.add_zero, upd_s, upd_s]
  · refine ⟨0, N1, putI N2 (19, 8, 0) k x, ?_, ?_, Or.inr ⟨rfl, e, p, b3, er_q b4⟩, kc_T b5, kr_p (kr_18 b6) (by decide)⟩
    · rw [fX5_readArguments, if_neg (show ¬ nI 7 = (0 : Int32) by decide), if_neg (show ¬ nI 7 = (1 : Int32) by decide), if_neg (show ¬ nI 7 = (2 : Int32) by decide), if_neg (show ¬ nI 7 = (3 : Int32) by decide), if_neg (show ¬ nI 7 = (4 : Int32) by decide), if_neg (show ¬ nI 7 = (5 : Int32) by decide), if_neg (show ¬ nI 7 = (6 : Int32) by decide), if_pos (show nI 7 = (7 : Int32) from rfl), b1]
      exact bzr0 _
    · rw [fX10_readsSingle]
      simp only [hg, if_false]
      rw [nI_clamp (by omega), hK, if_neg (show ¬ nI 7 = (0 : Int32) by decide), if_neg (show ¬ nI 7 = (1 : Int32) by decide), if_neg (show ¬ nI 7 = (2 : Int32) by decide), if_neg (show ¬ nI 7 = (3 : Int32) by decide), if_neg (show ¬ nI 7 = (4 : Int32) by decide), if_neg (show ¬ nI 7 = (5 : Int32) by decide), if_neg (show ¬ nI 7 = (6 : Int32) by decide), if_pos (show nI 7 = (7 : Int32) from rfl), b2, Option.bind_some]
theorem st_k8 (hk : k < 30) (hK : M2.1 (19, 7, 0) k = nI 8) (HC : PC M1 tb n c h) (HR : PR M2 tb n h) : stR M1 M2 tb n c h k 8 := by
  have hg := hgk hk
  rcases st_arg (q := 0) (Q := 0) (L := 1) (Hi := 300) (l := 1) (hi := 300) rfl rfl rfl hk (by decide) (by decide) (by decide) HC HR with ⟨v, N1, N2, s1, s2, b1, b2, b3, b4, b5, b6⟩ | ⟨e, p, x, N1, N2, b1, b2, b3, b4, b5, b6⟩
  · refine ⟨1, _, putI N2 (19, 8, 0) k (nI v), ?_, ?_, Or.inl ⟨rfl, h + 1, by omega, b3, pr_q (by decide) b4, ?_, fun c => absurd c (by decide), fun c => absurd c (by decide), fun c => absurd c (by decide)⟩, kc_p (kc_T b5), kr_p (kr_18 b6) (by decide)⟩
    · rw [fX5_readArguments, if_neg (show ¬ nI 8 = (0 : Int32) by decide), if_neg (show ¬ nI 8 = (1 : Int32) by decide), if_neg (show ¬ nI 8 = (2 : Int32) by decide), if_neg (show ¬ nI 8 = (3 : Int32) by decide), if_neg (show ¬ nI 8 = (4 : Int32) by decide), if_neg (show ¬ nI 8 = (5 : Int32) by decide), if_neg (show ¬ nI 8 = (6 : Int32) by decide), if_neg (show ¬ nI 8 = (7 : Int32) by decide), b1]
      exact bzr1 _
    · rw [fX10_readsSingle]
      simp only [hg, if_false]
      rw [nI_clamp (by omega), hK, if_neg (show ¬ nI 8 = (0 : Int32) by decide), if_neg (show ¬ nI 8 = (1 : Int32) by decide), if_neg (show ¬ nI 8 = (2 : Int32) by decide), if_neg (show ¬ nI 8 = (3 : Int32) by decide), if_neg (show ¬ nI 8 = (4 : Int32) by decide), if_neg (show ¬ nI 8 = (5 : Int32) by decide), if_neg (show ¬ nI 8 = (6 : Int32) by decide), if_neg (show ¬ nI 8 = (7 : Int32) by decide), b2, Option.bind_some]
    · rw [g_row, g_row, Nat.add_zero, upd_s, upd_s]
  · refine ⟨0, N1, putI N2 (19, 8, 0) k x, ?_, ?_, Or.inr ⟨rfl, e, p, b3, er_q b4⟩, kc_T b5, kr_p (kr_18 b6) (by decide)⟩
    · rw [fX5_readArguments, if_neg (show ¬ nI 8 = (0 : Int32) by decide), if_neg (show ¬ nI 8 = (1 : Int32) by decide), if_neg (show ¬ nI 8 = (2 : Int32) by decide), if_neg (show ¬ nI 8 = (3 : Int32) by decide), if_neg (show ¬ nI 8 = (4 : Int32) by decide), if_neg (show ¬ nI 8 = (5 : Int32) by decide), if_neg (show ¬ nI 8 = (6 : Int32) by decide), if_neg (show ¬ nI 8 = (7 : Int32) by decide), b1]
      exact bzr0 _
    · rw [fX10_readsSingle]
      simp only [hg, if_false]
      rw [nI_clamp (by omega), hK, if_neg (show ¬ nI 8 = (0 : Int32) by decide), if_neg (show ¬ nI 8 = (1 : Int32) by decide), if_neg (show ¬ nI 8 = (2 : Int32) by decide), if_neg (show ¬ nI 8 = (3 : Int32) by decide), if_neg (show ¬ nI 8 = (4 : Int32) by decide), if_neg (show ¬ nI 8 = (5 : Int32) by decide), if_neg (show ¬ nI 8 = (6 : Int32) by decide), if_neg (show ¬ nI 8 = (7 : Int32) by decide), b2, Option.bind_some]
theorem st_k2 (hk : k < 30) (hK : M2.1 (19, 7, 0) k = nI 2) (HC : PC M1 tb n c h) (HR : PR M2 tb n h) : stR M1 M2 tb n c h k 2 := by
  have hg := hgk hk
  rcases st_arg (q := 0) (Q := 0) (L := 0) (Hi := 11) (l := 0) (hi := 11) rfl rfl rfl hk (by decide) (by decide) (by decide) HC HR with ⟨v, N1, N2, s1, s2, b1, b2, b3, b4, b5, b6⟩ | ⟨e, p, x, N1, N2, b1, b2, b3, b4, b5, b6⟩
  · have b4' : PR (putI N2 (19, 8, 0) k (nI v)) tb n (h + 1) := pr_q (by decide) b4
    rcases st_arg (q := 1) (Q := 1) (L := 1) (Hi := 9) (l := 1) (hi := 9) rfl rfl rfl hk (by decide) (by decide) (by decide) b3 b4' with ⟨w, O1, O2, t1, t2, c1, c2, c3, c4, c5, c6⟩ | ⟨e, p, x, O1, O2, c1, c2, c3, c4, c5, c6⟩
    · refine ⟨1, _, putI O2 (19, 9, 0) k (nI w), ?_, ?_, Or.inl ⟨rfl, h + 1 + 1, by omega, c3, pr_q (by decide) c4, ?_, fun _ => ?_, fun c => absurd c (by decide), fun c => absurd c (by decide)⟩, kc_p (kc_tr (kc_p (kc_T b5)) (kc_T c5)), kr_p (kr_tr (kr_p (kr_18 b6) (by decide)) (kr_18 c6)) (by decide)⟩
      · rw [fX5_readArguments, if_neg (show ¬ nI 2 = (0 : Int32) by decide), if_neg (show ¬ nI 2 = (1 : Int32) by decide), if_pos (show nI 2 = (2 : Int32) from rfl), b1, Option.bind_some, if_neg one_ne]
        dsimp only
        rw [c1, Option.bind_some, if_neg one_ne]
      · rw [fX10_readsSingle]
        simp only [hg, if_false]
        rw [nI_clamp (by omega), hK, if_neg (show ¬ nI 2 = (0 : Int32) by decide), if_neg (show ¬ nI 2 = (1 : Int32) by decide), if_pos (show nI 2 = (2 : Int32) from rfl), b2, Option.bind_some]
        dsimp only
        rw [c2, Option.bind_some]
      · rw [g_row, upd_o (by omega), (c5 (8, 3, 0) rfl).1, g_row, Nat.add_zero, upd_s, putI_ne (by decide), (c6.1 (19, 8, 0) rfl).1, g_row, upd_s]
      · rw [g_row, g_row, Nat.add_zero, upd_s, upd_s]
    · refine ⟨0, O1, putI O2 (19, 9, 0) k x, ?_, ?_, Or.inr ⟨rfl, e, p, c3, er_q c4⟩, kc_tr (kc_p (kc_T b5)) (kc_T c5), kr_p (kr_tr (kr_p (kr_18 b6) (by decide)) (kr_18 c6)) (by decide)⟩
      · rw [fX5_readArguments, if_neg (show ¬ nI 2 = (0 : Int32) by decide), if_neg (show ¬ nI 2 = (1 : Int32) by decide), if_pos (show nI 2 = (2 : Int32) from rfl), b1, Option.bind_some, if_neg one_ne]
        dsimp only
        rw [c1, Option.bind_some, if_pos rfl]
      · rw [fX10_readsSingle]
        simp only [hg, if_false]
        rw [nI_clamp (by omega), hK, if_neg (show ¬ nI 2 = (0 : Int32) by decide), if_neg (show ¬ nI 2 = (1 : Int32) by decide), if_pos (show nI 2 = (2 : Int32) from rfl), b2, Option.bind_some]
        dsimp only
        rw [c2, Option.bind_some]
  · have q1 := er_q (a := 8) (j := k) (v := x) b4
    refine ⟨0, N1, putI (putI N2 (19, 8, 0) k x) (19, 9, 0) k ((putI N2 (19, 8, 0) k x).1 R8 16), ?_, ?_, Or.inr ⟨rfl, e, p, b3, er_q q1⟩, kc_T b5, kr_p (kr_p (kr_18 b6) (by decide)) (by decide)⟩
    · rw [fX5_readArguments, if_neg (show ¬ nI 2 = (0 : Int32) by decide), if_neg (show ¬ nI 2 = (1 : Int32) by decide), if_pos (show nI 2 = (2 : Int32) from rfl), b1, Option.bind_some, if_pos rfl]
    · rw [fX10_readsSingle]
      simp only [hg, if_false]
      rw [nI_clamp (by omega), hK, if_neg (show ¬ nI 2 = (0 : Int32) by decide), if_neg (show ¬ nI 2 = (1 : Int32) by decide), if_pos (show nI 2 = (2 : Int32) from rfl), b2, Option.bind_some]
      dsimp only
      rw [er_num q1, Option.bind_some]
theorem er_dir {M : Mm} {e p : Int32} (H : ER M e p) : fX10_takesDirection M = some (-1, M) := by
  rw [fX10_takesDirection, er_word H, Option.bind_some, if_pos rfl, if_neg (by decide), er_word H, Option.bind_some, if_pos rfl, er_must H, Option.bind_some]
  dsimp only
  rw [er_goes H, Option.bind_some]
theorem st_k3 (hk : k < 30) (hK : M2.1 (19, 7, 0) k = nI 3) (HC : PC M1 tb n c h) (HR : PR M2 tb n h) : stR M1 M2 tb n c h k 3 := by
  have hg := hgk hk
  rcases st_arg (q := 0) (Q := 0) (L := 0) (Hi := 11) (l := 0) (hi := 11) rfl rfl rfl hk (by decide) (by decide) (by decide) HC HR with ⟨v, N1, N2, s1, s2, b1, b2, b3, b4, b5, b6⟩ | ⟨e, p, x, N1, N2, b1, b2, b3, b4, b5, b6⟩
  · have b4' : PR (putI N2 (19, 8, 0) k (nI v)) tb n (h + 1) := pr_q (by decide) b4
    rcases st_dir hk b3 b4' with ⟨d, O1, O2, c1, c2, c3, c4, c5, c6⟩ | ⟨e, p, x, O1, O2, c1, c2, c3, c4, c5, c6⟩
    · have c4' : PR (putI O2 (19, 9, 0) k d) tb n (h + 1 + 1) := pr_q (by decide) c4
      rcases st_arg (q := 2) (Q := 2) (L := 1) (Hi := 3) (l := 1) (hi := 3) rfl rfl rfl hk (by decide) (by decide) (by decide) c3 c4' with ⟨w, Q1, Q2, t1, t2, d1, d2, d3, d4, d5, d6⟩ | ⟨e, p, x, Q1, Q2, d1, d2, d3, d4, d5, d6⟩
      · refine ⟨1, _, putI Q2 (19, 9, 0) k (d * nI w), ?_, ?_, Or.inl ⟨rfl, h + 1 + 1 + 1, by omega, d3, pr_q (by decide) d4, ?_, fun c => absurd c (by decide), fun c => absurd c (by decide), fun _ => ?_⟩, kc_p (kc_tr (kc_p (kc_tr (kc_p (kc_T b5)) (kc_T c5))) (kc_T d5)), kr_p (kr_tr (kr_p (kr_tr (kr_p (kr_18 b6) (by decide)) (kr_18 c6)) (by decide)) (kr_18 d6)) (by decide)⟩
        · rw [fX5_readArguments, if_neg (show ¬ nI 3 = (0 : Int32) by decide), if_neg (show ¬ nI 3 = (1 : Int32) by decide), if_neg (show ¬ nI 3 = (2 : Int32) by decide), if_pos (show nI 3 = (3 : Int32) from rfl), b1, Option.bind_some, if_neg one_ne]
          dsimp only
          rw [c1, Option.bind_some, if_neg one_ne]
          dsimp only
          rw [d1, Option.bind_some, if_neg one_ne]
        · rw [fX10_readsSingle]
          simp only [hg, if_false]
          rw [nI_clamp (by omega), hK, if_neg (show ¬ nI 3 = (0 : Int32) by decide), if_neg (show ¬ nI 3 = (1 : Int32) by decide), if_neg (show ¬ nI 3 = (2 : Int32) by decide), if_pos (show nI 3 = (3 : Int32) from rfl), b2, Option.bind_some]
          dsimp only
          rw [c2, Option.bind_some]
          dsimp only
          rw [d2, Option.bind_some]
        · rw [g_row, upd_o (by omega), (d5 (8, 3, 0) rfl).1, g_row, upd_o (by omega), (c5 (8, 3, 0) rfl).1, g_row, Nat.add_zero, upd_s, putI_ne (by decide), (d6.1 (19, 8, 0) rfl).1, putI_ne (by decide), (c6.1 (19, 8, 0) rfl).1, g_row, upd_s]
        · rw [g_row, g_row, upd_s, upd_s, upd_o (by omega), (d5 (8, 3, 0) rfl).1, g_row, upd_s]
      · refine ⟨0, Q1, putI Q2 (19, 9, 0) k (d * x), ?_, ?_, Or.inr ⟨rfl, e, p, d3, er_q d4⟩, kc_tr (kc_p (kc_tr (kc_p (kc_T b5)) (kc_T c5))) (kc_T d5), kr_p (kr_tr (kr_p (kr_tr (kr_p (kr_18 b6) (by decide)) (kr_18 c6)) (by decide)) (kr_18 d6)) (by decide)⟩
        · rw [fX5_readArguments, if_neg (show ¬ nI 3 = (0 : Int32) by decide), if_neg (show ¬ nI 3 = (1 : Int32) by decide), if_neg (show ¬ nI 3 = (2 : Int32) by decide), if_pos (show nI 3 = (3 : Int32) from rfl), b1, Option.bind_some, if_neg one_ne]
          dsimp only
          rw [c1, Option.bind_some, if_neg one_ne]
          dsimp only
          rw [d1, Option.bind_some, if_pos rfl]
        · rw [fX10_readsSingle]
          simp only [hg, if_false]
          rw [nI_clamp (by omega), hK, if_neg (show ¬ nI 3 = (0 : Int32) by decide), if_neg (show ¬ nI 3 = (1 : Int32) by decide), if_neg (show ¬ nI 3 = (2 : Int32) by decide), if_pos (show nI 3 = (3 : Int32) from rfl), b2, Option.bind_some]
          dsimp only
          rw [c2, Option.bind_some]
          dsimp only
          rw [d2, Option.bind_some]
    · have q1 := er_q (a := 9) (j := k) (v := x) c4
      refine ⟨0, O1, putI (putI O2 (19, 9, 0) k x) (19, 9, 0) k (x * (putI O2 (19, 9, 0) k x).1 R8 16), ?_, ?_, Or.inr ⟨rfl, e, p, c3, er_q q1⟩, kc_tr (kc_p (kc_T b5)) (kc_T c5), kr_p (kr_p (kr_tr (kr_p (kr_18 b6) (by decide)) (kr_18 c6)) (by decide)) (by decide)⟩
      · rw [fX5_readArguments, if_neg (show ¬ nI 3 = (0 : Int32) by decide), if_neg (show ¬ nI 3 = (1 : Int32) by decide), if_neg (show ¬ nI 3 = (2 : Int32) by decide), if_pos (show nI 3 = (3 : Int32) from rfl), b1, Option.bind_some, if_neg one_ne]
        dsimp only
        rw [c1, Option.bind_some, if_pos rfl]
      · rw [fX10_readsSingle]
        simp only [hg, if_false]
        rw [nI_clamp (by omega), hK, if_neg (show ¬ nI 3 = (0 : Int32) by decide), if_neg (show ¬ nI 3 = (1 : Int32) by decide), if_neg (show ¬ nI 3 = (2 : Int32) by decide), if_pos (show nI 3 = (3 : Int32) from rfl), b2, Option.bind_some]
        dsimp only
        rw [c2, Option.bind_some]
        dsimp only
        rw [er_num q1, Option.bind_some]
  · have q1 := er_q (a := 8) (j := k) (v := x) b4
    have q2 := er_q (a := 9) (j := k) (v := -1) q1
    refine ⟨0, N1, putI (putI (putI N2 (19, 8, 0) k x) (19, 9, 0) k (-1)) (19, 9, 0) k (-1 * (putI (putI N2 (19, 8, 0) k x) (19, 9, 0) k (-1)).1 R8 16), ?_, ?_, Or.inr ⟨rfl, e, p, b3, er_q q2⟩, kc_T b5, kr_p (kr_p (kr_p (kr_18 b6) (by decide)) (by decide)) (by decide)⟩
    · rw [fX5_readArguments, if_neg (show ¬ nI 3 = (0 : Int32) by decide), if_neg (show ¬ nI 3 = (1 : Int32) by decide), if_neg (show ¬ nI 3 = (2 : Int32) by decide), if_pos (show nI 3 = (3 : Int32) from rfl), b1, Option.bind_some, if_pos rfl]
    · rw [fX10_readsSingle]
      simp only [hg, if_false]
      rw [nI_clamp (by omega), hK, if_neg (show ¬ nI 3 = (0 : Int32) by decide), if_neg (show ¬ nI 3 = (1 : Int32) by decide), if_neg (show ¬ nI 3 = (2 : Int32) by decide), if_pos (show nI 3 = (3 : Int32) from rfl), b2, Option.bind_some]
      dsimp only
      rw [er_dir q1, Option.bind_some]
      dsimp only
      rw [er_num q2, Option.bind_some]
theorem st_k0 (hk : k < 30) (hK : M2.1 (19, 7, 0) k = nI 0) (HC : PC M1 tb n c h) (HR : PR M2 tb n h) : stR M1 M2 tb n c h k 0 := by
  have hg := hgk hk
  rcases st_arg (q := 0) (Q := 0) (L := 0) (Hi := 2) (l := 0) (hi := 2) rfl rfl rfl hk (by decide) (by decide) (by decide) HC HR with ⟨v, N1, N2, s1, s2, b1, b2, b3, b4, b5, b6⟩ | ⟨e, p, x, N1, N2, b1, b2, b3, b4, b5, b6⟩
  · have b4' : PR (putI N2 (19, 8, 0) k (nI v)) tb n (h + 1) := pr_q (by decide) b4
    rcases st_arg (q := 1) (Q := 1) (L := 0) (Hi := 11) (l := 0) (hi := 11) rfl rfl rfl hk (by decide) (by decide) (by decide) b3 b4' with ⟨w, O1, O2, t1, t2, c1, c2, c3, c4, c5, c6⟩ | ⟨e, p, x, O1, O2, c1, c2, c3, c4, c5, c6⟩
    · have c4' : PR (putI O2 (19, 9, 0) k (nI w)) tb n (h + 1 + 1) := pr_q (by decide) c4
      rcases st_arg (q := 2) (Q := 2) (L := 0) (Hi := 63) (l := 0) (hi := 63) rfl rfl rfl hk (by decide) (by decide) (by decide) c3 c4' with ⟨u, Q1, Q2, u1, u2, d1, d2, d3, d4, d5, d6⟩ | ⟨e, p, x, Q1, Q2, d1, d2, d3, d4, d5, d6⟩
      · refine ⟨1, _, putI Q2 (19, 10, 0) k (nI u), ?_, ?_, Or.inl ⟨rfl, h + 1 + 1 + 1, by omega, d3, pr_q (by decide) d4, ?_, fun _ => ?_, fun _ => ?_, fun c => absurd c (by decide)⟩, kc_p (kc_tr (kc_p (kc_tr (kc_p (kc_T b5)) (kc_T c5))) (kc_T d5)), kr_p (kr_tr (kr_p (kr_tr (kr_p (kr_18 b6) (by decide)) (kr_18 c6)) (by decide)) (kr_18 d6)) (by decide)⟩
        · rw [fX5_readArguments, if_pos (show nI 0 = (0 : Int32) from rfl), b1, Option.bind_some, if_neg one_ne]
          dsimp only
          rw [c1, Option.bind_some, if_neg one_ne]
          dsimp only
          rw [d1, Option.bind_some, if_neg one_ne]
        · rw [fX10_readsSingle]
          simp only [hg, if_false]
          rw [nI_clamp (by omega), hK, if_pos (show nI 0 = (0 : Int32) from rfl), b2, Option.bind_some]
          dsimp only
          rw [c2, Option.bind_some]
          dsimp only
          rw [d2, Option.bind_some]
        · rw [g_row, upd_o (by omega), (d5 (8, 3, 0) rfl).1, g_row, upd_o (by omega), (c5 (8, 3, 0) rfl).1, g_row, Nat.add_zero, upd_s, putI_ne (by decide), (d6.1 (19, 8, 0) rfl).1, putI_ne (by decide), (c6.1 (19, 8, 0) rfl).1, g_row, upd_s]
        · rw [g_row, upd_o (by omega), (d5 (8, 3, 0) rfl).1, g_row, upd_s, putI_ne (by decide), (d6.1 (19, 9, 0) rfl).1, g_row, upd_s]
        · rw [g_row, upd_s, g_row, upd_s]
      · refine ⟨0, Q1, putI Q2 (19, 10, 0) k x, ?_, ?_, Or.inr ⟨rfl, e, p, d3, er_q d4⟩, kc_tr (kc_p (kc_tr (kc_p (kc_T b5)) (kc_T c5))) (kc_T d5), kr_p (kr_tr (kr_p (kr_tr (kr_p (kr_18 b6) (by decide)) (kr_18 c6)) (by decide)) (kr_18 d6)) (by decide)⟩
        · rw [fX5_readArguments, if_pos (show nI 0 = (0 : Int32) from rfl), b1, Option.bind_some, if_neg one_ne]
          dsimp only
          rw [c1, Option.bind_some, if_neg one_ne]
          dsimp only
          rw [d1, Option.bind_some, if_pos rfl]
        · rw [fX10_readsSingle]
          simp only [hg, if_false]
          rw [nI_clamp (by omega), hK, if_pos (show nI 0 = (0 : Int32) from rfl), b2, Option.bind_some]
          dsimp only
          rw [c2, Option.bind_some]
          dsimp only
          rw [d2, Option.bind_some]
    · have q1 := er_q (a := 9) (j := k) (v := x) c4
      refine ⟨0, O1, putI (putI O2 (19, 9, 0) k x) (19, 10, 0) k ((putI O2 (19, 9, 0) k x).1 R8 16), ?_, ?_, Or.inr ⟨rfl, e, p, c3, er_q q1⟩, kc_tr (kc_p (kc_T b5)) (kc_T c5), kr_p (kr_p (kr_tr (kr_p (kr_18 b6) (by decide)) (kr_18 c6)) (by decide)) (by decide)⟩
      · rw [fX5_readArguments, if_pos (show nI 0 = (0 : Int32) from rfl), b1, Option.bind_some, if_neg one_ne]
        dsimp only
        rw [c1, Option.bind_some, if_pos rfl]
      · rw [fX10_readsSingle]
        simp only [hg, if_false]
        rw [nI_clamp (by omega), hK, if_pos (show nI 0 = (0 : Int32) from rfl), b2, Option.bind_some]
        dsimp only
        rw [c2, Option.bind_some]
        dsimp only
        rw [er_num q1, Option.bind_some]
  · have q1 := er_q (a := 8) (j := k) (v := x) b4
    have q2 := er_q (a := 9) (j := k) (v := (putI N2 (19, 8, 0) k x).1 R8 16) q1
    refine ⟨0, N1, putI (putI (putI N2 (19, 8, 0) k x) (19, 9, 0) k ((putI N2 (19, 8, 0) k x).1 R8 16)) (19, 10, 0) k ((putI (putI N2 (19, 8, 0) k x) (19, 9, 0) k ((putI N2 (19, 8, 0) k x).1 R8 16)).1 R8 16), ?_, ?_, Or.inr ⟨rfl, e, p, b3, er_q q2⟩, kc_T b5, kr_p (kr_p (kr_p (kr_18 b6) (by decide)) (by decide)) (by decide)⟩
    · rw [fX5_readArguments, if_pos (show nI 0 = (0 : Int32) from rfl), b1, Option.bind_some, if_pos rfl]
    · rw [fX10_readsSingle]
      simp only [hg, if_false]
      rw [nI_clamp (by omega), hK, if_pos (show nI 0 = (0 : Int32) from rfl), b2, Option.bind_some]
      dsimp only
      rw [er_num q1, Option.bind_some]
      dsimp only
      rw [er_num q2, Option.bind_some]
theorem st_k1 (hk : k < 30) (hK : M2.1 (19, 7, 0) k = nI 1) (HC : PC M1 tb n c h) (HR : PR M2 tb n h) : stR M1 M2 tb n c h k 1 := by
  have hg := hgk hk
  rcases st_arg (q := 0) (Q := 0) (L := 0) (Hi := 2) (l := 0) (hi := 2) rfl rfl rfl hk (by decide) (by decide) (by decide) HC HR with ⟨v, N1, N2, s1, s2, b1, b2, b3, b4, b5, b6⟩ | ⟨e, p, x, N1, N2, b1, b2, b3, b4, b5, b6⟩
  · have b4' : PR (putI N2 (19, 8, 0) k (nI v)) tb n (h + 1) := pr_q (by decide) b4
    rcases st_arg (q := 1) (Q := 1) (L := 0) (Hi := 11) (l := 0) (hi := 11) rfl rfl rfl hk (by decide) (by decide) (by decide) b3 b4' with ⟨w, O1, O2, t1, t2, c1, c2, c3, c4, c5, c6⟩ | ⟨e, p, x, O1, O2, c1, c2, c3, c4, c5, c6⟩
    · have c4' : PR (putI O2 (19, 9, 0) k (nI w)) tb n (h + 1 + 1) := pr_q (by decide) c4
      rcases st_arg (q := 2) (Q := 2) (L := 0) (Hi := 63) (l := 0) (hi := 63) rfl rfl rfl hk (by decide) (by decide) (by decide) c3 c4' with ⟨u, Q1, Q2, u1, u2, d1, d2, d3, d4, d5, d6⟩ | ⟨e, p, x, Q1, Q2, d1, d2, d3, d4, d5, d6⟩
      · refine ⟨1, _, putI Q2 (19, 10, 0) k (nI u), ?_, ?_, Or.inl ⟨rfl, h + 1 + 1 + 1, by omega, d3, pr_q (by decide) d4, ?_, fun _ => ?_, fun _ => ?_, fun c => absurd c (by decide)⟩, kc_p (kc_tr (kc_p (kc_tr (kc_p (kc_T b5)) (kc_T c5))) (kc_T d5)), kr_p (kr_tr (kr_p (kr_tr (kr_p (kr_18 b6) (by decide)) (kr_18 c6)) (by decide)) (kr_18 d6)) (by decide)⟩
        · rw [fX5_readArguments, if_neg (show ¬ nI 1 = (0 : Int32) by decide), if_pos (show nI 1 = (1 : Int32) from rfl), b1, Option.bind_some, if_neg one_ne]
          dsimp only
          rw [c1, Option.bind_some, if_neg one_ne]
          dsimp only
          rw [d1, Option.bind_some, if_neg one_ne]
        · rw [fX10_readsSingle]
          simp only [hg, if_false]
          rw [nI_clamp (by omega), hK, if_neg (show ¬ nI 1 = (0 : Int32) by decide), if_pos (show nI 1 = (1 : Int32) from rfl), b2, Option.bind_some]
          dsimp only
          rw [c2, Option.bind_some]
          dsimp only
          rw [d2, Option.bind_some]
        · rw [g_row, upd_o (by omega), (d5 (8, 3, 0) rfl).1, g_row, upd_o (by omega), (c5 (8, 3, 0) rfl).1, g_row, Nat.add_zero, upd_s, putI_ne (by decide), (d6.1 (19, 8, 0) rfl).1, putI_ne (by decide), (c6.1 (19, 8, 0) rfl).1, g_row, upd_s]
        · rw [g_row, upd_o (by omega), (d5 (8, 3, 0) rfl).1, g_row, upd_s, putI_ne (by decide), (d6.1 (19, 9, 0) rfl).1, g_row, upd_s]
        · rw [g_row, upd_s, g_row, upd_s]
      · refine ⟨0, Q1, putI Q2 (19, 10, 0) k x, ?_, ?_, Or.inr ⟨rfl, e, p, d3, er_q d4⟩, kc_tr (kc_p (kc_tr (kc_p (kc_T b5)) (kc_T c5))) (kc_T d5), kr_p (kr_tr (kr_p (kr_tr (kr_p (kr_18 b6) (by decide)) (kr_18 c6)) (by decide)) (kr_18 d6)) (by decide)⟩
        · rw [fX5_readArguments, if_neg (show ¬ nI 1 = (0 : Int32) by decide), if_pos (show nI 1 = (1 : Int32) from rfl), b1, Option.bind_some, if_neg one_ne]
          dsimp only
          rw [c1, Option.bind_some, if_neg one_ne]
          dsimp only
          rw [d1, Option.bind_some, if_pos rfl]
        · rw [fX10_readsSingle]
          simp only [hg, if_false]
          rw [nI_clamp (by omega), hK, if_neg (show ¬ nI 1 = (0 : Int32) by decide), if_pos (show nI 1 = (1 : Int32) from rfl), b2, Option.bind_some]
          dsimp only
          rw [c2, Option.bind_some]
          dsimp only
          rw [d2, Option.bind_some]
    · have q1 := er_q (a := 9) (j := k) (v := x) c4
      refine ⟨0, O1, putI (putI O2 (19, 9, 0) k x) (19, 10, 0) k ((putI O2 (19, 9, 0) k x).1 R8 16), ?_, ?_, Or.inr ⟨rfl, e, p, c3, er_q q1⟩, kc_tr (kc_p (kc_T b5)) (kc_T c5), kr_p (kr_p (kr_tr (kr_p (kr_18 b6) (by decide)) (kr_18 c6)) (by decide)) (by decide)⟩
      · rw [fX5_readArguments, if_neg (show ¬ nI 1 = (0 : Int32) by decide), if_pos (show nI 1 = (1 : Int32) from rfl), b1, Option.bind_some, if_neg one_ne]
        dsimp only
        rw [c1, Option.bind_some, if_pos rfl]
      · rw [fX10_readsSingle]
        simp only [hg, if_false]
        rw [nI_clamp (by omega), hK, if_neg (show ¬ nI 1 = (0 : Int32) by decide), if_pos (show nI 1 = (1 : Int32) from rfl), b2, Option.bind_some]
        dsimp only
        rw [c2, Option.bind_some]
        dsimp only
        rw [er_num q1, Option.bind_some]
  · have q1 := er_q (a := 8) (j := k) (v := x) b4
    have q2 := er_q (a := 9) (j := k) (v := (putI N2 (19, 8, 0) k x).1 R8 16) q1
    refine ⟨0, N1, putI (putI (putI N2 (19, 8, 0) k x) (19, 9, 0) k ((putI N2 (19, 8, 0) k x).1 R8 16)) (19, 10, 0) k ((putI (putI N2 (19, 8, 0) k x) (19, 9, 0) k ((putI N2 (19, 8, 0) k x).1 R8 16)).1 R8 16), ?_, ?_, Or.inr ⟨rfl, e, p, b3, er_q q2⟩, kc_T b5, kr_p (kr_p (kr_p (kr_18 b6) (by decide)) (by decide)) (by decide)⟩
    · rw [fX5_readArguments, if_neg (show ¬ nI 1 = (0 : Int32) by decide), if_pos (show nI 1 = (1 : Int32) from rfl), b1, Option.bind_some, if_pos rfl]
    · rw [fX10_readsSingle]
      simp only [hg, if_false]
      rw [nI_clamp (by omega), hK, if_neg (show ¬ nI 1 = (0 : Int32) by decide), if_pos (show nI 1 = (1 : Int32) from rfl), b2, Option.bind_some]
      dsimp only
      rw [er_num q1, Option.bind_some]
      dsimp only
      rw [er_num q2, Option.bind_some]
theorem st_single {K : Nat} (hk : k < 30) (hK : M2.1 (19, 7, 0) k = nI K) (hK9 : K < 9) (HC : PC M1 tb n c h) (HR : PR M2 tb n h) : stR M1 M2 tb n c h k K := by
  have : K = 0 ∨ K = 1 ∨ K = 2 ∨ K = 3 ∨ K = 4 ∨ K = 5 ∨ K = 6 ∨ K = 7 ∨ K = 8 := by omega
  rcases this with rfl | rfl | rfl | rfl | rfl | rfl | rfl | rfl | rfl
  · exact st_k0 hk hK HC HR
  · exact st_k1 hk hK HC HR
  · exact st_k2 hk hK HC HR
  · exact st_k3 hk hK HC HR
  · exact st_k4 hk hK HC HR
  · exact st_k5 hk hK HC HR
  · exact st_k6 hk hK HC HR
  · exact st_k7 hk hK HC HR
  · exact st_k8 hk hK HC HR
end AR
