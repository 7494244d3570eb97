/-! a script: commands within commands -/
/-- the commands a .. b-1 are a row of level L -/
def WF (kd lv pe : GF) : Nat → Nat → Nat → Nat → Prop
  | 0, _, a, b => a = b
  | f + 1, L, a, b => a = b ∨ (a < b ∧ lv a = nI L ∧ ((kd a ≠ 9 ∧ WF kd lv pe f L (a + 1) b) ∨ (kd a = 9 ∧ L < 2 ∧ ∃ e, pe a = nI e ∧ a < e ∧ e ≤ b ∧ WF kd lv pe f (L + 1) (a + 1) e ∧ WF kd lv pe f L e b)))
theorem wf_le {kd lv pe : GF} : ∀ (f L a b : Nat), WF kd lv pe f L a b → a ≤ b
  | 0, _, a, b, h => by rw [WF] at h; omega
  | f + 1, L, a, b, h => by
    rw [WF] at h
    omega
theorem wf_mono {kd lv pe : GF} : ∀ (f L a b : Nat), WF kd lv pe f L a b → WF kd lv pe (f + 1) L a b
  | 0, L, a, b, h => by rw [WF] at h; rw [WF]; exact Or.inl h
  | f + 1, L, a, b, h => by
    rw [WF] at h
    rw [WF]
    rcases h with h | ⟨h1, h2, h3⟩
    · exact Or.inl h
    · refine Or.inr ⟨h1, h2, ?_⟩
      rcases h3 with ⟨h4, h5⟩ | ⟨h4, h5, e, h6, h7, h8, h9, h10⟩
      · exact Or.inl ⟨h4, wf_mono f _ _ _ h5⟩
      · exact Or.inr ⟨h4, h5, e, h6, h7, h8, wf_mono f _ _ _ h9, wf_mono f _ _ _ h10⟩
theorem wf_up {kd lv pe : GF} {f L a b : Nat} (h : WF kd lv pe f L a b) : ∀ g, WF kd lv pe (f + g) L a b
  | 0 => h
  | g + 1 => wf_mono _ _ _ _ (wf_up h g)
theorem wf_cat {kd lv pe : GF} {f2 b c : Nat} : ∀ (f L a : Nat), WF kd lv pe f L a b → WF kd lv pe f2 L b c → WF kd lv pe (f2 + f) L a c
  | 0, L, a, h, h2 => by rw [WF] at h; rw [h]; exact h2
  | f + 1, L, a, h, h2 => by
    have hle := wf_le _ _ _ _ h2
    rw [WF] at h
    rcases h with h | ⟨h1, h3, h4⟩
    · rw [h]; exact wf_up h2 (f + 1)
    · rw [show f2 + (f + 1) = (f2 + f) + 1 from rfl, WF]
      refine Or.inr ⟨by omega, h3, ?_⟩
      rcases h4 with ⟨h5, h6⟩ | ⟨h5, h6, e, h7, h8, h9, h10, h11⟩
      · exact Or.inl ⟨h5, wf_cat f _ _ h6 h2⟩
      · refine Or.inr ⟨h5, h6, e, h7, h8, by omega, ?_, wf_cat f _ _ h11 h2⟩
        rw [Nat.add_comm]
        exact wf_up h10 f2
theorem wf_cong {kd lv pe kd2 lv2 pe2 : GF} {b0 : Nat} (hk : ∀ j, j < b0 → kd2 j = kd j) (hl : ∀ j, j < b0 → lv2 j = lv j) (hp : ∀ j, j < b0 → pe2 j = pe j) : ∀ (f L a b : Nat), b ≤ b0 → WF kd lv pe f L a b → WF kd2 lv2 pe2 f L a b
  | 0, _, a, b, _, h => h
  | f + 1, L, a, b, hb, h => by
    rw [WF] at h
    rw [WF]
    rcases h with h | ⟨h1, h2, h3⟩
    · exact Or.inl h
    · refine Or.inr ⟨h1, (hl a (by omega)).trans h2, ?_⟩
      rcases h3 with ⟨h4, h5⟩ | ⟨h4, h5, e, h6, h7, h8, h9, h10⟩
      · exact Or.inl ⟨by rw [hk a (by omega)]; exact h4, wf_cong hk hl hp f _ _ _ hb h5⟩
      · exact Or.inr ⟨by rw [hk a (by omega)]; exact h4, h5, e, (hp a (by omega)).trans h6, h7, h8, wf_cong hk hl hp f _ _ _ (by omega) h9, wf_cong hk hl hp f _ _ _ hb h10⟩
theorem wf_pe {kd lv pe pe2 : GF} {a0 b0 : Nat} (hp : ∀ j, a0 ≤ j → pe2 j = pe j) : ∀ (f L a b : Nat), a0 ≤ a → WF kd lv pe f L a b → WF kd lv pe2 f L a b
  | 0, _, a, b, _, h => h
  | f + 1, L, a, b, hb, h => by
    rw [WF] at h
    rw [WF]
    rcases h with h | ⟨h1, h2, h3⟩
    · exact Or.inl h
    · refine Or.inr ⟨h1, h2, ?_⟩
      rcases h3 with ⟨h4, h5⟩ | ⟨h4, h5, e, h6, h7, h8, h9, h10⟩
      · exact Or.inl ⟨h4, wf_pe (b0 := b0) hp f _ _ _ (by omega) h5⟩
      · exact Or.inr ⟨h4, h5, e, (hp a hb).trans h6, h7, h8, wf_pe (b0 := b0) hp f _ _ _ (by omega) h9, wf_pe (b0 := b0) hp f _ _ _ (by omega) h10⟩
theorem wf_lv {kd lv pe : GF} : ∀ (f L a b : Nat), WF kd lv pe f L a b → L ≤ 2 → ∀ j, a ≤ j → j < b → ∃ l, lv j = nI l ∧ L ≤ l ∧ l ≤ 2
  | 0, _, a, b, h, _, j, h1, h2 => by rw [WF] at h; omega
  | f + 1, L, a, b, h, hL, j, h1, h2 => by
    rw [WF] at h
    rcases h with h | ⟨h3, h4, h5⟩
    · omega
    · by_cases e : j = a
      · subst e; exact ⟨L, h4, Nat.le_refl _, hL⟩
      · rcases h5 with ⟨h6, h7⟩ | ⟨h6, h7, z, h8, h9, h10, h11, h12⟩
        · exact wf_lv f _ _ _ h7 hL j (by omega) h2
        · by_cases c : j < z
          · obtain ⟨l, l1, l2, l3⟩ := wf_lv f _ _ _ h11 (by omega) j (by omega) c
            exact ⟨l, l1, by omega, l3⟩
          · exact wf_lv f _ _ _ h12 hL j (by omega) h2
/-- the number of the command that the word at p names -/
def kwN (tb : Nat → Nat) (n p : Nat) : Nat := if wdS tb n p (sby 3) = true then 0 else if wdS tb n p (sby 4) = true then 1 else if wdS tb n p (sby 5) = true then 2 else if wdS tb n p (sby 6) = true then 3 else if wdS tb n p (sby 7) = true then 4 else if wdS tb n p (sby 8) = true then 5 else if wdS tb n p (sby 9) = true then 6 else if wdS tb n p (sby 10) = true then 7 else if wdS tb n p (sby 11) = true then 8 else if wdS tb n p (sby 12) = true then 9 else 10
def kwS (tb : Nat → Nat) (n p : Nat) : Int32 := if kwN tb n p = 10 then -1 else nI (kwN tb n p)
theorem kwN_le (tb : Nat → Nat) (n p : Nat) : kwN tb n p ≤ 10 := by
  unfold kwN
  repeat' split
  all_goals decide
theorem kwN_1 {tb : Nat → Nat} {n p : Nat} (h : kwN tb n p ≠ 10) : tkK tb n p = 1 := by
  unfold kwN at h
  repeat' split at h
  all_goals first | (rename_i e; exact wdS_1 e) | exact absurd rfl h
def FC1 (M M' : Mm) : Prop := Fr sQ1 M M' ∧ ∀ j, j ≠ 4 → M'.1 (7, 0, 0) j = M.1 (7, 0, 0) j
theorem fc_rf {M : Mm} : FC1 M M := ⟨fr_rf, fun _ _ => rfl⟩
theorem fc_tr {M N O : Mm} (h : FC1 M N) (h2 : FC1 N O) : FC1 M O := ⟨fr_tr h.1 h2.1, fun j hj => (h2.2 j hj).trans (h.2 j hj)⟩
theorem fc_T {M N : Mm} (h : Fr sT M N) : FC1 M N := ⟨q1_T h, fun j _ => by rw [(h (7, 0, 0) rfl).1]⟩
theorem fc_8 {M N : Mm} {a j : Nat} {v : Int32} (h : FC1 M N) : FC1 M (putI N (8, a, 0) j v) := ⟨fr_pI h.1 rfl, fun i hi => by rw [putI_ne (fun c => by cases c)]; exact h.2 i hi⟩
theorem fc_4 {M N : Mm} {v : Int32} (h : FC1 M N) : FC1 M (putI N (7, 0, 0) 4 v) := ⟨fr_pI h.1 rfl, fun i hi => by rw [g_row, upd_o hi]; exact h.2 i hi⟩
theorem fc_k {M N : Mm} {k : Nat} (h : KC k M N) : FC1 M N := ⟨fr_mono (fun r hr => by
  have : r = (3, 0, 0) ∨ r = (8, 3, 0) := by simpa using hr
  rcases this with rfl | rfl <;> rfl) h.1, fun j _ => by rw [(h.1 (7, 0, 0) rfl).1]⟩
def SC (M1 M2 : Mm) (tb : Nat → Nat) (n c h k : Nat) : Prop := PC M1 tb n c h ∧ PR M2 tb n h ∧ M1.1 (7, 0, 0) 4 = nI k ∧ M2.1 R8 23 = nI k ∧ k ≤ 30
/-- commands below k are as before -/
def PV (k : Nat) (M1 M1' M2 M2' : Mm) : Prop := (∀ a, a < 3 → ∀ j, j < k → M1'.1 (8, a, 0) j = M1.1 (8, a, 0) j) ∧ (∀ i, i < 3 * k → M1'.1 (8, 3, 0) i = M1.1 (8, 3, 0) i) ∧ ∀ a, 7 ≤ a → a ≤ 10 → ∀ j, j < k → M2'.1 (19, a, 0) j = M2.1 (19, a, 0) j
theorem pv_rf {k : Nat} {M1 M2 : Mm} : PV k M1 M1 M2 M2 := ⟨fun _ _ _ _ => rfl, fun _ _ => rfl, fun _ _ _ _ _ => rfl⟩
theorem pv_tr {k : Nat} {M1 N1 O1 M2 N2 O2 : Mm} (h : PV k M1 N1 M2 N2) (h2 : PV k N1 O1 N2 O2) : PV k M1 O1 M2 O2 := ⟨fun a ha j hj => (h2.1 a ha j hj).trans (h.1 a ha j hj), fun i hi => (h2.2.1 i hi).trans (h.2.1 i hi), fun a ha hb j hj => (h2.2.2 a ha hb j hj).trans (h.2.2 a ha hb j hj)⟩
theorem pv_lo {k k2 : Nat} {M1 N1 M2 N2 : Mm} (hk : k2 ≤ k) (h : PV k M1 N1 M2 N2) : PV k2 M1 N1 M2 N2 := ⟨fun a ha j hj => h.1 a ha j (by omega), fun i hi => h.2.1 i (by omega), fun a ha hb j hj => h.2.2 a ha hb j (by omega)⟩
theorem pv_fr {k : Nat} {M1 N1 M2 N2 : Mm} (h1 : Fr sT M1 N1) (h2 : F18 M2 N2) : PV k M1 N1 M2 N2 := ⟨fun a _ j _ => by rw [(h1 (8, a, 0) rfl).1], fun i _ => by rw [(h1 (8, 3, 0) rfl).1], fun a _ _ j _ => by rw [(h2.1 (19, a, 0) rfl).1]⟩
theorem pv_k {k : Nat} {M1 N1 M2 N2 : Mm} (h1 : KC k M1 N1) (h2 : KR k M2 N2) : PV k M1 N1 M2 N2 := by
  refine ⟨fun a ha j _ => ?_, h1.2, fun a ha hb j hj => ?_⟩
  · have e : a = 0 ∨ a = 1 ∨ a = 2 := by omega
    rcases e with rfl | rfl | rfl <;> rw [(h1.1 _ rfl).1]
  · have e : a = 7 ∨ a = 8 ∨ a = 9 ∨ a = 10 := by omega
    rcases e with rfl | rfl | rfl | rfl
    · rw [h2.2.2.1]
    · exact (h2.2.2.2 j hj).1
    · exact (h2.2.2.2 j hj).2.1
    · exact (h2.2.2.2 j hj).2.2
/-- command j is kept alike -/
def DC (M1 M2 : Mm) (j : Nat) : Prop := ∃ K, K ≤ 9 ∧ M1.1 (8, 0, 0) j = nI K ∧ M2.1 (19, 7, 0) j = nI K ∧ (K < 9 → DA M1 M2 j K) ∧ (K = 9 → ∃ x e, x ≤ 20 ∧ M1.1 (8, 3, 0) (3 * j) = nI x ∧ M2.1 (19, 8, 0) j = nI x ∧ M1.1 (8, 2, 0) j = nI e ∧ M2.1 (19, 9, 0) j = nI e)
theorem dc_pv {k j : Nat} {M1 M1' M2 M2' : Mm} (hj : j < k) (h : PV k M1 M1' M2 M2') (hd : DC M1 M2 j) : DC M1' M2' j := by
  obtain ⟨K, h1, h2, h3, h4, h5⟩ := hd
  obtain ⟨p1, p2, p3⟩ := h
  have e0 := p2 (3 * j) (by omega)
  have e1 := p2 (3 * j + 1) (by omega)
  have e2 := p2 (3 * j + 2) (by omega)
  have f8 := p3 8 (by decide) (by decide) j hj
  have f9 := p3 9 (by decide) (by decide) j hj
  have f10 := p3 10 (by decide) (by decide) j hj
  refine ⟨K, h1, (p1 0 (by decide) j hj).trans h2, (p3 7 (by decide) (by decide) j hj).trans h3, fun c => ?_, fun c => ?_⟩
  · unfold DA
    rw [e0, e1, e2, f8, f9, f10]
    exact h4 c
  · obtain ⟨x, e, x1, x2, x3, x4, x5⟩ := h5 c
    exact ⟨x, e, x1, e0.trans x2, f8.trans x3, (p1 2 (by decide) j hj).trans x4, f9.trans x5⟩
def WX (M1 : Mm) (L a b : Nat) : Prop := ∃ f, WF (M1.1 (8, 0, 0)) (M1.1 (8, 1, 0)) (M1.1 (8, 2, 0)) f L a b
theorem wx_pv {k L a b : Nat} {M1 M1' M2 M2' : Mm} (hb : b ≤ k) (h : PV k M1 M1' M2 M2') (hw : WX M1 L a b) : WX M1' L a b := by
  obtain ⟨f, hf⟩ := hw
  exact ⟨f, wf_cong (b0 := k) (fun j hj => h.1 0 (by decide) j hj) (fun j hj => h.1 1 (by decide) j hj) (fun j hj => h.1 2 (by decide) j hj) f L a b hb hf⟩
section RES
variable {tb : Nat → Nat} {n c : Nat}
/-- how the reading of commands of a level ends, from token h and k commands on -/
def RES (tb : Nat → Nat) (n c : Nat) (o1 : Option (Int32 × Mm)) (o2 : Option Mm) (M1 M2 : Mm) (h k L : Nat) : Prop := ∃ b M1' M2', o1 = some (b, M1') ∧ o2 = some M2' ∧ FC1 M1 M1' ∧ FQ M2 M2' ∧
  ((b = 1 ∧ ∃ h' k', k ≤ k' ∧ SC M1' M2' tb n c h' k' ∧ (tkK tb n (tE tb n h') = 0 ∨ sgS tb n (tE tb n h') 41 = true) ∧ (∀ j, k ≤ j → j < k' → DC M1' M2' j) ∧ WX M1' L k k' ∧ PV k M1 M1' M2 M2') ∨
   (b = 1 ∧ ∃ h', PC M1' tb n c h' ∧ tkK tb n (tE tb n h') ≠ 0 ∧ sgS tb n (tE tb n h') 41 = false ∧ ER M2' 1 (nI (tkB tb n (tE tb n h')))) ∨
   (b = 0 ∧ ∃ e p, EC M1' e p ∧ ER M2' e p))
theorem er_cmds {M : Mm} {e p x : Int32} {F : Nat} (H : ER M e p) : gX10_readsCommands (F + 1) M x = some M := by
  rw [gX10_readsCommands, fX10_readsCommands, show NF = 4999 + 1 from rfl, fX10_readsCommands_L0, H.1, if_neg H.2.1]
theorem er_23 {M : Mm} {e p v : Int32} (H : ER M e p) : ER (putI M R8 23 v) e p := by
  unfold ER
  rw [g_row, upd_o (by decide), upd_o (by decide)]
  exact H
/-- what is behind the word repeat -/
theorem st_rep {h k L : Nat} {M1 M2 : Mm} {rc1 : Mm → Int32 → Option (Int32 × Mm)} {F2 : Nat} (hk : k < 30) (hL : L ≤ 2) (hF2 : 0 < F2) (HC : PC M1 tb n c h) (HR : PR M2 tb n h) (h4 : M1.1 (7, 0, 0) 4 = nI (k + 1)) (h23 : M2.1 R8 23 = nI (k + 1))
    (hrc : L < 2 → ∀ (h k : Nat) (M1 M2 : Mm), SC M1 M2 tb n c h k → RES tb n c (rc1 M1 (nI (L + 1))) (gX10_readsCommands F2 M2 (nI (L + 1))) M1 M2 h k (L + 1)) :
    ∃ b M1' M2', fX5_readRepeat rc1 M1 (nI k) (nI L) = some (b, M1') ∧ fX10_readsRepeat (gX10_readsCommands F2) M2 (nI k) (nI L) = some M2' ∧ FC1 M1 M1' ∧ FQ M2 M2' ∧
    ((b = 1 ∧ L < 2 ∧ ∃ h' k' x, k + 1 ≤ k' ∧ SC M1' M2' tb n c h' k' ∧ x ≤ 20 ∧ M1'.1 (8, 3, 0) (3 * k) = nI x ∧ M2'.1 (19, 8, 0) k = nI x ∧ M1'.1 (8, 2, 0) k = nI k' ∧ M2'.1 (19, 9, 0) k = nI k' ∧ (∀ j, k + 1 ≤ j → j < k' → DC M1' M2' j) ∧ WX M1' (L + 1) (k + 1) k' ∧ PV k M1 M1' M2 M2' ∧ M1'.1 (8, 0, 0) k = M1.1 (8, 0, 0) k ∧ M1'.1 (8, 1, 0) k = M1.1 (8, 1, 0) k ∧ M2'.1 (19, 7, 0) k = M2.1 (19, 7, 0) k) ∨
     (b = 0 ∧ ∃ e p, EC M1' e p ∧ ER M2' e p)) := by
  have hg := hgk hk
  obtain ⟨F2, rfl⟩ : ∃ q, F2 = q + 1 := ⟨F2 - 1, by omega⟩
  have hL1 : nI L + 1 = nI (L + 1) := (nI_succ L).symm
  rcases st_arg (q := 0) (Q := 0) (L := 0) (Hi := 20) (l := 0) (hi := 20) rfl rfl rfl hk (by decide) (by decide) (by decide) HC HR with ⟨x, N1, N2, s1, s2, b1, b2, b3, b4, b5, b6⟩ | ⟨e, p, x, N1, N2, b1, b2, b3, b4, b5, b6⟩
  · have b4' : PR (putI N2 (19, 8, 0) k (nI x)) tb n (h + 1) := pr_q (by decide) b4
    have w1 := pc_sign (k := 40) (L := 40) rfl (by decide) b3
    have w2 := pr_sign (k := 40) (L := 40) rfl (by decide) HC.1 b4'
    have fc0 : FC1 M1 (putI N1 (8, 3, 0) (3 * k + 0) (nI x)) := fc_8 (fc_T b5)
    have fq0 : FQ M2 (putI N2 (19, 8, 0) k (nI x)) := fq_p (fq_18 b6) (by decide)
    rcases st_sign (k := 40) (L := 40) rfl (by decide) b3 b4' with ⟨O1, O2, sg, c1, c2, c3, c4, c5, c6⟩ | ⟨e, p, O1, O2, sg, c1, c2, c3, c4, c5, c6⟩
    · rw [sg] at w1 w2
      by_cases hL2 : L < 2
      · -- the commands in brackets
        obtain ⟨G2, g1, g2, g3⟩ := pr_goes HC.1 b4'
        have h4' : O1.1 (7, 0, 0) 4 = nI (k + 1) := by rw [(c5 (7, 0, 0) rfl).1, putI_ne (by decide), (b5 (7, 0, 0) rfl).1]; exact h4
        have h23' : G2.1 R8 23 = nI (k + 1) := by rw [g3.2 23 (by decide), putI_ne (by decide), b6.2 23 (by decide)]; exact h23
        obtain ⟨b, Q1, Q2, d1, d2, d3, d4, d5⟩ := hrc hL2 (h + 1 + 1) (k + 1) O1 G2 ⟨c3, g2, h4', h23', by omega⟩
        have fc1 : FC1 M1 Q1 := fc_tr (fc_tr fc0 (fc_T c5)) d3
        have fq1 : FQ M2 Q2 := fq_tr (fq_tr fq0 (fq_18 g3)) d4
        have cls : ∀ {r : Option (Int32 × Mm)}, (if b = 0 then some ((0 : Int32), Q1) else (fX4_closeRepeat Q1 (nI k)).bind fun q24 => (fX7_takeSign q24 (41 : Int32)).bind fun q26 => some ((bz q26.1), q26.2)) = r → fX5_readRepeat rc1 M1 (nI k) (nI L) = r := fun {r} hr => by
          rw [fX5_readRepeat, b1, Option.bind_some, if_neg one_ne]
          dsimp only
          rw [w1, Option.bind_some, if_neg (by decide), if_pos (show nI L < (2 : Int32) from nI_lt (b := 2) hL2 (by decide)), c1, Option.bind_some, if_neg one_ne, hL1]
          dsimp only
          rw [d1, Option.bind_some]
          exact hr
        have rfr : ∀ {X2 : Mm}, fX10_takesSign Q2 (41 : Int32) = some X2 → fX10_readsRepeat (gX10_readsCommands (F2 + 1)) M2 (nI k) (nI L) = some (putI X2 (19, 9, 0) k (X2.1 (18, 0, 0) 23)) := fun {X2} hx => by
          rw [fX10_readsRepeat, b2, Option.bind_some]
          simp only [hg, if_false]
          rw [nI_clamp (by omega), w2, Option.bind_some, show bI true = 1 from rfl, pr_ok b4'.2.1, Option.bind_some, if_neg one_ne, if_neg (show ¬ (2 : Int32) ≤ nI L from nI_ge (b := 2) hL2 (by decide))]
          dsimp only
          rw [pr_ok b4'.2.1, Option.bind_some]
          dsimp only
          rw [g1, Option.bind_some, hL1, d2, Option.bind_some, hx, Option.bind_some]
        rcases d5 with ⟨rfl, h', k', e1, e2, e3, e4, e5, e6⟩ | ⟨rfl, h', e1, e2, e3, e4⟩ | ⟨rfl, e, p, e1, e2⟩
        · have hcl : fX4_closeRepeat Q1 (nI k) = some (putI Q1 (8, 2, 0) k (nI k')) := by
            rw [fX4_closeRepeat, if_neg (nI_pos (by omega)), if_neg (show ¬ (30 : Int32) ≤ nI k from nI_ge (b := 30) hk (by decide)), if_neg hg, nI_clamp (by omega), e2.2.2.1]
          rcases st_sign (k := 41) (L := 41) rfl (by decide) (pc_8 (a := 2) (j := k) (v := nI k') e2.1) e2.2.1 with ⟨X1, X2, -, y1, y2, y3, y4, y5, y6⟩ | ⟨e, p, X1, X2, -, y1, y2, y3, y4, y5, y6⟩
          · have e23 : X2.1 (18, 0, 0) 23 = nI k' := (y6.2 23 (by decide)).trans e2.2.2.2.1
            have pv1 : PV (k + 1) O1 X1 G2 (putI X2 (19, 9, 0) k (nI k')) ∨ True := Or.inr trivial
            have r2 : ∀ j, X1.1 (8, 2, 0) j = if j = k then nI k' else Q1.1 (8, 2, 0) j := fun j => by rw [(y5 (8, 2, 0) rfl).1, g_row, upd]
            have r0 : X1.1 (8, 0, 0) = Q1.1 (8, 0, 0) := by rw [(y5 (8, 0, 0) rfl).1, putI_ne (by decide)]
            have r1 : X1.1 (8, 1, 0) = Q1.1 (8, 1, 0) := by rw [(y5 (8, 1, 0) rfl).1, putI_ne (by decide)]
            have r3 : X1.1 (8, 3, 0) = Q1.1 (8, 3, 0) := by rw [(y5 (8, 3, 0) rfl).1, putI_ne (by decide)]
            have t7 : (putI X2 (19, 9, 0) k (nI k')).1 (19, 7, 0) = Q2.1 (19, 7, 0) := by rw [putI_ne (by decide), (y6.1 (19, 7, 0) rfl).1]
            have t8 : (putI X2 (19, 9, 0) k (nI k')).1 (19, 8, 0) = Q2.1 (19, 8, 0) := by rw [putI_ne (by decide), (y6.1 (19, 8, 0) rfl).1]
            have t10 : (putI X2 (19, 9, 0) k (nI k')).1 (19, 10, 0) = Q2.1 (19, 10, 0) := by rw [putI_ne (by decide), (y6.1 (19, 10, 0) rfl).1]
            have t9 : ∀ j, (putI X2 (19, 9, 0) k (nI k')).1 (19, 9, 0) j = if j = k then nI k' else Q2.1 (19, 9, 0) j := fun j => by rw [g_row, upd, (y6.1 (19, 9, 0) rfl).1]
            obtain ⟨p1, p2, p3⟩ := e6
            have o8 : ∀ a, O1.1 (8, a, 0) = (putI N1 (8, 3, 0) (3 * k + 0) (nI x)).1 (8, a, 0) := fun a => by rw [(c5 (8, a, 0) rfl).1]
            have n8 : ∀ a, a < 3 → O1.1 (8, a, 0) = M1.1 (8, a, 0) := fun a ha => by
              rw [o8, putI_ne (fun c => by simp at c; omega), (b5 (8, a, 0) rfl).1]
            have g8 : ∀ a, 7 ≤ a → a ≤ 10 → a ≠ 8 → G2.1 (19, a, 0) = M2.1 (19, a, 0) := fun a _ _ ha => by
              rw [(g3.1 (19, a, 0) rfl).1, putI_ne (fun c => by simp at c; omega), (b6.1 (19, a, 0) rfl).1]
            refine ⟨1, X1, putI X2 (19, 9, 0) k (nI k'), cls (by rw [if_neg one_ne, hcl, Option.bind_some, y1]; exact bzr1 _), by rw [rfr y2, e23], fc_tr (fc_8 fc1) (fc_T y5), fq_p (fq_tr fq1 (fq_18 y6)) (by decide), Or.inl ⟨rfl, hL2, h' + 1, k', x, e1, ⟨y3, pr_q (by decide) y4, ?_, ?_, e2.2.2.2.2⟩, s2, ?_, ?_, ?_, ?_, fun j hj1 hj2 => ?_, ?_, ⟨fun a ha j hj => ?_, fun i hi => ?_, fun a ha hb j hj => ?_⟩, ?_, ?_, ?_⟩⟩
            · rw [(y5 (7, 0, 0) rfl).1, putI_ne (by decide)]; exact e2.2.2.1
            · rw [putI_ne (by decide)]; exact e23
            · rw [r3, p2 (3 * k) (by omega), o8, g_row, Nat.add_zero, upd_s]
            · rw [t8, p3 8 (by decide) (by decide) k (by omega), (g3.1 (19, 8, 0) rfl).1, g_row, upd_s]
            · rw [r2, if_pos rfl]
            · rw [t9, if_pos rfl]
            · obtain ⟨K, z1, z2, z3, z4, z5⟩ := e4 j hj1 hj2
              have hjk : j ≠ k := by omega
              refine ⟨K, z1, by rw [r0]; exact z2, by rw [t7]; exact z3, fun cc => ?_, fun cc => ?_⟩
              · unfold DA
                rw [r3, t8, t10, t9, if_neg hjk]
                exact z4 cc
              · obtain ⟨y, e, q1, q2, q3, q4, q5⟩ := z5 cc
                exact ⟨y, e, q1, by rw [r3]; exact q2, by rw [t8]; exact q3, by rw [r2, if_neg hjk]; exact q4, by rw [t9, if_neg hjk]; exact q5⟩
            · obtain ⟨f, hf⟩ := e5
              refine ⟨f, ?_⟩
              rw [r0, r1]
              exact wf_pe (a0 := k + 1) (b0 := 0) (fun j hj => by rw [r2, if_neg (by omega)]) f _ _ _ (Nat.le_refl _) hf
            · have ea : a = 0 ∨ a = 1 ∨ a = 2 := by omega
              have hp := p1 a ha j (by omega)
              rw [n8 a ha] at hp
              rcases ea with rfl | rfl | rfl
              · rw [r0]; exact hp
              · rw [r1]; exact hp
              · rw [r2, if_neg (by omega)]; exact hp
            · rw [r3, p2 i (by omega), o8, g_row, upd_o (by omega), (b5 (8, 3, 0) rfl).1]
            · have ea : a = 7 ∨ a = 8 ∨ a = 9 ∨ a = 10 := by omega
              have hp := p3 a ha hb j (by omega)
              rcases ea with rfl | rfl | rfl | rfl
              · rw [t7, hp, g8 7 (by decide) (by decide) (by decide)]
              · rw [t8, hp, (g3.1 (19, 8, 0) rfl).1, g_row, upd_o (by omega), (b6.1 (19, 8, 0) rfl).1]
              · rw [t9, if_neg (by omega), hp, g8 9 (by decide) (by decide) (by decide)]
              · rw [t10, hp, g8 10 (by decide) (by decide) (by decide)]
            · rw [r0, p1 0 (by decide) k (by omega), n8 0 (by decide)]
            · rw [r1, p1 1 (by decide) k (by omega), n8 1 (by decide)]
            · rw [t7, p3 7 (by decide) (by decide) k (by omega), g8 7 (by decide) (by decide) (by decide)]
          · exact ⟨0, X1, _, cls (by rw [if_neg one_ne, hcl, Option.bind_some, y1]; exact bzr0 _), rfr y2, fc_tr (fc_8 fc1) (fc_T y5), fq_p (fq_tr fq1 (fq_18 y6)) (by decide), Or.inr ⟨rfl, e, p, y3, er_q y4⟩⟩
        · obtain ⟨v, hcl⟩ : ∃ v, fX4_closeRepeat Q1 (nI k) = some (putI Q1 (8, 2, 0) k v) := ⟨_, by
            rw [fX4_closeRepeat, if_neg (nI_pos (by omega)), if_neg (show ¬ (30 : Int32) ≤ nI k from nI_ge (b := 30) hk (by decide)), if_neg hg, nI_clamp (by omega)]⟩
          have w41 := pc_sign (k := 41) (L := 41) rfl (by decide) (pc_8 (a := 2) (j := k) (v := v) e1)
          rw [e3] at w41
          obtain ⟨X1, x1, x2, x3⟩ := pc_fail (e := 1) (pc_8 (a := 2) (j := k) (v := v) e1)
          refine ⟨0, X1, _, cls ?_, rfr (er_takes e4), fc_tr (fc_8 fc1) (fc_T x3), fq_p fq1 (by decide), Or.inr ⟨rfl, _, _, x2, er_q e4⟩⟩
          rw [if_neg one_ne, hcl, Option.bind_some, fX7_takeSign, w41, Option.bind_some, if_pos (bI_0.mpr rfl), x1, Option.bind_some]
          show some (bz (bz 0), X1) = _
          rw [show bz (bz 0) = 0 by decide]
        · exact ⟨0, Q1, _, cls (if_pos rfl), rfr (er_takes e2), fc1, fq_p fq1 (by decide), Or.inr ⟨rfl, e, p, e1, er_q e2⟩⟩
      · have eL : L = 2 := by omega
        subst eL
        obtain ⟨X1, x1, x2, x3⟩ := pc_fail (e := 4) b3
        obtain ⟨X2, y1, y2, y3⟩ := pr_no (e := 4) b4'.2.1 (by decide)
        rw [b4'.2.2.2.2.1] at y2
        refine ⟨0, X1, putI X2 (19, 9, 0) k (X2.1 R8 23), ?_, ?_, fc_tr fc0 (fc_T x3), fq_p (fq_tr fq0 (fq_18 y3)) (by decide), Or.inr ⟨rfl, _, _, x2, er_q y2⟩⟩
        · rw [fX5_readRepeat, b1, Option.bind_some, if_neg one_ne]
          dsimp only
          rw [w1, Option.bind_some, if_neg (by decide), if_neg (by decide), x1]
          exact bzr0 _
        · rw [fX10_readsRepeat, b2, Option.bind_some]
          simp only [hg, if_false]
          rw [nI_clamp (by omega), w2, Option.bind_some, show bI true = 1 from rfl, pr_ok b4'.2.1, Option.bind_some, if_neg one_ne, if_pos (by decide)]
          dsimp only
          rw [y1, Option.bind_some]
          dsimp only
          rw [er_goes y2, Option.bind_some, er_cmds y2, Option.bind_some, er_takes y2, Option.bind_some]
    · rw [sg] at w1 w2
      have b2' := pr_no (M := putI N2 (19, 8, 0) k (nI x)) (e := 1) b4'.2.1 (by decide)
      obtain ⟨X2, y1, y2, y3⟩ := b2'
      rw [b4'.2.2.2.2.1] at y2
      have hX : X2 = O2 := by
        rw [fX10_takesSign, w2, Option.bind_some, show bI false = 0 from rfl, y1, Option.bind_some] at c2
        dsimp only at c2
        rw [er_goes y2] at c2
        injection c2
      subst hX
      refine ⟨0, O1, putI X2 (19, 9, 0) k (X2.1 R8 23), ?_, ?_, fc_tr fc0 (fc_T c5), fq_p (fq_tr fq0 (fq_18 c6)) (by decide), Or.inr ⟨rfl, e, p, c3, er_q c4⟩⟩
      · rw [fX5_readRepeat, b1, Option.bind_some, if_neg one_ne]
        dsimp only
        rw [w1, Option.bind_some, if_pos (bI_0.mpr rfl), c1, Option.bind_some, if_pos rfl]
      · rw [fX10_readsRepeat, b2, Option.bind_some]
        simp only [hg, if_false]
        rw [nI_clamp (by omega), w2, Option.bind_some, show bI false = 0 from rfl, y1, Option.bind_some, if_pos rfl]
        dsimp only
        rw [er_goes y2, Option.bind_some, er_cmds y2, Option.bind_some, er_takes y2, Option.bind_some]
  · have q1 := er_q (a := 8) (j := k) (v := x) b4
    refine ⟨0, N1, putI (putI N2 (19, 8, 0) k x) (19, 9, 0) k ((putI N2 (19, 8, 0) k x).1 R8 23), ?_, ?_, fc_T b5, fq_p (fq_p (fq_18 b6) (by decide)) (by decide), Or.inr ⟨rfl, e, p, b3, er_q q1⟩⟩
    · rw [fX5_readRepeat, b1, Option.bind_some, if_pos rfl]
    · rw [fX10_readsRepeat, b2, Option.bind_some]
      simp only [hg, if_false]
      rw [nI_clamp (by omega), er_sign q1, Option.bind_some, er_must q1, Option.bind_some, if_pos rfl]
      dsimp only
      rw [er_goes q1, Option.bind_some, er_cmds q1, Option.bind_some, er_takes q1, Option.bind_some]
end RES
