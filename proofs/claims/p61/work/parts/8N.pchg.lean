/-! what changes keep: the box's shape, the account of wear; Own's changes -/
section IVS
variable {S T U A m0 p0 i : Nat} {g : GF} {P : PF} {M : Mm}
theorem iv_add {m t s : Nat} (h : Iv g P S T U A m0 p0) (hm : m < 3) (ht : t < T) (hs : s < S) : Iv g (pAdd P m t s) S T U A m0 p0 := by
  obtain ⟨h0, h1, h2, h3, h4, h5, h6, h7, h8, h9, h10, h11, h12, h13⟩ := h
  refine ⟨h0, h1, h2, h3, h4, h5, h6, h7, h8, h9, h10, h11, h12, fun m' t' s' hp => ?_⟩
  unfold pAdd at hp
  simp only [Bool.or_eq_true, decide_eq_true_eq] at hp
  rcases hp with hp | ⟨rfl, rfl, rfl⟩
  · exact h13 _ _ _ hp
  · exact ⟨hm, ht, hs⟩
theorem iv_sub {P' : PF} (h : Iv g P S T U A m0 p0) (hP : ∀ m t s, P' m t s = true → P m t s = true) : Iv g P' S T U A m0 p0 := by
  obtain ⟨h0, h1, h2, h3, h4, h5, h6, h7, h8, h9, h10, h11, h12, h13⟩ := h
  exact ⟨h0, h1, h2, h3, h4, h5, h6, h7, h8, h9, h10, h11, h12, fun m' t' s' hp => h13 _ _ _ (hP _ _ _ hp)⟩
theorem pDel_le {m t s : Nat} : ∀ m' t' s', pDel P m t s m' t' s' = true → P m' t' s' = true := fun m' t' s' h => by
  unfold pDel at h
  simp only [Bool.and_eq_true] at h
  exact h.1
theorem iv_tune {m : Nat} {Q : Nat → Nat → Bool} (h : Iv g P S T U A m0 p0) (hm : m < 3) (hQ : ∀ t s, Q t s = true → t < T ∧ s < S) : Iv g (pTune P m Q) S T U A m0 p0 := by
  obtain ⟨h0, h1, h2, h3, h4, h5, h6, h7, h8, h9, h10, h11, h12, h13⟩ := h
  refine ⟨h0, h1, h2, h3, h4, h5, h6, h7, h8, h9, h10, h11, h12, fun m' t' s' hp => ?_⟩
  unfold pTune at hp
  by_cases e : m' = m
  · rw [if_pos e] at hp
    exact ⟨by omega, hQ t' s' hp⟩
  · rw [if_neg e] at hp
    exact h13 _ _ _ hp
theorem iv_t {t q : Nat} {v : Int32} (h : Iv g P S T U A m0 p0) (hq : 2 ≤ q ∧ q < 6) : Iv (upd g (16 + 6 * t + q) v) P S T U A m0 p0 := by
  obtain ⟨h0, h1, h2, h3, h4, h5, h6, h7, h8, h9, h10, h11, h12, h13⟩ := h
  refine ⟨(upd_o (by omega)).trans h0, (upd_o (by omega)).trans h1, (upd_o (by omega)).trans h2, (upd_o (by omega)).trans h3, (upd_o (by omega)).trans h4, (upd_o (by omega)).trans h5, h6, h7, h8, h9, h10, h11, fun t' ht' => ?_, h13⟩
  rw [upd_o (by omega), upd_o (by omega)]
  exact h12 t' ht'
theorem iv_k {k : Nat} {v : Int32} (h : Iv g P S T U A m0 p0) (hk : 6 ≤ k ∧ k < 16) : Iv (upd g k v) P S T U A m0 p0 := by
  obtain ⟨h0, h1, h2, h3, h4, h5, h6, h7, h8, h9, h10, h11, h12, h13⟩ := h
  refine ⟨(upd_o (by omega)).trans h0, (upd_o (by omega)).trans h1, (upd_o (by omega)).trans h2, (upd_o (by omega)).trans h3, (upd_o (by omega)).trans h4, (upd_o (by omega)).trans h5, h6, h7, h8, h9, h10, h11, fun t' ht' => ?_, h13⟩
  rw [upd_o (by omega), upd_o (by omega)]
  exact h12 t' ht'
theorem iv_b {t : Nat} {v : Int32} (h : Iv g P S T U A m0 p0) (hv : -3 ≤ v ∧ v ≤ 3) : Iv (upd g (16 + 6 * t + 1) v) P S T U A m0 p0 := by
  obtain ⟨h0, h1, h2, h3, h4, h5, h6, h7, h8, h9, h10, h11, h12, h13⟩ := h
  refine ⟨(upd_o (by omega)).trans h0, (upd_o (by omega)).trans h1, (upd_o (by omega)).trans h2, (upd_o (by omega)).trans h3, (upd_o (by omega)).trans h4, (upd_o (by omega)).trans h5, h6, h7, h8, h9, h10, h11, fun t' ht' => ?_, h13⟩
  rw [upd_o (by omega)]
  refine ⟨(h12 t' ht').1, ?_⟩
  by_cases e : t' = t
  · subst e; rw [upd_s]; exact hv
  · rw [upd_o (by omega)]; exact (h12 t' ht').2
theorem iv_2 {A' : Nat} (h : Iv g P S T U A m0 p0) (hA : A' ≤ 90) : Iv (upd g 2 (nI A')) P S T U A' m0 p0 := by
  obtain ⟨h0, h1, h2, h3, h4, h5, h6, h7, h8, h9, h10, h11, h12, h13⟩ := h
  refine ⟨(upd_o (by omega)).trans h0, (upd_o (by omega)).trans h1, upd_s, (upd_o (by omega)).trans h3, (upd_o (by omega)).trans h4, (upd_o (by omega)).trans h5, h6, h7, h8, hA, h10, h11, fun t' ht' => ?_, h13⟩
  rw [upd_o (by omega), upd_o (by omega)]
  exact h12 t' ht'
theorem iv_1 {U' : Nat} (h : Iv g P S T U A m0 p0) (hU : U' ≤ 20) : Iv (upd g 1 (nI U')) P S T U' A m0 p0 := by
  obtain ⟨h0, h1, h2, h3, h4, h5, h6, h7, h8, h9, h10, h11, h12, h13⟩ := h
  refine ⟨(upd_o (by omega)).trans h0, upd_s, (upd_o (by omega)).trans h2, (upd_o (by omega)).trans h3, (upd_o (by omega)).trans h4, (upd_o (by omega)).trans h5, h6, h7, hU, h9, h10, h11, fun t' ht' => ?_, h13⟩
  rw [upd_o (by omega), upd_o (by omega)]
  exact h12 t' ht'
theorem iv_4 {m' : Nat} (h : Iv g P S T U A m0 p0) (hm : m' < 3) : Iv (upd g 4 (nI m')) P S T U A m' p0 := by
  obtain ⟨h0, h1, h2, h3, h4, h5, h6, h7, h8, h9, h10, h11, h12, h13⟩ := h
  refine ⟨(upd_o (by omega)).trans h0, (upd_o (by omega)).trans h1, (upd_o (by omega)).trans h2, (upd_o (by omega)).trans h3, upd_s, (upd_o (by omega)).trans h5, h6, h7, h8, h9, hm, h11, fun t' ht' => ?_, h13⟩
  rw [upd_o (by omega), upd_o (by omega)]
  exact h12 t' ht'
def bnS (g : GF) (t : Nat) (x : Int32) : GF := upd (upd (upd g (16 + 6 * t + 1) (g (16 + 6 * t + 1) + x)) (16 + 6 * t + 4) (g (16 + 6 * t + 4) + 3)) 9 (g 9 + 1)
def mdS (g : GF) (t : Nat) : GF := upd (upd (upd (upd g 10 (g 10 + g (16 + 6 * t + 4))) (16 + 6 * t + 1) 0) (16 + 6 * t + 4) 0) (16 + 6 * t + 5) 99
theorem cl_bend {t : Nat} {x : Int32} (HB : BX M T i g P) (hT : T ≤ 12) (ht : t < T) : ∃ M', fX0_bendTooth M i (nI t) x = some M' ∧ BX M' T i (bnS g t x) P ∧ Fr (sBx i) M M' ∧ M'.1 (13, i, t) 1 = g (16 + 6 * t + 1) + x := by
  have hg : ¬ (nI t < 0 ∨ 12 ≤ (nI t).toNatClampNeg) := nI_in (by omega) (by decide)
  rw [fX0_bendTooth]
  simp only [hg, if_false]
  rw [nI_clamp (by omega), bx_t HB ht (by decide), bx_t HB ht (by decide), show M.1 (9, i, 0) 8 = g 9 from HB.1 9 (vk_s rfl)]
  refine ⟨_, rfl, bx_put' (k := 9) (bx_putT ht (by decide) (bx_putT ht (by decide) HB)) (vk_s rfl) rfl, fr_pI (fr_pI (fr_putI (sBx_1 rfl)) (sBx_1 rfl)) (sBx_1 rfl), ?_⟩
  rw [putI_ne (fun c => by cases c), g_row, upd_o (by decide), g_row, upd_s]
theorem cl_mend {t : Nat} (HB : BX M T i g P) (hT : T ≤ 12) (ht : t < T) : ∃ M', fX0_mendTooth M i (nI t) = some M' ∧ BX M' T i (mdS g t) P ∧ Fr (sBx i) M M' := by
  have hg : ¬ (nI t < 0 ∨ 12 ≤ (nI t).toNatClampNeg) := nI_in (by omega) (by decide)
  rw [fX0_mendTooth]
  simp only [hg, if_false]
  rw [nI_clamp (by omega), bx_t HB ht (by decide), show M.1 (9, i, 0) 9 = g 10 from HB.1 10 (vk_s rfl), fX8_renew]
  exact ⟨_, rfl, bx_putT ht (by decide) (bx_putT ht (by decide) (bx_putT ht (by decide) (bx_put' (k := 10) HB (vk_s rfl) rfl))), fr_pI (fr_pI (fr_pI (fr_putI (sBx_1 rfl)) (sBx_1 rfl)) (sBx_1 rfl)) (sBx_1 rfl)⟩
theorem iv_bn {t : Nat} {x : Int32} (HI : Iv g P S T U A m0 p0) (h : -3 ≤ g (16 + 6 * t + 1) + x ∧ g (16 + 6 * t + 1) + x ≤ 3) : Iv (bnS g t x) P S T U A m0 p0 := iv_k (iv_t (iv_b HI h) (by decide)) (by decide)
theorem iv_md {t : Nat} (HI : Iv g P S T U A m0 p0) : Iv (mdS g t) P S T U A m0 p0 := iv_t (iv_t (iv_b (iv_k HI (by decide)) (by decide)) (by decide)) (by decide)
end IVS
/-! the account of wear -/
def wrG (g : GF) (t : Nat) : Int32 := g (16 + 6 * t + 4)
theorem sI_cong {f h : Nat → Int32} : ∀ n, (∀ t, t < n → f t = h t) → sI f n = sI h n
  | 0, _ => rfl
  | n + 1, e => by rw [sI, sI, sI_cong n (fun t ht => e t (by omega)), e n (by omega)]
theorem sI_one {f h : Nat → Int32} {t0 : Nat} {x : Int32} (hx : h t0 = f t0 + x) (ho : ∀ t, t ≠ t0 → h t = f t) : ∀ n, t0 < n → sI h n = sI f n + x
  | 0, hn => absurd hn (Nat.not_lt_zero _)
  | n + 1, hn => by
    rw [sI, sI]
    by_cases e : t0 = n
    · subst e
      rw [sI_cong t0 (fun t ht => ho t (by omega)), hx, Int32.add_assoc]
    · rw [sI_one hx ho n (by omega), ho n (fun c => e c.symm)]
      rw [Int32.add_assoc, Int32.add_assoc, Int32.add_comm x]
theorem uw_eq {g h : GF} {T : Nat} (h6 : h 6 = g 6) (h7 : h 7 = g 7) (h9 : h 9 = g 9) (h10 : h 10 = g 10) (hw : ∀ t, t < T → wrG h t = wrG g t) : uwS h T = uwS g T := by
  have e := sI_cong T hw
  unfold wrG at e
  unfold uwS
  rw [h6, h7, h9, h10, e]
theorem uw_ring {a b c d e a' b' c' d' e' : Int32} (h : a + e - (b * 1 + c * 5 + d * 3) = 0) (k : a' + e' - (b' * 1 + c' * 5 + d' * 3) = a + e - (b * 1 + c * 5 + d * 3)) : a' + e' - (b' * 1 + c' * 5 + d' * 3) = 0 := k.trans h
theorem uw_o {g : GF} {T k : Nat} {v : Int32} (hk : k < 6 ∨ k = 8) (h : uwS g T = 0) : uwS (upd g k v) T = 0 := (uw_eq (upd_o (by omega)) (upd_o (by omega)) (upd_o (by omega)) (upd_o (by omega)) (fun t _ => upd_o (by omega))).trans h
theorem uw_t {g : GF} {T t q : Nat} {v : Int32} (hq : q < 6 ∧ q ≠ 4) (h : uwS g T = 0) : uwS (upd g (16 + 6 * t + q) v) T = 0 := (uw_eq (upd_o (by omega)) (upd_o (by omega)) (upd_o (by omega)) (upd_o (by omega)) (fun t' _ => upd_o (by omega))).trans h
theorem ring_1 (a b c d e : Int32) : a + (e + 1) - ((b + 1) * 1 + c * 5 + d * 3) = a + e - (b * 1 + c * 5 + d * 3) := by grind
theorem ring_5 (a b c d e : Int32) : a + (e + 5) - (b * 1 + (c + 1) * 5 + d * 3) = a + e - (b * 1 + c * 5 + d * 3) := by grind
theorem ring_3 (a b c d e : Int32) : a + (e + 3) - (b * 1 + c * 5 + (d + 1) * 3) = a + e - (b * 1 + c * 5 + d * 3) := by grind
theorem ring_m (a b c d e w : Int32) : (a + w) + (e + (0 - w)) - (b * 1 + c * 5 + d * 3) = a + e - (b * 1 + c * 5 + d * 3) := by grind
theorem uw_bn {g : GF} {T t : Nat} {x : Int32} (ht : t < T) (h : uwS g T = 0) : uwS (bnS g t x) T = 0 := by
  have e9 : bnS g t x 9 = g 9 + 1 := upd_s
  have ek : ∀ k, k < 16 → k ≠ 9 → bnS g t x k = g k := fun k h1 h2 => by unfold bnS; rw [upd_o h2, upd_o (by omega), upd_o (by omega)]
  have ew : sI (fun t' => bnS g t x (16 + 6 * t' + 4)) T = sI (fun t' => g (16 + 6 * t' + 4)) T + 3 := sI_one (t0 := t) (by
    unfold bnS; (try dsimp only); rw [upd_o (by omega), upd_s]) (fun t' e => by
    unfold bnS; (try dsimp only); rw [upd_o (by omega), upd_o (by omega), upd_o (by omega)]) T ht
  unfold uwS at h ⊢
  rw [ek 6 (by decide) (by decide), ek 7 (by decide) (by decide), ek 10 (by decide) (by decide), e9, ew, ring_3]
  exact h
theorem uw_md {g : GF} {T t : Nat} (ht : t < T) (h : uwS g T = 0) : uwS (mdS g t) T = 0 := by
  have ek : ∀ k, k < 10 → mdS g t k = g k := fun k h1 => by unfold mdS; rw [upd_o (by omega), upd_o (by omega), upd_o (by omega), upd_o (by omega)]
  have e10 : mdS g t 10 = g 10 + g (16 + 6 * t + 4) := by unfold mdS; rw [upd_o (by omega), upd_o (by omega), upd_o (by omega), upd_s]
  have ew : sI (fun t' => mdS g t (16 + 6 * t' + 4)) T = sI (fun t' => g (16 + 6 * t' + 4)) T + (0 - g (16 + 6 * t + 4)) := sI_one (t0 := t) (by
    unfold mdS; (try dsimp only); rw [upd_o (by omega), upd_s]; grind) (fun t' e => by
    unfold mdS; (try dsimp only); rw [upd_o (by omega), upd_o (by omega), upd_o (by omega), upd_o (by omega)]) T ht
  unfold uwS at h ⊢
  rw [ek 6 (by decide), ek 7 (by decide), ek 9 (by decide), e10, ew, ring_m]
  exact h
theorem uw_pl {g : GF} {P : PF} {T t m p : Nat} (ht : t < T) (h : uwS g T = 0) : uwS (plS P m p g t) T = 0 := by
  unfold plS
  split
  · have ew : sI (fun t' => upd (upd (upd g 6 (g 6 + 1)) (16 + 6 * t + 4) (g (16 + 6 * t + 4) + 1)) (16 + 6 * t + 5) 0 (16 + 6 * t' + 4)) T = sI (fun t' => g (16 + 6 * t' + 4)) T + 1 := sI_one (t0 := t) (by
      (try dsimp only); rw [upd_o (by omega), upd_s]) (fun t' e => by
      (try dsimp only); rw [upd_o (by omega), upd_o (by omega), upd_o (by omega)]) T ht
    unfold uwS at h ⊢
    rw [ew, show upd (upd (upd g 6 (g 6 + 1)) (16 + 6 * t + 4) (g (16 + 6 * t + 4) + 1)) (16 + 6 * t + 5) 0 6 = g 6 + 1 by rw [upd_o (by omega), upd_o (by omega), upd_s], upd_o (by omega), upd_o (by omega), upd_o (by omega), upd_o (by omega), upd_o (by omega), upd_o (by omega), upd_o (by omega), upd_o (by omega), upd_o (by omega), ring_1]
    exact h
  · split
    · have ew : sI (fun t' => upd (upd (upd g 7 (g 7 + 1)) (16 + 6 * t + 4) (g (16 + 6 * t + 4) + 5)) (16 + 6 * t + 5) 0 (16 + 6 * t' + 4)) T = sI (fun t' => g (16 + 6 * t' + 4)) T + 5 := sI_one (t0 := t) (by
        (try dsimp only); rw [upd_o (by omega), upd_s]) (fun t' e => by
        (try dsimp only); rw [upd_o (by omega), upd_o (by omega), upd_o (by omega)]) T ht
      unfold uwS at h ⊢
      rw [ew, show upd (upd (upd g 7 (g 7 + 1)) (16 + 6 * t + 4) (g (16 + 6 * t + 4) + 5)) (16 + 6 * t + 5) 0 7 = g 7 + 1 by rw [upd_o (by omega), upd_o (by omega), upd_s], upd_o (by omega), upd_o (by omega), upd_o (by omega), upd_o (by omega), upd_o (by omega), upd_o (by omega), upd_o (by omega), upd_o (by omega), upd_o (by omega), ring_5]
      exact h
    · exact h
theorem uw_plL {g : GF} {P : PF} {T m p : Nat} (h : uwS g T = 0) : ∀ n, n ≤ T → uwS (plL P m p n g) T = 0
  | 0, _ => h
  | n + 1, hn => uw_pl (by omega) (uw_plL h n (by omega))
theorem uw_psL {g : GF} {T : Nat} (h : uwS g T = 0) : ∀ n, uwS (psL n g) T = 0
  | 0 => h
  | n + 1 => uw_t (by decide) (uw_psL h n)
theorem uw_st {g : GF} {P : PF} {S T m p : Nat} (h : uwS g T = 0) : uwS (stS P S T m g p) T = 0 := by
  have h1 := uw_psL (uw_plL (P := P) (m := m) (p := p) h T (Nat.le_refl _)) T
  unfold stS
  split
  · exact uw_o (Or.inr rfl) (uw_o (Or.inl (by decide)) (uw_o (Or.inl (by decide)) h1))
  · exact uw_o (Or.inr rfl) (uw_o (Or.inl (by decide)) h1)
theorem uw_pN {P : PF} {S T m : Nat} : ∀ (n : Nat) (g : GF) (p U : Nat), uwS g T = 0 → uwS (playN P S T m n g p U).2.1 T = 0
  | 0, _, _, _, h => h
  | n + 1, g, p, U, h => by
    rw [playN]
    split
    · exact h
    · exact uw_pN n _ _ _ (uw_st h)
theorem pN_8 {P : PF} {S T m : Nat} : ∀ (n : Nat) (g : GF) (p U e : Nat), g 8 = nI e → (playN P S T m n g p U).2.1 8 = nI (e + (playN P S T m n g p U).1)
  | 0, _, _, _, e, h => h
  | n + 1, g, p, U, e, h => by
    rw [playN]
    split
    · exact h
    · have := pN_8 (P := P) (S := S) (T := T) (m := m) n (stS P S T m g p) (nxP S p) (nxU S p U) (e + 1) (by rw [stS_8, h]; exact nI_add e 1)
      (try dsimp only)
      rw [this, show ∀ x : Nat, e + 1 + x = e + (x + 1) from fun x => by omega]
/-! Own's changes -/
section OXU
variable {M : Mm} {k T : Nat} {g : GF} {P : PF}
theorem ox_g {g' : GF} (hg : ∀ j, vk T j → g j = g' j) (h : OX M k T g P) : OX M k T g' P :=
  ⟨fun j hj => (h.1 j hj).trans (hg j (Or.inl hj)), fun t ht q hq => (h.2.1 t ht q hq).trans (hg _ (vk_t ht (by omega))), fun t ht => ⟨(h.2.2.1 t ht).1.trans (hg _ (vk_t ht (by decide))), (h.2.2.1 t ht).2⟩, h.2.2.2⟩
theorem ox_P {P' : PF} (hP : ∀ m t s, m < 3 → t < 12 → s < 64 → P m t s = P' m t s) (h : OX M k T g P) : OX M k T g P' := ⟨h.1, h.2.1, h.2.2.1, fun m hm t ht s hs => (h.2.2.2 m hm t ht s hs).trans (by rw [hP m t s hm ht hs])⟩
theorem ox_18 (h : OX M k T g P) {j : Nat} {v : Int32} (hj : j < 11) (h8 : j ≠ 8) : OX (putI M (18, k, 0) j v) k T (upd g j v) P := by
  have n19 : ∀ q, (putI M (18, k, 0) j v).1 (19, k, q) = M.1 (19, k, q) := fun q => putI_ne (by simp)
  refine ⟨fun i hi => ?_, fun t ht q hq => ?_, fun t ht => ?_, fun m hm t ht s hs => ?_⟩
  · rw [g_row]
    by_cases e : i = j
    · rw [e, upd_s, upd_s]
    · rw [upd_o e, upd_o e]; exact h.1 i hi
  · rw [n19, upd_o (by omega)]; exact h.2.1 t ht q hq
  · rw [n19, g_row, upd_o (Ne.symm h8), upd_o (by omega)]; exact h.2.2.1 t ht
  · rw [putI_ne (by simp)]; exact h.2.2.2 m hm t ht s hs
theorem ox_19 (h : OX M k T g P) {t q : Nat} {v : Int32} (hq : q < 5) : OX (putI M (19, k, q) t v) k T (upd g (16 + 6 * t + q) v) P := by
  have n18 : (putI M (19, k, q) t v).1 (18, k, 0) = M.1 (18, k, 0) := putI_ne (by simp)
  refine ⟨fun i hi => ?_, fun t' ht q' hq' => ?_, fun t' ht => ?_, fun m hm t' ht s hs => ?_⟩
  · rw [n18, upd_o (by omega)]; exact h.1 i hi
  · by_cases e : q' = q
    · subst e
      rw [g_row]
      by_cases e2 : t' = t
      · rw [e2, upd_s, upd_s]
      · rw [upd_o e2, upd_o (by omega)]; exact h.2.1 t' ht q' hq'
    · rw [putI_ne (by simp [e]), upd_o (by omega)]; exact h.2.1 t' ht q' hq'
  · rw [n18, putI_ne (by simp; omega), upd_o (by omega)]; exact h.2.2.1 t' ht
  · rw [putI_ne (by simp)]; exact h.2.2.2 m hm t' ht s hs
theorem ox_si (h : OX M k T g P) {t : Nat} (h0 : 0 ≤ M.1 (18, k, 0) 8) : OX (putI M (19, k, 5) t (-99)) k T (upd g (16 + 6 * t + 5) 99) P := by
  have n18 : (putI M (19, k, 5) t (-99)).1 (18, k, 0) = M.1 (18, k, 0) := putI_ne (by simp)
  refine ⟨fun i hi => ?_, fun t' ht q' hq' => ?_, fun t' ht => ?_, fun m hm t' ht s hs => ?_⟩
  · rw [n18, upd_o (by omega)]; exact h.1 i hi
  · rw [putI_ne (by simp; omega), upd_o (by omega)]; exact h.2.1 t' ht q' hq'
  · rw [n18, g_row]
    by_cases e : t' = t
    · subst e
      rw [upd_s, upd_s]
      refine ⟨?_, Int32.le_trans (by decide) h0⟩
      unfold slO
      rw [if_neg (by decide)]
    · rw [upd_o e, upd_o (by omega)]; exact h.2.2.1 t' ht
  · rw [putI_ne (by simp)]; exact h.2.2.2 m hm t' ht s hs
def pSet (P : PF) (m t s : Nat) (c : Bool) : PF := fun m' t' s' => if m' = m ∧ t' = t ∧ s' = s then c else P m' t' s'
theorem ox_20 (h : OX M k T g P) {m t s : Nat} {c : Bool} {v : Int32} (ht : t < 12) (hs : s < 64) (hv : v = bI c) : OX (putI M (20, k, 0) (768 * m + 64 * t + s) v) k T g (pSet P m t s c) := by
  subst hv
  refine ⟨fun i hi => ?_, fun t' ht q' hq' => ?_, fun t' ht => ?_, fun m' hm' t' ht' s' hs' => ?_⟩
  · rw [putI_ne (by simp)]; exact h.1 i hi
  · rw [putI_ne (by simp)]; exact h.2.1 t' ht q' hq'
  · rw [putI_ne (by simp), putI_ne (by simp)]; exact h.2.2.1 t' ht
  · rw [g_row]
    unfold pSet
    by_cases e : m' = m ∧ t' = t ∧ s' = s
    · rw [if_pos e, e.1, e.2.1, e.2.2, upd_s]
    · rw [if_neg e, upd_o (by omega)]; exact h.2.2.2 m' hm' t' ht' s' hs'
end OXU
