/-! Own's step, all teeth -/
def OXm (M : Mm) (k T : Nat) (G : GF) (P : PF) (pl : Int32) (n : Nat) : Prop :=
  (∀ j, j < 11 → M.1 (18, k, 0) j = G j) ∧ (∀ t, t < T → ∀ q, q < 5 → M.1 (19, k, q) t = G (16 + 6 * t + q)) ∧ (∀ t, t < T → slO (pl + 1) (M.1 (19, k, 5) t) = mnI 99 (G (16 + 6 * t + 5) + 1) ∧ M.1 (19, k, 5) t ≤ pl) ∧ (∀ t, t < T → n ≤ t → slO pl (M.1 (19, k, 5) t) = G (16 + 6 * t + 5)) ∧
    ∀ m, m < 3 → ∀ t, t < 12 → ∀ s, s < 64 → M.1 (20, k, 0) (768 * m + 64 * t + s) = bI (P m t s)
theorem st_18 {M : Mm} {k v : Nat} {r : Int32} : (stM M k v r).1 (18, k, 0) = upd (upd (M.1 (18, k, 0)) 6 (M.1 (18, k, 0) 6 + (if r = 2 then 1 else 0))) 7 (M.1 (18, k, 0) 7 + (if r = 3 then 1 else 0)) := by
  unfold stM
  rw [putI_ne (by simp), putI_ne (by simp), g_row, g_row]
theorem st_4 {M : Mm} {k v : Nat} {r : Int32} : (stM M k v r).1 (19, k, 4) = upd (M.1 (19, k, 4)) v (M.1 (19, k, 4) v + (if r = 2 then 1 else if r = 3 then 5 else 0)) := by
  unfold stM
  rw [putI_ne (by simp), g_row, putI_ne (by simp), putI_ne (by simp)]
theorem st_5 {M : Mm} {k v : Nat} {r : Int32} : (stM M k v r).1 (19, k, 5) = upd (M.1 (19, k, 5)) v (if r ≤ 1 then M.1 (19, k, 5) v else M.1 (18, k, 0) 8) := by
  unfold stM
  rw [g_row, putI_ne (by simp), putI_ne (by simp), putI_ne (by simp)]
theorem st_o {M : Mm} {k v : Nat} {r : Int32} {x : Rf} (h1 : x ≠ (18, k, 0)) (h2 : x ≠ (19, k, 4)) (h3 : x ≠ (19, k, 5)) : (stM M k v r).1 x = M.1 x := by
  unfold stM
  rw [putI_ne h3, putI_ne h2, putI_ne h1, putI_ne h1]
theorem snd_r {g : GF} {P : PF} {m p t : Nat} : sndS g P m p t = 0 ∨ sndS g P m p t = 1 ∨ sndS g P m p t = 2 ∨ sndS g P m p t = 3 := by
  unfold sndS
  split
  · split
    · split
      · exact Or.inr (Or.inr (Or.inr rfl))
      · exact Or.inr (Or.inr (Or.inl rfl))
    · exact Or.inr (Or.inl rfl)
  · exact Or.inl rfl
theorem sound_m {M : Mm} {k T n m p : Nat} {G : GF} {P : PF} {pl : Int32} (h : OXm M k T G P pl n) (hpl : G 8 = pl) (hT : T ≤ 12) (hn : n < T) (hm : m < 3) (hp : p < 64) (g4 : G 4 = nI m) (g5 : G 5 = nI p) : fX10_sound M k (nI n) = some (sndS G P m p n) := by
  obtain ⟨h1, h2, h3, h4, h5⟩ := h
  have e8 : M.1 (18, k, 0) 8 = pl := (h1 8 (by decide)).trans hpl
  have hx : OX M k T (fun x => if 16 ≤ x ∧ (x - 16) % 6 = 5 ∧ (x - 16) / 6 < n then slO pl (M.1 (19, k, 5) ((x - 16) / 6)) else G x) P := by
    refine ⟨fun j hj => ?_, fun t ht q hq => ?_, fun t ht => ?_, h5⟩
    · show _ = if _ then _ else _
      rw [if_neg (by omega)]; exact h1 j hj
    · show _ = if _ then _ else _
      rw [if_neg (by omega)]; exact h2 t ht q hq
    · rw [e8]
      refine ⟨?_, (h3 t ht).2⟩
      show _ = if _ then _ else _
      by_cases hc : t < n
      · rw [if_pos (by omega), show (16 + 6 * t + 5 - 16) / 6 = t by omega]
      · rw [if_neg (by omega)]; exact h4 t ht (by omega)
  rw [sound_ok (m := m) (p := p) hx hT hn hm hp (by show (if _ then _ else _) = _; rw [if_neg (by omega)]; exact g4) (by show (if _ then _ else _) = _; rw [if_neg (by omega)]; exact g5)]
  unfold sndS
  simp only [show ∀ q, q < 6 → (if 16 ≤ 16 + 6 * n + q ∧ (16 + 6 * n + q - 16) % 6 = 5 ∧ (16 + 6 * n + q - 16) / 6 < n then slO pl (M.1 (19, k, 5) ((16 + 6 * n + q - 16) / 6)) else G (16 + 6 * n + q)) = G (16 + 6 * n + q) from fun q hq => if_neg (by omega), show 4 < 6 by decide, show 3 < 6 by decide, show 5 < 6 by decide, show 2 < 6 by decide]
theorem slO_pl {pl : Int32} (h : 0 ≤ pl) (hb : pl < 100000) : slO (pl + 1) pl = mnI 99 (0 + 1) := by
  unfold slO
  rw [if_pos h, show pl + 1 - pl = 0 + 1 by rw [Int32.add_comm, Int32.add_sub_cancel]; rfl]
theorem tooth_m {M : Mm} {k T n m p : Nat} {G : GF} {P : PF} {pl : Int32} (h : OXm M k T G P pl n) (hpl : G 8 = pl) (h0 : 0 ≤ pl) (hb : pl < 100000) (hn : n < T) : OXm (stM M k n (sndS G P m p n)) k T (plS P m p G n) P pl (n + 1) := by
  obtain ⟨h1, h2, h3, h4, h5⟩ := h
  have e8 : M.1 (18, k, 0) 8 = pl := (h1 8 (by decide)).trans hpl
  have hpin : ∀ r : Int32, ∀ m, m < 3 → ∀ t, t < 12 → ∀ s, s < 64 → (stM M k n r).1 (20, k, 0) (768 * m + 64 * t + s) = bI (P m t s) := fun r m hm t ht s hs => by
    rw [st_o (by simp) (by simp) (by simp)]; exact h5 m hm t ht s hs
  have hlow : ∀ r : Int32, ∀ t, t < T → ∀ q, q < 4 → (stM M k n r).1 (19, k, q) t = G (16 + 6 * t + q) := fun r t ht q hq => by
    rw [st_o (by simp) (by simp; omega) (by simp; omega)]; exact h2 t ht q (by omega)
  have key : ∀ (r : Int32) (G2 : GF), (∀ j, j < 11 → upd (upd (M.1 (18, k, 0)) 6 (M.1 (18, k, 0) 6 + (if r = 2 then 1 else 0))) 7 (M.1 (18, k, 0) 7 + (if r = 3 then 1 else 0)) j = G2 j) → (∀ t q, q < 4 → G2 (16 + 6 * t + q) = G (16 + 6 * t + q)) → (∀ t, t ≠ n → ∀ q, q < 6 → G2 (16 + 6 * t + q) = G (16 + 6 * t + q)) → M.1 (19, k, 4) n + (if r = 2 then 1 else if r = 3 then 5 else 0) = G2 (16 + 6 * n + 4) →
      slO (pl + 1) (if r ≤ 1 then M.1 (19, k, 5) n else pl) = mnI 99 (G2 (16 + 6 * n + 5) + 1) ∧ (if r ≤ 1 then M.1 (19, k, 5) n else pl) ≤ pl → OXm (stM M k n r) k T G2 P pl (n + 1) := fun r G2 a1 a2 a3 a4 a5 => by
    refine ⟨fun j hj => by rw [st_18]; exact a1 j hj, fun t ht q hq => ?_, fun t ht => ?_, fun t ht hnt => ?_, hpin r⟩
    · by_cases hq4 : q = 4
      · subst hq4
        rw [st_4]
        by_cases e : t = n
        · subst e; rw [upd_s]; exact a4
        · rw [upd_o e, a3 t e 4 (by decide)]; exact h2 t ht 4 (by decide)
      · rw [hlow r t ht q (by omega), a2 t q (by omega)]
    · rw [st_5, e8]
      by_cases e : t = n
      · subst e; rw [upd_s]; exact a5
      · rw [upd_o e, a3 t e 5 (by decide)]; exact h3 t ht
    · rw [st_5, upd_o (by omega), a3 t (by omega) 5 (by decide)]; exact h4 t ht (by omega)
  have w4 := h2 n hn 4 (by decide)
  have f : ∀ j, j < 11 → M.1 (18, k, 0) j = G j := h1
  rcases snd_r (g := G) (P := P) (m := m) (p := p) (t := n) with e | e | e | e
  · rw [e, show plS P m p G n = G by unfold plS; rw [e]; rfl]
    refine key 0 G (fun j hj => ?_) (fun t q _ => rfl) (fun t _ q _ => rfl) (by rw [w4]; exact Int32.add_zero _) (by rw [if_pos (by decide)]; exact h3 n hn)
    show upd (upd (M.1 (18, k, 0)) 6 (M.1 (18, k, 0) 6 + 0)) 7 (M.1 (18, k, 0) 7 + 0) j = G j
    rw [Int32.add_zero, Int32.add_zero]
    by_cases j7 : j = 7
    · subst j7; rw [upd_s]; exact f 7 (by decide)
    · rw [upd_o j7]
      by_cases j6 : j = 6
      · subst j6; rw [upd_s]; exact f 6 (by decide)
      · rw [upd_o j6]; exact f j hj
  · rw [e, show plS P m p G n = G by unfold plS; rw [e]; rfl]
    refine key 1 G (fun j hj => ?_) (fun t q _ => rfl) (fun t _ q _ => rfl) (by rw [w4]; exact Int32.add_zero _) (by rw [if_pos (by decide)]; exact h3 n hn)
    show upd (upd (M.1 (18, k, 0)) 6 (M.1 (18, k, 0) 6 + 0)) 7 (M.1 (18, k, 0) 7 + 0) j = G j
    rw [Int32.add_zero, Int32.add_zero]
    by_cases j7 : j = 7
    · subst j7; rw [upd_s]; exact f 7 (by decide)
    · rw [upd_o j7]
      by_cases j6 : j = 6
      · subst j6; rw [upd_s]; exact f 6 (by decide)
      · rw [upd_o j6]; exact f j hj
  · rw [e, show plS P m p G n = upd (upd (upd G 6 (G 6 + 1)) (16 + 6 * n + 4) (G (16 + 6 * n + 4) + 1)) (16 + 6 * n + 5) 0 by unfold plS; rw [e]; rfl]
    refine key 2 _ (fun j hj => ?_) (fun t q hq => by rw [upd_o (by omega), upd_o (by omega), upd_o (by omega)]) (fun t ht q hq => by rw [upd_o (by omega), upd_o (by omega), upd_o (by omega)]) (by rw [upd_o (by omega), upd_s, w4]; rfl) (by rw [if_neg (by decide), upd_s]; exact ⟨slO_pl h0 hb, Int32.le_refl _⟩)
    show upd (upd (M.1 (18, k, 0)) 6 (M.1 (18, k, 0) 6 + 1)) 7 (M.1 (18, k, 0) 7 + 0) j = _
    rw [Int32.add_zero, upd_o (k := 16 + 6 * n + 5) (show j ≠ 16 + 6 * n + 5 by omega), upd_o (k := 16 + 6 * n + 4) (show j ≠ 16 + 6 * n + 4 by omega)]
    by_cases j7 : j = 7
    · subst j7; rw [upd_s, upd_o (by decide)]; exact f 7 (by decide)
    · rw [upd_o j7]
      by_cases j6 : j = 6
      · subst j6; rw [upd_s, upd_s, f 6 (by decide)]
      · rw [upd_o j6, upd_o j6]; exact f j hj
  · rw [e, show plS P m p G n = upd (upd (upd G 7 (G 7 + 1)) (16 + 6 * n + 4) (G (16 + 6 * n + 4) + 5)) (16 + 6 * n + 5) 0 by unfold plS; rw [e]; rfl]
    refine key 3 _ (fun j hj => ?_) (fun t q hq => by rw [upd_o (by omega), upd_o (by omega), upd_o (by omega)]) (fun t ht q hq => by rw [upd_o (by omega), upd_o (by omega), upd_o (by omega)]) (by rw [upd_o (by omega), upd_s, w4]; rfl) (by rw [if_neg (by decide), upd_s]; exact ⟨slO_pl h0 hb, Int32.le_refl _⟩)
    show upd (upd (M.1 (18, k, 0)) 6 (M.1 (18, k, 0) 6 + 0)) 7 (M.1 (18, k, 0) 7 + 1) j = _
    rw [Int32.add_zero, upd_o (k := 16 + 6 * n + 5) (show j ≠ 16 + 6 * n + 5 by omega), upd_o (k := 16 + 6 * n + 4) (show j ≠ 16 + 6 * n + 4 by omega)]
    by_cases j7 : j = 7
    · subst j7; rw [upd_s, upd_s, f 7 (by decide)]
    · rw [upd_o j7, upd_o j7]
      by_cases j6 : j = 6
      · subst j6; rw [upd_s]; exact f 6 (by decide)
      · rw [upd_o j6]; exact f j hj
