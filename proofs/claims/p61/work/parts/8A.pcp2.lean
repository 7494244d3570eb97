/-! Own is copied -/
abbrev mN2 (M : Mm) (r : Rf) : Mm := mN M r
abbrev bz2 (v : Int32) : Int32 := bz v
def rw6 (q : Nat) : List Rf := [(19, q, 0), (19, q, 1), (19, q, 2), (19, q, 3), (19, q, 4), (19, q, 5)]
theorem cpT_q {M : Mm} {k q v p : Nat} (hp : p < 6) : (cpT M k q v).1 (19, q, p) = upd (M.1 (19, q, p)) v (M.1 (19, k, p) v) := by
  have : p = 0 ∨ p = 1 ∨ p = 2 ∨ p = 3 ∨ p = 4 ∨ p = 5 := by omega
  unfold cpT
  rcases this with rfl | rfl | rfl | rfl | rfl | rfl
  · rw [putI_ne (by simp), putI_ne (by simp), putI_ne (by simp), putI_ne (by simp), putI_ne (by simp), g_row]
  · rw [putI_ne (by simp), putI_ne (by simp), putI_ne (by simp), putI_ne (by simp), g_row, putI_ne (by simp)]
  · rw [putI_ne (by simp), putI_ne (by simp), putI_ne (by simp), g_row, putI_ne (by simp), putI_ne (by simp)]
  · rw [putI_ne (by simp), putI_ne (by simp), g_row, putI_ne (by simp), putI_ne (by simp), putI_ne (by simp)]
  · rw [putI_ne (by simp), g_row, putI_ne (by simp), putI_ne (by simp), putI_ne (by simp), putI_ne (by simp)]
  · rw [g_row, putI_ne (by simp), putI_ne (by simp), putI_ne (by simp), putI_ne (by simp), putI_ne (by simp)]
theorem cpT_off {M : Mm} {k q v : Nat} : Off (rw6 q) M (cpT M k q v) := by
  unfold cpT
  exact (((((Off.rf.put (by simp [rw6])).put (by simp [rw6])).put (by simp [rw6])).put (by simp [rw6])).put (by simp [rw6])).put (by simp [rw6])
theorem cp_rows {k q : Nat} (hkq : k ≠ q) {K : Int32 → Mm → Option Mm} : ∀ (d v f : Nat) (M : Mm), v + d = 12 → d + 1 ≤ f →
    ∃ M', fX10_copy_L98 k q K f (nI v) M = K (nI 12) M' ∧ (∀ p, p < 6 → ∀ i, v ≤ i → i < 12 → M'.1 (19, q, p) i = M.1 (19, k, p) i) ∧ (∀ p, p < 6 → ∀ i, i < v → M'.1 (19, q, p) i = M.1 (19, q, p) i) ∧ Off (rw6 q) M M' := by
  intro d
  induction d with
  | zero =>
    intro v f M hv hf
    obtain ⟨f, rfl⟩ : ∃ x, f = x + 1 := ⟨f - 1, by omega⟩
    have e : v = 12 := by omega
    subst e
    exact ⟨M, by rw [fX10_copy_L98, show (12 : Int32) = nI 12 from rfl, if_pos (Int32.le_refl _)], fun p _ i h1 h2 => absurd h2 (by omega), fun p _ i _ => rfl, Off.rf⟩
  | succ d ih =>
    intro v f M hv hf
    obtain ⟨f, rfl⟩ : ∃ x, f = x + 1 := ⟨f - 1, by omega⟩
    obtain ⟨M', b1, b2, b3, b4⟩ := ih (v + 1) f (cpT M k q v) (by omega) (by omega)
    have hk : ∀ p, (cpT M k q v).1 (19, k, p) = M.1 (19, k, p) := fun p => (cpT_off (19, k, p) (by simp [rw6, hkq])).1
    refine ⟨M', (cp_tooth hkq (by omega)).trans b1, fun p hp i h1 h2 => ?_, fun p hp i h1 => ?_, cpT_off.tr b4⟩
    · by_cases e : i = v
      · subst e
        rw [b3 p hp i (by omega), cpT_q hp, upd_s]
      · rw [b2 p hp i (by omega) h2, hk]
    · rw [b3 p hp i (by omega), cpT_q hp, upd_o (by omega)]
theorem Off.mN {zs : List Rf} {M M1 : Mm} {r : Rf} (h : Off zs M M1) (hr : r ∈ zs) : Off zs M (mN M1 r) := fun x hx => by
  have hne : x ≠ r := fun e => hx (e ▸ hr)
  exact ⟨(funext fun _ => if_neg hne : (mN2 M1 r).1 x = M1.1 x).trans (h x hx).1, (funext fun _ => if_neg hne : (mN2 M1 r).2 x = M1.2 x).trans (h x hx).2⟩
theorem Off.le {zs ys : List Rf} {M M1 : Mm} (h : Off zs M M1) (hs : ∀ x ∈ zs, x ∈ ys) : Off ys M M1 := fun x hx => h x (fun c => hx (hs x c))
theorem OX.bz {M : Mm} {k T : Nat} {g : GF} {P : PF} (h : OX M k T g P) : ∀ i, i < 2304 → bz2 (M.1 (20, k, 0) i) = M.1 (20, k, 0) i := fun i hi => by
  have h1 := h.2.2.2 (i / 768) (by omega) (i % 768 / 64) (by omega) (i % 64) (by omega)
  rw [show 768 * (i / 768) + 64 * (i % 768 / 64) + i % 64 = i by omega] at h1
  rw [h1]
  exact bz_bI _
theorem ow0_off {M : Mm} {q : Nat} : Off (owR q) M (ow0M (mN M (18, q, 0)) q) := by
  unfold ow0M
  exact (((((((Off.rf.mN ow18).mN (by simp [owR])).mN (by simp [owR])).mN (by simp [owR])).mN (by simp [owR])).mN (by simp [owR])).mN (by simp [owR])).mN (by simp [owR])
def cpF (M : Mm) (k q : Nat) : Mm := (putI (putI (putI (putI (putI (putI (putI (putI (putI (putI (putI M (18, q, 0) 0 (M.1 (18, k, 0) 0)) (18, q, 0) 1 (M.1 (18, k, 0) 1)) (18, q, 0) 2 (M.1 (18, k, 0) 2)) (18, q, 0) 3 (M.1 (18, k, 0) 3)) (18, q, 0) 4 (M.1 (18, k, 0) 4)) (18, q, 0) 5 (M.1 (18, k, 0) 5)) (18, q, 0) 6 (M.1 (18, k, 0) 6)) (18, q, 0) 7 (M.1 (18, k, 0) 7)) (18, q, 0) 8 (M.1 (18, k, 0) 8)) (18, q, 0) 9 (M.1 (18, k, 0) 9)) (18, q, 0) 10 (M.1 (18, k, 0) 10))
theorem cpF_off {M : Mm} {k q : Nat} : Off [(18, q, 0)] M (cpF M k q) := by
  unfold cpF
  exact ((((((((((Off.rf.put (by simp)).put (by simp)).put (by simp)).put (by simp)).put (by simp)).put (by simp)).put (by simp)).put (by simp)).put (by simp)).put (by simp)).put (by simp)
theorem cpF_j {M : Mm} {k q j : Nat} (hj : j < 11) : (cpF M k q).1 (18, q, 0) j = M.1 (18, k, 0) j := by
  have : j = 0 ∨ j = 1 ∨ j = 2 ∨ j = 3 ∨ j = 4 ∨ j = 5 ∨ j = 6 ∨ j = 7 ∨ j = 8 ∨ j = 9 ∨ j = 10 := by omega
  unfold cpF
  rcases this with rfl | rfl | rfl | rfl | rfl | rfl | rfl | rfl | rfl | rfl | rfl <;> simp [putI]
theorem copy_ok {M : Mm} {k q T : Nat} {g : GF} {P : PF} (h : OX M k T g P) (hT : T ≤ 12) (hkq : k ≠ q) : ∃ M', fX10_copy (ow0M (mN M (18, q, 0)) q) k q = some M' ∧ OX M' q T g P ∧ Off (owR q) M M' := by
  have hnk : ∀ x, x ∈ owR k → x ∉ owR q := fun x h1 h2 => hkq ((owR_i h1).1.symm.trans (owR_i h2).1)
  have o0 := ow0_off (M := M) (q := q)
  have oF : Off (owR q) M (cpF (ow0M (mN M (18, q, 0)) q) k q) := o0.tr (cpF_off.le (by simp [owR]))
  obtain ⟨M1, a1, a2, -, a4⟩ := cp_rows hkq (K := fun w14 M15 => fX10_copy_L184 k q (fun w19 M20 => some M20) NF (0 : Int32) M15) 12 0 NF (cpF (ow0M (mN M (18, q, 0)) q) k q) rfl (by decide)
  have o1 : Off (owR q) M M1 := oF.tr (a4.le (fun x hx => by simp only [rw6, List.mem_cons, List.not_mem_nil, or_false] at hx; rcases hx with rfl | rfl | rfl | rfl | rfl | rfl <;> simp [owR]))
  have k20 : M1.1 (20, k, 0) = M.1 (20, k, 0) := (o1 _ (hnk _ (by simp [owR]))).1
  obtain ⟨M2, c1, c2, -, c4⟩ := cp_pins hkq (K := fun w19 M20 => some M20) 2304 0 NF M1 rfl (by decide) (fun i hi => by rw [k20]; exact h.bz i hi)
  have o2 : Off (owR q) M M2 := o1.tr (c4.le (by simp [owR]))
  refine ⟨M2, ?_, ⟨fun j hj => ?_, fun t ht p hp => ?_, fun t ht => ?_, fun m hm t ht s hs => ?_⟩, o2⟩
  · exact a1.trans c1
  all_goals skip
  · rw [(c4 (18, q, 0) (by simp)).1, (a4 (18, q, 0) (by simp [rw6])).1, cpF_j hj, (o0 _ (hnk _ ow18)).1]
    exact h.1 j hj
  · have hm : ((19, k, p) : Rf) ∈ owR k := by
      have : p = 0 ∨ p = 1 ∨ p = 2 ∨ p = 3 ∨ p = 4 := by omega
      rcases this with rfl | rfl | rfl | rfl | rfl <;> simp [owR]
    rw [(c4 (19, q, p) (by simp)).1, a2 p (by omega) t (Nat.zero_le _) (by omega), (oF _ (hnk _ hm)).1]
    exact h.2.1 t ht p hp
  · rw [(c4 (18, q, 0) (by simp)).1, (a4 (18, q, 0) (by simp [rw6])).1, cpF_j (by decide), (o0 _ (hnk _ ow18)).1, (c4 (19, q, 5) (by simp)).1, a2 5 (by decide) t (Nat.zero_le _) (by omega), (oF (19, k, 5) (hnk _ (by simp [owR]))).1]
    exact h.2.2.1 t ht
  · rw [c2 _ (Nat.zero_le _) (by omega), k20]
    exact h.2.2.2 m hm t ht s hs
