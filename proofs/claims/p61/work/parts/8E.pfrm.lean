/-! frames; the law's picks; Own's pins counted -/
theorem fr_off {zs : List Rf} {S : Rf → Bool} {M M' : Mm} (hS : ∀ x ∈ zs, S x = true) (h : Off zs M M') : Fr S M M' := fun r hr => h r (fun c => by rw [hS r c] at hr; cases hr)
theorem ox_eq {M M' : Mm} {k T : Nat} {g : GF} {P : PF} (hF : ∀ x, x ∈ owR k → M'.1 x = M.1 x) (h : OX M k T g P) : OX M' k T g P := by
  have h18 := hF (18, k, 0) ow18
  have h20 := hF (20, k, 0) (by simp [owR])
  have h19 : ∀ q, q < 6 → M'.1 (19, k, q) = M.1 (19, k, q) := fun q hq => hF _ (by
    have : q = 0 ∨ q = 1 ∨ q = 2 ∨ q = 3 ∨ q = 4 ∨ q = 5 := by omega
    rcases this with rfl | rfl | rfl | rfl | rfl | rfl <;> simp [owR])
  refine ⟨fun j hj => by rw [h18]; exact h.1 j hj, fun t ht q hq => by rw [h19 q (by omega)]; exact h.2.1 t ht q hq, fun t ht => by rw [h18, h19 5 (by decide)]; exact h.2.2.1 t ht, fun m hm t ht s hs => by rw [h20]; exact h.2.2.2 m hm t ht s hs⟩
theorem ox_fr {S : Rf → Bool} {M M' : Mm} {k T : Nat} {g : GF} {P : PF} (hS : ∀ x, x ∈ owR k → S x = false) (hF : Fr S M M') (h : OX M k T g P) : OX M' k T g P := ox_eq (fun x hx => (hF x (hS x hx)).1) h
/-- the picks of the law -/
def pv (L : Nat) (xs : Nat → Int32) (k n : Nat) : Nat := ((pickF L xs (nI k) (nI n)).getD 0).toNatClampNeg
theorem pick_e {L : Nat} {xs : Nat → Int32} {k n : Nat} (hL : L ≤ 260) (hk : k < 1000000) (h0 : 0 < n) (hn : n < 2 ^ 31) : ∃ v, v < n ∧ pickF L xs (nI k) (nI n) = some (nI v) := by
  have hc : ∃ c, cellF L xs (nI k) = some c := by
    unfold cellF
    by_cases h : nI L = 0
    · exact ⟨0, if_pos h⟩
    · have hL0 : 0 < L := by
        rcases Nat.eq_zero_or_pos L with e | e
        · subst e; exact absurd rfl h
        · exact e
      rw [if_neg h, pk_rem (by omega) hL0 (by omega), if_neg (nI_in (Nat.mod_lt _ hL0) (by omega))]
      exact ⟨_, rfl⟩
  obtain ⟨c, hc⟩ := hc
  obtain ⟨j, hj, e⟩ := pk_andE c (m := 65535) 16 rfl
  refine ⟨j % n, Nat.mod_lt _ h0, ?_⟩
  unfold pickF
  rw [hc]
  show (if nI n = 0 then none else some ((c &&& 65535) - (c &&& 65535) / nI n * nI n)) = _
  rw [if_neg (nI_ne0 h0 hn), e, pk_rem (by omega) h0 hn]
theorem pv_lt {L : Nat} {xs : Nat → Int32} {k n : Nat} (hL : L ≤ 260) (hk : k < 1000000) (h0 : 0 < n) (hn : n < 2 ^ 31) : pv L xs k n < n := by
  obtain ⟨v, h1, h2⟩ := pick_e (xs := xs) hL hk h0 hn
  unfold pv
  rw [h2, Option.getD_some, nI_clamp (by omega)]
  exact h1
theorem pick_ok {L : Nat} {xs : Nat → Int32} {k n : Nat} (hL : L ≤ 260) (hk : k < 1000000) (h0 : 0 < n) (hn : n < 2 ^ 31) : pickF L xs (nI k) (nI n) = some (nI (pv L xs k n)) := by
  obtain ⟨v, h1, h2⟩ := pick_e (xs := xs) hL hk h0 hn
  unfold pv
  rw [h2, Option.getD_some, nI_clamp (by omega)]
/-- Own's pins of a tune -/
theorem mCt_add (q : Nat → Bool) (a : Nat) : ∀ b, mCt q (a + b) = mCt q a + mCt (fun j => q (a + j)) b
  | 0 => rfl
  | b + 1 => by
    rw [show a + (b + 1) = (a + b) + 1 from rfl, mCt, mCt_add q a b, mCt]
    omega
theorem mCt_64 (p : Nat → Nat → Bool) : ∀ t, mCt (fun j => p (j / 64) (j % 64)) (64 * t) = mSm (fun t => mCt (fun s => p t s) 64) t
  | 0 => rfl
  | t + 1 => by
    rw [show 64 * (t + 1) = 64 * t + 64 by omega, mCt_add, mCt_64 p t, mSm]
    have : mCt (fun j => p ((64 * t + j) / 64) ((64 * t + j) % 64)) 64 = mCt (fun s => p t s) 64 := mCt_cong fun s hs => by
      try dsimp only
      rw [show (64 * t + s) / 64 = t by omega, show (64 * t + s) % 64 = s by omega]
    rw [this]
theorem own_pinsL {M : Mm} {k T m : Nat} {g : GF} {P : PF} (h : OX M k T g P) (hm : m < 3) {K : Int32 → Int32 → Option Int32} : ∀ (d j f : Nat), j + d = 768 → d < f → fX10_pinsOf_L8 M k (nI m) K f (nI (mCt (fun j => P m (j / 64) (j % 64)) j)) (nI (768 * m + j)) = K (nI (pnS P 64 12 m)) (nI (768 * m + 768)) := by
  have e7 : (768 : Int32) * nI m + (768 : Int32) = nI (768 * m + 768) := by
    rw [show (768 : Int32) = nI 768 from rfl, pk_mul, nI_add]
  intro d
  induction d with
  | zero =>
    intro j f hj hf
    obtain ⟨f, rfl⟩ : ∃ x, f = x + 1 := ⟨f - 1, by omega⟩
    obtain rfl : j = 768 := by omega
    rw [fX10_pinsOf_L8, e7, if_pos (Int32.le_refl _), show (768 : Nat) = 64 * 12 from rfl, mCt_64]
    rfl
  | succ d ih =>
    intro j f hj hf
    obtain ⟨f, rfl⟩ : ∃ x, f = x + 1 := ⟨f - 1, by omega⟩
    have hP := h.2.2.2 m hm (j / 64) (by omega) (j % 64) (by omega)
    rw [show 768 * m + 64 * (j / 64) + j % 64 = 768 * m + j by omega] at hP
    have ih' := ih (j + 1) f (by omega) (by omega)
    rw [mCt] at ih'
    rw [fX10_pinsOf_L8, e7, if_neg (nI_ge (by omega) (by omega)), if_neg (nI_in (by omega) (by decide)), nI_clamp (by omega), hP, show nI (768 * m + j) + (1 : Int32) = nI (768 * m + (j + 1)) from nI_add _ 1]
    cases hp : P m (j / 64) (j % 64) with
    | false =>
      rw [hp] at ih'
      rw [if_pos (by decide), Int32.add_zero]
      exact ih'
    | true =>
      rw [hp] at ih'
      rw [if_neg (by decide), show ∀ x : Nat, nI x + (1 : Int32) = nI (x + 1) from fun x => nI_add x 1]
      exact ih'
theorem pinsOf_ok {M : Mm} {k S T U A m0 p0 m : Nat} {g : GF} {P : PF} (h : OX M k T g P) (HP : ∀ m t s, P m t s = true → m < 3 ∧ t < T ∧ s < S) (hS : S ≤ 64) (hT : T ≤ 12) (hm : m < 3) : fX10_pinsOf M k (nI m) = some (nI (pnS P S T m)) := by
  unfold fX10_pinsOf
  have := own_pinsL (K := fun w4 _ => some w4) h hm 768 0 NF rfl (by decide)
  rw [show (768 : Int32) * nI m = nI (768 * m + 0) by rw [show (768 : Int32) = nI 768 from rfl, pk_mul]; rfl, show (0 : Int32) = nI (mCt (fun j => P m (j / 64) (j % 64)) 0) from rfl, this, pn_64 hS hT HP]
