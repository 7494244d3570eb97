/-! Own's distances -/
theorem nI_m (x : Nat) : nI (x + 1) + (-1 : Int32) = nI x := by
  rw [show (-1 : Int32) = Int32.ofInt (-1) by decide]
  exact nI_dec x
section OD
variable {M : Mm} {k S T m t s : Nat} {g : GF} {P : PF}
theorem own_L40 (h : OX M k T g P) (g0 : g 0 = nI S) (hS : S ≤ 64) (hm : m < 3) (ht : t < 12) : ∀ (d v f : Nat), v = s + d → v < S → d + 1 ≤ f → fX10_distance_L40 M k (nI m) (nI t) (nI s) (fun _ => some (M.1 (18, k, 0) 0)) f (nI v) = some (nI (dsL (P m t) S s d (s + S - v))) := by
  intro d
  induction d with
  | zero =>
    intro v f hv hvS hf
    obtain ⟨f, rfl⟩ : ∃ x, f = x + 1 := ⟨f - 1, by omega⟩
    have e : v = s := by omega
    subst e
    rw [fX10_distance_L40, if_pos (Int32.le_refl _), h.1 0 (by decide), g0, dsL, show v + S - v = S by omega]
  | succ d ih =>
    intro v f hv hvS hf
    obtain ⟨f, rfl⟩ : ∃ x, f = x + 1 := ⟨f - 1, by omega⟩
    obtain ⟨w, rfl⟩ : ∃ w, v = w + 1 := ⟨v - 1, by omega⟩
    rw [fX10_distance_L40, if_neg (fun c => by have := (nIle (by omega) (by omega)).mp c; omega), has_ok h hm ht (by omega)]
    show (if bI (P m t (w + 1)) = 0 then fX10_distance_L40 M k (nI m) (nI t) (nI s) (fun _ => some (M.1 (18, k, 0) 0)) f (nI (w + 1) + (-1 : Int32)) else some ((nI s + (M.1 (18, k, 0) 0)) - nI (w + 1))) = _
    rw [dsL, show s + S - (s + S - (w + 1)) = w + 1 by omega, Nat.mod_eq_of_lt hvS]
    cases hp : P m t (w + 1) with
    | false =>
      rw [if_pos (by decide), if_neg (by decide), nI_m, ih w f (by omega) (by omega) (by omega), show s + S - (w + 1) + 1 = s + S - w by omega]
    | true =>
      rw [if_neg (by decide), if_pos rfl, h.1 0 (by decide), g0, nI_add, show nI (s + S) - nI (w + 1) = nI (s + S - (w + 1)) from (Int32.ofNat_sub _ _ (by omega)).symm]
theorem own_L5 (h : OX M k T g P) (hS : S ≤ 64) (hm : m < 3) (ht : t < 12) (hs : s < S) {K : Int32 → Option Int32} (hK : K (-1) = some (nI (dsL (P m t) S s (S - (s + 1)) (s + 1)))) : ∀ (c f : Nat), c ≤ s → c + 1 ≤ f → fX10_distance_L5 M k (nI m) (nI t) (nI s) K f (nI c + (-1 : Int32)) = some (nI (dsL (P m t) S s (S - (s + 1 - c)) (s + 1 - c))) := by
  intro c
  induction c with
  | zero =>
    intro f hc hf
    obtain ⟨f, rfl⟩ : ∃ x, f = x + 1 := ⟨f - 1, by omega⟩
    rw [fX10_distance_L5, show nI 0 + (-1 : Int32) = -1 by decide, if_pos (by decide), hK]
    rfl
  | succ c ih =>
    intro f hc hf
    obtain ⟨f, rfl⟩ : ∃ x, f = x + 1 := ⟨f - 1, by omega⟩
    rw [fX10_distance_L5, nI_m, if_neg (nI_pos (by omega)), has_ok h hm ht (by omega)]
    show (if bI (P m t c) = 0 then fX10_distance_L5 M k (nI m) (nI t) (nI s) K f (nI c + (-1 : Int32)) else some (nI s - nI c)) = _
    rw [show S - (s + 1 - (c + 1)) = (S - (s + 1 - c)) + 1 by omega, dsL, show s + S - (s + 1 - (c + 1)) = c + S by omega, Nat.add_mod_right, Nat.mod_eq_of_lt (show c < S by omega)]
    cases hp : P m t c with
    | false =>
      rw [if_pos (by decide), if_neg (by decide), ih f (by omega) (by omega), show s + 1 - (c + 1) + 1 = s + 1 - c by omega]
    | true =>
      rw [if_neg (by decide), if_pos rfl, show nI s - nI c = nI (s - c) from (Int32.ofNat_sub _ _ (by omega)).symm, show s + 1 - (c + 1) = s - c by omega]
theorem dist_ok (h : OX M k T g P) (g0 : g 0 = nI S) (hS : S ≤ 64) (hm : m < 3) (ht : t < 12) (hs : s < S) : fX10_distance M k (nI m) (nI t) (nI s) = some (nI (dsS P S m t s)) := by
  have m1 : ∀ x : Int32, x - (1 : Int32) = x + (-1 : Int32) := fun x => Int32.sub_eq_add_neg x 1
  unfold fX10_distance dsS
  rw [m1, m1, h.1 0 (by decide), g0]
  have hK : fX10_distance_L40 M k (nI m) (nI t) (nI s) (fun _ => some (M.1 (18, k, 0) 0)) NF (nI S + (-1 : Int32)) = some (nI (dsL (P m t) S s (S - (s + 1)) (s + 1))) := by
    obtain ⟨w, rfl⟩ : ∃ w, S = w + 1 := ⟨S - 1, by omega⟩
    rw [nI_m, own_L40 h g0 hS hm ht (w - s) w NF (by omega) (by omega) (by unfold NF; omega), show s + (w + 1) - w = s + 1 by omega, show w + 1 - (s + 1) = w - s by omega]
  rw [h.1 0 (by decide), g0] at hK
  have e := own_L5 (K := fun _ => fX10_distance_L40 M k (nI m) (nI t) (nI s) (fun _ => some (nI S)) NF (nI S + (-1 : Int32))) h hS hm ht hs hK s NF (Nat.le_refl _) (show s + 1 ≤ 5000 by omega)
  rw [show s + 1 - s = 1 by omega] at e
  exact e
theorem close_ok (h : OX M k T g P) (g0 : g 0 = nI S) (hS : S ≤ 64) (hm : m < 3) (hT : T ≤ 12) (ht : t < T) (hs : s < S) : fX10_isClose M k (nI m) (nI t) (nI s) = some (bI (clS g P S m t s)) := by
  unfold fX10_isClose
  rw [has_ok h hm (by omega) (by omega), clS]
  cases hp : P m t s with
  | false => rfl
  | true =>
    show ((fX10_distance M k (nI m) (nI t) (nI s)).bind _) = _
    rw [dist_ok h g0 hS hm (by omega) hs]
    show (if nI t < 0 ∨ 12 ≤ (nI t).toNatClampNeg then none else if (M.1 (19, k, 2) (nI t).toNatClampNeg) ≤ nI (dsS P S m t s) then some (0 : Int32) else some (1 : Int32)) = _
    rw [if_neg (nI_in (by omega) (by decide)), nI_clamp (by omega), h.2.1 t ht 2 (by decide)]
    by_cases c : g (16 + 6 * t + 2) ≤ nI (dsS P S m t s)
    · rw [if_pos c, decide_eq_true c]; rfl
    · rw [if_neg c, decide_eq_false c]; rfl
end OD
