/-! the law's own box is the box (g, P) -/
/-- the silence that a tooth's last sound tells -/
def slO (pl si : Int32) : Int32 := if 0 ≤ si then mnI 99 (pl - si) else 99
def OX (M : Mm) (k T : Nat) (g : GF) (P : PF) : Prop :=
  (∀ j, j < 11 → M.1 (18, k, 0) j = g j) ∧ (∀ t, t < T → ∀ q, q < 5 → M.1 (19, k, q) t = g (16 + 6 * t + q)) ∧ (∀ t, t < T → slO (M.1 (18, k, 0) 8) (M.1 (19, k, 5) t) = g (16 + 6 * t + 5) ∧ M.1 (19, k, 5) t ≤ M.1 (18, k, 0) 8) ∧
    ∀ m, m < 3 → ∀ t, t < 12 → ∀ s, s < 64 → M.1 (20, k, 0) (768 * m + 64 * t + s) = bI (P m t s)
theorem place_ok {M : Mm} {m t s : Nat} : fX10_place M (nI m) (nI t) (nI s) = nI (768 * m + 64 * t + s) := by
  unfold fX10_place
  rw [show (768 : Int32) * nI m = nI (768 * m) from (Int32.ofNat_mul 768 m).symm, show (64 : Int32) * nI t = nI (64 * t) from (Int32.ofNat_mul 64 t).symm, nI_add, nI_add]
theorem bz_bI (b : Bool) : bz (bI b) = bI b := by cases b <;> decide
section OXS
variable {M : Mm} {k T : Nat} {g : GF} {P : PF}
theorem has_ok (h : OX M k T g P) {m t s : Nat} (hm : m < 3) (ht : t < 12) (hs : s < 64) : fX10_has M k (nI m) (nI t) (nI s) = some (bI (P m t s)) := by
  have hk : 768 * m + 64 * t + s < 2304 := by omega
  unfold fX10_has
  rw [place_ok, if_neg (nI_in hk (by decide)), nI_clamp (by omega), h.2.2.2 m hm t ht s hs, bz_bI]
theorem mn_e (x : Int32) : fJ9_min_7cf53 M 99 x = mnI 99 x := rfl
theorem sil_ok (h : OX M k T g P) {t : Nat} (hT : T ≤ 12) (ht : t < T) : fX10_silence M k (nI t) = some (g (16 + 6 * t + 5)) := by
  have hr := (h.2.2.1 t ht).1
  unfold slO at hr
  unfold fX10_silence
  rw [if_neg (nI_in (N := 12) (by omega) (by decide)), nI_clamp (by omega)]
  by_cases hc : 0 ≤ M.1 (19, k, 5) t
  · rw [if_pos hc] at hr
    rw [if_pos hc, if_neg (fun c => by rcases c with c | c; exact nI_pos (by omega) c; omega), mn_e, hr]
  · rw [if_neg hc] at hr
    rw [if_neg hc, ← hr]
    rfl
theorem bad_ok (h : OX M k T g P) {t : Nat} (hT : T ≤ 12) (ht : t < T) : fX10_isBad M k (nI t) = some (if g (16 + 6 * t + 4) < g (16 + 6 * t + 3) then 0 else 1) := by
  unfold fX10_isBad
  rw [if_neg (nI_in (N := 12) (by omega) (by decide)), if_neg (nI_in (N := 12) (by omega) (by decide)), nI_clamp (by omega), h.2.1 t ht 4 (by decide), h.2.1 t ht 3 (by decide)]
  split <;> rfl
theorem sound_ok (h : OX M k T g P) {m p t : Nat} (hT : T ≤ 12) (ht : t < T) (hm : m < 3) (hp : p < 64) (g4 : g 4 = nI m) (g5 : g 5 = nI p) : fX10_sound M k (nI t) = some (sndS g P m p t) := by
  unfold fX10_sound sndS
  rw [h.1 4 (by decide), h.1 5 (by decide), g4, g5, has_ok h hm (by omega) hp]
  show (if bI (P m t p) = 0 then some (0 : Int32) else (fX10_isBad M k (nI t)).bind fun q4 => if q4 = 0 then ((fX10_silence M k (nI t)).bind fun q7 => if nI t < 0 ∨ 12 ≤ (nI t).toNatClampNeg then none else if (M.1 (19, k, 2) (nI t).toNatClampNeg) ≤ q7 then some (2 : Int32) else some (3 : Int32)) else some (1 : Int32)) = _
  rw [bad_ok h hT ht, sil_ok h hT ht, nI_clamp (by omega), h.2.1 t ht 2 (by decide)]
  cases hP : P m t p with
  | false => rfl
  | true =>
    rw [if_neg (show ¬ bI true = 0 by decide), if_pos (rfl : true = true)]
    by_cases h1 : g (16 + 6 * t + 4) < g (16 + 6 * t + 3)
    · rw [if_pos h1, if_pos h1]
      show (if nI t < 0 ∨ 12 ≤ t then none else if g (16 + 6 * t + 2) ≤ g (16 + 6 * t + 5) then some (2 : Int32) else some (3 : Int32)) = _
      rw [if_neg (fun c => by rcases c with c | c; exact nI_pos (by omega) c; omega)]
      by_cases h2 : g (16 + 6 * t + 5) < g (16 + 6 * t + 2)
      · rw [if_neg (Int32.not_le.mpr h2), if_pos h2]
      · rw [if_pos (Int32.not_lt.mp h2), if_neg h2]
    · rw [if_neg h1, if_neg h1]
      rfl
end OXS
