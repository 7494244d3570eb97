/-! the class's output is a text -/
def OUT (M : Mm) (bs : List Int32) : Prop := M.1 (1, 1, 0) 1 = nI bs.length ∧ bs.length ≤ 64 ∧ ∀ i, i < bs.length → M.1 (2, 1, 0) i = bs.getD i 0
def b7s (bs : List Int32) : Prop := ∀ i, i < bs.length → b7 (bs.getD i 0)
theorem out_at {M : Mm} {bs : List Int32} (h : OUT M bs) {k : Nat} (hk : k ≤ bs.length) : fX9_outputByte M (nI k) = some (if k = bs.length then -1 else bs.getD k 0) := by
  obtain ⟨h1, h2, h3⟩ := h
  have k31 : k < 2 ^ 31 := by omega
  have l31 : bs.length < 2 ^ 31 := by omega
  have hx : fX1_at M 1 (nI k) = some (if k = bs.length then -1 else bs.getD k 0) := by
    unfold fX1_at
    rw [if_neg (nI_pos k31), h1]
    by_cases e : k = bs.length
    · rw [if_pos ((nIle l31 k31).mpr (by omega)), if_pos e]
    · rw [if_neg (fun c => e (by have := (nIle l31 k31).mp c; omega)), if_neg e, show Int32.ofNat (bl 1) = nI 64 from rfl, if_neg (fun c => by have := (nIle (by decide) k31).mp c; omega), nI_clamp k31, if_neg (fun c => by rcases c with c | c; exact nI_pos k31 c; exact absurd c (by show ¬ 64 ≤ k; omega)), h3 k (by omega)]
  unfold fX9_outputByte
  rw [hx]
  rfl
theorem isOut_L {M : Mm} {z : Nat} {bs : List Int32} {K : Int32 → Mm → Option (Int32 × Mm)} (ho : OUT M bs) (hs : SX M z bs) (hb : b7s bs) : ∀ (d k n : Nat), k + d = bs.length + 1 → d + 1 ≤ n → fL_isOutput_L12 z (nI bs.length) K n (nI k) M = K (nI (bs.length + 1)) M := by
  have h64 := ho.2.1
  intro d
  induction d with
  | zero =>
    intro k n hk hn
    obtain ⟨n, rfl⟩ : ∃ m, n = m + 1 := ⟨n - 1, by omega⟩
    have e : k = bs.length + 1 := by omega
    subst e
    rw [fL_isOutput_L12, if_pos ((nIlt (by omega) (by omega)).mpr (by omega))]
  | succ d ih =>
    intro k n hk hn
    obtain ⟨n, rfl⟩ : ∃ m, n = m + 1 := ⟨n - 1, by omega⟩
    have k31 : k < 2 ^ 31 := by omega
    rw [fL_isOutput_L12, if_neg (fun c => by have := (nIlt (by omega) k31).mp c; omega), out_at ho (by omega)]
    show (if nI k = nI bs.length then (if (if k = bs.length then (-1 : Int32) else bs.getD k 0) = (-1 : Int32) then fL_isOutput_L12 z (nI bs.length) K n (nI k + (1 : Int32)) M else some ((0 : Int32), M)) else (fJ0_charAt_5068eM M z (nI k)).bind fun q8 => if (if k = bs.length then (-1 : Int32) else bs.getD k 0) = q8 then fL_isOutput_L12 z (nI bs.length) K n (nI k + (1 : Int32)) M else some ((0 : Int32), M)) = _
    rw [show nI k + (1 : Int32) = nI (k + 1) from nI_add k 1]
    by_cases e : k = bs.length
    · rw [if_pos (by rw [e]), if_pos e, if_pos rfl]
      exact ih (k + 1) n (by omega) (by omega)
    · rw [if_neg (fun c => e (nIinj k31 (by omega) c)), scM_ok hs (by omega) (hb k (by omega)), if_neg e]
      show (if bs.getD k 0 = bs.getD k 0 then _ else _) = _
      rw [if_pos rfl]
      exact ih (k + 1) n (by omega) (by omega)
theorem isOut_ok {M : Mm} {z : Nat} {bs : List Int32} (ho : OUT M bs) (hs : SX M z bs) (hb : b7s bs) : fL_isOutput M (nI bs.length) z = some (1, M) := by
  have h64 := ho.2.1
  unfold fL_isOutput
  rw [slM_ok hs]
  show (if nI bs.length = nI bs.length then fL_isOutput_L12 z (nI bs.length) (fun w12 M13 => some ((1 : Int32), M13)) NF (nI 0) M else some ((0 : Int32), M)) = _
  rw [if_pos rfl, isOut_L ho hs hb (bs.length + 1) 0 NF (by omega) (by show bs.length + 1 + 1 ≤ 5000; omega)]
