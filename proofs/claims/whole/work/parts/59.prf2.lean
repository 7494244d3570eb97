/-! the reference's box: what it counts -/
section PR2
variable {M : Mm} {S T U A m0 p0 : Nat} {g : GF} {P : PF}
theorem rf_pinsI {m s a0 : Nat} (h : RX (M.1 NW) g P) (h3 : g 3 = nI T) (hT : T ≤ 12) (hm : m < 3) (hs : s < 64) {K : Int32 → Int32 → Option Int32} : ∀ (d t n : Nat), t + d = T → d < n → fX10_pins_L17 M (nI m) (nI s) K n (nI (a0 + mCt (fun t => P m t s) t)) (nI t) = K (nI (a0 + mCt (fun t => P m t s) T)) (nI T) := by
  have e3 : M.1 NW 3 = nI T := (h.1 3 (by decide)).trans h3
  intro d
  induction d with
  | zero =>
    intro t n ht hn
    have e : t = T := by omega
    subst e
    obtain ⟨n, rfl⟩ : ∃ q, n = q + 1 := ⟨n - 1, by omega⟩
    rw [fX10_pins_L17, e3, if_pos (nI_le (Nat.le_refl _) (by omega))]
  | succ d ih =>
    intro t n ht hn
    obtain ⟨n, rfl⟩ : ∃ q, n = q + 1 := ⟨n - 1, by omega⟩
    have i1 := ih (t + 1) n (by omega) (by omega)
    rw [mCt] at i1
    rw [fX10_pins_L17, e3, if_neg (nI_ge (by omega) (by omega)), rf_has h hm (by omega) hs, Option.bind_some, ← nI_succ]
    cases hp : P m t s with
    | false => rw [if_pos (bI_0.mpr rfl)]; rw [hp] at i1; exact i1
    | true => rw [if_neg (by decide), ← nI_succ]; rw [hp] at i1; exact i1
theorem rf_pinsO {m : Nat} (h : RX (M.1 NW) g P) (h0 : g 0 = nI S) (hS : S ≤ 64) (h3 : g 3 = nI T) (hT : T ≤ 12) (hm : m < 3) {K : Int32 → Int32 → Option Int32} : ∀ (d s n : Nat), s + d = S → d < n → fX10_pins_L4 M (nI m) K n (nI (mSm (fun s => mCt (fun t => P m t s) T) s)) (nI s) = K (nI (mSm (fun s => mCt (fun t => P m t s) T) S)) (nI S) := by
  have e0 : M.1 NW 0 = nI S := (h.1 0 (by decide)).trans h0
  intro d
  induction d with
  | zero =>
    intro s n hs hn
    have e : s = S := by omega
    subst e
    obtain ⟨n, rfl⟩ : ∃ q, n = q + 1 := ⟨n - 1, by omega⟩
    rw [fX10_pins_L4, e0, if_pos (nI_le (Nat.le_refl _) (by omega))]
  | succ d ih =>
    intro s n hs hn
    obtain ⟨n, rfl⟩ : ∃ q, n = q + 1 := ⟨n - 1, by omega⟩
    rw [fX10_pins_L4, e0, if_neg (nI_ge (by omega) (by omega))]
    refine (rf_pinsI (a0 := mSm (fun s => mCt (fun t => P m t s) T) s) h h3 hT hm (show s < 64 by omega) (K := fun w6 _ => fX10_pins_L4 M (nI m) K n w6 (nI s + 1)) T 0 NF (by omega) (by unfold NF; omega)).trans ?_
    rw [← nI_succ]
    exact ih (s + 1) n (by omega) (by omega)
theorem rf_pins' {m : Nat} (h : RX (M.1 NW) g P) (h0 : g 0 = nI S) (hS : S ≤ 64) (h3 : g 3 = nI T) (hT : T ≤ 12) (hm : m < 3) : fX10_pins M (nI m) = some (nI (pnS P S T m)) := by
  have := rf_pinsO h h0 hS h3 hT hm (K := fun w8 _ => some w8) S 0 NF (by omega) (by unfold NF; omega)
  rw [← mCt_swap (fun t s => P m t s) S T] at this
  exact this
theorem rf_pins {m : Nat} (h : RX (M.1 NW) g P) (hI : Iv g P S T U A m0 p0) (hm : m < 3) : fX10_pins M (nI m) = some (nI (pnS P S T m)) :=
  rf_pins' h hI.1 hI.2.2.2.2.2.2.1.2 hI.2.2.2.1 hI.2.2.2.2.2.2.2.1.2 hm
theorem rf_farL {m t s : Nat} (h : RX (M.1 NW) g P) (h0 : g 0 = nI S) (hS : S ≤ 64) (hm : m < 3) (ht : t < 12) (hs : s < S) : ∀ (d v n : Nat), v + d = S → d < n → fX10_far_L3 M (nI m) (nI t) (nI s) (fun w => some w) n (nI v) = some (nI (dsL (P m t) S s d v)) := by
  have e0 : M.1 NW 0 = nI S := (h.1 0 (by decide)).trans h0
  intro d
  induction d with
  | zero =>
    intro v n hv hn
    have e : v = S := by omega
    subst e
    obtain ⟨n, rfl⟩ : ∃ q, n = q + 1 := ⟨n - 1, by omega⟩
    rw [fX10_far_L3, e0, if_pos (nI_le (Nat.le_refl _) (by omega))]
    rfl
  | succ d ih =>
    intro v n hv hn
    obtain ⟨n, rfl⟩ : ∃ q, n = q + 1 := ⟨n - 1, by omega⟩
    have i1 := ih (v + 1) n (by omega) (by omega)
    rw [fX10_far_L3, e0, if_neg (nI_ge (by omega) (by omega)), if_neg (nI_ne0 (by omega) (by omega)), nI_add, pk_sub (by omega), pk_rem (by omega) (by omega) (by omega), rf_has h hm (by omega) (Nat.lt_of_lt_of_le (Nat.mod_lt _ (by omega)) hS), Option.bind_some, dsL, ← nI_succ]
    cases hp : P m t ((s + S - v) % S) with
    | false => rw [if_pos (bI_0.mpr rfl), if_neg (by decide)]; exact i1
    | true => rw [if_neg (by decide), if_pos rfl]
theorem rf_far {m t s : Nat} (h : RX (M.1 NW) g P) (hI : Iv g P S T U A m0 p0) (hm : m < 3) (ht : t < 12) (hs : s < S) : fX10_far M (nI m) (nI t) (nI s) = some (nI (dsS P S m t s)) := by
  have hS := hI.2.2.2.2.2.2.1
  exact rf_farL h hI.1 hS.2 hm ht hs (S - 1) 1 NF (by omega) (by unfold NF; omega)
theorem rf_close {m t s : Nat} (h : RX (M.1 NW) g P) (hI : Iv g P S T U A m0 p0) (hm : m < 3) (ht : t < T) (hs : s < S) : fX10_isClose M (nI m) (nI t) (nI s) = some (bI (clS g P S m t s)) := by
  have hS := hI.2.2.2.2.2.2.1
  have hT := hI.2.2.2.2.2.2.2.1
  rw [fX10_isClose, rf_has h hm (by omega) (by omega), Option.bind_some, clS]
  cases hp : P m t s with
  | false => rw [if_pos (bI_0.mpr rfl)]; rfl
  | true =>
    rw [if_neg (by decide), rf_far h hI hm (by omega) hs, Option.bind_some, rf_of (p := 2) (q := 2) h (by omega) (by decide) rfl, Option.bind_some]
    by_cases c : g (16 + 6 * t + 2) ≤ nI (dsS P S m t s)
    · rw [if_pos c, decide_eq_true c]; rfl
    · rw [if_neg c, decide_eq_false c]; rfl
theorem rf_closeI {m s a0 : Nat} (h : RX (M.1 NW) g P) (hI : Iv g P S T U A m0 p0) (hm : m < 3) (hs : s < S) {K : Int32 → Int32 → Option (Int32 × Mm)} : ∀ (d t n : Nat), t + d = T → d < n → fX10_closePins_L27 M (nI m) (nI s) K n (nI (a0 + mCt (fun t => clS g P S m t s) t)) (nI t) = K (nI (a0 + mCt (fun t => clS g P S m t s) T)) (nI T) := by
  have hT := hI.2.2.2.2.2.2.2.1
  have e3 : M.1 NW 3 = nI T := (h.1 3 (by decide)).trans hI.2.2.2.1
  intro d
  induction d with
  | zero =>
    intro t n ht hn
    have e : t = T := by omega
    subst e
    obtain ⟨n, rfl⟩ : ∃ q, n = q + 1 := ⟨n - 1, by omega⟩
    rw [fX10_closePins_L27, e3, if_pos (nI_le (Nat.le_refl _) (by omega))]
  | succ d ih =>
    intro t n ht hn
    obtain ⟨n, rfl⟩ : ∃ q, n = q + 1 := ⟨n - 1, by omega⟩
    have i1 := ih (t + 1) n (by omega) (by omega)
    rw [mCt] at i1
    rw [fX10_closePins_L27, e3, if_neg (nI_ge (by omega) (by omega)), rf_close h hI hm (by omega) hs, Option.bind_some, ← nI_succ]
    cases hp : clS g P S m t s with
    | false => rw [if_pos (bI_0.mpr rfl)]; rw [hp] at i1; exact i1
    | true => rw [if_neg (by decide), ← nI_succ]; rw [hp] at i1; exact i1
theorem rf_closeO {m : Nat} (h : RX (M.1 NW) g P) (hI : Iv g P S T U A m0 p0) (hm : m < 3) {K : Int32 → Int32 → Option (Int32 × Mm)} : ∀ (d s n : Nat), s + d = S → d < n → fX10_closePins_L14 M (nI m) K n (nI (mSm (fun s => mCt (fun t => clS g P S m t s) T) s)) (nI s) = K (nI (mSm (fun t => mCt (clS g P S m t) S) T)) (nI S) := by
  have hS := hI.2.2.2.2.2.2.1
  have hT := hI.2.2.2.2.2.2.2.1
  have e0 : M.1 NW 0 = nI S := (h.1 0 (by decide)).trans hI.1
  intro d
  induction d with
  | zero =>
    intro s n hs hn
    have e : s = S := by omega
    subst e
    obtain ⟨n, rfl⟩ : ∃ q, n = q + 1 := ⟨n - 1, by omega⟩
    rw [fX10_closePins_L14, e0, if_pos (nI_le (Nat.le_refl _) (by omega)), ← mCt_swap (fun t s' => clS g P s m t s') s T]
  | succ d ih =>
    intro s n hs hn
    obtain ⟨n, rfl⟩ : ∃ q, n = q + 1 := ⟨n - 1, by omega⟩
    rw [fX10_closePins_L14, e0, if_neg (nI_ge (by omega) (by omega))]
    refine (rf_closeI (a0 := mSm (fun s => mCt (fun t => clS g P S m t s) T) s) h hI hm (show s < S by omega) (K := fun w6 _ => fX10_closePins_L14 M (nI m) K n w6 (nI s + 1)) T 0 NF (by omega) (by unfold NF; omega)).trans ?_
    rw [← nI_succ]
    exact ih (s + 1) n (by omega) (by omega)
theorem rf_restL {m : Nat} (h : RX (M.1 NW) g P) (hI : Iv g P S T U A m0 p0) (hm : m < 3) {K : Int32 → Int32 → Int32 → Option (Int32 × Mm)} : ∀ (d v n : Nat), v + d = 2 * S → d < n → fX10_longestRest_L17 M (nI m) K n (lrL (zS P m) S v).1 (lrL (zS P m) S v).2 (nI v) = K (lrL (zS P m) S (2 * S)).1 (lrL (zS P m) S (2 * S)).2 (nI (2 * S)) := by
  have hS := hI.2.2.2.2.2.2.1
  have hT := hI.2.2.2.2.2.2.2.1
  have e0 : M.1 NW 0 = nI S := (h.1 0 (by decide)).trans hI.1
  have e2 : (2 : Int32) * nI S = nI (2 * S) := pk_mul 2 S
  intro d
  induction d with
  | zero =>
    intro v n hv hn
    have e : v = 2 * S := by omega
    subst e
    obtain ⟨n, rfl⟩ : ∃ q, n = q + 1 := ⟨n - 1, by omega⟩
    rw [fX10_longestRest_L17, e0, e2, if_pos (nI_le (Nat.le_refl _) (by omega))]
  | succ d ih =>
    intro v n hv hn
    obtain ⟨n, rfl⟩ : ∃ q, n = q + 1 := ⟨n - 1, by omega⟩
    have i1 := ih (v + 1) n (by omega) (by omega)
    rw [lrL] at i1
    unfold zS at i1
    rw [fX10_longestRest_L17, e0, e2, if_neg (nI_ge (by omega) (by omega)), if_neg (nI_ne0 (by omega) (by omega)), pk_rem (by omega) (by omega) (by omega), rf_set hm (Nat.lt_of_lt_of_le (Nat.mod_lt _ (by omega)) hS.2), Option.bind_some, rf_chord h hI.2.2.2.2.2.2.2.2.2.2.2.2.2 hT.2 hm (Nat.lt_of_lt_of_le (Nat.mod_lt _ (by omega)) hS.2), ← nI_succ]
    by_cases c : chS P m (v % S) 12 = 0
    · rw [if_pos c]
      rw [decide_eq_true c, if_pos rfl] at i1
      exact i1
    · rw [if_neg c]
      rw [decide_eq_false c, if_neg (by decide)] at i1
      exact i1
theorem rf_brL (h : RX (M.1 NW) g P) (h3 : g 3 = nI T) (hT : T ≤ 12) {K : Int32 → Int32 → Option (Int32 × Mm)} : ∀ (d t n : Nat), t + d = T → d < n → fX10_brokenTeeth_L9 M K n (nI (mCt (brS g) t)) (nI t) = K (nI (mCt (brS g) T)) (nI T) := by
  have e3 : M.1 NW 3 = nI T := (h.1 3 (by decide)).trans h3
  intro d
  induction d with
  | zero =>
    intro t n ht hn
    have e : t = T := by omega
    subst e
    obtain ⟨n, rfl⟩ : ∃ q, n = q + 1 := ⟨n - 1, by omega⟩
    rw [fX10_brokenTeeth_L9, e3, if_pos (nI_le (Nat.le_refl _) (by omega))]
  | succ d ih =>
    intro t n ht hn
    obtain ⟨n, rfl⟩ : ∃ q, n = q + 1 := ⟨n - 1, by omega⟩
    have i1 := ih (t + 1) n (by omega) (by omega)
    rw [mCt] at i1
    rw [fX10_brokenTeeth_L9, e3, if_neg (nI_ge (by omega) (by omega)), rf_bad h (by omega), Option.bind_some, ← nI_succ]
    cases hp : brS g t with
    | false => rw [if_pos (bI_0.mpr rfl)]; rw [hp] at i1; exact i1
    | true => rw [if_neg (by decide), ← nI_succ]; rw [hp] at i1; exact i1
theorem rf_wearL (h : RX (M.1 NW) g P) (h3 : g 3 = nI T) (hT : T ≤ 12) {a : Int32} {K : Int32 → Int32 → Option (Int32 × Mm)} : ∀ (d t n : Nat), t + d = T → d < n → fX10_contradictions_L43 M K n (a + sI (fun t => g (16 + 6 * t + 4)) t) (nI t) = K (a + sI (fun t => g (16 + 6 * t + 4)) T) (nI T) := by
  have e3 : M.1 NW 3 = nI T := (h.1 3 (by decide)).trans h3
  intro d
  induction d with
  | zero =>
    intro t n ht hn
    have e : t = T := by omega
    subst e
    obtain ⟨n, rfl⟩ : ∃ q, n = q + 1 := ⟨n - 1, by omega⟩
    rw [fX10_contradictions_L43, e3, if_pos (nI_le (Nat.le_refl _) (by omega))]
  | succ d ih =>
    intro t n ht hn
    obtain ⟨n, rfl⟩ : ∃ q, n = q + 1 := ⟨n - 1, by omega⟩
    rw [fX10_contradictions_L43, e3, if_neg (nI_ge (by omega) (by omega)), rf_of (p := 4) (q := 4) h (by omega) (by decide) rfl, Option.bind_some, Int32.add_assoc, ← nI_succ]
    exact ih (t + 1) n (by omega) (by omega)
/-! the mean pitch's sum -/
theorem sI_0 : ∀ n, sI (fun _ => 0) n = 0
  | 0 => rfl
  | n + 1 => by rw [sI, sI_0 n]; rfl
theorem sI_add (f g : Nat → Int32) : ∀ n, sI (fun k => f k + g k) n = sI f n + sI g n
  | 0 => rfl
  | n + 1 => by
    rw [sI, sI, sI, sI_add f g n]
    rw [Int32.add_assoc, Int32.add_assoc, ← Int32.add_assoc (sI g n) (f n) (g n), Int32.add_comm (sI g n) (f n), Int32.add_assoc (f n)]
theorem sI_swap (f : Nat → Nat → Int32) (b : Nat) : ∀ a, sI (fun i => sI (fun j => f i j) b) a = sI (fun j => sI (fun i => f i j) a) b
  | 0 => by
    have : (fun j => sI (fun i => f i j) 0) = fun _ => 0 := rfl
    rw [this, sI_0]; rfl
  | a + 1 => by
    rw [sI, sI_swap f b a, ← sI_add]
    rfl
theorem sI_ct (p : Nat → Bool) (c : Int32) : ∀ n, sI (fun s => if p s = true then c else 0) n = nI (mCt p n) * c
  | 0 => by rw [sI, mCt, nI_0, Int32.zero_mul]
  | n + 1 => by
    rw [sI, mCt, sI_ct p c n, ← nI_add, Int32.add_mul]
    cases p n with
    | false => simp [nI_0]
    | true =>
      have : nI 1 * c = c := by rw [show nI 1 = 1 from rfl, Int32.one_mul]
      simp [this]
theorem sI_cong {p q : Nat → Int32} : ∀ {n : Nat}, (∀ k, k < n → p k = q k) → sI p n = sI q n
  | 0, _ => rfl
  | n + 1, h => by rw [sI, sI, sI_cong (fun k hk => h k (by omega)), h n (by omega)]
theorem rf_mpI {m s : Nat} {a : Int32} (h : RX (M.1 NW) g P) (h3 : g 3 = nI T) (hT : T ≤ 12) (hm : m < 3) (hs : s < 64) {K : Int32 → Int32 → Option (UInt64 × Mm)} : ∀ (d t n : Nat), t + d = T → d < n → fX10_meanPitch_L27 M (nI m) (nI s) K n (a + sI (fun t => if P m t s = true then ptS g t else 0) t) (nI t) = K (a + sI (fun t => if P m t s = true then ptS g t else 0) T) (nI T) := by
  have e3 : M.1 NW 3 = nI T := (h.1 3 (by decide)).trans h3
  intro d
  induction d with
  | zero =>
    intro t n ht hn
    have e : t = T := by omega
    subst e
    obtain ⟨n, rfl⟩ : ∃ q, n = q + 1 := ⟨n - 1, by omega⟩
    rw [fX10_meanPitch_L27, e3, if_pos (nI_le (Nat.le_refl _) (by omega))]
  | succ d ih =>
    intro t n ht hn
    obtain ⟨n, rfl⟩ : ∃ q, n = q + 1 := ⟨n - 1, by omega⟩
    have i1 := ih (t + 1) n (by omega) (by omega)
    rw [sI] at i1
    rw [fX10_meanPitch_L27, e3, if_neg (nI_ge (by omega) (by omega)), rf_has h hm (by omega) hs, Option.bind_some, rf_of (p := 0) (q := 0) h (by omega) (by decide) rfl, Option.bind_some, rf_of (p := 1) (q := 1) h (by omega) (by decide) rfl, Option.bind_some, ← nI_succ]
    cases hp : P m t s with
    | false =>
      rw [if_pos (bI_0.mpr rfl)]
      rw [hp, if_neg (by decide), Int32.add_zero] at i1
      exact i1
    | true =>
      rw [if_neg (by decide), Int32.add_assoc]
      rw [hp, if_pos rfl] at i1
      exact i1
theorem rf_mpO {m : Nat} (h : RX (M.1 NW) g P) (hI : Iv g P S T U A m0 p0) (hm : m < 3) {K : Int32 → Int32 → Option (UInt64 × Mm)} : ∀ (d s n : Nat), s + d = S → d < n → fX10_meanPitch_L14 M (nI m) K n (sI (fun s => sI (fun t => if P m t s = true then ptS g t else 0) T) s) (nI s) = K (sI (fun t => nI (mCt (fun s => P m t s) S) * ptS g t) T) (nI S) := by
  have hS := hI.2.2.2.2.2.2.1
  have hT := hI.2.2.2.2.2.2.2.1
  have e0 : M.1 NW 0 = nI S := (h.1 0 (by decide)).trans hI.1
  intro d
  induction d with
  | zero =>
    intro s n hs hn
    have e : s = S := by omega
    subst e
    obtain ⟨n, rfl⟩ : ∃ q, n = q + 1 := ⟨n - 1, by omega⟩
    rw [fX10_meanPitch_L14, e0, if_pos (nI_le (Nat.le_refl _) (by omega)), sI_swap (fun s t => if P m t s = true then ptS g t else 0) T s]
    rw [sI_cong (p := fun t => sI (fun s => if P m t s = true then ptS g t else 0) s) (fun t _ => sI_ct (fun s => P m t s) (ptS g t) s)]
  | succ d ih =>
    intro s n hs hn
    obtain ⟨n, rfl⟩ : ∃ q, n = q + 1 := ⟨n - 1, by omega⟩
    rw [fX10_meanPitch_L14, e0, if_neg (nI_ge (by omega) (by omega))]
    have i2 := rf_mpI (a := sI (fun s => sI (fun t => if P m t s = true then ptS g t else 0) T) s) h hI.2.2.2.1 hT.2 hm (show s < 64 by omega) (K := fun w13 _ => fX10_meanPitch_L14 M (nI m) K n w13 (nI s + 1)) T 0 NF (by omega) (by unfold NF; omega)
    rw [show sI (fun t => if P m t s = true then ptS g t else 0) 0 = 0 from rfl, Int32.add_zero] at i2
    refine i2.trans ?_
    rw [← nI_succ]
    exact ih (s + 1) n (by omega) (by omega)
/-! whether a tune's pins fit -/
theorem rf_fitI {m s : Nat} {by_ : Int32} {ok : Nat → Bool} (h : RX (M.1 NW) g P) (h3 : g 3 = nI T) (hT : T ≤ 12) (hm : m < 3) (hs : s < 64) (hok : ∀ t, t < T → (fX10_isTooth M (nI t + by_) = 0 ↔ ok t = false)) {K : Int32 → Option Int32} : ∀ (d t n : Nat), t + d = T → d < n →
    ((∀ t', t ≤ t' → t' < T → P m t' s = true → ok t' = true) → fX10_fits_L15 M (nI m) by_ (nI s) K n (nI t) = K (nI T)) ∧
    (¬ (∀ t', t ≤ t' → t' < T → P m t' s = true → ok t' = true) → fX10_fits_L15 M (nI m) by_ (nI s) K n (nI t) = some 0) := by
  have e3 : M.1 NW 3 = nI T := (h.1 3 (by decide)).trans h3
  intro d
  induction d with
  | zero =>
    intro t n ht hn
    have e : t = T := by omega
    subst e
    obtain ⟨n, rfl⟩ : ∃ q, n = q + 1 := ⟨n - 1, by omega⟩
    exact ⟨fun _ => by rw [fX10_fits_L15, e3, if_pos (nI_le (Nat.le_refl _) (by omega))], fun hc => absurd (fun t' h1 h2 => by omega) hc⟩
  | succ d ih =>
    intro t n ht hn
    obtain ⟨n, rfl⟩ : ∃ q, n = q + 1 := ⟨n - 1, by omega⟩
    obtain ⟨i1, i2⟩ := ih (t + 1) n (by omega) (by omega)
    rw [fX10_fits_L15, e3, if_neg (nI_ge (by omega) (by omega)), rf_has h hm (by omega) hs, Option.bind_some, ← nI_succ]
    have hk := hok t (by omega)
    cases hp : P m t s with
    | false =>
      rw [if_pos (bI_0.mpr rfl)]
      refine ⟨fun hh => i1 fun t' h1 h2 => hh t' (by omega) h2, fun hh => i2 fun h9 => hh fun t' h1 h2 hp2 => ?_⟩
      by_cases e : t' = t
      · subst e; rw [hp] at hp2; cases hp2
      · exact h9 t' (by omega) h2 hp2
    | true =>
      rw [if_neg (by decide)]
      cases hq : ok t with
      | false =>
        rw [if_pos (hk.mpr hq)]
        exact ⟨fun hh => absurd (hh t (Nat.le_refl _) (by omega) hp) (by rw [hq]; decide), fun _ => rfl⟩
      | true =>
        rw [if_neg (fun c => by rw [hk.mp c] at hq; cases hq)]
        refine ⟨fun hh => i1 fun t' h1 h2 => hh t' (by omega) h2, fun hh => i2 fun h9 => hh fun t' h1 h2 hp2 => ?_⟩
        by_cases e : t' = t
        · subst e; exact hq
        · exact h9 t' (by omega) h2 hp2
theorem rf_fitO {m : Nat} {by_ : Int32} {ok : Nat → Bool} (h : RX (M.1 NW) g P) (h0 : g 0 = nI S) (hS : S ≤ 64) (h3 : g 3 = nI T) (hT : T ≤ 12) (hm : m < 3) (hok : ∀ t, t < T → (fX10_isTooth M (nI t + by_) = 0 ↔ ok t = false)) {K : Int32 → Option Int32} : ∀ (d s n : Nat), s + d = S → d < n →
    ((∀ s', s ≤ s' → s' < S → ∀ t', t' < T → P m t' s' = true → ok t' = true) → fX10_fits_L2 M (nI m) by_ K n (nI s) = K (nI S)) ∧
    (¬ (∀ s', s ≤ s' → s' < S → ∀ t', t' < T → P m t' s' = true → ok t' = true) → fX10_fits_L2 M (nI m) by_ K n (nI s) = some 0) := by
  have e0 : M.1 NW 0 = nI S := (h.1 0 (by decide)).trans h0
  intro d
  induction d with
  | zero =>
    intro s n hs hn
    have e : s = S := by omega
    subst e
    obtain ⟨n, rfl⟩ : ∃ q, n = q + 1 := ⟨n - 1, by omega⟩
    exact ⟨fun _ => by rw [fX10_fits_L2, e0, if_pos (nI_le (Nat.le_refl _) (by omega))], fun hc => absurd (fun t' h1 h2 => by omega) hc⟩
  | succ d ih =>
    intro s n hs hn
    obtain ⟨n, rfl⟩ : ∃ q, n = q + 1 := ⟨n - 1, by omega⟩
    obtain ⟨i1, i2⟩ := ih (s + 1) n (by omega) (by omega)
    obtain ⟨j1, j2⟩ := rf_fitI (s := s) h h3 hT hm (by omega) hok (K := fun _ => fX10_fits_L2 M (nI m) by_ K n (nI s + 1)) T 0 NF (by omega) (by unfold NF; omega)
    rw [fX10_fits_L2, e0, if_neg (nI_ge (by omega) (by omega))]
    refine ⟨fun hh => (j1 fun t' _ h2 hp => hh s (Nat.le_refl _) (by omega) t' h2 hp).trans ?_, fun hh => ?_⟩
    · rw [← nI_succ]
      exact i1 fun s' h1 h2 => hh s' (by omega) h2
    · by_cases c : ∀ t', 0 ≤ t' → t' < T → P m t' s = true → ok t' = true
      · refine (j1 c).trans ?_
        rw [← nI_succ]
        refine i2 fun h9 => hh fun s' h1 h2 t' h3 hp => ?_
        by_cases e : s' = s
        · subst e; exact c t' (Nat.zero_le _) h3 hp
        · exact h9 s' (by omega) h2 t' h3 hp
      · exact j2 c
end PR2
