/-! the class's box: distances, close pins, rests, sums, faults -/
def dsL (q : Nat → Bool) (S s : Nat) : Nat → Nat → Nat
  | 0, n => n
  | d + 1, n => if q ((s + S - n) % S) = true then n else dsL q S s d (n + 1)
def dsS (P : PF) (S m t s : Nat) : Nat := dsL (P m t) S s (S - 1) 1
theorem dsL_le {q : Nat → Bool} {S s : Nat} : ∀ d n, dsL q S s d n ≤ n + d
  | 0, n => Nat.le_refl _
  | d + 1, n => by
    rw [dsL]
    split
    · omega
    · have := dsL_le (q := q) (S := S) (s := s) d (n + 1)
      omega
theorem i32_sac (a b c : Int32) : a - b + c = a + c - b := by
  rw [Int32.sub_eq_add_neg, Int32.sub_eq_add_neg, Int32.add_assoc, Int32.add_comm (-b) c, ← Int32.add_assoc]
section PE
variable {M : Mm} {S T U A m0 p0 i : Nat} {g : GF} {P : PF}
theorem cl_backL {m t s : Nat} (h : BX M T i g P) (h0 : g 0 = nI S) (hS : S ≤ 64) (hm : m < 3) (ht : t < 12) (hs : s < S) : ∀ (d v n : Nat), v + d = S → d < n → 1 ≤ v → fX3_stepsBack_L3 M i (nI m) (nI t) (nI s) (fun _ => some (M.1 (10, i, 0) 1)) n (nI v) = some (nI (dsL (P m t) S s d v)) := by
  have e0 : M.1 (10, i, 0) 1 = nI S := (h.1 0 (vk_s rfl)).trans h0
  intro d
  induction d with
  | zero =>
    intro v n hv hn h1
    have e : v = S := by omega
    subst e
    obtain ⟨n, rfl⟩ : ∃ q, n = q + 1 := ⟨n - 1, by omega⟩
    rw [fX3_stepsBack_L3, e0, if_pos (nI_le (Nat.le_refl _) (by omega))]
    rfl
  | succ d ih =>
    intro v n hv hn h1
    obtain ⟨n, rfl⟩ : ∃ q, n = q + 1 := ⟨n - 1, by omega⟩
    have i1 := ih (v + 1) n (by omega) (by omega) (by omega)
    rw [e0] at i1
    rw [fX3_stepsBack_L3, e0, if_neg (nI_ge (by omega) (by omega)), ← nI_succ, dsL]
    by_cases c : s < v
    · rw [if_pos (nI_lt c (by omega)), i32_sac, nI_add, pk_sub (by omega), cl_hasPin h hm ht (by omega), Option.bind_some, Nat.mod_eq_of_lt (show s + S - v < S by omega)]
      cases hp : P m t (s + S - v) with
      | false => rw [if_pos (bI_0.mpr rfl), if_neg (by decide)]; exact i1
      | true => rw [if_neg (by decide), if_pos rfl]
    · rw [if_neg (nI_nlt (by omega) (by omega)), pk_sub (by omega), cl_hasPin h hm ht (by omega), Option.bind_some, show s + S - v = (s - v) + S by omega, Nat.add_mod_right, Nat.mod_eq_of_lt (show s - v < S by omega)]
      cases hp : P m t (s - v) with
      | false => rw [if_pos (bI_0.mpr rfl), if_neg (by decide)]; exact i1
      | true => rw [if_neg (by decide), if_pos rfl]
theorem cl_back {m t s : Nat} (h : BX M T i g P) (hI : Iv g P S T U A m0 p0) (hm : m < 3) (ht : t < 12) (hs : s < S) : fX3_stepsBack M i (nI m) (nI t) (nI s) = some (nI (dsS P S m t s)) := by
  have hS := hI.2.2.2.2.2.2.1
  exact cl_backL h hI.1 hS.2 hm ht hs (S - 1) 1 NF (by omega) (by unfold NF; omega) (Nat.le_refl _)
def clS (g : GF) (P : PF) (S m t s : Nat) : Bool := P m t s && !decide (g (16 + 6 * t + 2) ≤ nI (dsS P S m t s))
theorem cl_close {m t s : Nat} (h : BX M T i g P) (hI : Iv g P S T U A m0 p0) (hm : m < 3) (ht : t < T) (hs : s < S) : fX0_closePinAt M i (nI m) (nI t) (nI s) = some (bI (clS g P S m t s)) := by
  have hS := hI.2.2.2.2.2.2.1
  have hT := hI.2.2.2.2.2.2.2.1
  rw [fX0_closePinAt, cl_hasPin h hm (by omega) (by omega), Option.bind_some, clS]
  cases hp : P m t s with
  | false => rw [if_pos (bI_0.mpr rfl)]; rfl
  | true =>
    rw [if_neg (by decide), cl_back h hI hm (by omega) hs, Option.bind_some, if_neg (nI_in (by omega) (by decide)), nI_clamp (by omega), bx_t h ht (by decide)]
    by_cases c : g (16 + 6 * t + 2) ≤ nI (dsS P S m t s)
    · rw [if_pos c, decide_eq_true c]; rfl
    · rw [if_neg c, decide_eq_false c]; rfl
theorem cl_closeI {m t a0 : Nat} (h : BX M T i g P) (hI : Iv g P S T U A m0 p0) (hm : m < 3) (ht : t < T) {K : Int32 → Int32 → Option Int32} : ∀ (d s n : Nat), s + d = S → d < n → fX0_closePinsOf_L21 M i (nI m) (nI t) K n (nI (a0 + mCt (clS g P S m t) s)) (nI s) = K (nI (a0 + mCt (clS g P S m t) S)) (nI S) := by
  have hS := hI.2.2.2.2.2.2.1
  have e0 : M.1 (10, i, 0) 1 = nI S := (h.1 0 (vk_s rfl)).trans hI.1
  intro d
  induction d with
  | zero =>
    intro s n hs hn
    have e : s = S := by omega
    subst e
    obtain ⟨n, rfl⟩ : ∃ q, n = q + 1 := ⟨n - 1, by omega⟩
    rw [fX0_closePinsOf_L21, e0, if_pos (nI_le (Nat.le_refl _) (by omega))]
  | succ d ih =>
    intro s n hs hn
    obtain ⟨n, rfl⟩ : ∃ q, n = q + 1 := ⟨n - 1, by omega⟩
    have i1 := ih (s + 1) n (by omega) (by omega)
    rw [mCt] at i1
    rw [fX0_closePinsOf_L21, e0, if_neg (nI_ge (by omega) (by omega)), cl_close h hI hm ht (by omega), Option.bind_some, ← nI_succ]
    cases hp : clS g P S m t s with
    | false => rw [if_pos (bI_0.mpr rfl)]; rw [hp] at i1; exact i1
    | true => rw [if_neg (by decide), ← nI_succ]; rw [hp] at i1; exact i1
theorem cl_closeO {m : Nat} (h : BX M T i g P) (hI : Iv g P S T U A m0 p0) (hm : m < 3) {K : Int32 → Int32 → Option Int32} : ∀ (d t n : Nat), t + d = T → d < n → fX0_closePinsOf_L4 M i (nI m) K n (nI (mSm (fun t => mCt (clS g P S m t) S) t)) (nI t) = K (nI (mSm (fun t => mCt (clS g P S m t) S) T)) (nI T) := by
  have hS := hI.2.2.2.2.2.2.1
  have hT := hI.2.2.2.2.2.2.2.1
  have e3 : M.1 (9, i, 0) 2 = nI T := (h.1 3 (vk_s rfl)).trans hI.2.2.2.1
  intro d
  induction d with
  | zero =>
    intro t n ht hn
    have e : t = T := by omega
    subst e
    obtain ⟨n, rfl⟩ : ∃ q, n = q + 1 := ⟨n - 1, by omega⟩
    rw [fX0_closePinsOf_L4, e3, if_pos (nI_le (Nat.le_refl _) (by omega))]
  | succ d ih =>
    intro t n ht hn
    obtain ⟨n, rfl⟩ : ∃ q, n = q + 1 := ⟨n - 1, by omega⟩
    have i1 := ih (t + 1) n (by omega) (by omega)
    rw [fX0_closePinsOf_L4, e3, if_neg (nI_ge (by omega) (by omega)), if_neg (nI_g12 (by omega))]
    have i2 := cl_closeI (a0 := mSm (fun t => mCt (clS g P S m t) S) t) h hI hm (show t < T by omega) (K := fun w6 _ => fX0_closePinsOf_L4 M i (nI m) K n w6 (nI t + 1)) S 0 NF (by omega) (by unfold NF; omega)
    refine i2.trans ?_
    rw [← nI_succ]
    exact i1
theorem cl_closePins {m : Nat} (h : BX M T i g P) (hI : Iv g P S T U A m0 p0) (hm : m < 3) : fX0_closePinsOf M i (nI m) = some (nI (mSm (fun t => mCt (clS g P S m t) S) T)) := by
  have hT := hI.2.2.2.2.2.2.2.1
  exact cl_closeO h hI hm (K := fun w8 _ => some w8) T 0 NF (by omega) (by unfold NF; omega)
/-! rests -/
def mxI (x y : Int32) : Int32 := if x < y then y else x
def lrL (z : Nat → Bool) (S : Nat) : Nat → Int32 × Int32
  | 0 => (0, 0)
  | n + 1 => if z (n % S) = true then (mxI (lrL z S n).1 ((lrL z S n).2 + 1), (lrL z S n).2 + 1) else (mxI (lrL z S n).1 0, 0)
def zS (P : PF) (m s : Nat) : Bool := decide (chS P m s 12 = 0)
theorem cl_restL {m : Nat} (h : BX M T i g P) (h0 : g 0 = nI S) (hS : 0 < S ∧ S ≤ 64) (hm : m < 3) {K : Int32 → Int32 → Int32 → Option Int32} : ∀ (d v n : Nat), v + d = 2 * S → d < n → fX3_longestRestOf_L7 M i (nI m) K n (lrL (zS P m) S v).1 (lrL (zS P m) S v).2 (nI v) = K (lrL (zS P m) S (2 * S)).1 (lrL (zS P m) S (2 * S)).2 (nI (2 * S)) := by
  have e0 : M.1 (10, i, 0) 1 = nI S := (h.1 0 (vk_s rfl)).trans h0
  have e2 : (2 : Int32) * nI S = nI (2 * S) := pk_mul 2 S
  intro d
  induction d with
  | zero =>
    intro v n hv hn
    have e : v = 2 * S := by omega
    subst e
    obtain ⟨n, rfl⟩ : ∃ q, n = q + 1 := ⟨n - 1, by omega⟩
    rw [fX3_longestRestOf_L7, e0, e2, if_pos (nI_le (Nat.le_refl _) (by omega))]
  | succ d ih =>
    intro v n hv hn
    obtain ⟨n, rfl⟩ : ∃ q, n = q + 1 := ⟨n - 1, by omega⟩
    have i1 := ih (v + 1) n (by omega) (by omega)
    rw [lrL] at i1
    have tl : ∀ x : Int32, x = chS P m (v % S) 12 → (if x = 0 then fX3_longestRestOf_L7 M i (nI m) K n (fJ9_max_7cf53 M (lrL (zS P m) S v).1 ((lrL (zS P m) S v).2 + 1)) ((lrL (zS P m) S v).2 + 1) (nI v + 1) else fX3_longestRestOf_L7 M i (nI m) K n (fJ9_max_7cf53 M (lrL (zS P m) S v).1 0) 0 (nI v + 1)) = K (lrL (zS P m) S (2 * S)).1 (lrL (zS P m) S (2 * S)).2 (nI (2 * S)) := by
      intro x hx
      subst hx
      rw [← nI_succ]
      unfold zS at i1
      by_cases c : chS P m (v % S) 12 = 0
      · rw [if_pos c]
        rw [decide_eq_true c, if_pos rfl] at i1
        exact i1
      · rw [if_neg c]
        rw [decide_eq_false c, if_neg (by decide)] at i1
        exact i1
    rw [fX3_longestRestOf_L7, e0, e2, if_neg (nI_ge (by omega) (by omega))]
    by_cases c : S ≤ v
    · rw [if_pos (nI_le c (by omega)), pk_sub c, cl_teethAt h hm (by omega), Option.bind_some]
      exact tl _ (by rw [show v % S = v - S by rw [Nat.mod_eq_sub_mod c, Nat.mod_eq_of_lt (by omega)]])
    · rw [if_neg (nI_ge (by omega) (by omega)), cl_teethAt h hm (by omega), Option.bind_some]
      exact tl _ (by rw [Nat.mod_eq_of_lt (by omega)])
def rsS (P : PF) (S m : Nat) : Int32 := mnI (lrL (zS P m) S (2 * S)).1 (nI S)
theorem cl_rest {m : Nat} (h : BX M T i g P) (hI : Iv g P S T U A m0 p0) (hm : m < 3) : fX3_longestRestOf M i (nI m) = some (rsS P S m) := by
  have hS := hI.2.2.2.2.2.2.1
  have e0 : M.1 (10, i, 0) 1 = nI S := (h.1 0 (vk_s rfl)).trans hI.1
  have := cl_restL h hI.1 (by omega) hm (K := fun w9 _ _ => some (fJ9_min_7cf53 M w9 (M.1 (10, i, 0) 1))) (2 * S) 0 NF (by omega) (by unfold NF; omega)
  refine (show fX3_longestRestOf M i (nI m) = _ from this).trans ?_
  rw [e0]
  rfl
/-! sums over the teeth -/
def brS (g : GF) (t : Nat) : Bool := !decide (g (16 + 6 * t + 4) < g (16 + 6 * t + 3))
theorem cl_brB {t : Nat} (h : BX M T i g P) (ht : t < T) : fX8_brokenNow M i t = bI (brS g t) := by
  rw [cl_broken h ht, brS]
  by_cases c : g (16 + 6 * t + 4) < g (16 + 6 * t + 3)
  · rw [if_pos c, decide_eq_true c]; rfl
  · rw [if_neg c, decide_eq_false c]; rfl
theorem cl_brL (h : BX M T i g P) (h3 : g 3 = nI T) (hT : T ≤ 12) {K : Int32 → Int32 → Option Int32} : ∀ (d t n : Nat), t + d = T → d < n → fX0_brokenCount_L4 M i K n (nI (mCt (brS g) t)) (nI t) = K (nI (mCt (brS g) T)) (nI T) := by
  have e3 : M.1 (9, i, 0) 2 = nI T := (h.1 3 (vk_s rfl)).trans h3
  intro d
  induction d with
  | zero =>
    intro t n ht hn
    have e : t = T := by omega
    subst e
    obtain ⟨n, rfl⟩ : ∃ q, n = q + 1 := ⟨n - 1, by omega⟩
    rw [fX0_brokenCount_L4, e3, if_pos (nI_le (Nat.le_refl _) (by omega))]
  | succ d ih =>
    intro t n ht hn
    obtain ⟨n, rfl⟩ : ∃ q, n = q + 1 := ⟨n - 1, by omega⟩
    have i1 := ih (t + 1) n (by omega) (by omega)
    rw [mCt] at i1
    rw [fX0_brokenCount_L4, e3, if_neg (nI_ge (by omega) (by omega)), if_neg (nI_g12 (by omega)), if_neg (nI_in (by omega) (by decide)), nI_clamp (by omega), cl_brB h (by omega), ← nI_succ]
    cases hp : brS g t with
    | false => rw [if_pos (bI_0.mpr rfl)]; rw [hp] at i1; exact i1
    | true => rw [if_neg (by decide), ← nI_succ]; rw [hp] at i1; exact i1
theorem cl_brokenCount (h : BX M T i g P) (h3 : g 3 = nI T) (hT : T ≤ 12) : fX0_brokenCount M i = some (nI (mCt (brS g) T)) := cl_brL h h3 hT (K := fun w4 _ => some w4) T 0 NF (by omega) (by unfold NF; omega)
def sI (f : Nat → Int32) : Nat → Int32
  | 0 => 0
  | n + 1 => sI f n + f n
def ptS (g : GF) (t : Nat) : Int32 := g (16 + 6 * t) + g (16 + 6 * t + 1)
theorem cl_pitch {t : Nat} (h : BX M T i g P) (ht : t < T) : fX8_pitchNow M i t = ptS g t := by
  rw [fX8_pitchNow, bx_t h ht (by decide), bx_t h ht (by decide)]
  rfl
theorem cl_sumL {m : Nat} (h : BX M T i g P) (hI : Iv g P S T U A m0 p0) (hm : m < 3) {K : Int32 → Int32 → Option Int32} : ∀ (d t n : Nat), t + d = T → d < n → fX0_pitchSum_L4 M i (nI m) K n (sI (fun t => nI (mCt (fun s => P m t s) S) * ptS g t) t) (nI t) = K (sI (fun t => nI (mCt (fun s => P m t s) S) * ptS g t) T) (nI T) := by
  have hS := hI.2.2.2.2.2.2.1
  have hT := hI.2.2.2.2.2.2.2.1
  have e3 : M.1 (9, i, 0) 2 = nI T := (h.1 3 (vk_s rfl)).trans hI.2.2.2.1
  intro d
  induction d with
  | zero =>
    intro t n ht hn
    have e : t = T := by omega
    subst e
    obtain ⟨n, rfl⟩ : ∃ q, n = q + 1 := ⟨n - 1, by omega⟩
    rw [fX0_pitchSum_L4, e3, if_pos (nI_le (Nat.le_refl _) (by omega))]
  | succ d ih =>
    intro t n ht hn
    obtain ⟨n, rfl⟩ : ∃ q, n = q + 1 := ⟨n - 1, by omega⟩
    have e5 : mCt (fun s => P m t s) 64 = mCt (fun s => P m t s) S := mCt_z hS.2 fun s hs => by
      cases e : P m t s with
      | false => rfl
      | true => have := hI.2.2.2.2.2.2.2.2.2.2.2.2.2 _ _ _ e; omega
    rw [fX0_pitchSum_L4, e3, if_neg (nI_ge (by omega) (by omega)), if_neg (nI_g12 (by omega)), cl_row hm (by omega), Option.bind_some, if_neg (nI_in (by omega) (by decide)), nI_clamp (by omega), cl_bc, cl_ct h hm (by omega), cl_pitch h (by omega), e5, ← nI_succ]
    exact ih (t + 1) n (by omega) (by omega)
theorem cl_pitchSum {m : Nat} (h : BX M T i g P) (hI : Iv g P S T U A m0 p0) (hm : m < 3) : fX0_pitchSum M i (nI m) = some (sI (fun t => nI (mCt (fun s => P m t s) S) * ptS g t) T) := by
  have hT := hI.2.2.2.2.2.2.2.1
  exact cl_sumL h hI hm (K := fun w5 _ => some w5) T 0 NF (by omega) (by unfold NF; omega)
theorem cl_wearL (h : BX M T i g P) (h3 : g 3 = nI T) (hT : T ≤ 12) {a : Int32} {K : Int32 → Int32 → Option Int32} : ∀ (d t n : Nat), t + d = T → d < n → fX0_unexplainedWear_L7 M i K n (a + sI (fun t => g (16 + 6 * t + 4)) t) (nI t) = K (a + sI (fun t => g (16 + 6 * t + 4)) T) (nI T) := by
  have e3 : M.1 (9, i, 0) 2 = nI T := (h.1 3 (vk_s rfl)).trans h3
  intro d
  induction d with
  | zero =>
    intro t n ht hn
    have e : t = T := by omega
    subst e
    obtain ⟨n, rfl⟩ : ∃ q, n = q + 1 := ⟨n - 1, by omega⟩
    rw [fX0_unexplainedWear_L7, e3, if_pos (nI_le (Nat.le_refl _) (by omega))]
  | succ d ih =>
    intro t n ht hn
    obtain ⟨n, rfl⟩ : ∃ q, n = q + 1 := ⟨n - 1, by omega⟩
    rw [fX0_unexplainedWear_L7, e3, if_neg (nI_ge (by omega) (by omega)), if_neg (nI_g12 (by omega)), if_neg (nI_in (by omega) (by decide)), nI_clamp (by omega), bx_t h (by omega) (by decide), Int32.add_assoc, ← nI_succ]
    exact ih (t + 1) n (by omega) (by omega)
def abI (x : Int32) : Int32 := if 0 ≤ x then x else -x
def uwS (g : GF) (T : Nat) : Int32 := g 10 + sI (fun t => g (16 + 6 * t + 4)) T - (g 6 * 1 + g 7 * 5 + g 9 * 3)
theorem cl_wear (h : BX M T i g P) (h3 : g 3 = nI T) (hT : T ≤ 12) : fX0_unexplainedWear M i = some (abI (uwS g T)) := by
  have := cl_wearL h h3 hT (a := g 10) (K := fun w3 _ => some (fJ9_abs_0f7a4 M (w3 - ((((M.1 (9, i, 0) 5) * (1 : Int32)) + ((M.1 (9, i, 0) 6) * (5 : Int32))) + ((M.1 (9, i, 0) 8) * (3 : Int32)))))) T 0 NF (by omega) (by unfold NF; omega)
  rw [show g 10 + sI (fun t => g (16 + 6 * t + 4)) 0 = M.1 (9, i, 0) 9 by rw [show M.1 (9, i, 0) 9 = g 10 from h.1 10 (vk_s rfl)]; exact Int32.add_zero _] at this
  refine (show fX0_unexplainedWear M i = _ from this).trans ?_
  rw [show M.1 (9, i, 0) 5 = g 6 from h.1 6 (vk_s rfl), show M.1 (9, i, 0) 6 = g 7 from h.1 7 (vk_s rfl), show M.1 (9, i, 0) 8 = g 9 from h.1 9 (vk_s rfl)]
  rfl
theorem cl_earlyL (h : BX M T i g P) (h3 : g 3 = nI T) (hT : T ≤ 12) {a : Int32} {K : Int32 → Int32 → Option Int32} : ∀ (d t n : Nat), t + d = T → d < n → fX0_brokenTooEarly_L4 M i K n a (nI t) = K a (nI T) := by
  have e3 : M.1 (9, i, 0) 2 = nI T := (h.1 3 (vk_s rfl)).trans h3
  intro d
  induction d with
  | zero =>
    intro t n ht hn
    have e : t = T := by omega
    subst e
    obtain ⟨n, rfl⟩ : ∃ q, n = q + 1 := ⟨n - 1, by omega⟩
    rw [fX0_brokenTooEarly_L4, e3, if_pos (nI_le (Nat.le_refl _) (by omega))]
  | succ d ih =>
    intro t n ht hn
    obtain ⟨n, rfl⟩ : ∃ q, n = q + 1 := ⟨n - 1, by omega⟩
    have hg : ¬ (nI t < 0 ∨ 12 ≤ (nI t).toNatClampNeg) := nI_in (by omega) (by decide)
    rw [fX0_brokenTooEarly_L4, e3, if_neg (nI_ge (by omega) (by omega)), if_neg (nI_g12 (by omega))]
    simp only [hg, if_false]
    rw [nI_clamp (by omega), cl_broken h (by omega), bx_t h (by omega) (by decide), bx_t h (by omega) (by decide), ← nI_succ]
    have i1 := ih (t + 1) n (by omega) (by omega)
    by_cases c : g (16 + 6 * t + 4) < g (16 + 6 * t + 3)
    · rw [if_pos c, if_pos rfl]; exact i1
    · rw [if_neg c, if_neg (by decide), if_pos (Int32.not_lt.mp c)]; exact i1
theorem cl_early (h : BX M T i g P) (h3 : g 3 = nI T) (hT : T ≤ 12) : fX0_brokenTooEarly M i = some 0 := cl_earlyL h h3 hT (K := fun w7 _ => some w7) T 0 NF (by omega) (by unfold NF; omega)
end PE

