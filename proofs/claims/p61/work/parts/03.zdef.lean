/-! The model machine: things are named by three numbers (kind, which, which part); ints and longs of each lie in two functions; references never change once all is built. -/
abbrev Rf : Type := Nat × Nat × Nat
abbrev MV : Type := Value ⊕ Rf
abbrev Mm : Type := (Rf → Nat → Int32) × (Rf → Nat → Int64)
abbrev Sh : Type := Rf → Nat → Option Rf
def rv (ad : Rf → Nat) (v : MV) : Value := match v with
  | .inl x => x
  | .inr r => .ref (ad r)
def putI (M : Mm) (r : Rf) (j : Nat) (v : Int32) : Mm := (fun r' j' => if r'.1 = r.1 ∧ j' = j ∧ r' = r then v else M.1 r' j', M.2)
def putL (M : Mm) (r : Rf) (j : Nat) (v : Int64) : Mm := (M.1, fun r' j' => if r'.1 = r.1 ∧ j' = j ∧ r' = r then v else M.2 r' j')
/-- what a thing is: an object (number of its kind among vwCl, which fields are references) or a row (kind of its elements, length) -/
def kd (r : Rf) : (Nat × List Bool) ⊕ (Nat × Nat) := match r.1 with
  | 0 => .inl (9, [true, true, true, true, true, true, true, true, true, true, true])
  | 1 => .inl (1, [true, false])
  | 2 => .inr (0, if r.2.1 = 0 then 800 else 64)
  | 3 => .inl (7, [true, true, true, true, true, false, false, false, false])
  | 4 => .inr (0, 801)
  | 5 => .inl (6, [true, true])
  | 6 => .inl (5, [true, true])
  | 7 => .inl (4, [true, true, true, true, false, false, false])
  | 8 => .inr (0, if r.2.1 = 3 then 90 else 30)
  | 9 => .inl (0, [true, true, false, false, false, false, false, false, false, false])
  | 10 => .inl (3, [true, false, false, false])
  | 11 => .inr (2, 36)
  | 12 => .inr (4, 12)
  | 13 => .inl (8, [false, false, false, false, false, false])
  | 14 => .inl (2, [true, false, false])
  | 15 => .inr (5, 8)
  | 16 => .inr (5, 2)
  | 17 => .inr (1, 2)
  | 18 => .inl (10, [false, false, false, false, false, false, false, false, false, false, false, true, true, true, true, true, true, true])
  | 19 => .inr (0, 12)
  | 20 => .inr (1, 2304)
  | 21 => .inl (12, [true, false, false, false])
  | 22 => .inl (11, [true, false, false, false])
  | 23 => .inr (6, 42)
  | 24 => .inl (12, [true, false, false, false])
  | 25 => .inr (3, 0)
  | 26 => .inr (0, 64)
  | 27 => .inr (3, 0)
  | 28 => .inl (11, [true, false, false, false])
  | 29 => .inr (3, 0)
  | _ => .inr (0, 0)
/-- where a row of bytes keeps its length -/
def LG : Nat := 1000000
def fv (ad : Rf → Nat) (sh : Sh) (M : Mm) (r : Rf) : Nat → List Bool → List Value
  | _, [] => []
  | j, b :: t => (if b = true then va_rf ((sh r j).map ad) else .int (M.1 r j)) :: fv ad sh M r (j + 1) t
def ent (tc : Nat → ClassId) (ad : Rf → Nat) (sh : Sh) (M : Mm) (r : Rf) : va_E := match kd r with
  | .inl (ci, ks) => .inr (ci, fv ad sh M r 0 ks)
  | .inr (0, n) => .inl (tc 0, n, .inl (M.1 r))
  | .inr (1, n) => .inl (tc 1, n, .inl (M.1 r))
  | .inr (2, n) => .inl (tc 2, n, .inr (.inl (M.2 r)))
  | .inr (3, _) => .inl (tc 3, (M.1 r LG).toNatClampNeg, .inl (M.1 r))
  | .inr (t + 4, n) => .inl (tc (t + 4), n, .inr (.inr (.inr (.inr (fun j => if j < n then (sh r j).map ad else none)))))
def wl (tc : Nat → ClassId) (ad : Rf → Nat) (sh : Sh) (M : Mm) (rs : List Rf) : va_W := rs.map fun r => (ad r, ent tc ad sh M r)
def tys (tc : Nat → ClassId) : List (ClassId × FieldType) := [(tc 0, .int), (tc 1, .boolean), (tc 2, .long), (tc 3, .byte), (tc 4, .object RX8), (tc 5, .object RX0), (tc 6, .object RX10)]
theorem wl_at {tc : Nat → ClassId} {ad : Rf → Nat} {sh : Sh} {M : Mm} {rs : List Rf} {r : Rf} (h : r ∈ rs) : ∃ k : Nat, rs[k]? = some r ∧ (wl tc ad sh M rs)[k]? = some (ad r, ent tc ad sh M r) := by
  obtain ⟨k, hk⟩ := List.getElem?_of_mem h
  exact ⟨k, hk, by rw [wl, List.getElem?_map, hk]; rfl⟩
theorem wl_set {tc : Nat → ClassId} {ad : Rf → Nat} {sh : Sh} {M M' : Mm} {rs : List Rf} {r : Rf} {k : Nat} {x : va_E} (hn : rs.Nodup) (hk : rs[k]? = some r) (hx : ent tc ad sh M' r = x) (h : ∀ r', r' ≠ r → ent tc ad sh M' r' = ent tc ad sh M r') :
    (wl tc ad sh M rs).set k (ad r, x) = wl tc ad sh M' rs := by
  subst hx
  apply List.ext_getElem?
  intro i
  rw [List.getElem?_set, wl, wl, List.getElem?_map, List.getElem?_map, List.length_map]
  by_cases hi : k = i
  · subst hi
    have hl : k < rs.length := (List.getElem?_eq_some_iff.mp hk).1
    rw [if_pos rfl, if_pos hl, hk]
    rfl
  · rw [if_neg hi]
    cases hr : rs[i]? with
    | none => rfl
    | some r' =>
      have hne : r' ≠ r := by
        intro e
        subst e
        obtain ⟨h1, h2⟩ := List.getElem?_eq_some_iff.mp hk
        obtain ⟨h3, h4⟩ := List.getElem?_eq_some_iff.mp hr
        exact hi ((List.getElem_inj hn).mp (h2.trans h4.symm))
      show some (ad r', ent tc ad sh M r') = some (ad r', ent tc ad sh M' r')
      rw [h r' hne]
theorem fv_len {ad : Rf → Nat} {sh : Sh} {M : Mm} {r : Rf} : ∀ (ks : List Bool) (j : Nat), (fv ad sh M r j ks).length = ks.length
  | [], _ => rfl
  | _ :: t, j => by rw [fv, List.length_cons, List.length_cons, fv_len t (j + 1)]
theorem fv_get {ad : Rf → Nat} {sh : Sh} {M : Mm} {r : Rf} : ∀ (ks : List Bool) (i j : Nat) (b : Bool), ks[j]? = some b → (fv ad sh M r i ks)[j]? = some (if b = true then va_rf ((sh r (i + j)).map ad) else .int (M.1 r (i + j)))
  | [], _, _, _, h => by simp at h
  | c :: t, i, 0, b, h => by
    rw [fv]
    simp at h
    subst h
    rfl
  | c :: t, i, j + 1, b, h => by
    rw [fv, List.getElem?_cons_succ, fv_get t (i + 1) j b (by simpa using h)]
    rw [show i + 1 + j = i + (j + 1) by omega]
theorem fv_other {ad : Rf → Nat} {sh : Sh} {M M' : Mm} {r : Rf} (h : ∀ j, M'.1 r j = M.1 r j) : ∀ (ks : List Bool) (j : Nat), fv ad sh M' r j ks = fv ad sh M r j ks
  | [], _ => rfl
  | b :: t, j => by rw [fv, fv, fv_other h t (j + 1), h j]
theorem fv_put {ad : Rf → Nat} {sh : Sh} {M : Mm} {r : Rf} {v : Int32} {q : Nat} : ∀ (ks : List Bool) (i j : Nat), i + j = q → ks[j]? = some false → (fv ad sh M r i ks).set j (.int v) = fv ad sh (putI M r q v) r i ks
  | [], _, _, _, h => by simp at h
  | c :: t, i, 0, e, h => by
    simp at h
    subst h
    have e2 : i = q := by omega
    subst e2
    rw [fv, fv, List.set_cons_zero]
    have h2 : ∀ (t : List Bool) (k : Nat), i < k → fv ad sh M r k t = fv ad sh (putI M r i v) r k t := by
      intro t
      induction t with
      | nil => intro k _; rfl
      | cons b t ih =>
        intro k hk
        rw [fv, fv, ih (k + 1) (by omega)]
        have hne : ¬ (k = i) := by omega
        simp [putI, hne]
    rw [h2 t (i + 1) (by omega)]
    simp [putI]
  | c :: t, i, j + 1, e, h => by
    rw [fv, fv, List.set_cons_succ, fv_put (q := q) t (i + 1) j (by omega) (by simpa using h)]
    have hne : ¬ (i = q) := by omega
    simp [putI, hne]
theorem ent_other {tc : Nat → ClassId} {ad : Rf → Nat} {sh : Sh} {M M' : Mm} {r : Rf} (h1 : M'.1 r = M.1 r) (h2 : M'.2 r = M.2 r) : ent tc ad sh M' r = ent tc ad sh M r := by
  unfold ent
  split <;> first | rw [fv_other (fun j => congrFun h1 j)] | rw [h1] | rw [h2] | rfl
theorem putI_ne {M : Mm} {r r' : Rf} {j : Nat} {v : Int32} (h : r' ≠ r) : (putI M r j v).1 r' = M.1 r' := by
  funext j'
  simp [putI, h]
theorem putL_ne {M : Mm} {r r' : Rf} {j : Nat} {v : Int64} (h : r' ≠ r) : (putL M r j v).2 r' = M.2 r' := by
  funext j'
  simp [putL, h]
/-- the locals as the model has them -/
def zl (ad : Rf → Nat) (lsA : Array Slot) (nL : Nat) (ls : List (Option MV)) : Prop := lsA.size = nL ∧ lv_wf lsA ∧ ∀ (i : Nat) (v : MV), ls[i]? = some (some v) → lsA[i]? = some (.val (rv ad v))
def lvl (ad : Rf → Nat) : Nat → List (Option MV) → List (Nat × Value)
  | _, [] => []
  | i, none :: t => lvl ad (i + 1) t
  | i, some v :: t => (i, rv ad v) :: lvl ad (i + 1) t
theorem lvl_mem {ad : Rf → Nat} : ∀ (ls : List (Option MV)) (k i : Nat) (v : MV), ls[i]? = some (some v) → (k + i, rv ad v) ∈ lvl ad k ls
  | [], _, _, _, h => by simp at h
  | o :: t, k, 0, v, h => by
    simp at h
    subst h
    rw [lvl]
    exact List.mem_cons_self
  | o :: t, k, i + 1, v, h => by
    have h2 := lvl_mem (ad := ad) t (k + 1) i v (by simpa using h)
    rw [show k + 1 + i = k + (i + 1) by omega] at h2
    cases o with
    | none => rw [lvl]; exact h2
    | some w => rw [lvl]; exact List.mem_cons_of_mem _ h2
theorem mem_lvl {ad : Rf → Nat} : ∀ (ls : List (Option MV)) (k : Nat) (q : Nat × Value), q ∈ lvl ad k ls → ∃ (i : Nat) (v : MV), ls[i]? = some (some v) ∧ q = (k + i, rv ad v)
  | [], _, q, h => by rw [lvl] at h; cases h
  | none :: t, k, q, h => by
    rw [lvl] at h
    obtain ⟨i, v, h1, h2⟩ := mem_lvl t (k + 1) q h
    exact ⟨i + 1, v, by simpa using h1, by rw [h2, show k + 1 + i = k + (i + 1) by omega]⟩
  | some w :: t, k, q, h => by
    rw [lvl] at h
    rcases List.mem_cons.mp h with h | h
    · exact ⟨0, w, rfl, h⟩
    · obtain ⟨i, v, h1, h2⟩ := mem_lvl t (k + 1) q h
      exact ⟨i + 1, v, by simpa using h1, by rw [h2, show k + 1 + i = k + (i + 1) by omega]⟩
theorem zl_lv {ad : Rf → Nat} {lsA : Array Slot} {nL : Nat} {ls : List (Option MV)} (h : zl ad lsA nL ls) : lv_has lsA nL (lvl ad 0 ls) := by
  refine ⟨h.1, h.2.1, fun q hq => ?_⟩
  obtain ⟨i, v, h1, h2⟩ := mem_lvl ls 0 q hq
  subst h2
  rw [Nat.zero_add]
  exact h.2.2 i v h1
def lok (ls : List (Option MV)) (i : Nat) : Bool := match i with
  | 0 => true
  | k + 1 => match ls[k]? with
    | some (some (.inl v)) => v.category == 1
    | _ => true
theorem lok_spec {ad : Rf → Nat} {ls : List (Option MV)} {i k : Nat} {v : MV} (h : lok ls i = true) (hk : ls[k]? = some (some v)) (hi : k + 1 = i) : (rv ad v).category = 1 := by
  subst hi
  rw [lok, hk] at h
  cases v with
  | inl x =>
    show x.category = 1
    simpa using h
  | inr r => rfl
theorem zl_set1 {ad : Rf → Nat} {lsA : Array Slot} {nL i : Nat} {ls : List (Option MV)} {v : MV} (hk : lok ls i = true) (h : lv_has lsA nL ((i, rv ad v) :: (lvl ad 0 ls).filter (fun q => !(q.1 == i) && !(q.1 + 1 == i && q.2.category == 2)))) : zl ad lsA nL (ls.set i (some v)) := by
  refine ⟨h.1, h.2.1, fun j w hj => ?_⟩
  by_cases e : i = j
  · subst e
    have h1 : (ls.set i (some v))[i]? = some (some v) := by
      rw [List.getElem?_set] at hj ⊢
      rw [if_pos rfl] at hj ⊢
      by_cases hl : i < ls.length
      · rw [if_pos hl]
      · rw [if_neg hl] at hj; cases hj
    rw [h1] at hj
    cases hj
    exact h.2.2 (i, rv ad v) List.mem_cons_self
  · rw [List.getElem?_set, if_neg e] at hj
    have hm := lvl_mem (ad := ad) ls 0 j w hj
    rw [Nat.zero_add] at hm
    refine h.2.2 (j, rv ad w) (List.mem_cons_of_mem _ (List.mem_filter.mpr ⟨hm, ?_⟩))
    have e1 : (j == i) = false := by simpa using (fun e2 : j = i => e e2.symm)
    by_cases e3 : j + 1 = i
    · have := lok_spec (ad := ad) hk hj e3
      simp [e1, this]
    · simp [e1, e3]
theorem zl_set2 {ad : Rf → Nat} {lsA : Array Slot} {nL i : Nat} {ls : List (Option MV)} {v : MV} (hk : lok ls i = true) (h : lv_has lsA nL ((i, rv ad v) :: (lvl ad 0 ls).filter (fun q => !(q.1 == i) && (!(q.1 == i + 1) && !(q.1 + 1 == i && q.2.category == 2))))) : zl ad lsA nL ((ls.set (i + 1) none).set i (some v)) := by
  refine ⟨h.1, h.2.1, fun j w hj => ?_⟩
  by_cases e : i = j
  · subst e
    have h1 : ((ls.set (i + 1) none).set i (some v))[i]? = some (some v) := by
      rw [List.getElem?_set] at hj ⊢
      rw [if_pos rfl] at hj ⊢
      by_cases hl : i < (ls.set (i + 1) none).length
      · rw [if_pos hl]
      · rw [if_neg hl] at hj; cases hj
    rw [h1] at hj
    cases hj
    exact h.2.2 (i, rv ad v) List.mem_cons_self
  · rw [List.getElem?_set, if_neg e, List.getElem?_set] at hj
    by_cases e4 : i + 1 = j
    · rw [if_pos e4] at hj
      split at hj <;> cases hj
    rw [if_neg e4] at hj
    have hm := lvl_mem (ad := ad) ls 0 j w hj
    rw [Nat.zero_add] at hm
    refine h.2.2 (j, rv ad w) (List.mem_cons_of_mem _ (List.mem_filter.mpr ⟨hm, ?_⟩))
    have e1 : (j == i) = false := by simpa using (fun e2 : j = i => e e2.symm)
    have e5 : (j == i + 1) = false := by simpa using (fun e2 : j = i + 1 => e4 e2.symm)
    by_cases e3 : j + 1 = i
    · have := lok_spec (ad := ad) hk hj e3
      simp [e1, e5, this]
    · simp [e1, e5, e3]
