/-! only what counts: references that are fields or elements -/
def rfc (r : Rf) (j : Nat) : Prop := match kd r with
  | .inl (_, ks) => ks[j]? = some true
  | .inr (k, n) => 4 ≤ k ∧ j < n
def AgR (sh sh' : Sh) (M M' : Mm) (x : Rf) : Prop := (∀ j, rfc x j → sh' x j = sh x j) ∧ (∀ j, M'.1 x j = M.1 x j) ∧ ∀ j, M'.2 x j = M.2 x j
theorem arrV_cong {c : ClassId} {n : Nat} {f g : Nat → Value} (h : ∀ j, j < n → f j = g j) : arrV c n f = arrV c n g := by
  unfold arrV
  have : (Array.ofFn (n := n) fun j => f j.val) = Array.ofFn (n := n) fun j => g j.val := congrArg Array.ofFn (funext fun j => h j.val j.isLt)
  rw [this]
theorem fv_cong2 {ad : Rf → Nat} {sh sh' : Sh} {M M' : Mm} {x : Rf} (h2 : ∀ j, M'.1 x j = M.1 x j) : ∀ (ks : List Bool) (i : Nat), (∀ j, ks[j]? = some true → sh' x (i + j) = sh x (i + j)) → fv ad sh' M' x i ks = fv ad sh M x i ks
  | [], _, _ => rfl
  | b :: t, i, h => by
    rw [fv, fv, fv_cong2 (ad := ad) (sh := sh) (sh' := sh') h2 t (i + 1) (fun j hj => by
      have := h (j + 1) (by simpa using hj)
      rwa [show i + (j + 1) = i + 1 + j by omega] at this), h2]
    cases b with
    | false => rfl
    | true =>
      have := h 0 rfl
      rw [Nat.add_zero] at this
      rw [this]
theorem rfc_of {x : Rf} {j : Nat} (h : refj x j = true) : rfc x j := by
  unfold refj at h
  unfold rfc
  cases hk : kd x with
  | inl q =>
    obtain ⟨ci, ks⟩ := q
    rw [hk] at h
    have h : ks.getD j false = true := h
    show ks[j]? = some true
    rw [List.getD_eq_getElem?_getD] at h
    cases hj : ks[j]? with
    | none => rw [hj] at h; cases h
    | some b =>
      rw [hj] at h
      have h : b = true := h
      rw [h]
  | inr q =>
    obtain ⟨t, n⟩ := q
    rw [hk] at h
    have h : (Nat.ble 4 t && Nat.blt j n) = true := h
    simp only [Bool.and_eq_true, Nat.ble_eq, Nat.blt_eq] at h
    exact h
theorem at_cong {D : va_G} {tc : Nat → ClassId} {ad : Rf → Nat} {sh sh' : Sh} {M M' : Mm} {x : Rf} {H : Heap} (h : AgR sh sh' M M' x) (hP : va_at D vwCl (ad x, ent tc ad sh M x) H) : va_at D vwCl (ad x, ent tc ad sh' M' x) H := by
  rw [ent_cong (fun j hj => congrArg (Option.map ad) (h.1 j (rfc_of hj))) h.2.1 h.2.2]
  exact hP
theorem wd_cong {D : va_G} {tc : Nat → ClassId} {ad : Rf → Nat} {sh sh' : Sh} {M M' : Mm} {rs : List Rf} {H : Heap} (h : ∀ x ∈ rs, AgR sh sh' M M' x) (hP : Wd D tc ad sh M rs H) : Wd D tc ad sh' M' rs H := by
  intro k q hk
  rw [wl, List.getElem?_map] at hk
  cases hx : rs[k]? with
  | none => rw [hx] at hk; cases hk
  | some x =>
    rw [hx] at hk
    cases hk
    refine at_cong (h x (List.mem_of_getElem? hx)) (hP k _ ?_)
    rw [wl, List.getElem?_map, hx]
    rfl
/-- the same things in another order -/
theorem wd_perm {D : va_G} {tc : Nat → ClassId} {ad : Rf → Nat} {sh : Sh} {M : Mm} {rs rs' : List Rf} {H : Heap} (h : ∀ x ∈ rs', x ∈ rs) (hP : Wd D tc ad sh M rs H) : Wd D tc ad sh M rs' H := by
  intro k q hk
  rw [wl, List.getElem?_map] at hk
  cases hx : rs'[k]? with
  | none => rw [hx] at hk; cases hk
  | some x =>
    rw [hx] at hk
    cases hk
    obtain ⟨i, hi, hq⟩ := wl_at (tc := tc) (ad := ad) (sh := sh) (M := M) (h x (List.mem_of_getElem? hx))
    exact hP i _ hq
section ZK
variable {own : String} {cc : ByteArray} {nL : Nat} {rt : Option FieldType} {xt : List ExceptionTableEntry} {nme : String} {R : Room} {Q : QF} {rs rs' : List Rf} {sh sh' : Sh} {cells slots pc : Nat} {ls : List (Option MV)} {st : List MV} {M M' : Mm}
/-- a walk goes on from any picture of the same heap -/
theorem z_pic (h1 : ∀ x ∈ rs, AgR sh sh' M M' x) (h2 : ∀ x, x ∈ rs' ↔ x ∈ rs) (k : Z own cc nL rt xt nme R Q rs' sh' cells slots pc ls st M') : Z own cc nL rt xt nme R Q rs sh cells slots pc ls st M := by
  intro p l e s m args below meth c D tc ad A H locs lsA C hP hS hl
  exact k p l e s m args below meth c D tc ad A H locs lsA (C.to (fun _ _ => rfl) (fun x hx => C.2.2.2.2.2.2.2.2.2.2.2.2.1 x ((h2 x).mp hx)) (fun x hx y hy => C.2.2.2.2.2.2.2.2.2.2.2.2.2 x ((h2 x).mp hx) y ((h2 y).mp hy))) (wd_perm (fun x hx => (h2 x).mp hx) (wd_cong h1 hP)) hS hl
theorem z_nret2 {rs0 : List Rf} {mc ms : Nat} (hd : decode cc pc = .ok (.return_, 1)) (hrt : rt = none) (hc : cells ≤ mc) (hs : slots ≤ ms) (h1 : ∀ x ∈ rs, AgR sh sh' M M' x) (h2 : ∀ x, x ∈ rs' ↔ x ∈ rs) : Z own cc nL rt xt nme R (QMN rs0 rs' sh' M' mc ms) rs sh cells slots pc ls [] M :=
  z_pic h1 h2 (z_nret hd hrt hc hs (List.Perm.refl _) (fun x _ => same3))
end ZK

