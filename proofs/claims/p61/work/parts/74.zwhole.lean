/-! the claim out of LawPure -/
theorem dga_of {args : Array Value} {s : State} {A : Nat → Prop} (hA : ∀ a : Nat, a < s.heap.size → ¬ A a) {n : String} {q : Nat} (h1 : (Cond.arrayOf (.static "java/lang/Integer" n "[B") .byte).before args s = true) (h2 : (Cond.eq (.length (.static "java/lang/Integer" n "[B")) (.int (Int32.ofNat 100))).before args s = true)
    (h3 : ∀ i, i < 100 → (Cond.eq (.elem (.static "java/lang/Integer" n "[B") (.int (Int32.ofNat i))) (.int (dgt q i))).before args s = true) (hl : (Cond.laysStatic "java/lang/Integer" n "[B").before args s = true) (hini : (Cond.initialized "java/lang/Integer").before args s = true) : ∃ t : Nat, va_Z "java/lang/Integer" n "[B" (.ref t) A s s.heap ∧ va_T .byte t 100 (fun i => .int (dgt q i)) A s s.heap := by
  obtain ⟨t, e1, e2⟩ := va_Tof (args := args) (s := s) (tm := .static "java/lang/Integer" n "[B") (ty := .byte) (N := 100) (f := fun i => .int (dgt q i)) (A := A) (by decide) h1 (va_eqt h2) (fun j hj => va_eqt (h3 j hj)) hA
  exact ⟨t, va_Zof hl hini e1 hA, e2⟩
theorem whole_of {p : Program} {e : Env} {s : State} {m : MethodId} {below : List Frame} {meth : Method} {c : Code} (l : Launch) {b L : Nat} {xs : Nat → Int32} {I J : Nat → Nat → Mm → Prop} {M0 : Mm} {r1 : Int32} {M1 : Mm} (hW : LawPure L xs I J M0 r1 M1) (C0 : lw_At p s m meth c b L xs) : W p l e room_1 s m #[Value.ref b] below meth c s.heap [] 0 0 (lw_Z below #[Value.ref b] s) (entryFrame m ([Value.ref b] : List Value).toArray 9) := by
  obtain ⟨hx, hb, hr, hml, hown, hts, hX, hbl, hlocks, hgv⟩ := id C0
  have hn : narrow_1.before #[Value.ref b] s = true := by
    rw [Cond.before_and, Bool.and_eq_true] at hgv
    exact hgv.2
  have hal : ∀ w ∈ AL, w.before #[Value.ref b] s = true := fun w hw => hts w (List.mem_filter.mp hw).1
  have hnw := nsw_all hts
  have hA : ∀ a : Nat, a < s.heap.size → ¬ (fun q : Nat => s.heap.size ≤ q) a := fun a h => Nat.not_le.mpr h
  obtain ⟨D, hD⟩ := kn_all hal
  obtain ⟨tc, htc⟩ := ar_all hal hnw
  have h0 : ∀ j : Nat, ∃ q : Nat × Nat, j < 15 → SP j #[Value.ref b] s (fun q : Nat => s.heap.size ≤ q) q := fun j => by
    by_cases hj : j < 15
    · obtain ⟨q, hq⟩ := sp_all hA hn j hj
      exact ⟨q, fun _ => hq⟩
    · exact ⟨(0, 0), fun h => absurd h hj⟩
  obtain ⟨f, hf⟩ := Classical.axiomOfChoice h0
  have hi3 := hts _ (List.mem_of_getElem? si_3)
  obtain ⟨d0, hd0⟩ := dga_of (q := 0) hA (nar hn _ sd_0.1.1) (nar hn _ sd_0.1.2) (fun i hi => nar hn _ (sd_0.2 i hi)) (hts _ (List.mem_of_getElem? sl_3)) hi3
  obtain ⟨d1, hd1⟩ := dga_of (q := 1) hA (nar hn _ sd_1.1.1) (nar hn _ sd_1.1.2) (fun i hi => nar hn _ (sd_1.2 i hi)) (hts _ (List.mem_of_getElem? sl_4)) hi3
  obtain ⟨ad, had⟩ : ∃ ad : Rf → Nat, (∀ j, ad (30, j, 0) = (f j).1 ∧ ad (33, j, 0) = (f j).2) ∧ ad (31, 0, 0) = d0 ∧ ad (31, 1, 0) = d1 := ⟨fun r => if r.1 = 30 then (f r.2.1).1 else if r.1 = 33 then (f r.2.1).2 else if r.2.1 = 0 then d0 else d1, fun j => ⟨if_pos rfl, rfl⟩, rfl, rfl⟩
  have hFx : Fx l ad (fun q : Nat => s.heap.size ≤ q) s s.heap := by
    refine ⟨fun j hj => ?_, stt_all (A := fun _ => True) hts hn (fun j hj => ?_), ⟨va_Zof (hts _ (List.mem_of_getElem? sl_1)) (hts _ (List.mem_of_getElem? si_1)) (va_eqt (nar hn _ sx_com)) hA, va_Zqof (hts _ (List.mem_of_getElem? sl_2)) (hts _ (List.mem_of_getElem? si_2)) (nar hn _ sx_fmt) hA⟩, ⟨?_, ?_⟩, hnw⟩
    · obtain ⟨q1, q2, q3, q4, q5⟩ := hf j hj
      rw [(had.1 j).1, (had.1 j).2]
      exact ⟨q2, q3, q4, q5⟩
    · rw [(had.1 j).1]
      exact (hf j hj).1
    · unfold DGa
      rw [had.2.1]
      exact hd0
    · unfold DGa
      rw [had.2.2]
      exact hd1
  have hl : zl ad ((lg_sl (([.inl (.ref b)] : List MV).map (rv ad)) ++ List.replicate (9 - (lg_sl (([.inl (.ref b)] : List MV).map (rv ad))).length) Slot.unset).toArray) 9 [some (.inl (.ref b)), none, none, none, none, none, none, none, none] :=
    zl_entry ad (by rw [els_len]; exact Nat.le_of_ble_eq_true rfl) (fun i v h => els_pad ad (n := 8) h)
  rw [lg_entry_eq]
  refine w_mono (Q := lwQ b L xs below #[Value.ref b] s D tc ad (fun q : Nat => s.heap.size ≤ q)) (fun t ht => ht ⟨rfl, hX, hbl, hA b hbl, fun q h => h⟩) ?_
  exact law_Z (xt := c.exceptionTable.toList) (nme := meth.name) hW p l e s m #[Value.ref b] below meth c D tc ad (fun q : Nat => s.heap.size ≤ q) s.heap [] _
    ⟨hx, hb, hml, hown, hal, hlocks, hr, rfl, rfl, ⟨hD, htc⟩, fun q h => h, hFx, fun r h => absurd h List.not_mem_nil, fun r h => absurd h List.not_mem_nil⟩
    (fun k q h => by
      have : ([] : va_W)[k]? = some q := h
      simp at this) va_S.rf hl
