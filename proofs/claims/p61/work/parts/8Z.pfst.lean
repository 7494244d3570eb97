/-! the first setup is taken -/
theorem first_t : (fX9_takeSetup (MT 123)).map (fun q => (q.1 (1, 0, 0) 1, q.1 (14, 0, 0) 2)) = some (0, 0) := by decide +kernel
theorem first_ok : ∃ M0, fX9_takeSetup (MT 123) = some M0 ∧ M0.1 (1, 0, 0) 1 = 0 ∧ M0.1 (14, 0, 0) 2 = 0 := by
  have h := first_t
  cases e : fX9_takeSetup (MT 123) with
  | none => rw [e] at h; cases h
  | some M0 =>
    rw [e] at h
    have h2 : (M0.1 (1, 0, 0) 1, M0.1 (14, 0, 0) 2) = ((0 : Int32), (0 : Int32)) := Option.some.inj h
    exact ⟨M0, rfl, congrArg Prod.fst h2, congrArg Prod.snd h2⟩
