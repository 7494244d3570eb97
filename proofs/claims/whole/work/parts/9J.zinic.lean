/-! the reference: its constructor -/
theorem dX10_init_0 : decode cX10_init 0 = .ok (.aload_n 0, 1) := by decide +kernel
theorem dX10_init_1 : decode cX10_init 1 = .ok (.invokespecial 1, 3) := by decide +kernel
theorem dX10_init_4 : decode cX10_init 4 = .ok (.aload_n 0, 1) := by decide +kernel
theorem dX10_init_5 : decode cX10_init 5 = .ok (.sipush 280, 3) := by decide +kernel
theorem dX10_init_8 : decode cX10_init 8 = .ok (.newarray .int, 2) := by decide +kernel
theorem dX10_init_10 : decode cX10_init 10 = .ok (.putfield 7, 3) := by decide +kernel
theorem dX10_init_13 : decode cX10_init 13 = .ok (.aload_n 0, 1) := by decide +kernel
theorem dX10_init_14 : decode cX10_init 14 = .ok (.sipush 280, 3) := by decide +kernel
theorem dX10_init_17 : decode cX10_init 17 = .ok (.newarray .int, 2) := by decide +kernel
theorem dX10_init_19 : decode cX10_init 19 = .ok (.putfield 13, 3) := by decide +kernel
theorem dX10_init_22 : decode cX10_init 22 = .ok (.aload_n 0, 1) := by decide +kernel
theorem dX10_init_23 : decode cX10_init 23 = .ok (.sipush 280, 3) := by decide +kernel
theorem dX10_init_26 : decode cX10_init 26 = .ok (.newarray .int, 2) := by decide +kernel
theorem dX10_init_28 : decode cX10_init 28 = .ok (.putfield 16, 3) := by decide +kernel
theorem dX10_init_31 : decode cX10_init 31 = .ok (.aload_n 0, 1) := by decide +kernel
theorem dX10_init_32 : decode cX10_init 32 = .ok (.sipush 2240, 3) := by decide +kernel
theorem dX10_init_35 : decode cX10_init 35 = .ok (.newarray .int, 2) := by decide +kernel
theorem dX10_init_37 : decode cX10_init 37 = .ok (.putfield 19, 3) := by decide +kernel
theorem dX10_init_40 : decode cX10_init 40 = .ok (.aload_n 0, 1) := by decide +kernel
theorem dX10_init_41 : decode cX10_init 41 = .ok (.sipush 560, 3) := by decide +kernel
theorem dX10_init_44 : decode cX10_init 44 = .ok (.newarray .int, 2) := by decide +kernel
theorem dX10_init_46 : decode cX10_init 46 = .ok (.putfield 22, 3) := by decide +kernel
theorem dX10_init_49 : decode cX10_init 49 = .ok (.aload_n 0, 1) := by decide +kernel
theorem dX10_init_50 : decode cX10_init 50 = .ok (.bipush 64, 2) := by decide +kernel
theorem dX10_init_52 : decode cX10_init 52 = .ok (.newarray .int, 2) := by decide +kernel
theorem dX10_init_54 : decode cX10_init 54 = .ok (.putfield 25, 3) := by decide +kernel
theorem dX10_init_57 : decode cX10_init 57 = .ok (.aload_n 0, 1) := by decide +kernel
theorem dX10_init_58 : decode cX10_init 58 = .ok (.iconst 2, 1) := by decide +kernel
theorem dX10_init_59 : decode cX10_init 59 = .ok (.newarray .boolean, 2) := by decide +kernel
theorem dX10_init_61 : decode cX10_init 61 = .ok (.putfield 28, 3) := by decide +kernel
theorem dX10_init_64 : decode cX10_init 64 = .ok (.aload_n 0, 1) := by decide +kernel
theorem dX10_init_65 : decode cX10_init 65 = .ok (.sipush 800, 3) := by decide +kernel
theorem dX10_init_68 : decode cX10_init 68 = .ok (.newarray .int, 2) := by decide +kernel
theorem dX10_init_70 : decode cX10_init 70 = .ok (.putfield 32, 3) := by decide +kernel
theorem dX10_init_73 : decode cX10_init 73 = .ok (.aload_n 0, 1) := by decide +kernel
theorem dX10_init_74 : decode cX10_init 74 = .ok (.iconst (-1), 1) := by decide +kernel
theorem dX10_init_75 : decode cX10_init 75 = .ok (.putfield 35, 3) := by decide +kernel
theorem dX10_init_78 : decode cX10_init 78 = .ok (.aload_n 0, 1) := by decide +kernel
theorem dX10_init_79 : decode cX10_init 79 = .ok (.bipush 30, 2) := by decide +kernel
theorem dX10_init_81 : decode cX10_init 81 = .ok (.newarray .int, 2) := by decide +kernel
theorem dX10_init_83 : decode cX10_init 83 = .ok (.putfield 39, 3) := by decide +kernel
theorem dX10_init_86 : decode cX10_init 86 = .ok (.aload_n 0, 1) := by decide +kernel
theorem dX10_init_87 : decode cX10_init 87 = .ok (.bipush 30, 2) := by decide +kernel
theorem dX10_init_89 : decode cX10_init 89 = .ok (.newarray .int, 2) := by decide +kernel
theorem dX10_init_91 : decode cX10_init 91 = .ok (.putfield 42, 3) := by decide +kernel
theorem dX10_init_94 : decode cX10_init 94 = .ok (.aload_n 0, 1) := by decide +kernel
theorem dX10_init_95 : decode cX10_init 95 = .ok (.bipush 30, 2) := by decide +kernel
theorem dX10_init_97 : decode cX10_init 97 = .ok (.newarray .int, 2) := by decide +kernel
theorem dX10_init_99 : decode cX10_init 99 = .ok (.putfield 45, 3) := by decide +kernel
theorem dX10_init_102 : decode cX10_init 102 = .ok (.aload_n 0, 1) := by decide +kernel
theorem dX10_init_103 : decode cX10_init 103 = .ok (.bipush 30, 2) := by decide +kernel
theorem dX10_init_105 : decode cX10_init 105 = .ok (.newarray .int, 2) := by decide +kernel
theorem dX10_init_107 : decode cX10_init 107 = .ok (.putfield 48, 3) := by decide +kernel
theorem dX10_init_110 : decode cX10_init 110 = .ok (.aload_n 0, 1) := by decide +kernel
theorem dX10_init_111 : decode cX10_init 111 = .ok (.bipush 100, 2) := by decide +kernel
theorem dX10_init_113 : decode cX10_init 113 = .ok (.newarray .int, 2) := by decide +kernel
theorem dX10_init_115 : decode cX10_init 115 = .ok (.putfield 51, 3) := by decide +kernel
theorem dX10_init_118 : decode cX10_init 118 = .ok (.aload_n 0, 1) := by decide +kernel
theorem dX10_init_119 : decode cX10_init 119 = .ok (.ldc 54, 2) := by decide +kernel
theorem dX10_init_121 : decode cX10_init 121 = .ok (.invokevirtual 56, 3) := by decide +kernel
theorem dX10_init_124 : decode cX10_init 124 = .ok (.return_, 1) := by decide +kernel
theorem ow_10 : Cond.methodLink RX10 1 Lib.objectInit ∈ AL := al_mem 1393 (by decide +kernel) (by decide +kernel)
theorem stt_54 : (RX10, 54, "box 8 5 40; tooth 10 3 30; tooth 14 2 12; tooth 17 4 100; pin 0 0 0; pin 0 1 2; pin 0 2 4; pin 0 1 3; pin 1 0 1; pin 1 0 5;", 0) ∈ stt := by decide +kernel
/-- zeros in the reference's things -/
def mQ (M : Mm) : Mm := (fun x j => if 18 ≤ x.1 ∧ x.1 < 21 then 0 else M.1 x j, fun x j => if 18 ≤ x.1 ∧ x.1 < 21 then 0 else M.2 x j)
/-- and its last place -/
def mR (M : Mm) : Mm := putI (mQ M) (18, 0, 0) 12 (-1)
theorem mQ_N {M : Mm} {r : Rf} (h : 18 ≤ r.1 ∧ r.1 < 21) : mN (mQ M) r = mQ M := by
  refine Prod.ext (funext fun x => funext fun j => ?_) (funext fun x => funext fun j => ?_)
  · by_cases e : x = r
    · subst e
      rw [show (mN (mQ M) x).1 x j = 0 from if_pos rfl]
      exact (if_pos h).symm
    · exact (mN_o e j).1
  · by_cases e : x = r
    · subst e
      rw [show (mN (mQ M) x).2 x j = 0 from if_pos rfl]
      exact (if_pos h).symm
    · exact (mN_o e j).2
theorem mR_N {M : Mm} {r : Rf} (h : 18 < r.1 ∧ r.1 < 21) : mN (mR M) r = mR M := by
  have hne : r ≠ (18, 0, 0) := fun c => by rw [c] at h; exact absurd h.1 (by decide)
  refine Prod.ext (funext fun x => funext fun j => ?_) (funext fun x => funext fun j => ?_)
  · by_cases e : x = r
    · subst e
      rw [show (mN (mR M) x).1 x j = 0 from if_pos rfl]
      unfold mR
      rw [putI_ne hne]
      exact (if_pos ⟨by omega, h.2⟩).symm
    · exact (mN_o e j).1
  · by_cases e : x = r
    · subst e
      rw [show (mN (mR M) x).2 x j = 0 from if_pos rfl]
      exact (if_pos ⟨by omega, h.2⟩).symm
    · exact (mN_o e j).2
def T0 : List Rf := [(18, 0, 0)]
def T1 : List Rf := T0 ++ [(19, 0, 0)]
def T2 : List Rf := T1 ++ [(19, 1, 0)]
def T3 : List Rf := T2 ++ [(19, 2, 0)]
def T4 : List Rf := T3 ++ [(19, 3, 0)]
def T5 : List Rf := T4 ++ [(19, 4, 0)]
def T6 : List Rf := T5 ++ [(19, 5, 0)]
def T7 : List Rf := T6 ++ [(20, 0, 0)]
def T8 : List Rf := T7 ++ [(19, 6, 0)]
def T9 : List Rf := T8 ++ [(19, 7, 0)]
def T10 : List Rf := T9 ++ [(19, 8, 0)]
def T11 : List Rf := T10 ++ [(19, 9, 0)]
def T12 : List Rf := T11 ++ [(19, 10, 0)]
def T13 : List Rf := T12 ++ [(19, 11, 0)]
abbrev J0 : List Rf := allR 0 ++ T0
abbrev J1 : List Rf := allR 0 ++ T1
abbrev J2 : List Rf := allR 0 ++ T2
abbrev J3 : List Rf := allR 0 ++ T3
abbrev J4 : List Rf := allR 0 ++ T4
abbrev J5 : List Rf := allR 0 ++ T5
abbrev J6 : List Rf := allR 0 ++ T6
abbrev J7 : List Rf := allR 0 ++ T7
abbrev J8 : List Rf := allR 0 ++ T8
abbrev J9 : List Rf := allR 0 ++ T9
abbrev J10 : List Rf := allR 0 ++ T10
abbrev J11 : List Rf := allR 0 ++ T11
abbrev J12 : List Rf := allR 0 ++ T12
abbrev J13 : List Rf := allR 0 ++ T13
theorem cl_18 : ∀ x ∈ allR 0, x.1 < 18 := by decide +kernel
/-- the class's things as they are, the reference's so far -/
def shX (T : List Rf) : Sh := fun x j => if x.1 < 18 then shM (allR 0) x j else shM T x j
theorem shM_in {K : List Rf} {x y : Rf} {j : Nat} (h : shM K x j = some y) : y ∈ K := by
  unfold shM at h
  split at h
  · rename_i z _
    by_cases e : z ∈ K
    · rw [if_pos e] at h; cases h; exact e
    · rw [if_neg e] at h; cases h
  · cases h
theorem shC_X {T : List Rf} : shC (shX T) (allR 0 ++ T) := by
  intro x _ j y h
  unfold shX at h
  by_cases e : x.1 < 18
  · rw [if_pos e] at h
    exact List.mem_append_left _ (shM_in h)
  · rw [if_neg e] at h
    exact List.mem_append_right _ (shM_in h)
theorem ndJ {T : List Rf} (h : T.Nodup ∧ ∀ x ∈ T, 18 ≤ x.1) : (allR 0 ++ T).Nodup := List.nodup_append.mpr ⟨allR_nd, h.1, fun a ha b hb e => by
  have h1 := cl_18 a ha
  have h2 := h.2 b hb
  rw [e] at h1
  omega⟩
theorem nmJ {T : List Rf} {r : Rf} (h : 18 ≤ r.1 ∧ r ∉ T) : r ∉ allR 0 ++ T := fun c => (List.mem_append.mp c).elim (fun c => by have := cl_18 r c; omega) h.2
/-- the next thing's reference put -/
theorem agX {T : List Rf} {r : Rf} {j : Nat} {M : Mm} (hr : 18 ≤ r.1) (h : agB (T ++ [r]) (shP (shN (shX T) r) (18, 0, 0) j (some r)) (shX (T ++ [r])) = true) : ∀ x ∈ (allR 0 ++ T) ++ [r], AgR (shP (shN (shX T) r) (18, 0, 0) j (some r)) (shX (T ++ [r])) M M x := by
  intro x hx
  rw [List.append_assoc] at hx
  rcases List.mem_append.mp hx with hx | hx
  · have h18 := cl_18 x hx
    have n1 : x ≠ (18, 0, 0) := fun c => by rw [c] at h18; exact absurd h18 (by decide)
    have n2 : x ≠ r := fun c => by rw [c] at h18; omega
    exact ⟨fun i _ => by rw [shP_o (fun c => n1 c.1), shN_o n2]; unfold shX; rw [if_pos h18, if_pos h18], fun _ => rfl, fun _ => rfl⟩
  · exact agB_spec h x hx
theorem J_nd0 : (T0.Nodup ∧ ∀ x ∈ T0, 18 ≤ x.1) ∧ (18 ≤ (19, 0, 0).1 ∧ (19, 0, 0) ∉ T0) ∧ (18, 0, 0) ∈ T0 := by decide +kernel
theorem J_ag0 : agB (T0 ++ [(19, 0, 0)]) (shP (shN (shX T0) (19, 0, 0)) (18, 0, 0) 0 (some (19, 0, 0))) (shX (T0 ++ [(19, 0, 0)])) = true := by decide +kernel
theorem J_nd1 : (T1.Nodup ∧ ∀ x ∈ T1, 18 ≤ x.1) ∧ (18 ≤ (19, 1, 0).1 ∧ (19, 1, 0) ∉ T1) ∧ (18, 0, 0) ∈ T1 := by decide +kernel
theorem J_ag1 : agB (T1 ++ [(19, 1, 0)]) (shP (shN (shX T1) (19, 1, 0)) (18, 0, 0) 1 (some (19, 1, 0))) (shX (T1 ++ [(19, 1, 0)])) = true := by decide +kernel
theorem J_nd2 : (T2.Nodup ∧ ∀ x ∈ T2, 18 ≤ x.1) ∧ (18 ≤ (19, 2, 0).1 ∧ (19, 2, 0) ∉ T2) ∧ (18, 0, 0) ∈ T2 := by decide +kernel
theorem J_ag2 : agB (T2 ++ [(19, 2, 0)]) (shP (shN (shX T2) (19, 2, 0)) (18, 0, 0) 2 (some (19, 2, 0))) (shX (T2 ++ [(19, 2, 0)])) = true := by decide +kernel
theorem J_nd3 : (T3.Nodup ∧ ∀ x ∈ T3, 18 ≤ x.1) ∧ (18 ≤ (19, 3, 0).1 ∧ (19, 3, 0) ∉ T3) ∧ (18, 0, 0) ∈ T3 := by decide +kernel
theorem J_ag3 : agB (T3 ++ [(19, 3, 0)]) (shP (shN (shX T3) (19, 3, 0)) (18, 0, 0) 3 (some (19, 3, 0))) (shX (T3 ++ [(19, 3, 0)])) = true := by decide +kernel
theorem J_nd4 : (T4.Nodup ∧ ∀ x ∈ T4, 18 ≤ x.1) ∧ (18 ≤ (19, 4, 0).1 ∧ (19, 4, 0) ∉ T4) ∧ (18, 0, 0) ∈ T4 := by decide +kernel
theorem J_ag4 : agB (T4 ++ [(19, 4, 0)]) (shP (shN (shX T4) (19, 4, 0)) (18, 0, 0) 4 (some (19, 4, 0))) (shX (T4 ++ [(19, 4, 0)])) = true := by decide +kernel
theorem J_nd5 : (T5.Nodup ∧ ∀ x ∈ T5, 18 ≤ x.1) ∧ (18 ≤ (19, 5, 0).1 ∧ (19, 5, 0) ∉ T5) ∧ (18, 0, 0) ∈ T5 := by decide +kernel
theorem J_ag5 : agB (T5 ++ [(19, 5, 0)]) (shP (shN (shX T5) (19, 5, 0)) (18, 0, 0) 5 (some (19, 5, 0))) (shX (T5 ++ [(19, 5, 0)])) = true := by decide +kernel
theorem J_nd6 : (T6.Nodup ∧ ∀ x ∈ T6, 18 ≤ x.1) ∧ (18 ≤ (20, 0, 0).1 ∧ (20, 0, 0) ∉ T6) ∧ (18, 0, 0) ∈ T6 := by decide +kernel
theorem J_ag6 : agB (T6 ++ [(20, 0, 0)]) (shP (shN (shX T6) (20, 0, 0)) (18, 0, 0) 6 (some (20, 0, 0))) (shX (T6 ++ [(20, 0, 0)])) = true := by decide +kernel
theorem J_nd7 : (T7.Nodup ∧ ∀ x ∈ T7, 18 ≤ x.1) ∧ (18 ≤ (19, 6, 0).1 ∧ (19, 6, 0) ∉ T7) ∧ (18, 0, 0) ∈ T7 := by decide +kernel
theorem J_ag7 : agB (T7 ++ [(19, 6, 0)]) (shP (shN (shX T7) (19, 6, 0)) (18, 0, 0) 9 (some (19, 6, 0))) (shX (T7 ++ [(19, 6, 0)])) = true := by decide +kernel
theorem J_nd8 : (T8.Nodup ∧ ∀ x ∈ T8, 18 ≤ x.1) ∧ (18 ≤ (19, 7, 0).1 ∧ (19, 7, 0) ∉ T8) ∧ (18, 0, 0) ∈ T8 := by decide +kernel
theorem J_ag8 : agB (T8 ++ [(19, 7, 0)]) (shP (shN (shX T8) (19, 7, 0)) (18, 0, 0) 19 (some (19, 7, 0))) (shX (T8 ++ [(19, 7, 0)])) = true := by decide +kernel
theorem J_nd9 : (T9.Nodup ∧ ∀ x ∈ T9, 18 ≤ x.1) ∧ (18 ≤ (19, 8, 0).1 ∧ (19, 8, 0) ∉ T9) ∧ (18, 0, 0) ∈ T9 := by decide +kernel
theorem J_ag9 : agB (T9 ++ [(19, 8, 0)]) (shP (shN (shX T9) (19, 8, 0)) (18, 0, 0) 20 (some (19, 8, 0))) (shX (T9 ++ [(19, 8, 0)])) = true := by decide +kernel
theorem J_nd10 : (T10.Nodup ∧ ∀ x ∈ T10, 18 ≤ x.1) ∧ (18 ≤ (19, 9, 0).1 ∧ (19, 9, 0) ∉ T10) ∧ (18, 0, 0) ∈ T10 := by decide +kernel
theorem J_ag10 : agB (T10 ++ [(19, 9, 0)]) (shP (shN (shX T10) (19, 9, 0)) (18, 0, 0) 21 (some (19, 9, 0))) (shX (T10 ++ [(19, 9, 0)])) = true := by decide +kernel
theorem J_nd11 : (T11.Nodup ∧ ∀ x ∈ T11, 18 ≤ x.1) ∧ (18 ≤ (19, 10, 0).1 ∧ (19, 10, 0) ∉ T11) ∧ (18, 0, 0) ∈ T11 := by decide +kernel
theorem J_ag11 : agB (T11 ++ [(19, 10, 0)]) (shP (shN (shX T11) (19, 10, 0)) (18, 0, 0) 22 (some (19, 10, 0))) (shX (T11 ++ [(19, 10, 0)])) = true := by decide +kernel
theorem J_nd12 : (T12.Nodup ∧ ∀ x ∈ T12, 18 ≤ x.1) ∧ (18 ≤ (19, 11, 0).1 ∧ (19, 11, 0) ∉ T12) ∧ (18, 0, 0) ∈ T12 := by decide +kernel
theorem J_ag12 : agB (T12 ++ [(19, 11, 0)]) (shP (shN (shX T12) (19, 11, 0)) (18, 0, 0) 26 (some (19, 11, 0))) (shX (T12 ++ [(19, 11, 0)])) = true := by decide +kernel
theorem J_z : agB T13 (shX T13) SH = true := by decide +kernel
theorem J_z0 : agB (allR 0) (shM (allR 0)) SH = true := by decide +kernel
theorem J13_nd : T13.Nodup ∧ ∀ x ∈ T13, 18 ≤ x.1 := by decide +kernel
theorem agZ {M : Mm} : ∀ x ∈ allR 0 ++ T13, AgR (shX T13) SH M M x := by
  intro x hx
  rcases List.mem_append.mp hx with hx | hx
  · have h18 := cl_18 x hx
    have h := agB_spec (M := M) J_z0 x hx
    exact ⟨fun i hi => by rw [h.1 i hi]; unfold shX; rw [if_pos h18], fun _ => rfl, fun _ => rfl⟩
  · exact agB_spec J_z x hx
theorem J13_in : (∀ x ∈ allR 1, x ∈ J13) ∧ (∀ x ∈ J13, x ∈ allR 1) := by decide +kernel
set_option maxRecDepth 20000 in
set_option maxHeartbeats 4000000 in
theorem nY10 {M res : Mm} (h : fX10_takesText (mR M) 0 = some res) : TriN yX10_init cX10_init 1 14 13 4726 J0 (shX T0) [.inr (18, 0, 0)] (mN M (18, 0, 0)) (allR 1) SH res := by
  refine TriN.go (own := RX10) (nme := "<init>") (n := 0) (ls := [some (.inr (18, 0, 0))]) (by decide) rfl rfl rfl rfl ?_
  refine z_pic (sh' := shX T0) (M' := mQ M) (fun x hx => ⟨fun _ _ => rfl, ?_⟩) (fun x => Iff.rfl) ?_
  · rcases List.mem_append.mp hx with hx | hx
    · have h18 := cl_18 x hx
      have hne : x ≠ (18, 0, 0) := fun c => by rw [c] at h18; exact absurd h18 (by decide)
      exact ⟨fun j => (if_neg (fun c => by omega)).trans (mN_o hne j).1.symm, fun j => (if_neg (fun c => by omega)).trans (mN_o hne j).2.symm⟩
    · rw [List.mem_singleton.mp hx]
      refine ⟨fun j => ?_, fun j => ?_⟩
      · show (if 18 ≤ 18 ∧ 18 < 21 then (0 : Int32) else M.1 (18, 0, 0) j) = (mN M (18, 0, 0)).1 (18, 0, 0) j
        rw [if_pos (by decide)]
        exact (zr_N.1 j).symm
      · show (if 18 ≤ 18 ∧ 18 < 21 then (0 : Int64) else M.2 (18, 0, 0) j) = (mN M (18, 0, 0)).2 (18, 0, 0) j
        rw [if_pos (by decide)]
        exact (zr_N.2 j).symm
  refine z_aload_n (i := 0) dX10_init_0 rfl rfl ?_
  refine z_objI dX10_init_1 ⟨ow_10, ow_i, ow_c⟩ (by decide) (Nat.le_of_ble_eq_true rfl) ?_
  refine z_aload_n (i := 0) dX10_init_4 rfl rfl ?_
  refine z_sipush (v := (280 : Int32)) dX10_init_5 (by decide) ?_
  refine z_newa (atype := .int) (ty := .int) (t := 0) (N := 280) (a0 := (280, .inl fun _ => 0)) (r := (19, 0, 0)) (ndJ J_nd0.1) (nmJ J_nd0.2.1) (by decide) dX10_init_8 ac_i rfl (fun _ => rfl) (fun _ => rfl) (fun tc ad => he_I rfl) (by decide) (by decide) (Nat.le_of_ble_eq_true rfl) shC_X (qmn_G (fun x h => (List.mem_append.mp h).elim (fun h => List.mem_append_left _ h) (fun h => List.mem_append_right _ (by exact h)))) (ls_1 (P := fun v => v ≠ .inr (19, 0, 0)) (inr_ne (by decide))) (st_1 (P := fun v => v ≠ .inr (19, 0, 0)) (inr_ne (by decide))) (by decide) (by decide) ?_
  rw [mQ_N (by decide)]
  refine z_putR (ci := 10) (j := 0) (r := (18, 0, 0)) (y := (19, 0, 0)) (by rw [List.append_assoc]; exact ndJ J_nd1.1) dX10_init_10 fl_X10_7 (m_l (List.mem_append_right _ J_nd0.2.2)) rfl rfl rfl rfl (fun _ => rfl) (fun _ => rfl) ?_
  refine z_pic (rs' := J1) (sh' := shX T1) (agX (by decide) J_ag0) (fun x => by rw [List.append_assoc]; exact Iff.rfl) (z_wid (c2 := 1) (s2 := 280) (by decide) (by decide) ?_)
  refine z_aload_n (i := 0) dX10_init_13 rfl rfl ?_
  refine z_sipush (v := (280 : Int32)) dX10_init_14 (by decide) ?_
  refine z_newa (atype := .int) (ty := .int) (t := 0) (N := 280) (a0 := (280, .inl fun _ => 0)) (r := (19, 1, 0)) (ndJ J_nd1.1) (nmJ J_nd1.2.1) (by decide) dX10_init_17 ac_i rfl (fun _ => rfl) (fun _ => rfl) (fun tc ad => he_I rfl) (by decide) (by decide) (Nat.le_of_ble_eq_true rfl) shC_X (qmn_G (fun x h => (List.mem_append.mp h).elim (fun h => List.mem_append_left _ h) (fun h => List.mem_append_right _ (by exact m_l (h))))) (ls_1 (P := fun v => v ≠ .inr (19, 1, 0)) (inr_ne (by decide))) (st_1 (P := fun v => v ≠ .inr (19, 1, 0)) (inr_ne (by decide))) (by decide) (by decide) ?_
  rw [mQ_N (by decide)]
  refine z_putR (ci := 10) (j := 1) (r := (18, 0, 0)) (y := (19, 1, 0)) (by rw [List.append_assoc]; exact ndJ J_nd2.1) dX10_init_19 fl_X10_13 (m_l (List.mem_append_right _ J_nd1.2.2)) rfl rfl rfl rfl (fun _ => rfl) (fun _ => rfl) ?_
  refine z_pic (rs' := J2) (sh' := shX T2) (agX (by decide) J_ag1) (fun x => by rw [List.append_assoc]; exact Iff.rfl) (z_wid (c2 := 2) (s2 := 560) (by decide) (by decide) ?_)
  refine z_aload_n (i := 0) dX10_init_22 rfl rfl ?_
  refine z_sipush (v := (280 : Int32)) dX10_init_23 (by decide) ?_
  refine z_newa (atype := .int) (ty := .int) (t := 0) (N := 280) (a0 := (280, .inl fun _ => 0)) (r := (19, 2, 0)) (ndJ J_nd2.1) (nmJ J_nd2.2.1) (by decide) dX10_init_26 ac_i rfl (fun _ => rfl) (fun _ => rfl) (fun tc ad => he_I rfl) (by decide) (by decide) (Nat.le_of_ble_eq_true rfl) shC_X (qmn_G (fun x h => (List.mem_append.mp h).elim (fun h => List.mem_append_left _ h) (fun h => List.mem_append_right _ (by exact m_l (m_l (h)))))) (ls_1 (P := fun v => v ≠ .inr (19, 2, 0)) (inr_ne (by decide))) (st_1 (P := fun v => v ≠ .inr (19, 2, 0)) (inr_ne (by decide))) (by decide) (by decide) ?_
  rw [mQ_N (by decide)]
  refine z_putR (ci := 10) (j := 2) (r := (18, 0, 0)) (y := (19, 2, 0)) (by rw [List.append_assoc]; exact ndJ J_nd3.1) dX10_init_28 fl_X10_16 (m_l (List.mem_append_right _ J_nd2.2.2)) rfl rfl rfl rfl (fun _ => rfl) (fun _ => rfl) ?_
  refine z_pic (rs' := J3) (sh' := shX T3) (agX (by decide) J_ag2) (fun x => by rw [List.append_assoc]; exact Iff.rfl) (z_wid (c2 := 3) (s2 := 840) (by decide) (by decide) ?_)
  refine z_aload_n (i := 0) dX10_init_31 rfl rfl ?_
  refine z_sipush (v := (2240 : Int32)) dX10_init_32 (by decide) ?_
  refine z_newa (atype := .int) (ty := .int) (t := 0) (N := 2240) (a0 := (2240, .inl fun _ => 0)) (r := (19, 3, 0)) (ndJ J_nd3.1) (nmJ J_nd3.2.1) (by decide) dX10_init_35 ac_i rfl (fun _ => rfl) (fun _ => rfl) (fun tc ad => he_I rfl) (by decide) (by decide) (Nat.le_of_ble_eq_true rfl) shC_X (qmn_G (fun x h => (List.mem_append.mp h).elim (fun h => List.mem_append_left _ h) (fun h => List.mem_append_right _ (by exact m_l (m_l (m_l (h))))))) (ls_1 (P := fun v => v ≠ .inr (19, 3, 0)) (inr_ne (by decide))) (st_1 (P := fun v => v ≠ .inr (19, 3, 0)) (inr_ne (by decide))) (by decide) (by decide) ?_
  rw [mQ_N (by decide)]
  refine z_putR (ci := 10) (j := 3) (r := (18, 0, 0)) (y := (19, 3, 0)) (by rw [List.append_assoc]; exact ndJ J_nd4.1) dX10_init_37 fl_X10_19 (m_l (List.mem_append_right _ J_nd3.2.2)) rfl rfl rfl rfl (fun _ => rfl) (fun _ => rfl) ?_
  refine z_pic (rs' := J4) (sh' := shX T4) (agX (by decide) J_ag3) (fun x => by rw [List.append_assoc]; exact Iff.rfl) (z_wid (c2 := 4) (s2 := 3080) (by decide) (by decide) ?_)
  refine z_aload_n (i := 0) dX10_init_40 rfl rfl ?_
  refine z_sipush (v := (560 : Int32)) dX10_init_41 (by decide) ?_
  refine z_newa (atype := .int) (ty := .int) (t := 0) (N := 560) (a0 := (560, .inl fun _ => 0)) (r := (19, 4, 0)) (ndJ J_nd4.1) (nmJ J_nd4.2.1) (by decide) dX10_init_44 ac_i rfl (fun _ => rfl) (fun _ => rfl) (fun tc ad => he_I rfl) (by decide) (by decide) (Nat.le_of_ble_eq_true rfl) shC_X (qmn_G (fun x h => (List.mem_append.mp h).elim (fun h => List.mem_append_left _ h) (fun h => List.mem_append_right _ (by exact m_l (m_l (m_l (m_l (h)))))))) (ls_1 (P := fun v => v ≠ .inr (19, 4, 0)) (inr_ne (by decide))) (st_1 (P := fun v => v ≠ .inr (19, 4, 0)) (inr_ne (by decide))) (by decide) (by decide) ?_
  rw [mQ_N (by decide)]
  refine z_putR (ci := 10) (j := 4) (r := (18, 0, 0)) (y := (19, 4, 0)) (by rw [List.append_assoc]; exact ndJ J_nd5.1) dX10_init_46 fl_X10_22 (m_l (List.mem_append_right _ J_nd4.2.2)) rfl rfl rfl rfl (fun _ => rfl) (fun _ => rfl) ?_
  refine z_pic (rs' := J5) (sh' := shX T5) (agX (by decide) J_ag4) (fun x => by rw [List.append_assoc]; exact Iff.rfl) (z_wid (c2 := 5) (s2 := 3640) (by decide) (by decide) ?_)
  refine z_aload_n (i := 0) dX10_init_49 rfl rfl ?_
  refine z_bipush (v := (64 : Int32)) dX10_init_50 (by decide) ?_
  refine z_newa (atype := .int) (ty := .int) (t := 0) (N := 64) (a0 := (64, .inl fun _ => 0)) (r := (19, 5, 0)) (ndJ J_nd5.1) (nmJ J_nd5.2.1) (by decide) dX10_init_52 ac_i rfl (fun _ => rfl) (fun _ => rfl) (fun tc ad => he_I rfl) (by decide) (by decide) (Nat.le_of_ble_eq_true rfl) shC_X (qmn_G (fun x h => (List.mem_append.mp h).elim (fun h => List.mem_append_left _ h) (fun h => List.mem_append_right _ (by exact m_l (m_l (m_l (m_l (m_l (h))))))))) (ls_1 (P := fun v => v ≠ .inr (19, 5, 0)) (inr_ne (by decide))) (st_1 (P := fun v => v ≠ .inr (19, 5, 0)) (inr_ne (by decide))) (by decide) (by decide) ?_
  rw [mQ_N (by decide)]
  refine z_putR (ci := 10) (j := 5) (r := (18, 0, 0)) (y := (19, 5, 0)) (by rw [List.append_assoc]; exact ndJ J_nd6.1) dX10_init_54 fl_X10_25 (m_l (List.mem_append_right _ J_nd5.2.2)) rfl rfl rfl rfl (fun _ => rfl) (fun _ => rfl) ?_
  refine z_pic (rs' := J6) (sh' := shX T6) (agX (by decide) J_ag5) (fun x => by rw [List.append_assoc]; exact Iff.rfl) (z_wid (c2 := 6) (s2 := 3704) (by decide) (by decide) ?_)
  refine z_aload_n (i := 0) dX10_init_57 rfl rfl ?_
  refine z_iconst (v := (2 : Int32)) dX10_init_58 (by decide) ?_
  refine z_newa (atype := .boolean) (ty := .boolean) (t := 1) (N := 2) (a0 := (2, .inl fun _ => 0)) (r := (20, 0, 0)) (ndJ J_nd6.1) (nmJ J_nd6.2.1) (by decide) dX10_init_59 ac_z rfl (fun _ => rfl) (fun _ => rfl) (fun tc ad => he_Z rfl) (by decide) (by decide) (Nat.le_of_ble_eq_true rfl) shC_X (qmn_G (fun x h => (List.mem_append.mp h).elim (fun h => List.mem_append_left _ h) (fun h => List.mem_append_right _ (by exact m_l (m_l (m_l (m_l (m_l (m_l (h)))))))))) (ls_1 (P := fun v => v ≠ .inr (20, 0, 0)) (inr_ne (by decide))) (st_1 (P := fun v => v ≠ .inr (20, 0, 0)) (inr_ne (by decide))) (by decide) (by decide) ?_
  rw [mQ_N (by decide)]
  refine z_putR (ci := 10) (j := 6) (r := (18, 0, 0)) (y := (20, 0, 0)) (by rw [List.append_assoc]; exact ndJ J_nd7.1) dX10_init_61 fl_X10_28 (m_l (List.mem_append_right _ J_nd6.2.2)) rfl rfl rfl rfl (fun _ => rfl) (fun _ => rfl) ?_
  refine z_pic (rs' := J7) (sh' := shX T7) (agX (by decide) J_ag6) (fun x => by rw [List.append_assoc]; exact Iff.rfl) (z_wid (c2 := 7) (s2 := 3706) (by decide) (by decide) ?_)
  refine z_aload_n (i := 0) dX10_init_64 rfl rfl ?_
  refine z_sipush (v := (800 : Int32)) dX10_init_65 (by decide) ?_
  refine z_newa (atype := .int) (ty := .int) (t := 0) (N := 800) (a0 := (800, .inl fun _ => 0)) (r := (19, 6, 0)) (ndJ J_nd7.1) (nmJ J_nd7.2.1) (by decide) dX10_init_68 ac_i rfl (fun _ => rfl) (fun _ => rfl) (fun tc ad => he_I rfl) (by decide) (by decide) (Nat.le_of_ble_eq_true rfl) shC_X (qmn_G (fun x h => (List.mem_append.mp h).elim (fun h => List.mem_append_left _ h) (fun h => List.mem_append_right _ (by exact m_l (m_l (m_l (m_l (m_l (m_l (m_l (h))))))))))) (ls_1 (P := fun v => v ≠ .inr (19, 6, 0)) (inr_ne (by decide))) (st_1 (P := fun v => v ≠ .inr (19, 6, 0)) (inr_ne (by decide))) (by decide) (by decide) ?_
  rw [mQ_N (by decide)]
  refine z_putR (ci := 10) (j := 9) (r := (18, 0, 0)) (y := (19, 6, 0)) (by rw [List.append_assoc]; exact ndJ J_nd8.1) dX10_init_70 fl_X10_32 (m_l (List.mem_append_right _ J_nd7.2.2)) rfl rfl rfl rfl (fun _ => rfl) (fun _ => rfl) ?_
  refine z_pic (rs' := J8) (sh' := shX T8) (agX (by decide) J_ag7) (fun x => by rw [List.append_assoc]; exact Iff.rfl) (z_wid (c2 := 8) (s2 := 4506) (by decide) (by decide) ?_)
  refine z_aload_n (i := 0) dX10_init_73 rfl rfl ?_
  refine z_iconst (v := (-1 : Int32)) dX10_init_74 (by decide) ?_
  refine z_putI (ndJ J_nd8.1) dX10_init_75 fl_X10_35 (List.mem_append_right _ J_nd8.2.2) rfl rfl ?_
  rw [show putI (mQ M) (18, 0, 0) 12 (-1) = mR M from rfl]
  refine z_aload_n (i := 0) dX10_init_78 rfl rfl ?_
  refine z_bipush (v := (30 : Int32)) dX10_init_79 (by decide) ?_
  refine z_newa (atype := .int) (ty := .int) (t := 0) (N := 30) (a0 := (30, .inl fun _ => 0)) (r := (19, 7, 0)) (ndJ J_nd8.1) (nmJ J_nd8.2.1) (by decide) dX10_init_81 ac_i rfl (fun _ => rfl) (fun _ => rfl) (fun tc ad => he_I rfl) (by decide) (by decide) (Nat.le_of_ble_eq_true rfl) shC_X (qmn_G (fun x h => (List.mem_append.mp h).elim (fun h => List.mem_append_left _ h) (fun h => List.mem_append_right _ (by exact m_l (m_l (m_l (m_l (m_l (m_l (m_l (m_l (h)))))))))))) (ls_1 (P := fun v => v ≠ .inr (19, 7, 0)) (inr_ne (by decide))) (st_1 (P := fun v => v ≠ .inr (19, 7, 0)) (inr_ne (by decide))) (by decide) (by decide) ?_
  rw [mR_N (by decide)]
  refine z_putR (ci := 10) (j := 19) (r := (18, 0, 0)) (y := (19, 7, 0)) (by rw [List.append_assoc]; exact ndJ J_nd9.1) dX10_init_83 fl_X10_39 (m_l (List.mem_append_right _ J_nd8.2.2)) rfl rfl rfl rfl (fun _ => rfl) (fun _ => rfl) ?_
  refine z_pic (rs' := J9) (sh' := shX T9) (agX (by decide) J_ag8) (fun x => by rw [List.append_assoc]; exact Iff.rfl) (z_wid (c2 := 9) (s2 := 4536) (by decide) (by decide) ?_)
  refine z_aload_n (i := 0) dX10_init_86 rfl rfl ?_
  refine z_bipush (v := (30 : Int32)) dX10_init_87 (by decide) ?_
  refine z_newa (atype := .int) (ty := .int) (t := 0) (N := 30) (a0 := (30, .inl fun _ => 0)) (r := (19, 8, 0)) (ndJ J_nd9.1) (nmJ J_nd9.2.1) (by decide) dX10_init_89 ac_i rfl (fun _ => rfl) (fun _ => rfl) (fun tc ad => he_I rfl) (by decide) (by decide) (Nat.le_of_ble_eq_true rfl) shC_X (qmn_G (fun x h => (List.mem_append.mp h).elim (fun h => List.mem_append_left _ h) (fun h => List.mem_append_right _ (by exact m_l (m_l (m_l (m_l (m_l (m_l (m_l (m_l (m_l (h))))))))))))) (ls_1 (P := fun v => v ≠ .inr (19, 8, 0)) (inr_ne (by decide))) (st_1 (P := fun v => v ≠ .inr (19, 8, 0)) (inr_ne (by decide))) (by decide) (by decide) ?_
  rw [mR_N (by decide)]
  refine z_putR (ci := 10) (j := 20) (r := (18, 0, 0)) (y := (19, 8, 0)) (by rw [List.append_assoc]; exact ndJ J_nd10.1) dX10_init_91 fl_X10_42 (m_l (List.mem_append_right _ J_nd9.2.2)) rfl rfl rfl rfl (fun _ => rfl) (fun _ => rfl) ?_
  refine z_pic (rs' := J10) (sh' := shX T10) (agX (by decide) J_ag9) (fun x => by rw [List.append_assoc]; exact Iff.rfl) (z_wid (c2 := 10) (s2 := 4566) (by decide) (by decide) ?_)
  refine z_aload_n (i := 0) dX10_init_94 rfl rfl ?_
  refine z_bipush (v := (30 : Int32)) dX10_init_95 (by decide) ?_
  refine z_newa (atype := .int) (ty := .int) (t := 0) (N := 30) (a0 := (30, .inl fun _ => 0)) (r := (19, 9, 0)) (ndJ J_nd10.1) (nmJ J_nd10.2.1) (by decide) dX10_init_97 ac_i rfl (fun _ => rfl) (fun _ => rfl) (fun tc ad => he_I rfl) (by decide) (by decide) (Nat.le_of_ble_eq_true rfl) shC_X (qmn_G (fun x h => (List.mem_append.mp h).elim (fun h => List.mem_append_left _ h) (fun h => List.mem_append_right _ (by exact m_l (m_l (m_l (m_l (m_l (m_l (m_l (m_l (m_l (m_l (h)))))))))))))) (ls_1 (P := fun v => v ≠ .inr (19, 9, 0)) (inr_ne (by decide))) (st_1 (P := fun v => v ≠ .inr (19, 9, 0)) (inr_ne (by decide))) (by decide) (by decide) ?_
  rw [mR_N (by decide)]
  refine z_putR (ci := 10) (j := 21) (r := (18, 0, 0)) (y := (19, 9, 0)) (by rw [List.append_assoc]; exact ndJ J_nd11.1) dX10_init_99 fl_X10_45 (m_l (List.mem_append_right _ J_nd10.2.2)) rfl rfl rfl rfl (fun _ => rfl) (fun _ => rfl) ?_
  refine z_pic (rs' := J11) (sh' := shX T11) (agX (by decide) J_ag10) (fun x => by rw [List.append_assoc]; exact Iff.rfl) (z_wid (c2 := 11) (s2 := 4596) (by decide) (by decide) ?_)
  refine z_aload_n (i := 0) dX10_init_102 rfl rfl ?_
  refine z_bipush (v := (30 : Int32)) dX10_init_103 (by decide) ?_
  refine z_newa (atype := .int) (ty := .int) (t := 0) (N := 30) (a0 := (30, .inl fun _ => 0)) (r := (19, 10, 0)) (ndJ J_nd11.1) (nmJ J_nd11.2.1) (by decide) dX10_init_105 ac_i rfl (fun _ => rfl) (fun _ => rfl) (fun tc ad => he_I rfl) (by decide) (by decide) (Nat.le_of_ble_eq_true rfl) shC_X (qmn_G (fun x h => (List.mem_append.mp h).elim (fun h => List.mem_append_left _ h) (fun h => List.mem_append_right _ (by exact m_l (m_l (m_l (m_l (m_l (m_l (m_l (m_l (m_l (m_l (m_l (h))))))))))))))) (ls_1 (P := fun v => v ≠ .inr (19, 10, 0)) (inr_ne (by decide))) (st_1 (P := fun v => v ≠ .inr (19, 10, 0)) (inr_ne (by decide))) (by decide) (by decide) ?_
  rw [mR_N (by decide)]
  refine z_putR (ci := 10) (j := 22) (r := (18, 0, 0)) (y := (19, 10, 0)) (by rw [List.append_assoc]; exact ndJ J_nd12.1) dX10_init_107 fl_X10_48 (m_l (List.mem_append_right _ J_nd11.2.2)) rfl rfl rfl rfl (fun _ => rfl) (fun _ => rfl) ?_
  refine z_pic (rs' := J12) (sh' := shX T12) (agX (by decide) J_ag11) (fun x => by rw [List.append_assoc]; exact Iff.rfl) (z_wid (c2 := 12) (s2 := 4626) (by decide) (by decide) ?_)
  refine z_aload_n (i := 0) dX10_init_110 rfl rfl ?_
  refine z_bipush (v := (100 : Int32)) dX10_init_111 (by decide) ?_
  refine z_newa (atype := .int) (ty := .int) (t := 0) (N := 100) (a0 := (100, .inl fun _ => 0)) (r := (19, 11, 0)) (ndJ J_nd12.1) (nmJ J_nd12.2.1) (by decide) dX10_init_113 ac_i rfl (fun _ => rfl) (fun _ => rfl) (fun tc ad => he_I rfl) (by decide) (by decide) (Nat.le_of_ble_eq_true rfl) shC_X (qmn_G (fun x h => (List.mem_append.mp h).elim (fun h => List.mem_append_left _ h) (fun h => List.mem_append_right _ (by exact m_l (m_l (m_l (m_l (m_l (m_l (m_l (m_l (m_l (m_l (m_l (m_l (h)))))))))))))))) (ls_1 (P := fun v => v ≠ .inr (19, 11, 0)) (inr_ne (by decide))) (st_1 (P := fun v => v ≠ .inr (19, 11, 0)) (inr_ne (by decide))) (by decide) (by decide) ?_
  rw [mR_N (by decide)]
  refine z_putR (ci := 10) (j := 26) (r := (18, 0, 0)) (y := (19, 11, 0)) (by rw [List.append_assoc]; exact ndJ J13_nd) dX10_init_115 fl_X10_51 (m_l (List.mem_append_right _ J_nd12.2.2)) rfl rfl rfl rfl (fun _ => rfl) (fun _ => rfl) ?_
  refine z_pic (rs' := J13) (sh' := shX T13) (agX (by decide) J_ag12) (fun x => by rw [List.append_assoc]; exact Iff.rfl) (z_wid (c2 := 13) (s2 := 4726) (by decide) (by decide) ?_)
  refine z_pic agZ (fun x => ⟨J13_in.1 x, J13_in.2 x⟩) ?_
  refine z_aload_n (i := 0) dX10_init_118 rfl rfl ?_
  refine z_ldcS dX10_init_119 stt_54 ?_
  refine z_fVv (wv := 1) (n := 1) (sX10_takesText (wv := 0) (mR M) 0 (by decide) h) dX10_init_121 ml_X10_56 cd_X10_takesText mk18 rfl rfl rfl rfl rfl rfl ?_
  exact z_nret dX10_init_124 rfl (Nat.le_refl _) (Nat.le_refl _) (List.Perm.refl _) (fun x _ => same3)
