/-! steps of a program that runs to its end; the class's answers -/
theorem bd {α β : Type} {o : Option α} {a : α} {f : α → Option β} {r : Option β} (h : o = some a) (k : f a = r) : o.bind f = r := by rw [h]; exact k
theorem cy {α : Type} {c : Prop} {dc : Decidable c} {a b r : α} (h : c) (k : a = r) : (@ite α c dc a b) = r := by rw [if_pos h]; exact k
theorem cn {α : Type} {c : Prop} {dc : Decidable c} {a b r : α} (h : ¬ c) (k : b = r) : (@ite α c dc a b) = r := by rw [if_neg h]; exact k
theorem one_n0 : ¬ (1 : Int32) = 0 := by decide
theorem Iv.hS {g : GF} {P : PF} {S T U A m p : Nat} (h : Iv g P S T U A m p) : 4 ≤ S ∧ S ≤ 64 := h.2.2.2.2.2.2.1
theorem Iv.hT {g : GF} {P : PF} {S T U A m p : Nat} (h : Iv g P S T U A m p) : 1 ≤ T ∧ T ≤ 12 := h.2.2.2.2.2.2.2.1
theorem Iv.hU {g : GF} {P : PF} {S T U A m p : Nat} (h : Iv g P S T U A m p) : U ≤ 20 := h.2.2.2.2.2.2.2.2.1
theorem Iv.hA {g : GF} {P : PF} {S T U A m p : Nat} (h : Iv g P S T U A m p) : A ≤ 90 := h.2.2.2.2.2.2.2.2.2.1
theorem Iv.hm {g : GF} {P : PF} {S T U A m p : Nat} (h : Iv g P S T U A m p) : m < 3 := h.2.2.2.2.2.2.2.2.2.2.1
theorem Iv.hp {g : GF} {P : PF} {S T U A m p : Nat} (h : Iv g P S T U A m p) : p < S := h.2.2.2.2.2.2.2.2.2.2.2.1
theorem Iv.hq {g : GF} {P : PF} {S T U A m p : Nat} (h : Iv g P S T U A m p) : ∀ t, t < T → (0 ≤ g (16 + 6 * t) ∧ g (16 + 6 * t) ≤ 60) ∧ (-3 ≤ g (16 + 6 * t + 1) ∧ g (16 + 6 * t + 1) ≤ 3) := h.2.2.2.2.2.2.2.2.2.2.2.2.1
theorem Iv.hP {g : GF} {P : PF} {S T U A m p : Nat} (h : Iv g P S T U A m p) : ∀ m t s, P m t s = true → m < 3 ∧ t < T ∧ s < S := h.2.2.2.2.2.2.2.2.2.2.2.2.2
theorem Iv.g5 {g : GF} {P : PF} {S T U A m p : Nat} (h : Iv g P S T U A m p) : g 5 = nI p := h.2.2.2.2.2.1
section ANS
variable {M : Mm} {S T U A m0 p0 i : Nat} {g : GF} {P : PF}
theorem rfs_0 : fX9_refuse M 0 = some M := by rw [fX9_refuse, if_neg (by decide), if_neg (by decide), if_neg (by decide)]
theorem tf_ok {m : Nat} (hm : m < 3) : fX0_tuneFault M i (nI m) = 0 := by
  rw [fX0_tuneFault, if_neg (nI_pos (by omega)), if_pos (show nI m < (3 : Int32) from nI_lt (b := 3) hm (by decide))]
theorem thf_ok {t : Nat} (h : M.1 (9, i, 0) 2 = nI T) (hT : T ≤ 12) (ht : t < T) : fX0_toothFault M i (nI t) = 0 := by
  rw [fX0_toothFault, h, if_neg (nI_pos (by omega)), if_neg (nI_ge ht (by omega)), if_pos (show nI t < (12 : Int32) from nI_lt (b := 12) (by omega) (by decide))]
theorem sf_ok {t : Nat} (h : M.1 (10, i, 0) 1 = nI S) (hT : S < 2 ^ 31) (ht : t < S) : fX0_stepFault M i (nI t) = 0 := by
  rw [fX0_stepFault, h, if_neg (nI_pos (by omega)), if_pos (nI_lt ht hT)]
theorem bx_3 (HB : BX M T i g P) (HI : Iv g P S T U A m0 p0) : M.1 (9, i, 0) 2 = nI T := (HB.1 3 (vk_s rfl)).trans HI.2.2.2.1
theorem bx_0 (HB : BX M T i g P) (HI : Iv g P S T U A m0 p0) : M.1 (10, i, 0) 1 = nI S := (HB.1 0 (vk_s rfl)).trans HI.1
theorem mx_00 : fJ9_max_7cf53 M 0 0 = 0 := by rw [fJ9_max_7cf53, if_neg (by decide)]
theorem plc_ok {m t s : Nat} (HB : BX M T i g P) (HI : Iv g P S T U A m0 p0) (hm : m < 3) (ht : t < T) (hs : s < S) : fX0_placeFault M i (nI m) (nI t) (nI s) = 0 := by
  have hT := HI.hT
  have hS := HI.hS
  rw [fX0_placeFault, tf_ok hm, thf_ok (bx_3 HB HI) (by omega) ht, sf_ok (bx_0 HB HI) (by omega) hs, mx_00, mx_00]
theorem rg_ok {x l h : Int32} (h1 : l ≤ x) (h2 : x ≤ h) : fX9_rangeFault M x l h = 0 := by
  rw [fX9_rangeFault, if_neg (Int32.not_lt.mpr h1), if_pos h2]
variable (HB : BX M T 0 g P) (HI : Iv g P S T U A m0 p0)
theorem an_stepCount (HB : BX M T 0 g P) : fX9_stepCount M = g 0 := HB.1 0 (vk_s rfl)
theorem an_selectedTune (HB : BX M T 0 g P) : fX9_selectedTune M = g 4 := HB.1 4 (vk_s rfl)
theorem an_position (HB : BX M T 0 g P) : fX9_position M = g 5 := HB.1 5 (vk_s rfl)
theorem an_toothCount (HB : BX M T 0 g P) : fX9_toothCount M = g 3 := HB.1 3 (vk_s rfl)
theorem an_turnsLeft (HB : BX M T 0 g P) : fX9_turnsLeft M = g 1 := HB.1 1 (vk_s rfl)
theorem an_vane (HB : BX M T 0 g P) : fX9_vane M = g 2 := HB.1 2 (vk_s rfl)
theorem an_noteCount (HB : BX M T 0 g P) : fX9_noteCount M = g 6 := HB.1 6 (vk_s rfl)
theorem an_squeakCount (HB : BX M T 0 g P) : fX9_squeakCount M = g 7 := HB.1 7 (vk_s rfl)
theorem an_stepsPlayed (HB : BX M T 0 g P) : fX9_stepsPlayed M = g 8 := HB.1 8 (vk_s rfl)
theorem an_isPin {m t s : Nat} (HB : BX M T 0 g P) (HI : Iv g P S T U A m0 p0) (hm : m < 3) (ht : t < T) (hs : s < S) : fX9_isPin M (nI m) (nI t) (nI s) = some (bI (P m t s), M) := by
  have hT := HI.hT
  have hS := HI.hS
  rw [fX9_isPin, plc_ok HB HI hm ht hs]
  exact bd rfs_0 (bd (cl_hasPin HB hm (by omega) (by omega)) (by rw [bz_bI]))
theorem an_pinCount {m : Nat} (HB : BX M T 0 g P) (HI : Iv g P S T U A m0 p0) (hm : m < 3) : fX9_pinCount M (nI m) = some (nI (pnS P S T m), M) := by
  rw [fX9_pinCount, tf_ok hm]
  exact bd rfs_0 (bd (cl_pins HB HI hm) rfl)
theorem an_chord {m s : Nat} (HB : BX M T 0 g P) (HI : Iv g P S T U A m0 p0) (hm : m < 3) (hs : s < S) : fX9_chord M (nI m) (nI s) = some (chS P m s 12, M) := by
  have hS := HI.hS
  rw [fX9_chord, tf_ok hm, sf_ok (bx_0 HB HI) (by omega) hs, mx_00]
  exact bd rfs_0 (bd (cl_teethAt HB hm (by omega)) rfl)
theorem an_distance {m t s : Nat} (HB : BX M T 0 g P) (HI : Iv g P S T U A m0 p0) (hm : m < 3) (ht : t < T) (hs : s < S) (hp : P m t s = true) : fX9_distance M (nI m) (nI t) (nI s) = some (nI (dsS P S m t s), M) := by
  have hT := HI.hT
  have hS := HI.hS
  rw [fX9_distance, plc_ok HB HI hm ht hs]
  refine bd rfs_0 (bd (cl_hasPin HB hm (by omega) (by omega)) (cn ?_ (bd (cl_back HB HI hm (by omega) hs) rfl)))
  rw [hp]; decide
theorem an_closePins {m : Nat} (HB : BX M T 0 g P) (HI : Iv g P S T U A m0 p0) (hm : m < 3) : fX9_closePins M (nI m) = some (nI (mSm (fun t => mCt (clS g P S m t) S) T), M) := by
  rw [fX9_closePins, tf_ok hm]
  exact bd rfs_0 (bd (cl_closePins HB HI hm) rfl)
theorem an_longestRest {m : Nat} (HB : BX M T 0 g P) (HI : Iv g P S T U A m0 p0) (hm : m < 3) : fX9_longestRest M (nI m) = some (rsS P S m, M) := by
  rw [fX9_longestRest, tf_ok hm]
  exact bd rfs_0 (bd (cl_rest HB HI hm) rfl)
theorem an_soundingPitch {t : Nat} (HB : BX M T 0 g P) (HI : Iv g P S T U A m0 p0) (ht : t < T) : fX9_soundingPitch M (nI t) = some (ptS g t, M) := by
  have hT := HI.hT
  rw [fX9_soundingPitch, thf_ok (bx_3 HB HI) (by omega) ht]
  exact bd rfs_0 (cn (nI_in (by omega) (by decide)) (by rw [nI_clamp (by omega), cl_pitch HB ht]))
theorem an_bendOf {t : Nat} (HB : BX M T 0 g P) (HI : Iv g P S T U A m0 p0) (ht : t < T) : fX9_bendOf M (nI t) = some (g (16 + 6 * t + 1), M) := by
  have hT := HI.hT
  rw [fX9_bendOf, thf_ok (bx_3 HB HI) (by omega) ht]
  exact bd rfs_0 (cn (nI_in (by omega) (by decide)) (by rw [nI_clamp (by omega), bx_t HB ht (by decide)]))
theorem an_gap {t : Nat} (HB : BX M T 0 g P) (HI : Iv g P S T U A m0 p0) (ht : t < T) : fX9_gap M (nI t) = some (g (16 + 6 * t + 2), M) := by
  have hT := HI.hT
  rw [fX9_gap, thf_ok (bx_3 HB HI) (by omega) ht]
  exact bd rfs_0 (cn (nI_in (by omega) (by decide)) (by rw [nI_clamp (by omega), bx_t HB ht (by decide)]))
theorem an_wear {t : Nat} (HB : BX M T 0 g P) (HI : Iv g P S T U A m0 p0) (ht : t < T) : fX9_wear M (nI t) = some (g (16 + 6 * t + 4), M) := by
  have hT := HI.hT
  rw [fX9_wear, thf_ok (bx_3 HB HI) (by omega) ht]
  exact bd rfs_0 (cn (nI_in (by omega) (by decide)) (by rw [nI_clamp (by omega), bx_t HB ht (by decide)]))
theorem an_silence {t : Nat} (HB : BX M T 0 g P) (HI : Iv g P S T U A m0 p0) (ht : t < T) : fX9_silence M (nI t) = some (g (16 + 6 * t + 5), M) := by
  have hT := HI.hT
  rw [fX9_silence, thf_ok (bx_3 HB HI) (by omega) ht]
  exact bd rfs_0 (cn (nI_in (by omega) (by decide)) (by rw [nI_clamp (by omega), bx_t HB ht (by decide)]))
theorem an_isBroken {t : Nat} (HB : BX M T 0 g P) (HI : Iv g P S T U A m0 p0) (ht : t < T) : fX9_isBroken M (nI t) = some (bI (brS g t), M) := by
  have hT := HI.hT
  rw [fX9_isBroken, thf_ok (bx_3 HB HI) (by omega) ht]
  exact bd rfs_0 (cn (nI_in (by omega) (by decide)) (by rw [nI_clamp (by omega), cl_brB HB ht, bz_bI]))
theorem an_nextSound {t : Nat} (HB : BX M T 0 g P) (HI : Iv g P S T U A m0 p0) (ht : t < T) : fX9_nextSound M (nI t) = some (sndS g P m0 p0 t, M) := by
  have hT := HI.hT
  have hS := HI.hS
  have hp := HI.hp
  rw [fX9_nextSound, thf_ok (bx_3 HB HI) (by omega) ht]
  exact bd rfs_0 (bd (cl_soundOf HB HI.2.2.2.2.1 HI.2.2.2.2.2.1 HI.hm (by omega) ht (by omega)) rfl)
theorem an_brokenTeeth (HB : BX M T 0 g P) (HI : Iv g P S T U A m0 p0) : fX9_brokenTeeth M = some (nI (mCt (brS g) T)) := by
  rw [fX9_brokenTeeth]
  exact bd (cl_brokenCount HB HI.2.2.2.1 HI.hT.2) rfl
theorem an_contradictions (HB : BX M T 0 g P) (HI : Iv g P S T U A m0 p0) (hu : uwS g T = 0) : fX9_contradictions M = some 0 := by
  rw [fX9_contradictions]
  exact bd (cl_wear HB HI.2.2.2.1 HI.hT.2) (bd (cl_early HB HI.2.2.2.1 HI.hT.2) (by rw [hu]; rfl))
theorem an_stepsLeft (HB : BX M T 0 g P) : fX9_stepsLeft M = if g 1 = 0 then 0 else g 1 * g 0 - g 5 := by
  rw [fX9_stepsLeft, fX0_playableSteps, show M.1 (9, 0, 0) 3 = g 1 from HB.1 1 (vk_s rfl), show M.1 (10, 0, 0) 1 = g 0 from HB.1 0 (vk_s rfl), show M.1 (10, 0, 0) 2 = g 5 from HB.1 5 (vk_s rfl)]
end ANS
