/-! the class's changes, each remembered -/
def CH (M : Mm) (T n c : Nat) (b : Nat → GF × PF) (o : Option (Int32 × Mm)) (r : Int32) (g' : GF) (P' : PF) : Prop := ∃ M', o = some (r, M') ∧ BX M' T 0 g' P' ∧ HS M' T (min 8 (n + 1)) (c + 1) b ∧ Fr sCh M M'
section CHG
variable {M : Mm} {S T U A m0 p0 n c : Nat} {g : GF} {P : PF} {b : Nat → GF × PF}
theorem ch_go {M1 M2 : Mm} {r : Int32} {g' : GF} {P' : PF} {o : Option (Int32 × Mm)} (f1 : Fr sCh M M1) (h1 : HS M1 T (min 8 (n + 1)) (c + 1) b) (f2 : Fr (sBx 0) M1 M2) (hB : BX M2 T 0 g' P') (ho : o = some (r, M2)) : CH M T n c b o r g' P' := ⟨M2, ho, hB, hs_0 f2 h1, fr_tr f1 (bx_Ch f2)⟩
theorem ch_tune {m : Nat} (HB : BX M T 0 g P) (HI : Iv g P S T U A m0 p0) (HH : HS M T n c b) (e1 : (b c).1 = g) (e2 : (b c).2 = P) (hm : m < 3) : CH M T n c b (fX9_selectTune M (nI m)) (g 4) (upd g 4 (nI m)) P := by
  obtain ⟨M1, a1, a2, a3, a4⟩ := rem_ok HI.hT.2 HB HH e1 e2
  refine ch_go a4 a3 (fr_putI (sBx_1 rfl)) (bx_put' (k := 4) a2 (vk_s rfl) rfl) ?_
  rw [fX9_selectTune, tf_ok hm]
  refine bd rfs_0 (bd a1 ?_)
  rw [show M1.1 (10, 0, 0) 3 = g 4 from a2.1 4 (vk_s rfl)]
theorem ch_vane {a : Nat} (HB : BX M T 0 g P) (HI : Iv g P S T U A m0 p0) (HH : HS M T n c b) (e1 : (b c).1 = g) (e2 : (b c).2 = P) (ha : a ≤ 90) : CH M T n c b (fX9_setVane M (nI a)) (g 2) (upd g 2 (nI a)) P := by
  obtain ⟨M1, a1, a2, a3, a4⟩ := rem_ok HI.hT.2 HB HH e1 e2
  refine ch_go a4 a3 (fr_putI (sBx_1 rfl)) (bx_put' (k := 2) a2 (vk_s rfl) rfl) ?_
  rw [fX9_setVane, rg_ok (nI_pos' (by omega)) (show nI a ≤ (90 : Int32) from nI_le (b := 90) ha (by decide))]
  refine bd rfs_0 (bd a1 ?_)
  rw [show M1.1 (9, 0, 0) 4 = g 2 from a2.1 2 (vk_s rfl)]
theorem ch_wind {a : Nat} (HB : BX M T 0 g P) (HI : Iv g P S T U A m0 p0) (HH : HS M T n c b) (e1 : (b c).1 = g) (e2 : (b c).2 = P) (h1 : 1 ≤ a) (ha : U + a ≤ 20) : CH M T n c b (fX9_wind M (nI a)) (nI (U + a)) (upd g 1 (nI (U + a))) P := by
  obtain ⟨M1, a1, a2, a3, a4⟩ := rem_ok HI.hT.2 HB HH e1 e2
  have eu : M.1 (9, 0, 0) 3 = nI U := (HB.1 1 (vk_s rfl)).trans HI.2.1
  have eu1 : M1.1 (9, 0, 0) 3 = nI U := (a2.1 1 (vk_s rfl)).trans HI.2.1
  refine ch_go a4 a3 (fr_putI (sBx_1 rfl)) (bx_put' (k := 1) a2 (vk_s rfl) rfl) ?_
  have wf : fX0_windFault M 0 (nI a) = 0 := by
    rw [fX0_windFault, if_neg (show ¬ nI a < (1 : Int32) from nI_nlt (b := 1) h1 (by omega)), if_pos (show nI a ≤ (20 : Int32) from nI_le (b := 20) (by omega) (by decide)), eu, nI_add, if_pos (show nI (U + a) ≤ (20 : Int32) from nI_le (b := 20) ha (by decide))]
  rw [fX9_wind, wf]
  refine bd rfs_0 (bd a1 ?_)
  rw [eu1, nI_add]
theorem ch_play {d : Nat} (HB : BX M T 0 g P) (HI : Iv g P S T U A m0 p0) (HH : HS M T n c b) (e1 : (b c).1 = g) (e2 : (b c).2 = P) (h1 : 1 ≤ d) (hd : d ≤ 300) (hU : U ≠ 0) : CH M T n c b (fX9_play M (nI d)) (nI (playN P S T m0 d g p0 U).1) (playN P S T m0 d g p0 U).2.1 P := by
  obtain ⟨M1, a1, a2, a3, a4⟩ := rem_ok HI.hT.2 HB HH e1 e2
  obtain ⟨M2, b1, b2, b3⟩ := cl_playSteps (k := d) (by omega) a2 HI
  have eu : M.1 (9, 0, 0) 3 = nI U := (HB.1 1 (vk_s rfl)).trans HI.2.1
  have hU20 := HI.hU
  refine ch_go a4 a3 b3 b2 ?_
  have pf : fX0_playFault M 0 (nI d) = 0 := by
    rw [fX0_playFault, if_neg (show ¬ nI d < (1 : Int32) from nI_nlt (b := 1) h1 (by omega)), if_pos (show nI d ≤ (300 : Int32) from nI_le (b := 300) hd (by decide)), eu, if_neg (nI_ne0 (by omega) (by omega))]
  rw [fX9_play, pf]
  exact bd rfs_0 (bd a1 (bd b1 rfl))
theorem ch_gap {t a : Nat} (HB : BX M T 0 g P) (HI : Iv g P S T U A m0 p0) (HH : HS M T n c b) (e1 : (b c).1 = g) (e2 : (b c).2 = P) (ht : t < T) (h1 : 1 ≤ a) (ha : a ≤ 9) : CH M T n c b (fX9_setGap M (nI t) (nI a)) (g (16 + 6 * t + 2)) (upd g (16 + 6 * t + 2) (nI a)) P := by
  have hT := HI.hT
  obtain ⟨M1, a1, a2, a3, a4⟩ := rem_ok HI.hT.2 HB HH e1 e2
  have hg : ¬ (nI t < 0 ∨ 12 ≤ (nI t).toNatClampNeg) := nI_in (by omega) (by decide)
  refine ch_go a4 a3 (fr_putI (sBx_1 rfl)) (bx_putT (p := 2) ht (by decide) a2) ?_
  have gf : fX0_gapFault M 0 (nI t) (nI a) = 0 := by
    rw [fX0_gapFault, thf_ok (bx_3 HB HI) (by omega) ht, if_pos rfl, rg_ok (show (1 : Int32) ≤ nI a from nI_le (a := 1) h1 (by omega)) (show nI a ≤ (9 : Int32) from nI_le (b := 9) ha (by decide))]
  rw [fX9_setGap, gf]
  refine bd rfs_0 (bd a1 (cn hg (cn hg ?_)))
  rw [nI_clamp (by omega), bx_t a2 ht (by decide)]
theorem ch_bend {t : Nat} {x : Int32} (HB : BX M T 0 g P) (HI : Iv g P S T U A m0 p0) (HH : HS M T n c b) (e1 : (b c).1 = g) (e2 : (b c).2 = P) (ht : t < T) (h0 : x ≠ 0) (hx : -3 ≤ x ∧ x ≤ 3) (hb : brS g t = false) (hy : -3 ≤ g (16 + 6 * t + 1) + x ∧ g (16 + 6 * t + 1) + x ≤ 3) : CH M T n c b (fX9_bend M (nI t) x) (g (16 + 6 * t + 1) + x) (bnS g t x) P := by
  have hT := HI.hT
  obtain ⟨M1, a1, a2, a3, a4⟩ := rem_ok HI.hT.2 HB HH e1 e2
  obtain ⟨M2, b1, b2, b3, b4⟩ := cl_bend (x := x) a2 hT.2 ht
  have hg : ¬ (nI t < 0 ∨ 12 ≤ (nI t).toNatClampNeg) := nI_in (by omega) (by decide)
  refine ch_go a4 a3 b3 b2 ?_
  have bf : fX0_bendFault M 0 (nI t) x = some 0 := by
    rw [fX0_bendFault, thf_ok (bx_3 HB HI) (by omega) ht]
    refine cy rfl (cn h0 (cn (Int32.not_lt.mpr hx.1) (cy hx.2 (cn hg (cn hg (cy ?_ (cn ?_ (cy ?_ rfl))))))))
    · rw [nI_clamp (by omega), cl_brB HB ht, hb]; rfl
    · rw [nI_clamp (by omega), bx_t HB ht (by decide)]; exact Int32.not_lt.mpr hy.1
    · rw [nI_clamp (by omega), bx_t HB ht (by decide)]; exact hy.2
  rw [fX9_bend]
  refine bd bf (bd rfs_0 (bd a1 (bd b1 (cn hg ?_))))
  rw [nI_clamp (by omega), b4]
theorem ch_mend {t : Nat} (HB : BX M T 0 g P) (HI : Iv g P S T U A m0 p0) (HH : HS M T n c b) (e1 : (b c).1 = g) (e2 : (b c).2 = P) (ht : t < T) : CH M T n c b (fX9_replaceTooth M (nI t)) (g (16 + 6 * t + 4)) (mdS g t) P := by
  have hT := HI.hT
  obtain ⟨M1, a1, a2, a3, a4⟩ := rem_ok HI.hT.2 HB HH e1 e2
  obtain ⟨M2, b1, b2, b3⟩ := cl_mend a2 hT.2 ht
  have hg : ¬ (nI t < 0 ∨ 12 ≤ (nI t).toNatClampNeg) := nI_in (by omega) (by decide)
  refine ch_go a4 a3 b3 b2 ?_
  rw [fX9_replaceTooth, thf_ok (bx_3 HB HI) (by omega) ht]
  refine bd rfs_0 (bd a1 (cn hg (bd b1 ?_)))
  rw [nI_clamp (by omega), bx_t a2 ht (by decide)]
theorem ch_add {m t s : Nat} (HB : BX M T 0 g P) (HI : Iv g P S T U A m0 p0) (HH : HS M T n c b) (e1 : (b c).1 = g) (e2 : (b c).2 = P) (hm : m < 3) (ht : t < T) (hs : s < S) (hp : P m t s = false) : CH M T n c b (fX9_addPin M (nI m) (nI t) (nI s)) (nI (pnS (pAdd P m t s) S T m)) g (pAdd P m t s) := by
  have hT := HI.hT
  have hS := HI.hS
  obtain ⟨M1, a1, a2, a3, a4⟩ := rem_ok HI.hT.2 HB HH e1 e2
  obtain ⟨M2, b1, b2, b3⟩ := cl_putPin a2 hm (show t < 12 by omega) (show s < 64 by omega)
  refine ch_go a4 a3 b3 b2 ?_
  have pf : fX0_putPinFault M 0 (nI m) (nI t) (nI s) = some 0 := by
    rw [fX0_putPinFault, plc_ok HB HI hm ht hs]
    refine cy rfl (bd (cl_hasPin HB hm (by omega) (by omega)) (cy ?_ rfl))
    rw [hp]; rfl
  rw [fX9_addPin]
  exact bd pf (bd rfs_0 (bd a1 (bd b1 (bd (cl_pins b2 (iv_add HI hm ht hs) hm) rfl))))
theorem ch_del {m t s : Nat} (HB : BX M T 0 g P) (HI : Iv g P S T U A m0 p0) (HH : HS M T n c b) (e1 : (b c).1 = g) (e2 : (b c).2 = P) (hm : m < 3) (ht : t < T) (hs : s < S) (hp : P m t s = true) : CH M T n c b (fX9_removePin M (nI m) (nI t) (nI s)) (nI (pnS (pDel P m t s) S T m)) g (pDel P m t s) := by
  have hT := HI.hT
  have hS := HI.hS
  obtain ⟨M1, a1, a2, a3, a4⟩ := rem_ok HI.hT.2 HB HH e1 e2
  obtain ⟨M2, b1, b2, b3⟩ := cl_takePin a2 hm (show t < 12 by omega) (show s < 64 by omega)
  refine ch_go a4 a3 b3 b2 ?_
  have pf : fX0_takePinFault M 0 (nI m) (nI t) (nI s) = some 0 := by
    rw [fX0_takePinFault, plc_ok HB HI hm ht hs]
    refine cy rfl (bd (cl_hasPin HB hm (by omega) (by omega)) (cn ?_ rfl))
    rw [hp]; decide
  rw [fX9_removePin]
  exact bd pf (bd rfs_0 (bd a1 (bd b1 (bd (cl_pins b2 (iv_sub HI pDel_le) hm) rfl))))
theorem turn_in {m k : Nat} (HI : Iv g P S T U A m0 p0) : ∀ t s, pTurn P S m (k % S) t s = true → t < T ∧ s < S := fun t s h => by
  unfold pTurn at h
  rw [Bool.and_eq_true, decide_eq_true_eq] at h
  exact ⟨(HI.hP _ _ _ h.2).2.1, h.1⟩
theorem ch_shift {m k : Nat} (HB : BX M T 0 g P) (HI : Iv g P S T U A m0 p0) (HH : HS M T n c b) (e1 : (b c).1 = g) (e2 : (b c).2 = P) (hm : m < 3) (hk : k < 64) : CH M T n c b (fX9_shift M (nI m) (nI k)) (nI (pnS (pTune P m (pTurn P S m (k % S))) S T m)) g (pTune P m (pTurn P S m (k % S))) := by
  have hS := HI.hS
  obtain ⟨M1, a1, a2, a3, a4⟩ := rem_ok HI.hT.2 HB HH e1 e2
  obtain ⟨M2, b1, b2, b3⟩ := cl_turn (k := k) hm hk HI.1 ⟨by omega, hS.2⟩ a2
  refine ch_go a4 a3 b3 b2 ?_
  rw [fX9_shift, tf_ok hm]
  refine bd rfs_0 ?_
  (try dsimp only)
  rw [rg_ok (nI_pos' (by omega)) (show nI k ≤ (63 : Int32) from nI_le (b := 63) (by omega) (by decide))]
  exact bd rfs_0 (bd a1 (bd b1 (bd (cl_pins b2 (iv_tune HI hm (turn_in HI)) hm) rfl)))
theorem ch_move {m : Nat} {x : Int32} {Q : Nat → Nat → Bool} (HB : BX M T 0 g P) (HI : Iv g P S T U A m0 p0) (HH : HS M T n c b) (e1 : (b c).1 = g) (e2 : (b c).2 = P) (hm : m < 3) (hx : -11 ≤ x ∧ x ≤ 11) (hQ : ∀ t s, Q t s = true → t < T ∧ s < S)
    (hf : ∀ t, t < T → (∃ s, s < 64 ∧ P m t s = true) → fX0_toothFault M 0 (nI t + x) = 0) (hc : ∀ M1, BX M1 T 0 g P → ∃ W, fX3_movePins M1 0 (nI m) x = some W ∧ BX W T 0 g (pTune P m Q) ∧ Fr (sBx 0) M1 W) :
    CH M T n c b (fX9_transpose M (nI m) x) (nI (pnS (pTune P m Q) S T m)) g (pTune P m Q) := by
  have hS := HI.hS
  have hT := HI.hT
  obtain ⟨M1, a1, a2, a3, a4⟩ := rem_ok HI.hT.2 HB HH e1 e2
  obtain ⟨M2, b1, b2, b3⟩ := hc M1 a2
  refine ch_go a4 a3 b3 b2 ?_
  have mf : fX0_movePinsFault M 0 (nI m) x = some 0 :=
    (cl_moveF (K := fun _ => some 0) (ok := fun t => decide (fX0_toothFault M 0 (nI t + x) = 0)) (by_ := x) HB HI.2.2.2.1 hT.2 hm (fun t _ => by simp) T 0 NF (by omega) (by unfold NF; omega)).1 fun t' _ h2 s h3 h4 => decide_eq_true (hf t' h2 ⟨s, h3, h4⟩)
  rw [fX9_transpose, tf_ok hm]
  refine bd rfs_0 ?_
  (try dsimp only)
  rw [rg_ok hx.1 hx.2]
  exact bd rfs_0 (bd mf (bd rfs_0 (bd a1 (bd b1 (bd (cl_pins b2 (iv_tune HI hm hQ) hm) rfl)))))
theorem ch_copy {i j : Nat} (HB : BX M T 0 g P) (HI : Iv g P S T U A m0 p0) (HH : HS M T n c b) (e1 : (b c).1 = g) (e2 : (b c).2 = P) (hi : i < 3) (hj : j < 3) (hij : i ≠ j) : CH M T n c b (fX9_copyTune M (nI i) (nI j)) (nI (pnS (pTune P j (P i)) S T j)) g (pTune P j (P i)) := by
  have hT := HI.hT
  obtain ⟨M1, a1, a2, a3, a4⟩ := rem_ok HI.hT.2 HB HH e1 e2
  obtain ⟨M2, b1, b2, b3⟩ := cl_copyTune hi hj hij a2
  refine ch_go a4 a3 b3 b2 ?_
  have hQ : ∀ t s, P i t s = true → t < T ∧ s < S := fun t s h => ⟨(HI.hP _ _ _ h).2.1, (HI.hP _ _ _ h).2.2⟩
  rw [fX9_copyTune, tf_ok hi, tf_ok hj, mx_00]
  refine bd rfs_0 (cn (fun h => hij (nIinj (by omega) (by omega) h)) (bd rfs_0 (bd a1 (bd b1 (bd (cl_pins b2 (iv_tune HI hj hQ) hj) rfl)))))
end CHG
