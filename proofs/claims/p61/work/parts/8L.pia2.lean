/-! isAs, whole -/
section IA2
variable {k S T U A m0 p0 m : Nat} {g : GF} {P : PF}
set_option maxRecDepth 20000 in
set_option maxHeartbeats 2000000 in
theorem isAs_ok {M : Mm} (HB : BX M T 0 g P) (HO : OX M k T g P) (HI : Iv g P S T U A m0 p0) (hu : uwS g T = 0) (hm : m < 3) : ∃ M', fL_isAs M k (nI m) = some (1, M') ∧ Fr sB M M' := by
  have hS := HI.hS
  have hT := HI.hT
  have hU := HI.hU
  obtain ⟨x1, x2⟩ := nSB_ok (M := M) (z := 1)
  have f0 : Fr sB M (nSB M 1) := fr_off zb_B x2
  have B0 := bx_fr (dB 0) f0 HB
  have O0 := ox_fr (dBo k) f0 HO
  have etm : (((60 : Int32) + ((4 : Int32) * ((nSB M 1).1 (18, k, 0) 1))) * ((100 : Int32) - ((nSB M 1).1 (18, k, 0) 2))) / (100 : Int32) = spN U A := by
    rw [O0.1 1 (by decide), O0.1 2 (by decide), HI.2.1, HI.2.2.1]; rfl
  obtain ⟨M1, cap1, a1, a2, a3, a4⟩ := as_36 (k := k) (c2 := nI m) (c5 := spN U A) HI T 0 13 (nSB M 1) 16 (by omega) (by omega) B0 O0 x1 (Or.inl rfl)
  have f1 := fr_tr f0 a4
  have B1 := bx_fr (dB 0) f1 HB
  have O1 := ox_fr (dBo k) f1 HO
  obtain ⟨M2, b1, b2⟩ := isTune_ok B1 O1 HI hm
  have f2 := fr_tr f1 (a_B b2)
  have B2 := bx_fr (dB 0) f2 HB
  obtain ⟨M3, c1, c2, c3⟩ := an_writeComb B2 HI
  have t2 : TX M2 1 (cmB g T) cap1 := tx_eq (b2 (24, 1, 0) rfl).1 (b2 (25, 1, 0) rfl).1 a2
  obtain ⟨M4, d1, d2, d3⟩ := toS_ok (y := 1) (B := 70) (tx_eq (c3 (24, 1, 0) rfl).1 (c3 (25, 1, 0) rfl).1 t2) (by unfold C70 at a3; omega) (by decide)
  have c4 := isOut_ok (ou_eq (d3 (1, 1, 0) (by simp)).1 (d3 (2, 1, 0) (by simp)).1 c2) d2 (cmB_7 HI T (Nat.le_refl _))
  refine ⟨M4, ?_, fr_tr f2 (fr_tr (o1_B c3) (fr_off y_B d3))⟩
  unfold fL_isAs
  rw [etm]
  refine (a1 _).trans ?_
  have o0 := O1.1 0 (by decide)
  have o1 := O1.1 1 (by decide)
  have o2 := O1.1 2 (by decide)
  have o3 := O1.1 3 (by decide)
  have o4 := O1.1 4 (by decide)
  have o5 := O1.1 5 (by decide)
  have o6 := O1.1 6 (by decide)
  have o7 := O1.1 7 (by decide)
  have o8 := O1.1 8 (by decide)
  have sn := sp_no HI
  have sl := an_stepsLeft B1
  refine cy ((an_stepCount B1).trans o0.symm) (cy ((an_selectedTune B1).trans o4.symm) (cy ((an_position B1).trans o5.symm) (cy ((an_toothCount B1).trans o3.symm) (cy ((an_turnsLeft B1).trans o1.symm) (cy ((an_vane B1).trans o2.symm) (cy (an_tempo B1 HI) (bd (an_sps B1 HI) (cy sn (cy (cmp_self sn) (bd (an_spb B1 HI) (cy sn (cy (lgc_self _) (cy ((an_noteCount B1).trans o6.symm) (cy ((an_squeakCount B1).trans o7.symm) (cy ((an_stepsPlayed B1).trans o8.symm) (bd (an_brokenTeeth B1 HI) (cy rfl ?_)))))))))))))))))
  by_cases h1 : g 1 = 0
  · rw [if_pos h1] at sl
    exact cy (o1.trans h1) (cy sl (bd (an_contradictions B1 HI hu) (cy rfl (bd b1 (cn one_n0 (bd c1 (bd d1 (bd c4 (cn one_n0 rfl)))))))))
  · rw [if_neg h1] at sl
    exact cn (fun c => h1 (o1.symm.trans c)) (cy (by rw [sl, o1, o0, o5]) (bd (an_contradictions B1 HI hu) (cy rfl (bd b1 (cn one_n0 (bd c1 (bd d1 (bd c4 (cn one_n0 rfl)))))))))
end IA2
