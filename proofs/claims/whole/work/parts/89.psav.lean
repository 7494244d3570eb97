/-! save, restore -/
section SAV
variable {M N : Mm}
theorem slot_ok {c : Nat} (hc : c < 2) : fX9_slotFault M (nI c) = 0 := by
  rw [fX9_slotFault, if_neg (nI_pos (by omega)), if_pos (show nI c < (2 : Int32) from nI_lt (b := 2) hc (by omega))]
theorem slot_no {x : Int32} (hx : ixB x 2) : fX9_slotFault M x = 1 := by
  rcases hx with h | ⟨j, h1, h2, rfl⟩
  · rw [fX9_slotFault, if_pos h]
  · rw [fX9_slotFault, if_neg (nI_pos h2), if_neg (show ¬ nI j < (2 : Int32) from nI_nlt (b := 2) h1 h2)]
def sV1 (c : Nat) (r : Rf) : Bool := (sBx (10 + c) r || r == (17, 0, 0)) || (sOut r || (r == R8 || (r == (19, 4, 0) || r == (20, 0, 0))))
theorem dV (c i : Nat) (hi : i ≠ 10 + c) (r : Rf) (hr : sBx i r = true) : sV1 c r = false := or_f (or_f (sBx_dis hi r hr) (bx_dis hr rfl)) (or_f (dO i r hr) (or_f (bx_dis hr rfl) (or_f (bx_dis hr rfl) (bx_dis hr rfl))))
theorem api_save (G : GL M) (x : Int32) : API [2] (fX9_save M x) (fun N => fX10_save N x) M := by
  obtain ⟨g, P, S, T, U, A, m, p, HI, HB, HX⟩ := G.1
  have hT := HI.2.2.2.2.2.2.2.1
  rcases ix_d x (N := 2) (by decide) with ⟨c, hc, rfl⟩ | hx
  · have hgi : ¬ (nI c < 0 ∨ 2 ≤ (nI c).toNatClampNeg) := nI_in hc (by decide)
    have hcl : (nI c).toNatClampNeg = c := nI_clamp (by omega)
    obtain ⟨M1, a1, a2, a3⟩ := cl_copy (i := 10 + c) (j := 0) (by omega) hT.2 HB
    have e2 : M1.1 (10, 0, 0) 2 = g 5 := by rw [(a3 (10, 0, 0) (sBx_ne (by omega))).1]; exact HB.1 5 (vk_s rfl)
    have fC : Fr (fun r => sBx (10 + c) r || r == (17, 0, 0)) M (putI M1 (17, 0, 0) c 1) := fr_pI (fr_mono (fun r hr => by rw [hr]; rfl) a3) (by simp)
    refine ⟨.inl (g 5), putI M1 (17, 0, 0) c 1, ?_, fr_mono (fun r hr => ?_) fC, fun N hN => ?_⟩
    · rw [fX9_save, slot_ok hc, thr_0]
      simp only [hgi, if_false]
      rw [hcl, a1, Option.bind_some, e2]
    · rcases Bool.or_eq_true .. |>.mp hr with hr | hr
      · exact sb_cl hr
      · have : r = (17, 0, 0) := by simpa using hr
        rw [this]; rfl
    · have XN : RX (N.1 NW) g P := rx_fr (S := sOut) rfl hN (rx_fr (S := fun r => sBx (10 + c) r || r == (17, 0, 0)) rfl fC HX)
      obtain ⟨N1, ⟨b1, b2⟩, b3, b4⟩ := lp_save (M0 := putI N R8 8 0) hc (K := fun w7 M8 => if nI c < 0 ∨ 2 ≤ (nI c).toNatClampNeg then none else some ((M8.1 (19, 0, 0) 5), (putI M8 (20, 0, 0) (nI c).toNatClampNeg (1 : Int32)))) 280 0 _ NF (by omega) (by unfold NF; omega) ⟨fun k hk => by omega, fun _ _ => rfl⟩ fr_rf
      have z1 : N1.1 R8 8 = 0 := by rw [(b3 R8 rfl).1]; exact z_8
      have fR : Fr (fun r => r == R8 || (r == (19, 4, 0) || r == (20, 0, 0))) N (putI N1 (20, 0, 0) c 1) := fr_pI (fr_tr (fr_putI rfl) (fr_mono (fun r hr => by rw [hr]; simp) b3)) rfl
      have fA : GFr (sV1 c) (fun j => j == 8) M (putI N1 (20, 0, 0) c 1) := ⟨fr_tr (fr_mono (fun r hr => by unfold sV1; rw [hr]; rfl) fC) (fr_tr (fr_mono (fun r hr => by unfold sV1; rw [hr]; simp) hN) (fr_mono (fun r hr => by unfold sV1; rw [hr]; simp) fR)), fun j hj => by
        have j8 : j ≠ 8 := by intro c; rw [c] at hj; cases hj
        rw [putI_ne (by decide), (b3 R8 rfl).1, g_row, upd_o j8, (hN R8 rfl).1, (fC R8 rfl).1]⟩
      have h17 : (putI N1 (20, 0, 0) c 1).1 (17, 0, 0) = upd (M.1 (17, 0, 0)) c 1 := by
        rw [(fR (17, 0, 0) rfl).1, (hN (17, 0, 0) rfl).1, g_row, (a3 (17, 0, 0) rfl).1]
      have h20 : (putI N1 (20, 0, 0) c 1).1 (20, 0, 0) = upd (M.1 (20, 0, 0)) c 1 := by
        rw [g_row, (b3 (20, 0, 0) rfl).1, putI_ne (by decide), (hN (20, 0, 0) rfl).1, (fC (20, 0, 0) rfl).1]
      have h4 : (putI N1 (20, 0, 0) c 1).1 (19, 4, 0) = N1.1 (19, 4, 0) := by rw [putI_ne (by decide)]
      refine ⟨g 5, putI N1 (20, 0, 0) c 1, ?_, ⟨old_fr (dV c 0 (by omega)) fA.1 (fun k _ => by rw [(fA.1 NW rfl).1]) G.1, gt_fr rfl rfl rfl rfl fA G.2.1, ge_fr rfl rfl rfl fA G.2.2.1, gh_fr rfl rfl rfl (fun i _ i2 => dV c i (by omega)) fA G.2.2.2.1, fun c' hc' => ?_, go_fr rfl rfl rfl rfl fA G.2.2.2.2.2.1, by rw [fA.2 25 rfl]; exact G.2.2.2.2.2.2⟩, fr_mono (fun r hr => ?_) fR, by rw [putI_ne (by decide)]; exact z1, rfl⟩
      · dsimp only
        rw [fX10_save, show fX10_in (putI N R8 8 0) (nI c) 0 1 = 1 from rin_ok (N := 2) (by omega) hc, rr_ok z_8, Option.bind_some, if_neg one_ne]
        refine b4.trans ?_
        skip
        rw [if_neg hgi, hcl, (b3 (19, 0, 0) rfl).1, putI_ne (by decide), show N.1 (19, 0, 0) 5 = g 5 from XN.1 5 (by decide)]
      · rw [h17, h20, h4]
        by_cases e : c' = c
        · subst e
          refine Or.inr ⟨upd_s, upd_s, g, P, S, T, U, A, m, p, HI, bx_fr (S := fun r => sOut r || (r == R8 || (r == (19, 4, 0) || r == (20, 0, 0)))) (fun r hr => or_f (dO _ r hr) (or_f (bx_dis hr rfl) (or_f (bx_dis hr rfl) (bx_dis hr rfl)))) (fr_tr (fr_mono (fun r hr => by rw [hr]; rfl) hN) (fr_mono (fun r hr => by rw [hr, Bool.or_true]) fR)) (bx_fr (S := fun r => r == (17, 0, 0)) (fun r hr => bx_dis hr rfl) (fr_putI (by simp)) a2), rx_c (fun k hk => ?_) XN⟩
          rw [b1 k hk, putI_ne (by decide)]
        · rw [upd_o e, upd_o e]
          rcases G.2.2.2.2.1 c' hc' with h | ⟨y1, y2, y3⟩
          · exact Or.inl h
          · refine Or.inr ⟨y1, y2, old_fr (dV c _ (by omega)) fA.1 (fun k hk => ?_) y3⟩
            rw [b2 _ (by omega), putI_ne (by decide), (hN (19, 4, 0) rfl).1, (fC (19, 4, 0) rfl).1]
      · have : r = R8 ∨ r = (19, 4, 0) ∨ r = (20, 0, 0) := by simpa using hr
        rcases this with rfl | rfl | rfl <;> rfl
  · refine ⟨.inr 2, M, by rw [fX9_save, slot_no hx, thr_1], fr_rf, fun N hN => ⟨0, putI (putI N R8 8 0) R8 8 1, ?_, gl_88 G hN, rf_88, by rw [z_8]; exact ag_1 rfl⟩⟩
    dsimp only
    rw [fX10_save, show fX10_in (putI N R8 8 0) x 0 1 = 0 from rin_no (N := 2) (by omega) hx, rr_no z_8 (by decide), Option.bind_some, if_pos rfl]
theorem api_restore (G : GL M) (x : Int32) : API [2, 3] (fX9_restore M x) (fun N => fX10_restore N x) M := by
  rcases ix_d x (N := 2) (by decide) with ⟨c, hc, rfl⟩ | hx
  · have hgi : ¬ (nI c < 0 ∨ 2 ≤ (nI c).toNatClampNeg) := nI_in hc (by decide)
    have hcl : (nI c).toNatClampNeg = c := nI_clamp (by omega)
    have hr : ∀ N : Mm, ∀ {r}, ((fX10_right (putI N R8 8 0) (N.1 (20, 0, 0) c) (2 : Int32)).bind fun q5 => if q5.1 = 0 then some ((0 : Int32), q5.2) else fX10_restore_L37 (nI c) (fun w11 M12 => some ((M12.1 (19, 0, 0) 5), (putI M12 (18, 0, 0) 7 (0 : Int32)))) NF (0 : Int32) q5.2) = r → fX10_restore N (nI c) = r := fun N {r} h => by
      rw [fX10_restore, show fX10_in (putI N R8 8 0) (nI c) 0 1 = 1 from rin_ok (N := 2) (by omega) hc, rr_ok z_8, Option.bind_some, if_neg one_ne]
      simp only [hgi, if_false]
      rw [hcl, show (putI N (18, 0, 0) 8 0).1 (20, 0, 0) = N.1 (20, 0, 0) from putI_ne (by decide)]
      exact h
    rcases G.2.2.2.2.1 c hc with ⟨y1, y2⟩ | ⟨y1, y2, g, P, S, T, U, A, m, p, HI, HB, HX⟩
    · refine ⟨.inr 3, M, ?_, fr_rf, fun N hN => ⟨0, putI (putI N R8 8 0) R8 8 2, hr N ?_, gl_88 G hN, rf_88, by rw [z_8]; exact ag_2 (by decide) rfl⟩⟩
      · rw [fX9_restore, slot_ok hc, thr_0]
        simp only [hgi, if_false]
        rw [hcl, y1, if_pos rfl]
      · rw [(hN (20, 0, 0) rfl).1, y2, rr_no z_8 (by decide), Option.bind_some, if_pos rfl]
    · have hT := HI.2.2.2.2.2.2.2.1
      obtain ⟨M1, a1, a2, a3⟩ := cl_copy (i := 0) (j := 10 + c) (by omega) hT.2 HB
      obtain ⟨hc0, hx0, H⟩ := G.2.2.2.1
      have fC : Fr (fun r => sBx 0 r || r == (14, 0, 0)) M (fX2_forgetAll M1) := fr_pI (fr_mono (fun r hr => by rw [hr]; rfl) a3) (by simp)
      have e5 : (fX2_forgetAll M1).1 (10, 0, 0) 2 = g 5 := by rw [fX2_forgetAll, putI_ne (by decide)]; exact a2.1 5 (vk_s rfl)
      refine ⟨.inl (g 5), fX2_forgetAll M1, ?_, fr_mono (fun r hr => ?_) fC, fun N hN => ?_⟩
      · rw [fX9_restore, slot_ok hc, thr_0]
        simp only [hgi, if_false]
        rw [hcl, y1, if_neg (by decide), a1, Option.bind_some, e5]
      · rcases Bool.or_eq_true .. |>.mp hr with hr | hr
        · exact sb_cl hr
        · have : r = (14, 0, 0) := by simpa using hr
          rw [this]; rfl
      · obtain ⟨N1, b1, b2, b3⟩ := lp_rest (M0 := putI N R8 8 0) hc (K := fun w11 M12 => some ((M12.1 (19, 0, 0) 5), (putI M12 (18, 0, 0) 7 (0 : Int32)))) 280 0 _ NF (by omega) (by unfold NF; omega) (fun k hk => by omega) fr_rf
        have n4 : ∀ k, k < 280 → N1.1 NW k = M.1 (19, 4, 0) (280 * c + k) := fun k hk => by rw [b1 k hk, putI_ne (by decide), (hN (19, 4, 0) rfl).1, (fC (19, 4, 0) rfl).1]
        have X1 : RX (N1.1 NW) g P := rx_c (fun k hk => (n4 k hk).symm) HX
        have z1 : N1.1 R8 8 = 0 := by rw [(b2 R8 rfl).1]; exact z_8
        have fR : Fr sE2 N (putI N1 R8 7 0) := fr_pI (fr_tr (fr_putI rfl) (fr_mono (fun r hr => by unfold sE2; rw [hr, Bool.or_true]) b2)) rfl
        have fA : GFr sU1 (fun j => j == 7 || j == 8) M (putI N1 R8 7 0) := ⟨fr_tr (fr_mono (fun r hr => by unfold sU1; rw [hr]; rfl) fC) (fr_tr (fr_mono (fun r hr => by unfold sU1; rw [hr]; simp) hN) (fr_mono (fun r hr => by unfold sU1; rw [hr]; simp) fR)), fun j hj => by
          have hj2 : (j == 7 || j == 8) = false := hj
          have j7 : j ≠ 7 := by intro c; rw [c] at hj2; cases hj2
          have j8 : j ≠ 8 := by intro c; rw [c] at hj2; cases hj2
          rw [g_row, upd_o j7, (b2 R8 rfl).1, g_row, upd_o j8, (hN R8 rfl).1, (fC R8 rfl).1]⟩
        have h14 : (putI N1 R8 7 0).1 (14, 0, 0) = upd (M.1 (14, 0, 0)) 1 0 := by
          rw [(fR (14, 0, 0) rfl).1, (hN (14, 0, 0) rfl).1, fX2_forgetAll, g_row, (a3 (14, 0, 0) rfl).1]
        refine ⟨g 5, putI N1 R8 7 0, hr N ?_, ⟨⟨g, P, S, T, U, A, m, p, HI, bx_fr (S := fun r => sOut r || sE2 r) (fun r hr => or_f (dO 0 r hr) (or_f (bx_dis hr rfl) (bx_dis hr rfl))) (fr_tr (fr_mono (fun r hr => by rw [hr]; rfl) hN) (fr_mono (fun r hr => by rw [hr, Bool.or_true]) fR)) (bx_fr (S := fun r => r == (14, 0, 0)) (fun r hr => bx_dis hr rfl) (fr_putI (by simp)) a2), by rw [putI_ne (by decide)]; exact X1⟩, gt_fr rfl rfl rfl rfl fA G.2.1, ge_fr rfl rfl rfl fA G.2.2.1, ⟨0, hx0, by omega, H.2.1, ?_, ?_, ?_, fun k hk => by omega⟩, gs_fr rfl rfl rfl (fun i i1 _ => dU i (by omega)) fA G.2.2.2.2.1, go_fr rfl rfl rfl rfl fA G.2.2.2.2.2.1, by rw [fA.2 25 rfl]; exact G.2.2.2.2.2.2⟩, e2_r fR, by rw [g_row, upd_o (by decide)]; exact z1, rfl⟩
        · rw [(hN (20, 0, 0) rfl).1, (fC (20, 0, 0) rfl).1, y2, rr_ok z_8, Option.bind_some, if_neg one_ne]
          refine b3.trans ?_
          skip
          rw [show N1.1 (19, 0, 0) 5 = g 5 from X1.1 5 (by decide)]
        · rw [h14, upd_s]; rfl
        · rw [h14, upd_o (by decide)]; exact H.2.2.2.1
        · rw [g_row, upd_s]; rfl
  · refine ⟨.inr 2, M, by rw [fX9_restore, slot_no hx, thr_1], fr_rf, fun N hN => ⟨0, putI (putI N R8 8 0) R8 8 1, ?_, gl_88 G hN, rf_88, by rw [z_8]; exact ag_1 rfl⟩⟩
    dsimp only
    rw [fX10_restore, show fX10_in (putI N R8 8 0) x 0 1 = 0 from rin_no (N := 2) (by omega) hx, rr_no z_8 (by decide), Option.bind_some, if_pos rfl]
end SAV
