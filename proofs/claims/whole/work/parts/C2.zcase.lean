/-! the law's cases, 2 -/
set_option maxRecDepth 20000 in
set_option maxHeartbeats 2000000 in
theorem case_30 {b L : Nat} {xs : Nat → Int32} {xt : List ExceptionTableEntry} {nme : String} {x : Int32} {cells slots : Nat} {M : Mm} (G : GL M) (hs : ∀ d : Int32, 0 ≤ d → d < 6 → ¬ (x + d < 0 ∨ L ≤ (x + d).toNatClampNeg)) (hc : cells + 4 ≤ 601024) (hsl : slots + 24 ≤ 7293034) (kk : ∀ M2, GL M2 → Z RL code 10 ret xt nme room_1 (lwQ b L xs) (allR 2) SH (cells + 4) (slots + 24) 2908 (ls0 b x) [] M2) : Z RL code 10 ret xt nme room_1 (lwQ b L xs) (allR 2) SH cells slots 1478 (ls0 b x) [] M := by
  obtain ⟨v, M1, M2, e1, f1, e2, G2, f2⟩ := api_stepsPlayed G
  cases e1
  refine z_aload_n (i := 1) dW_1478 rfl rfl ?_
  refine z_fVi (wv := 2) (n := 0) (sX9_stepsPlayed (wv := 2) M) dW_1479 ml_L_254 cd_X9_stepsPlayed mk0 rfl rfl rfl (rmk_r (by decide) (by decide) (by omega) (by omega)) rfl rfl ?_
  refine z_aload_n (i := 2) dW_1482 rfl rfl ?_
  refine z_fVi (wv := 2) (n := 0) (sX10_stepsPlayed (wv := 1) M e2) dW_1483 ml_L_257 cd_X10_stepsPlayed mk18 rfl rfl rfl (rmk_r (by decide) (by decide) (by omega) (by omega)) rfl rfl ?_
  exact z_icmp_eq (tgt := 2908) dW_1486 rfl (fun _ => z_wid (by omega) (by omega) (kk M2 G2)) (fun hne => absurd rfl hne)
set_option maxRecDepth 20000 in
set_option maxHeartbeats 2000000 in
theorem case_31 {b L : Nat} {xs : Nat → Int32} {xt : List ExceptionTableEntry} {nme : String} {x : Int32} {cells slots : Nat} {M : Mm} (G : GL M) (hs : ∀ d : Int32, 0 ≤ d → d < 6 → ¬ (x + d < 0 ∨ L ≤ (x + d).toNatClampNeg)) (hc : cells + 4 ≤ 601024) (hsl : slots + 24 ≤ 7293034) (kk : ∀ M2, GL M2 → Z RL code 10 ret xt nme room_1 (lwQ b L xs) (allR 2) SH (cells + 4) (slots + 24) 2908 (ls0 b x) [] M2) : Z RL code 10 ret xt nme room_1 (lwQ b L xs) (allR 2) SH cells slots 1491 (ls0 b x) [] M := by
  obtain ⟨v, M1, M2, e1, f1, e2, G2, f2⟩ := api_brokenTeeth G
  obtain ⟨q, hq, e⟩ := mp_some e1
  cases e
  refine z_aload_n (i := 1) dW_1491 rfl rfl ?_
  refine z_fVi (wv := 2) (n := 0) (sX9_brokenTeeth (wv := 2) M hq) dW_1492 ml_L_258 cd_X9_brokenTeeth mk0 rfl rfl rfl (rmk_r (by decide) (by decide) (by omega) (by omega)) rfl rfl ?_
  refine z_aload_n (i := 2) dW_1495 rfl rfl ?_
  refine z_fVi (wv := 2) (n := 0) (sX10_brokenTeeth (wv := 1) M e2) dW_1496 ml_L_261 cd_X10_brokenTeeth mk18 rfl rfl rfl (rmk_r (by decide) (by decide) (by omega) (by omega)) rfl rfl ?_
  exact z_icmp_eq (tgt := 2908) dW_1499 rfl (fun _ => z_wid (by omega) (by omega) (kk M2 G2)) (fun hne => absurd rfl hne)
set_option maxRecDepth 20000 in
set_option maxHeartbeats 2000000 in
theorem case_32 {b L : Nat} {xs : Nat → Int32} {xt : List ExceptionTableEntry} {nme : String} {x : Int32} {cells slots : Nat} {M : Mm} (G : GL M) (hs : ∀ d : Int32, 0 ≤ d → d < 6 → ¬ (x + d < 0 ∨ L ≤ (x + d).toNatClampNeg)) (hc : cells + 4 ≤ 601024) (hsl : slots + 24 ≤ 7293034) (kk : ∀ M2, GL M2 → Z RL code 10 ret xt nme room_1 (lwQ b L xs) (allR 2) SH (cells + 4) (slots + 24) 2908 (ls0 b x) [] M2) : Z RL code 10 ret xt nme room_1 (lwQ b L xs) (allR 2) SH cells slots 1504 (ls0 b x) [] M := by
  obtain ⟨res, M1, e1, hok, f1, hN⟩ := api_meanPitch G (xs (x + 1).toNatClampNeg)
  have he : ∀ e, res = .inr e → e ∈ [2] := by
    obtain ⟨r0, N0, -, -, -, ag0⟩ := hN M1 fr_rf
    exact ag_in (ag0)
  refine z_aload_n (i := 1) dW_1504 rfl rfl ?_
  refine z_arg (d := 1) dW_1505 dW_1506 dW_1508 dW_1509 dW_1510 rfl rfl rfl (hs 1 (by decide) (by decide)) ?_
  refine z_aload (i := 4) dW_1511 rfl ?_
  refine z_callSX (av := [.inr (0, 0, 0), .inl (.int (xs (x + 1).toNatClampNeg)), .inr (22, 0, 0)]) (W_meanPitch M (xs (x + 1).toNatClampNeg) e1 he) dW_1513 ml_L_262 cw_L_meanPitch rfl ⟨by decide, by decide, hc, hsl⟩ (by decide) rfl (fun v M9 hw => ?_) (fun E M9 h => h.elim)
  obtain ⟨k, hv, hF, hw⟩ := wp_k (by decide) hw
  subst hv
  obtain ⟨r, M2, e2, G2, f2, ag⟩ := hN M9 hF
  have hth := wp_th hw (ag)
  refine z_istore (i := 6) dW_1516 (by decide) rfl ?_
  refine z_aload_n (i := 2) dW_1518 rfl rfl ?_
  refine z_arg (d := 1) dW_1519 dW_1520 dW_1522 dW_1523 dW_1524 rfl rfl rfl (hs 1 (by decide) (by decide)) ?_
  refine z_fVd (wv := 2) (n := 1) (sX10_meanPitch (wv := 1) M9 (xs (x + 1).toNatClampNeg) e2) dW_1525 ml_L_265 cd_X10_meanPitch mk18 rfl rfl rfl (rmk_r (by decide) (by decide) hc hsl) rfl rfl ?_
  refine z_dstore (i := 7) dW_1528 (by decide) rfl ?_
  refine z_aload_n (i := 2) dW_1530 rfl rfl ?_
  refine z_fVi (wv := 2) (n := 0) (sX10_thrown (wv := 1) M2) dW_1531 ml_L_144 cd_X10_thrown mk18 rfl rfl rfl (rmk_r (by decide) (by decide) hc hsl) rfl rfl ?_
  refine z_iload (i := 6) dW_1534 rfl ?_
  refine z_icmp_eq (tgt := 1541) dW_1536 rfl (fun _ => ?_) (fun hne => absurd hth hne)
  refine z_iload (i := 6) dW_1541 rfl ?_
  refine z_if_ne (tgt := 1578) dW_1543 rfl (fun _ => z_goto (tgt := 2908) dW_1578 rfl (z_fgt (i := 6) (z_fgt (i := 7) (kk M2 G2)))) (fun h0 => ?_)
  obtain ⟨hval, hres⟩ := wp_val hw (ag) h0 rfl f2
  refine z_aload (i := 4) dW_1546 rfl ?_
  refine z_iconst (v := (0 : Int32)) dW_1548 (by decide) ?_
  refine z_dald dW_1549 mk22 rfl (by decide) ?_
  rw [show M2.2 (22, 0, 0) (0 : Int32).toNatClampNeg = fD r from hval, show (fD r).toUInt64 = r from u64_i r]
  refine z_dload (i := 7) dW_1550 rfl ?_
  refine z_dcmp dW_1552 ?_
  exact z_if_eq (tgt := 1578) dW_1553 rfl (fun _ => z_goto (tgt := 2908) dW_1578 rfl (z_fgt (i := 6) (z_fgt (i := 7) (kk M2 G2)))) (fun hne => absurd (dcmp_0 (hok r hres)) hne)
set_option maxRecDepth 20000 in
set_option maxHeartbeats 2000000 in
theorem case_33 {b L : Nat} {xs : Nat → Int32} {xt : List ExceptionTableEntry} {nme : String} {x : Int32} {cells slots : Nat} {M : Mm} (G : GL M) (hs : ∀ d : Int32, 0 ≤ d → d < 6 → ¬ (x + d < 0 ∨ L ≤ (x + d).toNatClampNeg)) (hc : cells + 4 ≤ 601024) (hsl : slots + 24 ≤ 7293034) (kk : ∀ M2, GL M2 → Z RL code 10 ret xt nme room_1 (lwQ b L xs) (allR 2) SH (cells + 4) (slots + 24) 2908 (ls0 b x) [] M2) : Z RL code 10 ret xt nme room_1 (lwQ b L xs) (allR 2) SH cells slots 1581 (ls0 b x) [] M := by
  obtain ⟨res, M1, e1, hok, f1, hN⟩ := api_density G (xs (x + 1).toNatClampNeg)
  have he : ∀ e, res = .inr e → e ∈ [2] := by
    obtain ⟨r0, N0, -, -, -, ag0⟩ := hN M1 fr_rf
    exact ag_in (ag0)
  refine z_aload_n (i := 1) dW_1581 rfl rfl ?_
  refine z_arg (d := 1) dW_1582 dW_1583 dW_1585 dW_1586 dW_1587 rfl rfl rfl (hs 1 (by decide) (by decide)) ?_
  refine z_aload (i := 4) dW_1588 rfl ?_
  refine z_callSX (av := [.inr (0, 0, 0), .inl (.int (xs (x + 1).toNatClampNeg)), .inr (22, 0, 0)]) (W_density M (xs (x + 1).toNatClampNeg) e1 he (fun y hy => f2d_n (hok y hy))) dW_1590 ml_L_266 cw_L_density rfl ⟨by decide, by decide, hc, hsl⟩ (by decide) rfl (fun v M9 hw => ?_) (fun E M9 h => h.elim)
  obtain ⟨k, hv, hF, hw⟩ := wp_k (by decide) hw
  subst hv
  obtain ⟨r, M2, e2, G2, f2, ag⟩ := hN M9 hF
  have hth := wp_th hw (ag)
  refine z_istore (i := 6) dW_1593 (by decide) rfl ?_
  refine z_aload_n (i := 2) dW_1595 rfl rfl ?_
  refine z_arg (d := 1) dW_1596 dW_1597 dW_1599 dW_1600 dW_1601 rfl rfl rfl (hs 1 (by decide) (by decide)) ?_
  refine z_fVf (wv := 2) (n := 1) (sX10_density (wv := 1) M9 (xs (x + 1).toNatClampNeg) e2) dW_1602 ml_L_268 cd_X10_density mk18 rfl rfl rfl (rmk_r (by decide) (by decide) hc hsl) rfl rfl ?_
  refine z_fstore (i := 7) dW_1605 (by decide) rfl ?_
  refine z_aload_n (i := 2) dW_1607 rfl rfl ?_
  refine z_fVi (wv := 2) (n := 0) (sX10_thrown (wv := 1) M2) dW_1608 ml_L_144 cd_X10_thrown mk18 rfl rfl rfl (rmk_r (by decide) (by decide) hc hsl) rfl rfl ?_
  refine z_iload (i := 6) dW_1611 rfl ?_
  refine z_icmp_eq (tgt := 1618) dW_1613 rfl (fun _ => ?_) (fun hne => absurd hth hne)
  refine z_iload (i := 6) dW_1618 rfl ?_
  refine z_if_ne (tgt := 1656) dW_1620 rfl (fun _ => z_goto (tgt := 2908) dW_1656 rfl (z_fgt (i := 6) (z_fgt (i := 7) (kk M2 G2)))) (fun h0 => ?_)
  obtain ⟨hval, hres⟩ := wp_val hw (ag) h0 rfl f2
  refine z_aload (i := 4) dW_1623 rfl ?_
  refine z_iconst (v := (0 : Int32)) dW_1625 (by decide) ?_
  refine z_dald dW_1626 mk22 rfl (by decide) ?_
  rw [show M2.2 (22, 0, 0) (0 : Int32).toNatClampNeg = fF r from hval, show (fF r).toUInt64 = FP.f2d r from u64_i _]
  refine z_fload (i := 7) dW_1627 rfl ?_
  refine z_f2d dW_1629 (f2d_n (hok r hres)) ?_
  refine z_dcmp dW_1630 ?_
  exact z_if_eq (tgt := 1656) dW_1631 rfl (fun _ => z_goto (tgt := 2908) dW_1656 rfl (z_fgt (i := 6) (z_fgt (i := 7) (kk M2 G2)))) (fun hne => absurd (dcmp_0 (f2d_n (hok r hres))) hne)
set_option maxRecDepth 20000 in
set_option maxHeartbeats 2000000 in
theorem case_34 {b L : Nat} {xs : Nat → Int32} {xt : List ExceptionTableEntry} {nme : String} {x : Int32} {cells slots : Nat} {M : Mm} (G : GL M) (hs : ∀ d : Int32, 0 ≤ d → d < 6 → ¬ (x + d < 0 ∨ L ≤ (x + d).toNatClampNeg)) (hc : cells + 4 ≤ 601024) (hsl : slots + 24 ≤ 7293034) (kk : ∀ M2, GL M2 → Z RL code 10 ret xt nme room_1 (lwQ b L xs) (allR 2) SH (cells + 4) (slots + 24) 2908 (ls0 b x) [] M2) : Z RL code 10 ret xt nme room_1 (lwQ b L xs) (allR 2) SH cells slots 1659 (ls0 b x) [] M := by
  obtain ⟨v, M1, M2, e1, f1, e2, G2, f2⟩ := api_contradictions G
  obtain ⟨q, hq, e⟩ := mp_some e1
  cases e
  refine z_aload_n (i := 1) dW_1659 rfl rfl ?_
  refine z_fVi (wv := 2) (n := 0) (sX9_contradictions (wv := 2) M hq) dW_1660 ml_L_269 cd_X9_contradictions mk0 rfl rfl rfl (rmk_r (by decide) (by decide) (by omega) (by omega)) rfl rfl ?_
  refine z_aload_n (i := 2) dW_1663 rfl rfl ?_
  refine z_fVi (wv := 2) (n := 0) (sX10_contradictions (wv := 1) M e2) dW_1664 ml_L_272 cd_X10_contradictions mk18 rfl rfl rfl (rmk_r (by decide) (by decide) (by omega) (by omega)) rfl rfl ?_
  exact z_icmp_eq (tgt := 2908) dW_1667 rfl (fun _ => z_wid (by omega) (by omega) (kk M2 G2)) (fun hne => absurd rfl hne)
set_option maxRecDepth 20000 in
set_option maxHeartbeats 2000000 in
theorem case_35 {b L : Nat} {xs : Nat → Int32} {xt : List ExceptionTableEntry} {nme : String} {x : Int32} {cells slots : Nat} {M : Mm} (G : GL M) (hs : ∀ d : Int32, 0 ≤ d → d < 6 → ¬ (x + d < 0 ∨ L ≤ (x + d).toNatClampNeg)) (hc : cells + 4 ≤ 601024) (hsl : slots + 24 ≤ 7293034) (kk : ∀ M2, GL M2 → Z RL code 10 ret xt nme room_1 (lwQ b L xs) (allR 2) SH (cells + 4) (slots + 24) 2908 (ls0 b x) [] M2) : Z RL code 10 ret xt nme room_1 (lwQ b L xs) (allR 2) SH cells slots 1672 (ls0 b x) [] M := by
  obtain ⟨v, M1, M2, e1, f1, e2, G2, f2⟩ := api_stepsLeft G
  cases e1
  refine z_aload_n (i := 1) dW_1672 rfl rfl ?_
  refine z_fVi (wv := 2) (n := 0) (sX9_stepsLeft (wv := 2) M) dW_1673 ml_L_273 cd_X9_stepsLeft mk0 rfl rfl rfl (rmk_r (by decide) (by decide) (by omega) (by omega)) rfl rfl ?_
  refine z_aload_n (i := 2) dW_1676 rfl rfl ?_
  refine z_fVi (wv := 2) (n := 0) (sX10_stepsLeft (wv := 1) M e2) dW_1677 ml_L_276 cd_X10_stepsLeft mk18 rfl rfl rfl (rmk_r (by decide) (by decide) (by omega) (by omega)) rfl rfl ?_
  exact z_icmp_eq (tgt := 2908) dW_1680 rfl (fun _ => z_wid (by omega) (by omega) (kk M2 G2)) (fun hne => absurd rfl hne)
set_option maxRecDepth 20000 in
set_option maxHeartbeats 2000000 in
theorem case_36 {b L : Nat} {xs : Nat → Int32} {xt : List ExceptionTableEntry} {nme : String} {x : Int32} {cells slots : Nat} {M : Mm} (G : GL M) (hs : ∀ d : Int32, 0 ≤ d → d < 6 → ¬ (x + d < 0 ∨ L ≤ (x + d).toNatClampNeg)) (hc : cells + 4 ≤ 601024) (hsl : slots + 24 ≤ 7293034) (kk : ∀ M2, GL M2 → Z RL code 10 ret xt nme room_1 (lwQ b L xs) (allR 2) SH (cells + 4) (slots + 24) 2908 (ls0 b x) [] M2) : Z RL code 10 ret xt nme room_1 (lwQ b L xs) (allR 2) SH cells slots 1685 (ls0 b x) [] M := by
  obtain ⟨res, M1, e1, f1, hN⟩ := api_stepsUntilBroken G (xs (x + 1).toNatClampNeg)
  have he : ∀ e, res = .inr e → e ∈ [2] := by
    obtain ⟨r0, N0, -, -, -, ag0⟩ := hN M1 fr_rf
    exact ag_in (ag_T ag0)
  refine z_aload_n (i := 1) dW_1685 rfl rfl ?_
  refine z_arg (d := 1) dW_1686 dW_1687 dW_1689 dW_1690 dW_1691 rfl rfl rfl (hs 1 (by decide) (by decide)) ?_
  refine z_aload_n (i := 3) dW_1692 rfl rfl ?_
  refine z_callSX (av := [.inr (0, 0, 0), .inl (.int (xs (x + 1).toNatClampNeg)), .inr (21, 0, 0)]) (W_stepsUntilBroken M (xs (x + 1).toNatClampNeg) e1 he) dW_1693 ml_L_277 cw_L_stepsUntilBroken rfl ⟨by decide, by decide, hc, hsl⟩ (by decide) rfl (fun v M9 hw => ?_) (fun E M9 h => h.elim)
  obtain ⟨k, hv, hF, hw⟩ := wp_k (by decide) hw
  subst hv
  obtain ⟨r, M2, e2, G2, f2, ag⟩ := hN M9 hF
  have hth := wp_th hw (ag_T ag)
  refine z_istore (i := 6) dW_1696 (by decide) rfl ?_
  refine z_aload_n (i := 2) dW_1698 rfl rfl ?_
  refine z_arg (d := 1) dW_1699 dW_1700 dW_1702 dW_1703 dW_1704 rfl rfl rfl (hs 1 (by decide) (by decide)) ?_
  refine z_fVi (wv := 2) (n := 1) (sX10_stepsUntilBroken (wv := 1) M9 (xs (x + 1).toNatClampNeg) e2) dW_1705 ml_L_279 cd_X10_stepsUntilBroken mk18 rfl rfl rfl (rmk_r (by decide) (by decide) hc hsl) rfl rfl ?_
  refine z_istore (i := 7) dW_1708 (by decide) rfl ?_
  refine z_aload_n (i := 2) dW_1710 rfl rfl ?_
  refine z_fVi (wv := 2) (n := 0) (sX10_thrown (wv := 1) M2) dW_1711 ml_L_144 cd_X10_thrown mk18 rfl rfl rfl (rmk_r (by decide) (by decide) hc hsl) rfl rfl ?_
  refine z_iload (i := 6) dW_1714 rfl ?_
  refine z_icmp_eq (tgt := 1721) dW_1716 rfl (fun _ => ?_) (fun hne => absurd hth hne)
  refine z_iload (i := 6) dW_1721 rfl ?_
  refine z_if_ne (tgt := 1738) dW_1723 rfl (fun _ => z_goto (tgt := 2908) dW_1738 rfl (z_fgt (i := 6) (z_fgt (i := 7) (kk M2 G2)))) (fun h0 => ?_)
  obtain ⟨hval, hres⟩ := wp_val hw (ag_T ag) h0 rfl f2
  refine z_aload_n (i := 3) dW_1726 rfl rfl ?_
  refine z_iconst (v := (0 : Int32)) dW_1727 (by decide) ?_
  refine z_lald dW_1728 mk21 rfl (by decide) hval ?_
  refine z_iload (i := 7) dW_1729 rfl ?_
  refine z_i2l dW_1731 ?_
  refine z_lcmp dW_1732 ?_
  exact z_if_eq (tgt := 1738) dW_1733 rfl (fun _ => z_goto (tgt := 2908) dW_1738 rfl (z_fgt (i := 6) (z_fgt (i := 7) (kk M2 G2)))) (fun hne => absurd lcmp_0 hne)
set_option maxRecDepth 20000 in
set_option maxHeartbeats 2000000 in
theorem case_37 {b L : Nat} {xs : Nat → Int32} {xt : List ExceptionTableEntry} {nme : String} {x : Int32} {cells slots : Nat} {M : Mm} (G : GL M) (hs : ∀ d : Int32, 0 ≤ d → d < 6 → ¬ (x + d < 0 ∨ L ≤ (x + d).toNatClampNeg)) (hc : cells + 4 ≤ 601024) (hsl : slots + 24 ≤ 7293034) (kk : ∀ M2, GL M2 → Z RL code 10 ret xt nme room_1 (lwQ b L xs) (allR 2) SH (cells + 4) (slots + 24) 2908 (ls0 b x) [] M2) : Z RL code 10 ret xt nme room_1 (lwQ b L xs) (allR 2) SH cells slots 1741 (ls0 b x) [] M := by
  obtain ⟨res, M1, e1, f1, hN⟩ := api_notesIn G (xs (x + 1).toNatClampNeg)
  have he : ∀ e, res = .inr e → e ∈ [1] := by
    obtain ⟨r0, N0, -, -, -, ag0⟩ := hN M1 fr_rf
    exact ag_in (ag_T ag0)
  refine z_aload_n (i := 1) dW_1741 rfl rfl ?_
  refine z_arg (d := 1) dW_1742 dW_1743 dW_1745 dW_1746 dW_1747 rfl rfl rfl (hs 1 (by decide) (by decide)) ?_
  refine z_aload_n (i := 3) dW_1748 rfl rfl ?_
  refine z_callSX (av := [.inr (0, 0, 0), .inl (.int (xs (x + 1).toNatClampNeg)), .inr (21, 0, 0)]) (W_notesIn M (xs (x + 1).toNatClampNeg) e1 he) dW_1749 ml_L_280 cw_L_notesIn rfl ⟨by decide, by decide, hc, hsl⟩ (by decide) rfl (fun v M9 hw => ?_) (fun E M9 h => h.elim)
  obtain ⟨k, hv, hF, hw⟩ := wp_k (by decide) hw
  subst hv
  obtain ⟨r, M2, e2, G2, f2, ag⟩ := hN M9 hF
  have hth := wp_th hw (ag_T ag)
  refine z_istore (i := 6) dW_1752 (by decide) rfl ?_
  refine z_aload_n (i := 2) dW_1754 rfl rfl ?_
  refine z_arg (d := 1) dW_1755 dW_1756 dW_1758 dW_1759 dW_1760 rfl rfl rfl (hs 1 (by decide) (by decide)) ?_
  refine z_fVi (wv := 2) (n := 1) (sX10_notesIn (wv := 1) M9 (xs (x + 1).toNatClampNeg) e2) dW_1761 ml_L_282 cd_X10_notesIn mk18 rfl rfl rfl (rmk_r (by decide) (by decide) hc hsl) rfl rfl ?_
  refine z_istore (i := 7) dW_1764 (by decide) rfl ?_
  refine z_aload_n (i := 2) dW_1766 rfl rfl ?_
  refine z_fVi (wv := 2) (n := 0) (sX10_thrown (wv := 1) M2) dW_1767 ml_L_144 cd_X10_thrown mk18 rfl rfl rfl (rmk_r (by decide) (by decide) hc hsl) rfl rfl ?_
  refine z_iload (i := 6) dW_1770 rfl ?_
  refine z_icmp_eq (tgt := 1777) dW_1772 rfl (fun _ => ?_) (fun hne => absurd hth hne)
  refine z_iload (i := 6) dW_1777 rfl ?_
  refine z_if_ne (tgt := 1794) dW_1779 rfl (fun _ => z_goto (tgt := 2908) dW_1794 rfl (z_fgt (i := 6) (z_fgt (i := 7) (kk M2 G2)))) (fun h0 => ?_)
  obtain ⟨hval, hres⟩ := wp_val hw (ag_T ag) h0 rfl f2
  refine z_aload_n (i := 3) dW_1782 rfl rfl ?_
  refine z_iconst (v := (0 : Int32)) dW_1783 (by decide) ?_
  refine z_lald dW_1784 mk21 rfl (by decide) hval ?_
  refine z_iload (i := 7) dW_1785 rfl ?_
  refine z_i2l dW_1787 ?_
  refine z_lcmp dW_1788 ?_
  exact z_if_eq (tgt := 1794) dW_1789 rfl (fun _ => z_goto (tgt := 2908) dW_1794 rfl (z_fgt (i := 6) (z_fgt (i := 7) (kk M2 G2)))) (fun hne => absurd lcmp_0 hne)
set_option maxRecDepth 20000 in
set_option maxHeartbeats 2000000 in
theorem case_38 {b L : Nat} {xs : Nat → Int32} {xt : List ExceptionTableEntry} {nme : String} {x : Int32} {cells slots : Nat} {M : Mm} (G : GL M) (hs : ∀ d : Int32, 0 ≤ d → d < 6 → ¬ (x + d < 0 ∨ L ≤ (x + d).toNatClampNeg)) (hc : cells + 4 ≤ 601024) (hsl : slots + 24 ≤ 7293034) (kk : ∀ M2, GL M2 → Z RL code 10 ret xt nme room_1 (lwQ b L xs) (allR 2) SH (cells + 4) (slots + 24) 2908 (ls0 b x) [] M2) : Z RL code 10 ret xt nme room_1 (lwQ b L xs) (allR 2) SH cells slots 1797 (ls0 b x) [] M := by
  obtain ⟨res, M1, e1, f1, hN⟩ := api_squeaksIn G (xs (x + 1).toNatClampNeg)
  have he : ∀ e, res = .inr e → e ∈ [1] := by
    obtain ⟨r0, N0, -, -, -, ag0⟩ := hN M1 fr_rf
    exact ag_in (ag_T ag0)
  refine z_aload_n (i := 1) dW_1797 rfl rfl ?_
  refine z_arg (d := 1) dW_1798 dW_1799 dW_1801 dW_1802 dW_1803 rfl rfl rfl (hs 1 (by decide) (by decide)) ?_
  refine z_aload_n (i := 3) dW_1804 rfl rfl ?_
  refine z_callSX (av := [.inr (0, 0, 0), .inl (.int (xs (x + 1).toNatClampNeg)), .inr (21, 0, 0)]) (W_squeaksIn M (xs (x + 1).toNatClampNeg) e1 he) dW_1805 ml_L_283 cw_L_squeaksIn rfl ⟨by decide, by decide, hc, hsl⟩ (by decide) rfl (fun v M9 hw => ?_) (fun E M9 h => h.elim)
  obtain ⟨k, hv, hF, hw⟩ := wp_k (by decide) hw
  subst hv
  obtain ⟨r, M2, e2, G2, f2, ag⟩ := hN M9 hF
  have hth := wp_th hw (ag_T ag)
  refine z_istore (i := 6) dW_1808 (by decide) rfl ?_
  refine z_aload_n (i := 2) dW_1810 rfl rfl ?_
  refine z_arg (d := 1) dW_1811 dW_1812 dW_1814 dW_1815 dW_1816 rfl rfl rfl (hs 1 (by decide) (by decide)) ?_
  refine z_fVi (wv := 2) (n := 1) (sX10_squeaksIn (wv := 1) M9 (xs (x + 1).toNatClampNeg) e2) dW_1817 ml_L_285 cd_X10_squeaksIn mk18 rfl rfl rfl (rmk_r (by decide) (by decide) hc hsl) rfl rfl ?_
  refine z_istore (i := 7) dW_1820 (by decide) rfl ?_
  refine z_aload_n (i := 2) dW_1822 rfl rfl ?_
  refine z_fVi (wv := 2) (n := 0) (sX10_thrown (wv := 1) M2) dW_1823 ml_L_144 cd_X10_thrown mk18 rfl rfl rfl (rmk_r (by decide) (by decide) hc hsl) rfl rfl ?_
  refine z_iload (i := 6) dW_1826 rfl ?_
  refine z_icmp_eq (tgt := 1833) dW_1828 rfl (fun _ => ?_) (fun hne => absurd hth hne)
  refine z_iload (i := 6) dW_1833 rfl ?_
  refine z_if_ne (tgt := 1850) dW_1835 rfl (fun _ => z_goto (tgt := 2908) dW_1850 rfl (z_fgt (i := 6) (z_fgt (i := 7) (kk M2 G2)))) (fun h0 => ?_)
  obtain ⟨hval, hres⟩ := wp_val hw (ag_T ag) h0 rfl f2
  refine z_aload_n (i := 3) dW_1838 rfl rfl ?_
  refine z_iconst (v := (0 : Int32)) dW_1839 (by decide) ?_
  refine z_lald dW_1840 mk21 rfl (by decide) hval ?_
  refine z_iload (i := 7) dW_1841 rfl ?_
  refine z_i2l dW_1843 ?_
  refine z_lcmp dW_1844 ?_
  exact z_if_eq (tgt := 1850) dW_1845 rfl (fun _ => z_goto (tgt := 2908) dW_1850 rfl (z_fgt (i := 6) (z_fgt (i := 7) (kk M2 G2)))) (fun hne => absurd lcmp_0 hne)
set_option maxRecDepth 20000 in
set_option maxHeartbeats 2000000 in
theorem case_39 {b L : Nat} {xs : Nat → Int32} {xt : List ExceptionTableEntry} {nme : String} {x : Int32} {cells slots : Nat} {M : Mm} (G : GL M) (hs : ∀ d : Int32, 0 ≤ d → d < 6 → ¬ (x + d < 0 ∨ L ≤ (x + d).toNatClampNeg)) (hc : cells + 4 ≤ 601024) (hsl : slots + 24 ≤ 7293034) (kk : ∀ M2, GL M2 → Z RL code 10 ret xt nme room_1 (lwQ b L xs) (allR 2) SH (cells + 4) (slots + 24) 2908 (ls0 b x) [] M2) : Z RL code 10 ret xt nme room_1 (lwQ b L xs) (allR 2) SH cells slots 1853 (ls0 b x) [] M := by
  obtain ⟨res, M1, e1, f1, hN⟩ := api_addPin G (xs (x + 1).toNatClampNeg) (xs (x + 2).toNatClampNeg) (xs (x + 3).toNatClampNeg)
  have he : ∀ e, res = .inr e → e ∈ [2, 0] := by
    obtain ⟨r0, N0, -, -, -, ag0⟩ := hN M1 fr_rf
    exact ag_in (ag_T ag0)
  refine z_aload_n (i := 1) dW_1853 rfl rfl ?_
  refine z_arg (d := 1) dW_1854 dW_1855 dW_1857 dW_1858 dW_1859 rfl rfl rfl (hs 1 (by decide) (by decide)) ?_
  refine z_arg (d := 2) dW_1860 dW_1861 dW_1863 dW_1864 dW_1865 rfl rfl rfl (hs 2 (by decide) (by decide)) ?_
  refine z_arg (d := 3) dW_1866 dW_1867 dW_1869 dW_1870 dW_1871 rfl rfl rfl (hs 3 (by decide) (by decide)) ?_
  refine z_aload_n (i := 3) dW_1872 rfl rfl ?_
  refine z_callSX (av := [.inr (0, 0, 0), .inl (.int (xs (x + 1).toNatClampNeg)), .inl (.int (xs (x + 2).toNatClampNeg)), .inl (.int (xs (x + 3).toNatClampNeg)), .inr (21, 0, 0)]) (W_addPin M (xs (x + 1).toNatClampNeg) (xs (x + 2).toNatClampNeg) (xs (x + 3).toNatClampNeg) e1 he) dW_1873 ml_L_286 cw_L_addPin rfl ⟨by decide, by decide, hc, hsl⟩ (by decide) rfl (fun v M9 hw => ?_) (fun E M9 h => h.elim)
  obtain ⟨k, hv, hF, hw⟩ := wp_k (by decide) hw
  subst hv
  obtain ⟨r, M2, e2, G2, f2, ag⟩ := hN M9 hF
  have hth := wp_th hw (ag_T ag)
  refine z_istore (i := 6) dW_1876 (by decide) rfl ?_
  refine z_aload_n (i := 2) dW_1878 rfl rfl ?_
  refine z_arg (d := 1) dW_1879 dW_1880 dW_1882 dW_1883 dW_1884 rfl rfl rfl (hs 1 (by decide) (by decide)) ?_
  refine z_arg (d := 2) dW_1885 dW_1886 dW_1888 dW_1889 dW_1890 rfl rfl rfl (hs 2 (by decide) (by decide)) ?_
  refine z_arg (d := 3) dW_1891 dW_1892 dW_1894 dW_1895 dW_1896 rfl rfl rfl (hs 3 (by decide) (by decide)) ?_
  refine z_fVi (wv := 2) (n := 3) (sX10_addPin (wv := 1) M9 (xs (x + 1).toNatClampNeg) (xs (x + 2).toNatClampNeg) (xs (x + 3).toNatClampNeg) e2) dW_1897 ml_L_288 cd_X10_addPin mk18 rfl rfl rfl (rmk_r (by decide) (by decide) hc hsl) rfl rfl ?_
  refine z_istore (i := 7) dW_1900 (by decide) rfl ?_
  refine z_aload_n (i := 2) dW_1902 rfl rfl ?_
  refine z_fVi (wv := 2) (n := 0) (sX10_thrown (wv := 1) M2) dW_1903 ml_L_144 cd_X10_thrown mk18 rfl rfl rfl (rmk_r (by decide) (by decide) hc hsl) rfl rfl ?_
  refine z_iload (i := 6) dW_1906 rfl ?_
  refine z_icmp_eq (tgt := 1913) dW_1908 rfl (fun _ => ?_) (fun hne => absurd hth hne)
  refine z_iload (i := 6) dW_1913 rfl ?_
  refine z_if_ne (tgt := 1930) dW_1915 rfl (fun _ => z_goto (tgt := 2908) dW_1930 rfl (z_fgt (i := 6) (z_fgt (i := 7) (kk M2 G2)))) (fun h0 => ?_)
  obtain ⟨hval, hres⟩ := wp_val hw (ag_T ag) h0 rfl f2
  refine z_aload_n (i := 3) dW_1918 rfl rfl ?_
  refine z_iconst (v := (0 : Int32)) dW_1919 (by decide) ?_
  refine z_lald dW_1920 mk21 rfl (by decide) hval ?_
  refine z_iload (i := 7) dW_1921 rfl ?_
  refine z_i2l dW_1923 ?_
  refine z_lcmp dW_1924 ?_
  exact z_if_eq (tgt := 1930) dW_1925 rfl (fun _ => z_goto (tgt := 2908) dW_1930 rfl (z_fgt (i := 6) (z_fgt (i := 7) (kk M2 G2)))) (fun hne => absurd lcmp_0 hne)
set_option maxRecDepth 20000 in
set_option maxHeartbeats 2000000 in
theorem case_40 {b L : Nat} {xs : Nat → Int32} {xt : List ExceptionTableEntry} {nme : String} {x : Int32} {cells slots : Nat} {M : Mm} (G : GL M) (hs : ∀ d : Int32, 0 ≤ d → d < 6 → ¬ (x + d < 0 ∨ L ≤ (x + d).toNatClampNeg)) (hc : cells + 4 ≤ 601024) (hsl : slots + 24 ≤ 7293034) (kk : ∀ M2, GL M2 → Z RL code 10 ret xt nme room_1 (lwQ b L xs) (allR 2) SH (cells + 4) (slots + 24) 2908 (ls0 b x) [] M2) : Z RL code 10 ret xt nme room_1 (lwQ b L xs) (allR 2) SH cells slots 1933 (ls0 b x) [] M := by
  obtain ⟨res, M1, e1, f1, hN⟩ := api_removePin G (xs (x + 1).toNatClampNeg) (xs (x + 2).toNatClampNeg) (xs (x + 3).toNatClampNeg)
  have he : ∀ e, res = .inr e → e ∈ [2, 0] := by
    obtain ⟨r0, N0, -, -, -, ag0⟩ := hN M1 fr_rf
    exact ag_in (ag_T ag0)
  refine z_aload_n (i := 1) dW_1933 rfl rfl ?_
  refine z_arg (d := 1) dW_1934 dW_1935 dW_1937 dW_1938 dW_1939 rfl rfl rfl (hs 1 (by decide) (by decide)) ?_
  refine z_arg (d := 2) dW_1940 dW_1941 dW_1943 dW_1944 dW_1945 rfl rfl rfl (hs 2 (by decide) (by decide)) ?_
  refine z_arg (d := 3) dW_1946 dW_1947 dW_1949 dW_1950 dW_1951 rfl rfl rfl (hs 3 (by decide) (by decide)) ?_
  refine z_aload_n (i := 3) dW_1952 rfl rfl ?_
  refine z_callSX (av := [.inr (0, 0, 0), .inl (.int (xs (x + 1).toNatClampNeg)), .inl (.int (xs (x + 2).toNatClampNeg)), .inl (.int (xs (x + 3).toNatClampNeg)), .inr (21, 0, 0)]) (W_removePin M (xs (x + 1).toNatClampNeg) (xs (x + 2).toNatClampNeg) (xs (x + 3).toNatClampNeg) e1 he) dW_1953 ml_L_289 cw_L_removePin rfl ⟨by decide, by decide, hc, hsl⟩ (by decide) rfl (fun v M9 hw => ?_) (fun E M9 h => h.elim)
  obtain ⟨k, hv, hF, hw⟩ := wp_k (by decide) hw
  subst hv
  obtain ⟨r, M2, e2, G2, f2, ag⟩ := hN M9 hF
  have hth := wp_th hw (ag_T ag)
  refine z_istore (i := 6) dW_1956 (by decide) rfl ?_
  refine z_aload_n (i := 2) dW_1958 rfl rfl ?_
  refine z_arg (d := 1) dW_1959 dW_1960 dW_1962 dW_1963 dW_1964 rfl rfl rfl (hs 1 (by decide) (by decide)) ?_
  refine z_arg (d := 2) dW_1965 dW_1966 dW_1968 dW_1969 dW_1970 rfl rfl rfl (hs 2 (by decide) (by decide)) ?_
  refine z_arg (d := 3) dW_1971 dW_1972 dW_1974 dW_1975 dW_1976 rfl rfl rfl (hs 3 (by decide) (by decide)) ?_
  refine z_fVi (wv := 2) (n := 3) (sX10_removePin (wv := 1) M9 (xs (x + 1).toNatClampNeg) (xs (x + 2).toNatClampNeg) (xs (x + 3).toNatClampNeg) e2) dW_1977 ml_L_291 cd_X10_removePin mk18 rfl rfl rfl (rmk_r (by decide) (by decide) hc hsl) rfl rfl ?_
  refine z_istore (i := 7) dW_1980 (by decide) rfl ?_
  refine z_aload_n (i := 2) dW_1982 rfl rfl ?_
  refine z_fVi (wv := 2) (n := 0) (sX10_thrown (wv := 1) M2) dW_1983 ml_L_144 cd_X10_thrown mk18 rfl rfl rfl (rmk_r (by decide) (by decide) hc hsl) rfl rfl ?_
  refine z_iload (i := 6) dW_1986 rfl ?_
  refine z_icmp_eq (tgt := 1993) dW_1988 rfl (fun _ => ?_) (fun hne => absurd hth hne)
  refine z_iload (i := 6) dW_1993 rfl ?_
  refine z_if_ne (tgt := 2010) dW_1995 rfl (fun _ => z_goto (tgt := 2908) dW_2010 rfl (z_fgt (i := 6) (z_fgt (i := 7) (kk M2 G2)))) (fun h0 => ?_)
  obtain ⟨hval, hres⟩ := wp_val hw (ag_T ag) h0 rfl f2
  refine z_aload_n (i := 3) dW_1998 rfl rfl ?_
  refine z_iconst (v := (0 : Int32)) dW_1999 (by decide) ?_
  refine z_lald dW_2000 mk21 rfl (by decide) hval ?_
  refine z_iload (i := 7) dW_2001 rfl ?_
  refine z_i2l dW_2003 ?_
  refine z_lcmp dW_2004 ?_
  exact z_if_eq (tgt := 2010) dW_2005 rfl (fun _ => z_goto (tgt := 2908) dW_2010 rfl (z_fgt (i := 6) (z_fgt (i := 7) (kk M2 G2)))) (fun hne => absurd lcmp_0 hne)
set_option maxRecDepth 20000 in
set_option maxHeartbeats 2000000 in
theorem case_41 {b L : Nat} {xs : Nat → Int32} {xt : List ExceptionTableEntry} {nme : String} {x : Int32} {cells slots : Nat} {M : Mm} (G : GL M) (hs : ∀ d : Int32, 0 ≤ d → d < 6 → ¬ (x + d < 0 ∨ L ≤ (x + d).toNatClampNeg)) (hc : cells + 4 ≤ 601024) (hsl : slots + 24 ≤ 7293034) (kk : ∀ M2, GL M2 → Z RL code 10 ret xt nme room_1 (lwQ b L xs) (allR 2) SH (cells + 4) (slots + 24) 2908 (ls0 b x) [] M2) : Z RL code 10 ret xt nme room_1 (lwQ b L xs) (allR 2) SH cells slots 2013 (ls0 b x) [] M := by
  obtain ⟨res, M1, e1, f1, hN⟩ := api_shift G (xs (x + 1).toNatClampNeg) (xs (x + 2).toNatClampNeg)
  have he : ∀ e, res = .inr e → e ∈ [2, 1] := by
    obtain ⟨r0, N0, -, -, -, ag0⟩ := hN M1 fr_rf
    exact ag_in (ag_T ag0)
  refine z_aload_n (i := 1) dW_2013 rfl rfl ?_
  refine z_arg (d := 1) dW_2014 dW_2015 dW_2017 dW_2018 dW_2019 rfl rfl rfl (hs 1 (by decide) (by decide)) ?_
  refine z_arg (d := 2) dW_2020 dW_2021 dW_2023 dW_2024 dW_2025 rfl rfl rfl (hs 2 (by decide) (by decide)) ?_
  refine z_aload_n (i := 3) dW_2026 rfl rfl ?_
  refine z_callSX (av := [.inr (0, 0, 0), .inl (.int (xs (x + 1).toNatClampNeg)), .inl (.int (xs (x + 2).toNatClampNeg)), .inr (21, 0, 0)]) (W_shift M (xs (x + 1).toNatClampNeg) (xs (x + 2).toNatClampNeg) e1 he) dW_2027 ml_L_292 cw_L_shift rfl ⟨by decide, by decide, hc, hsl⟩ (by decide) rfl (fun v M9 hw => ?_) (fun E M9 h => h.elim)
  obtain ⟨k, hv, hF, hw⟩ := wp_k (by decide) hw
  subst hv
  obtain ⟨r, M2, e2, G2, f2, ag⟩ := hN M9 hF
  have hth := wp_th hw (ag_T ag)
  refine z_istore (i := 6) dW_2030 (by decide) rfl ?_
  refine z_aload_n (i := 2) dW_2032 rfl rfl ?_
  refine z_arg (d := 1) dW_2033 dW_2034 dW_2036 dW_2037 dW_2038 rfl rfl rfl (hs 1 (by decide) (by decide)) ?_
  refine z_arg (d := 2) dW_2039 dW_2040 dW_2042 dW_2043 dW_2044 rfl rfl rfl (hs 2 (by decide) (by decide)) ?_
  refine z_fVi (wv := 2) (n := 2) (sX10_shift (wv := 1) M9 (xs (x + 1).toNatClampNeg) (xs (x + 2).toNatClampNeg) e2) dW_2045 ml_L_294 cd_X10_shift mk18 rfl rfl rfl (rmk_r (by decide) (by decide) hc hsl) rfl rfl ?_
  refine z_istore (i := 7) dW_2048 (by decide) rfl ?_
  refine z_aload_n (i := 2) dW_2050 rfl rfl ?_
  refine z_fVi (wv := 2) (n := 0) (sX10_thrown (wv := 1) M2) dW_2051 ml_L_144 cd_X10_thrown mk18 rfl rfl rfl (rmk_r (by decide) (by decide) hc hsl) rfl rfl ?_
  refine z_iload (i := 6) dW_2054 rfl ?_
  refine z_icmp_eq (tgt := 2061) dW_2056 rfl (fun _ => ?_) (fun hne => absurd hth hne)
  refine z_iload (i := 6) dW_2061 rfl ?_
  refine z_if_ne (tgt := 2078) dW_2063 rfl (fun _ => z_goto (tgt := 2908) dW_2078 rfl (z_fgt (i := 6) (z_fgt (i := 7) (kk M2 G2)))) (fun h0 => ?_)
  obtain ⟨hval, hres⟩ := wp_val hw (ag_T ag) h0 rfl f2
  refine z_aload_n (i := 3) dW_2066 rfl rfl ?_
  refine z_iconst (v := (0 : Int32)) dW_2067 (by decide) ?_
  refine z_lald dW_2068 mk21 rfl (by decide) hval ?_
  refine z_iload (i := 7) dW_2069 rfl ?_
  refine z_i2l dW_2071 ?_
  refine z_lcmp dW_2072 ?_
  exact z_if_eq (tgt := 2078) dW_2073 rfl (fun _ => z_goto (tgt := 2908) dW_2078 rfl (z_fgt (i := 6) (z_fgt (i := 7) (kk M2 G2)))) (fun hne => absurd lcmp_0 hne)
set_option maxRecDepth 20000 in
set_option maxHeartbeats 2000000 in
theorem case_42 {b L : Nat} {xs : Nat → Int32} {xt : List ExceptionTableEntry} {nme : String} {x : Int32} {cells slots : Nat} {M : Mm} (G : GL M) (hs : ∀ d : Int32, 0 ≤ d → d < 6 → ¬ (x + d < 0 ∨ L ≤ (x + d).toNatClampNeg)) (hc : cells + 4 ≤ 601024) (hsl : slots + 24 ≤ 7293034) (kk : ∀ M2, GL M2 → Z RL code 10 ret xt nme room_1 (lwQ b L xs) (allR 2) SH (cells + 4) (slots + 24) 2908 (ls0 b x) [] M2) : Z RL code 10 ret xt nme room_1 (lwQ b L xs) (allR 2) SH cells slots 2081 (ls0 b x) [] M := by
  obtain ⟨res, M1, e1, f1, hN⟩ := api_transpose G (xs (x + 1).toNatClampNeg) (xs (x + 2).toNatClampNeg)
  have he : ∀ e, res = .inr e → e ∈ [2, 1, 0] := by
    obtain ⟨r0, N0, -, -, -, ag0⟩ := hN M1 fr_rf
    exact ag_in (ag_T ag0)
  refine z_aload_n (i := 1) dW_2081 rfl rfl ?_
  refine z_arg (d := 1) dW_2082 dW_2083 dW_2085 dW_2086 dW_2087 rfl rfl rfl (hs 1 (by decide) (by decide)) ?_
  refine z_arg (d := 2) dW_2088 dW_2089 dW_2091 dW_2092 dW_2093 rfl rfl rfl (hs 2 (by decide) (by decide)) ?_
  refine z_aload_n (i := 3) dW_2094 rfl rfl ?_
  refine z_callSX (av := [.inr (0, 0, 0), .inl (.int (xs (x + 1).toNatClampNeg)), .inl (.int (xs (x + 2).toNatClampNeg)), .inr (21, 0, 0)]) (W_transpose M (xs (x + 1).toNatClampNeg) (xs (x + 2).toNatClampNeg) e1 he) dW_2095 ml_L_295 cw_L_transpose rfl ⟨by decide, by decide, hc, hsl⟩ (by decide) rfl (fun v M9 hw => ?_) (fun E M9 h => h.elim)
  obtain ⟨k, hv, hF, hw⟩ := wp_k (by decide) hw
  subst hv
  obtain ⟨r, M2, e2, G2, f2, ag⟩ := hN M9 hF
  have hth := wp_th hw (ag_T ag)
  refine z_istore (i := 6) dW_2098 (by decide) rfl ?_
  refine z_aload_n (i := 2) dW_2100 rfl rfl ?_
  refine z_arg (d := 1) dW_2101 dW_2102 dW_2104 dW_2105 dW_2106 rfl rfl rfl (hs 1 (by decide) (by decide)) ?_
  refine z_arg (d := 2) dW_2107 dW_2108 dW_2110 dW_2111 dW_2112 rfl rfl rfl (hs 2 (by decide) (by decide)) ?_
  refine z_fVi (wv := 2) (n := 2) (sX10_transpose (wv := 1) M9 (xs (x + 1).toNatClampNeg) (xs (x + 2).toNatClampNeg) e2) dW_2113 ml_L_297 cd_X10_transpose mk18 rfl rfl rfl (rmk_r (by decide) (by decide) hc hsl) rfl rfl ?_
  refine z_istore (i := 7) dW_2116 (by decide) rfl ?_
  refine z_aload_n (i := 2) dW_2118 rfl rfl ?_
  refine z_fVi (wv := 2) (n := 0) (sX10_thrown (wv := 1) M2) dW_2119 ml_L_144 cd_X10_thrown mk18 rfl rfl rfl (rmk_r (by decide) (by decide) hc hsl) rfl rfl ?_
  refine z_iload (i := 6) dW_2122 rfl ?_
  refine z_icmp_eq (tgt := 2129) dW_2124 rfl (fun _ => ?_) (fun hne => absurd hth hne)
  refine z_iload (i := 6) dW_2129 rfl ?_
  refine z_if_ne (tgt := 2146) dW_2131 rfl (fun _ => z_goto (tgt := 2908) dW_2146 rfl (z_fgt (i := 6) (z_fgt (i := 7) (kk M2 G2)))) (fun h0 => ?_)
  obtain ⟨hval, hres⟩ := wp_val hw (ag_T ag) h0 rfl f2
  refine z_aload_n (i := 3) dW_2134 rfl rfl ?_
  refine z_iconst (v := (0 : Int32)) dW_2135 (by decide) ?_
  refine z_lald dW_2136 mk21 rfl (by decide) hval ?_
  refine z_iload (i := 7) dW_2137 rfl ?_
  refine z_i2l dW_2139 ?_
  refine z_lcmp dW_2140 ?_
  exact z_if_eq (tgt := 2146) dW_2141 rfl (fun _ => z_goto (tgt := 2908) dW_2146 rfl (z_fgt (i := 6) (z_fgt (i := 7) (kk M2 G2)))) (fun hne => absurd lcmp_0 hne)
set_option maxRecDepth 20000 in
set_option maxHeartbeats 2000000 in
theorem case_43 {b L : Nat} {xs : Nat → Int32} {xt : List ExceptionTableEntry} {nme : String} {x : Int32} {cells slots : Nat} {M : Mm} (G : GL M) (hs : ∀ d : Int32, 0 ≤ d → d < 6 → ¬ (x + d < 0 ∨ L ≤ (x + d).toNatClampNeg)) (hc : cells + 4 ≤ 601024) (hsl : slots + 24 ≤ 7293034) (kk : ∀ M2, GL M2 → Z RL code 10 ret xt nme room_1 (lwQ b L xs) (allR 2) SH (cells + 4) (slots + 24) 2908 (ls0 b x) [] M2) : Z RL code 10 ret xt nme room_1 (lwQ b L xs) (allR 2) SH cells slots 2149 (ls0 b x) [] M := by
  obtain ⟨res, M1, e1, f1, hN⟩ := api_copyTune G (xs (x + 1).toNatClampNeg) (xs (x + 2).toNatClampNeg)
  have he : ∀ e, res = .inr e → e ∈ [2, 1] := by
    obtain ⟨r0, N0, -, -, -, ag0⟩ := hN M1 fr_rf
    exact ag_in (ag_T ag0)
  refine z_aload_n (i := 1) dW_2149 rfl rfl ?_
  refine z_arg (d := 1) dW_2150 dW_2151 dW_2153 dW_2154 dW_2155 rfl rfl rfl (hs 1 (by decide) (by decide)) ?_
  refine z_arg (d := 2) dW_2156 dW_2157 dW_2159 dW_2160 dW_2161 rfl rfl rfl (hs 2 (by decide) (by decide)) ?_
  refine z_aload_n (i := 3) dW_2162 rfl rfl ?_
  refine z_callSX (av := [.inr (0, 0, 0), .inl (.int (xs (x + 1).toNatClampNeg)), .inl (.int (xs (x + 2).toNatClampNeg)), .inr (21, 0, 0)]) (W_copyTune M (xs (x + 1).toNatClampNeg) (xs (x + 2).toNatClampNeg) e1 he) dW_2163 ml_L_298 cw_L_copyTune rfl ⟨by decide, by decide, hc, hsl⟩ (by decide) rfl (fun v M9 hw => ?_) (fun E M9 h => h.elim)
  obtain ⟨k, hv, hF, hw⟩ := wp_k (by decide) hw
  subst hv
  obtain ⟨r, M2, e2, G2, f2, ag⟩ := hN M9 hF
  have hth := wp_th hw (ag_T ag)
  refine z_istore (i := 6) dW_2166 (by decide) rfl ?_
  refine z_aload_n (i := 2) dW_2168 rfl rfl ?_
  refine z_arg (d := 1) dW_2169 dW_2170 dW_2172 dW_2173 dW_2174 rfl rfl rfl (hs 1 (by decide) (by decide)) ?_
  refine z_arg (d := 2) dW_2175 dW_2176 dW_2178 dW_2179 dW_2180 rfl rfl rfl (hs 2 (by decide) (by decide)) ?_
  refine z_fVi (wv := 2) (n := 2) (sX10_copyTune (wv := 1) M9 (xs (x + 1).toNatClampNeg) (xs (x + 2).toNatClampNeg) e2) dW_2181 ml_L_300 cd_X10_copyTune mk18 rfl rfl rfl (rmk_r (by decide) (by decide) hc hsl) rfl rfl ?_
  refine z_istore (i := 7) dW_2184 (by decide) rfl ?_
  refine z_aload_n (i := 2) dW_2186 rfl rfl ?_
  refine z_fVi (wv := 2) (n := 0) (sX10_thrown (wv := 1) M2) dW_2187 ml_L_144 cd_X10_thrown mk18 rfl rfl rfl (rmk_r (by decide) (by decide) hc hsl) rfl rfl ?_
  refine z_iload (i := 6) dW_2190 rfl ?_
  refine z_icmp_eq (tgt := 2197) dW_2192 rfl (fun _ => ?_) (fun hne => absurd hth hne)
  refine z_iload (i := 6) dW_2197 rfl ?_
  refine z_if_ne (tgt := 2214) dW_2199 rfl (fun _ => z_goto (tgt := 2908) dW_2214 rfl (z_fgt (i := 6) (z_fgt (i := 7) (kk M2 G2)))) (fun h0 => ?_)
  obtain ⟨hval, hres⟩ := wp_val hw (ag_T ag) h0 rfl f2
  refine z_aload_n (i := 3) dW_2202 rfl rfl ?_
  refine z_iconst (v := (0 : Int32)) dW_2203 (by decide) ?_
  refine z_lald dW_2204 mk21 rfl (by decide) hval ?_
  refine z_iload (i := 7) dW_2205 rfl ?_
  refine z_i2l dW_2207 ?_
  refine z_lcmp dW_2208 ?_
  exact z_if_eq (tgt := 2214) dW_2209 rfl (fun _ => z_goto (tgt := 2908) dW_2214 rfl (z_fgt (i := 6) (z_fgt (i := 7) (kk M2 G2)))) (fun hne => absurd lcmp_0 hne)
set_option maxRecDepth 20000 in
set_option maxHeartbeats 2000000 in
theorem case_44 {b L : Nat} {xs : Nat → Int32} {xt : List ExceptionTableEntry} {nme : String} {x : Int32} {cells slots : Nat} {M : Mm} (G : GL M) (hs : ∀ d : Int32, 0 ≤ d → d < 6 → ¬ (x + d < 0 ∨ L ≤ (x + d).toNatClampNeg)) (hc : cells + 4 ≤ 601024) (hsl : slots + 24 ≤ 7293034) (kk : ∀ M2, GL M2 → Z RL code 10 ret xt nme room_1 (lwQ b L xs) (allR 2) SH (cells + 4) (slots + 24) 2908 (ls0 b x) [] M2) : Z RL code 10 ret xt nme room_1 (lwQ b L xs) (allR 2) SH cells slots 2217 (ls0 b x) [] M := by
  obtain ⟨res, M1, e1, f1, hN⟩ := api_selectTune G (xs (x + 1).toNatClampNeg)
  have he : ∀ e, res = .inr e → e ∈ [2] := by
    obtain ⟨r0, N0, -, -, -, ag0⟩ := hN M1 fr_rf
    exact ag_in (ag_T ag0)
  refine z_aload_n (i := 1) dW_2217 rfl rfl ?_
  refine z_arg (d := 1) dW_2218 dW_2219 dW_2221 dW_2222 dW_2223 rfl rfl rfl (hs 1 (by decide) (by decide)) ?_
  refine z_aload_n (i := 3) dW_2224 rfl rfl ?_
  refine z_callSX (av := [.inr (0, 0, 0), .inl (.int (xs (x + 1).toNatClampNeg)), .inr (21, 0, 0)]) (W_selectTune M (xs (x + 1).toNatClampNeg) e1 he) dW_2225 ml_L_301 cw_L_selectTune rfl ⟨by decide, by decide, hc, hsl⟩ (by decide) rfl (fun v M9 hw => ?_) (fun E M9 h => h.elim)
  obtain ⟨k, hv, hF, hw⟩ := wp_k (by decide) hw
  subst hv
  obtain ⟨r, M2, e2, G2, f2, ag⟩ := hN M9 hF
  have hth := wp_th hw (ag_T ag)
  refine z_istore (i := 6) dW_2228 (by decide) rfl ?_
  refine z_aload_n (i := 2) dW_2230 rfl rfl ?_
  refine z_arg (d := 1) dW_2231 dW_2232 dW_2234 dW_2235 dW_2236 rfl rfl rfl (hs 1 (by decide) (by decide)) ?_
  refine z_fVi (wv := 2) (n := 1) (sX10_selectTune (wv := 1) M9 (xs (x + 1).toNatClampNeg) e2) dW_2237 ml_L_303 cd_X10_selectTune mk18 rfl rfl rfl (rmk_r (by decide) (by decide) hc hsl) rfl rfl ?_
  refine z_istore (i := 7) dW_2240 (by decide) rfl ?_
  refine z_aload_n (i := 2) dW_2242 rfl rfl ?_
  refine z_fVi (wv := 2) (n := 0) (sX10_thrown (wv := 1) M2) dW_2243 ml_L_144 cd_X10_thrown mk18 rfl rfl rfl (rmk_r (by decide) (by decide) hc hsl) rfl rfl ?_
  refine z_iload (i := 6) dW_2246 rfl ?_
  refine z_icmp_eq (tgt := 2253) dW_2248 rfl (fun _ => ?_) (fun hne => absurd hth hne)
  refine z_iload (i := 6) dW_2253 rfl ?_
  refine z_if_ne (tgt := 2270) dW_2255 rfl (fun _ => z_goto (tgt := 2908) dW_2270 rfl (z_fgt (i := 6) (z_fgt (i := 7) (kk M2 G2)))) (fun h0 => ?_)
  obtain ⟨hval, hres⟩ := wp_val hw (ag_T ag) h0 rfl f2
  refine z_aload_n (i := 3) dW_2258 rfl rfl ?_
  refine z_iconst (v := (0 : Int32)) dW_2259 (by decide) ?_
  refine z_lald dW_2260 mk21 rfl (by decide) hval ?_
  refine z_iload (i := 7) dW_2261 rfl ?_
  refine z_i2l dW_2263 ?_
  refine z_lcmp dW_2264 ?_
  exact z_if_eq (tgt := 2270) dW_2265 rfl (fun _ => z_goto (tgt := 2908) dW_2270 rfl (z_fgt (i := 6) (z_fgt (i := 7) (kk M2 G2)))) (fun hne => absurd lcmp_0 hne)
