theorem dX7_scan_0 : decode cX7_scan 0 = .ok (.aload_n 0, 1) := by decide +kernel
theorem dX7_scan_1 : decode cX7_scan 1 = .ok (.iconst 0, 1) := by decide +kernel
theorem dX7_scan_2 : decode cX7_scan 2 = .ok (.putfield 32, 3) := by decide +kernel
theorem dX7_scan_5 : decode cX7_scan 5 = .ok (.aload_n 0, 1) := by decide +kernel
theorem dX7_scan_6 : decode cX7_scan 6 = .ok (.iconst (-1), 1) := by decide +kernel
theorem dX7_scan_7 : decode cX7_scan 7 = .ok (.putfield 28, 3) := by decide +kernel
theorem dX7_scan_10 : decode cX7_scan 10 = .ok (.aload_n 0, 1) := by decide +kernel
theorem dX7_scan_11 : decode cX7_scan 11 = .ok (.iconst 0, 1) := by decide +kernel
theorem dX7_scan_12 : decode cX7_scan 12 = .ok (.putfield 35, 3) := by decide +kernel
theorem dX7_scan_15 : decode cX7_scan 15 = .ok (.aload_n 0, 1) := by decide +kernel
theorem dX7_scan_16 : decode cX7_scan 16 = .ok (.iconst 0, 1) := by decide +kernel
theorem dX7_scan_17 : decode cX7_scan 17 = .ok (.putfield 38, 3) := by decide +kernel
theorem dX7_scan_20 : decode cX7_scan 20 = .ok (.iconst 4, 1) := by decide +kernel
theorem dX7_scan_21 : decode cX7_scan 21 = .ok (.istore_n 1, 1) := by decide +kernel
theorem dX7_scan_22 : decode cX7_scan 22 = .ok (.iconst 0, 1) := by decide +kernel
theorem dX7_scan_23 : decode cX7_scan 23 = .ok (.istore_n 2, 1) := by decide +kernel
theorem dX7_scan_24 : decode cX7_scan 24 = .ok (.iload_n 2, 1) := by decide +kernel
theorem dX7_scan_25 : decode cX7_scan 25 = .ok (.aload_n 0, 1) := by decide +kernel
theorem dX7_scan_26 : decode cX7_scan 26 = .ok (.getfield 24, 3) := by decide +kernel
theorem dX7_scan_29 : decode cX7_scan 29 = .ok (.getfield 41, 3) := by decide +kernel
theorem dX7_scan_32 : decode cX7_scan 32 = .ok (.if_icmp .ge 54, 3) := by decide +kernel
theorem dX7_scan_35 : decode cX7_scan 35 = .ok (.aload_n 0, 1) := by decide +kernel
theorem dX7_scan_36 : decode cX7_scan 36 = .ok (.getfield 24, 3) := by decide +kernel
theorem dX7_scan_39 : decode cX7_scan 39 = .ok (.iload_n 2, 1) := by decide +kernel
theorem dX7_scan_40 : decode cX7_scan 40 = .ok (.invokevirtual 46, 3) := by decide +kernel
theorem dX7_scan_43 : decode cX7_scan 43 = .ok (.invokestatic 50, 3) := by decide +kernel
theorem dX7_scan_46 : decode cX7_scan 46 = .ok (.istore_n 3, 1) := by decide +kernel
theorem dX7_scan_47 : decode cX7_scan 47 = .ok (.iload_n 3, 1) := by decide +kernel
theorem dX7_scan_48 : decode cX7_scan 48 = .ok (.iconst 3, 1) := by decide +kernel
theorem dX7_scan_49 : decode cX7_scan 49 = .ok (.if_icmp .eq 13, 3) := by decide +kernel
theorem dX7_scan_52 : decode cX7_scan 52 = .ok (.iload_n 3, 1) := by decide +kernel
theorem dX7_scan_53 : decode cX7_scan 53 = .ok (.iconst 4, 1) := by decide +kernel
theorem dX7_scan_54 : decode cX7_scan 54 = .ok (.if_icmp .eq 14, 3) := by decide +kernel
theorem dX7_scan_57 : decode cX7_scan 57 = .ok (.iload_n 3, 1) := by decide +kernel
theorem dX7_scan_58 : decode cX7_scan 58 = .ok (.iload_n 1, 1) := by decide +kernel
theorem dX7_scan_59 : decode cX7_scan 59 = .ok (.if_icmp .eq 9, 3) := by decide +kernel
theorem dX7_scan_62 : decode cX7_scan 62 = .ok (.aload_n 0, 1) := by decide +kernel
theorem dX7_scan_63 : decode cX7_scan 63 = .ok (.iload_n 3, 1) := by decide +kernel
theorem dX7_scan_64 : decode cX7_scan 64 = .ok (.iload_n 2, 1) := by decide +kernel
theorem dX7_scan_65 : decode cX7_scan 65 = .ok (.invokevirtual 53, 3) := by decide +kernel
theorem dX7_scan_68 : decode cX7_scan 68 = .ok (.iload_n 3, 1) := by decide +kernel
theorem dX7_scan_69 : decode cX7_scan 69 = .ok (.iconst 4, 1) := by decide +kernel
theorem dX7_scan_70 : decode cX7_scan 70 = .ok (.if_icmp .eq 8, 3) := by decide +kernel
theorem dX7_scan_73 : decode cX7_scan 73 = .ok (.aload_n 0, 1) := by decide +kernel
theorem dX7_scan_74 : decode cX7_scan 74 = .ok (.iload_n 2, 1) := by decide +kernel
theorem dX7_scan_75 : decode cX7_scan 75 = .ok (.invokevirtual 57, 3) := by decide +kernel
theorem dX7_scan_78 : decode cX7_scan 78 = .ok (.iload_n 3, 1) := by decide +kernel
theorem dX7_scan_79 : decode cX7_scan 79 = .ok (.istore_n 1, 1) := by decide +kernel
theorem dX7_scan_80 : decode cX7_scan 80 = .ok (.iinc 2 1, 3) := by decide +kernel
theorem dX7_scan_83 : decode cX7_scan 83 = .ok (.goto (-59), 3) := by decide +kernel
theorem dX7_scan_86 : decode cX7_scan 86 = .ok (.aload_n 0, 1) := by decide +kernel
theorem dX7_scan_87 : decode cX7_scan 87 = .ok (.iconst 0, 1) := by decide +kernel
theorem dX7_scan_88 : decode cX7_scan 88 = .ok (.aload_n 0, 1) := by decide +kernel
theorem dX7_scan_89 : decode cX7_scan 89 = .ok (.getfield 24, 3) := by decide +kernel
theorem dX7_scan_92 : decode cX7_scan 92 = .ok (.getfield 41, 3) := by decide +kernel
theorem dX7_scan_95 : decode cX7_scan 95 = .ok (.invokevirtual 53, 3) := by decide +kernel
theorem dX7_scan_98 : decode cX7_scan 98 = .ok (.return_, 1) := by decide +kernel
def fX7_scan_L24 (K : Int32 → Int32 → Mm → Option Mm) : Nat → Int32 → Int32 → Mm → Option Mm
  | 0, _, _, _ => none
  | n + 1, v1, v2, M => if (M.1 (1, 0, 0) 1) ≤ v2 then K v1 v2 M else (fX1_at M 0 v2).bind fun q2 => if (fX7_kindOf M q2) = (3 : Int32) then ((fX7_putToken M (fX7_kindOf M q2) v2).bind fun q5 => if (fX7_kindOf M q2) = (4 : Int32) then fX7_scan_L24 K n (fX7_kindOf M q2) (v2 + (1 : Int32)) q5 else (fX7_lengthenToken q5 v2).bind fun q8 => fX7_scan_L24 K n (fX7_kindOf M q2) (v2 + (1 : Int32)) q8) else if (fX7_kindOf M q2) = (4 : Int32) then (if (fX7_kindOf M q2) = (4 : Int32) then fX7_scan_L24 K n (fX7_kindOf M q2) (v2 + (1 : Int32)) M else (fX7_lengthenToken M v2).bind fun q12 => fX7_scan_L24 K n (fX7_kindOf M q2) (v2 + (1 : Int32)) q12) else if (fX7_kindOf M q2) = v1 then (if (fX7_kindOf M q2) = (4 : Int32) then fX7_scan_L24 K n (fX7_kindOf M q2) (v2 + (1 : Int32)) M else (fX7_lengthenToken M v2).bind fun q16 => fX7_scan_L24 K n (fX7_kindOf M q2) (v2 + (1 : Int32)) q16) else (fX7_putToken M (fX7_kindOf M q2) v2).bind fun q18 => if (fX7_kindOf M q2) = (4 : Int32) then fX7_scan_L24 K n (fX7_kindOf M q2) (v2 + (1 : Int32)) q18 else (fX7_lengthenToken q18 v2).bind fun q21 => fX7_scan_L24 K n (fX7_kindOf M q2) (v2 + (1 : Int32)) q21
def fX7_scan (M : Mm) : Option Mm := fX7_scan_L24 (fun w23 w24 M25 => (fX7_putToken M25 (0 : Int32) (M25.1 (1, 0, 0) 1)).bind fun q26 => some q26) NF (4 : Int32) (0 : Int32) (putI (putI (putI (putI M (3, 0, 0) 7 (0 : Int32)) (3, 0, 0) 8 (-1 : Int32)) (3, 0, 0) 5 (0 : Int32)) (3, 0, 0) 6 (0 : Int32))
set_option maxRecDepth 20000 in
set_option maxHeartbeats 2000000 in
theorem sX7_scan_L24 {wv : Wv} {res : Mm} {K : Int32 → Int32 → Mm → Option Mm} : ∀ (n : Nat) (v1 : Int32) (v2 : Int32) (M : Mm), fX7_scan_L24 K n v1 v2 M = some res →
    (∀ (v1 : Int32) (v2 : Int32) (M : Mm), K v1 v2 M = some res → Z RX7 cX7_scan 4 none [] "scan" (rmD 2 0 0) (QM SH (allR wv) 0 0 (fun v M9 => v = none ∧ M9 = res) (fun _ _ => False)) (allR wv) SH 0 0 86 [some (.inr (3, 0, 0)), some (.inl (.int v1)), some (.inl (.int v2)), none] [] M) → Z RX7 cX7_scan 4 none [] "scan" (rmD 2 0 0) (QM SH (allR wv) 0 0 (fun v M9 => v = none ∧ M9 = res) (fun _ _ => False)) (allR wv) SH 0 0 24 [some (.inr (3, 0, 0)), some (.inl (.int v1)), some (.inl (.int v2)), none] [] M := by
  intro n
  induction n with
  | zero => intro v1 v2 M h; cases h
  | succ n ih =>
    intro v1 v2 M h hK
    rw [fX7_scan_L24] at h
    refine z_iload_n (i := 2) dX7_scan_24 rfl rfl ?_
    refine z_aload_n (i := 0) dX7_scan_25 rfl rfl ?_
    refine z_getR (r' := (1, 0, 0)) dX7_scan_26 fl_X7_24 mk3 rfl rfl ?_
    refine z_getI (x := (M.1 (1, 0, 0) 1)) dX7_scan_29 fl_X7_41 (m1 _ (Nat.le_of_ble_eq_true rfl)) rfl rfl ?_
    refine z_icmp_ge (tgt := 86) dX7_scan_32 rfl (fun hc1 => ?_) (fun hc1 => ?_)
    · have h := it_t h hc1
      exact hK _ _ _ h
    · have h := it_f h hc1
      refine z_aload_n (i := 0) dX7_scan_35 rfl rfl ?_
      refine z_getR (r' := (1, 0, 0)) dX7_scan_36 fl_X7_24 mk3 rfl rfl ?_
      refine z_iload_n (i := 2) dX7_scan_39 rfl rfl ?_
      obtain ⟨q2, hq3, h⟩ := bnd h
      refine z_fVi (sX1_at M 0 v2 (Nat.le_of_ble_eq_true rfl) hq3) dX7_scan_40 ml_X7_46 cd_X1_at (m1 _ (Nat.le_of_ble_eq_true rfl)) rfl rfl rfl rfl rfl rfl ?_
      refine z_fSi (sX7_kindOf M q2) dX7_scan_43 ml_X7_50 cd_X7_kindOf rfl rfl rfl rfl rfl ?_
      refine z_istore_n (i := 3) dX7_scan_46 rfl (Nat.le_of_ble_eq_true rfl) rfl ?_
      refine z_iload_n (i := 3) dX7_scan_47 rfl rfl ?_
      refine z_iconst (v := (3 : Int32)) dX7_scan_48 kc_3 ?_
      refine z_icmp_eq (tgt := 62) dX7_scan_49 rfl (fun hc4 => ?_) (fun hc4 => ?_)
      · have h := it_t h hc4
        refine z_aload_n (i := 0) dX7_scan_62 rfl rfl ?_
        refine z_iload_n (i := 3) dX7_scan_63 rfl rfl ?_
        refine z_iload_n (i := 2) dX7_scan_64 rfl rfl ?_
        obtain ⟨q5, hq6, h⟩ := bnd h
        refine z_fVv (sX7_putToken M (fX7_kindOf M q2) v2 hq6) dX7_scan_65 ml_X7_53 cd_X7_putToken mk3 rfl rfl rfl rfl rfl rfl ?_
        refine z_iload_n (i := 3) dX7_scan_68 rfl rfl ?_
        refine z_iconst (v := (4 : Int32)) dX7_scan_69 kc_4 ?_
        refine z_icmp_eq (tgt := 78) dX7_scan_70 rfl (fun hc7 => ?_) (fun hc7 => ?_)
        · have h := it_t h hc7
          refine z_iload_n (i := 3) dX7_scan_78 rfl rfl ?_
          refine z_istore_n (i := 1) dX7_scan_79 rfl (Nat.le_of_ble_eq_true rfl) rfl ?_
          refine z_iinc (i := 2) (v := (v2 + (1 : Int32))) dX7_scan_80 rfl (iinc_k kc_1) (Nat.le_of_ble_eq_true rfl) rfl ?_
          refine z_goto (tgt := 24) dX7_scan_83 rfl ?_
          refine z_fgt (i := 3) ?_
          exact ih _ _ _ h hK
        · have h := it_f h hc7
          refine z_aload_n (i := 0) dX7_scan_73 rfl rfl ?_
          refine z_iload_n (i := 2) dX7_scan_74 rfl rfl ?_
          obtain ⟨q8, hq9, h⟩ := bnd h
          refine z_fVv (sX7_lengthenToken q5 v2 hq9) dX7_scan_75 ml_X7_57 cd_X7_lengthenToken mk3 rfl rfl rfl rfl rfl rfl ?_
          refine z_iload_n (i := 3) dX7_scan_78 rfl rfl ?_
          refine z_istore_n (i := 1) dX7_scan_79 rfl (Nat.le_of_ble_eq_true rfl) rfl ?_
          refine z_iinc (i := 2) (v := (v2 + (1 : Int32))) dX7_scan_80 rfl (iinc_k kc_1) (Nat.le_of_ble_eq_true rfl) rfl ?_
          refine z_goto (tgt := 24) dX7_scan_83 rfl ?_
          refine z_fgt (i := 3) ?_
          exact ih _ _ _ h hK
      · have h := it_f h hc4
        refine z_iload_n (i := 3) dX7_scan_52 rfl rfl ?_
        refine z_iconst (v := (4 : Int32)) dX7_scan_53 kc_4 ?_
        refine z_icmp_eq (tgt := 68) dX7_scan_54 rfl (fun hc10 => ?_) (fun hc10 => ?_)
        · have h := it_t h hc10
          refine z_iload_n (i := 3) dX7_scan_68 rfl rfl ?_
          refine z_iconst (v := (4 : Int32)) dX7_scan_69 kc_4 ?_
          refine z_icmp_eq (tgt := 78) dX7_scan_70 rfl (fun hc11 => ?_) (fun hc11 => ?_)
          · have h := it_t h hc11
            refine z_iload_n (i := 3) dX7_scan_78 rfl rfl ?_
            refine z_istore_n (i := 1) dX7_scan_79 rfl (Nat.le_of_ble_eq_true rfl) rfl ?_
            refine z_iinc (i := 2) (v := (v2 + (1 : Int32))) dX7_scan_80 rfl (iinc_k kc_1) (Nat.le_of_ble_eq_true rfl) rfl ?_
            refine z_goto (tgt := 24) dX7_scan_83 rfl ?_
            refine z_fgt (i := 3) ?_
            exact ih _ _ _ h hK
          · have h := it_f h hc11
            refine z_aload_n (i := 0) dX7_scan_73 rfl rfl ?_
            refine z_iload_n (i := 2) dX7_scan_74 rfl rfl ?_
            obtain ⟨q12, hq13, h⟩ := bnd h
            refine z_fVv (sX7_lengthenToken M v2 hq13) dX7_scan_75 ml_X7_57 cd_X7_lengthenToken mk3 rfl rfl rfl rfl rfl rfl ?_
            refine z_iload_n (i := 3) dX7_scan_78 rfl rfl ?_
            refine z_istore_n (i := 1) dX7_scan_79 rfl (Nat.le_of_ble_eq_true rfl) rfl ?_
            refine z_iinc (i := 2) (v := (v2 + (1 : Int32))) dX7_scan_80 rfl (iinc_k kc_1) (Nat.le_of_ble_eq_true rfl) rfl ?_
            refine z_goto (tgt := 24) dX7_scan_83 rfl ?_
            refine z_fgt (i := 3) ?_
            exact ih _ _ _ h hK
        · have h := it_f h hc10
          refine z_iload_n (i := 3) dX7_scan_57 rfl rfl ?_
          refine z_iload_n (i := 1) dX7_scan_58 rfl rfl ?_
          refine z_icmp_eq (tgt := 68) dX7_scan_59 rfl (fun hc14 => ?_) (fun hc14 => ?_)
          · have h := it_t h hc14
            refine z_iload_n (i := 3) dX7_scan_68 rfl rfl ?_
            refine z_iconst (v := (4 : Int32)) dX7_scan_69 kc_4 ?_
            refine z_icmp_eq (tgt := 78) dX7_scan_70 rfl (fun hc15 => ?_) (fun hc15 => ?_)
            · have h := it_t h hc15
              refine z_iload_n (i := 3) dX7_scan_78 rfl rfl ?_
              refine z_istore_n (i := 1) dX7_scan_79 rfl (Nat.le_of_ble_eq_true rfl) rfl ?_
              refine z_iinc (i := 2) (v := (v2 + (1 : Int32))) dX7_scan_80 rfl (iinc_k kc_1) (Nat.le_of_ble_eq_true rfl) rfl ?_
              refine z_goto (tgt := 24) dX7_scan_83 rfl ?_
              refine z_fgt (i := 3) ?_
              exact ih _ _ _ h hK
            · have h := it_f h hc15
              refine z_aload_n (i := 0) dX7_scan_73 rfl rfl ?_
              refine z_iload_n (i := 2) dX7_scan_74 rfl rfl ?_
              obtain ⟨q16, hq17, h⟩ := bnd h
              refine z_fVv (sX7_lengthenToken M v2 hq17) dX7_scan_75 ml_X7_57 cd_X7_lengthenToken mk3 rfl rfl rfl rfl rfl rfl ?_
              refine z_iload_n (i := 3) dX7_scan_78 rfl rfl ?_
              refine z_istore_n (i := 1) dX7_scan_79 rfl (Nat.le_of_ble_eq_true rfl) rfl ?_
              refine z_iinc (i := 2) (v := (v2 + (1 : Int32))) dX7_scan_80 rfl (iinc_k kc_1) (Nat.le_of_ble_eq_true rfl) rfl ?_
              refine z_goto (tgt := 24) dX7_scan_83 rfl ?_
              refine z_fgt (i := 3) ?_
              exact ih _ _ _ h hK
          · have h := it_f h hc14
            refine z_aload_n (i := 0) dX7_scan_62 rfl rfl ?_
            refine z_iload_n (i := 3) dX7_scan_63 rfl rfl ?_
            refine z_iload_n (i := 2) dX7_scan_64 rfl rfl ?_
            obtain ⟨q18, hq19, h⟩ := bnd h
            refine z_fVv (sX7_putToken M (fX7_kindOf M q2) v2 hq19) dX7_scan_65 ml_X7_53 cd_X7_putToken mk3 rfl rfl rfl rfl rfl rfl ?_
            refine z_iload_n (i := 3) dX7_scan_68 rfl rfl ?_
            refine z_iconst (v := (4 : Int32)) dX7_scan_69 kc_4 ?_
            refine z_icmp_eq (tgt := 78) dX7_scan_70 rfl (fun hc20 => ?_) (fun hc20 => ?_)
            · have h := it_t h hc20
              refine z_iload_n (i := 3) dX7_scan_78 rfl rfl ?_
              refine z_istore_n (i := 1) dX7_scan_79 rfl (Nat.le_of_ble_eq_true rfl) rfl ?_
              refine z_iinc (i := 2) (v := (v2 + (1 : Int32))) dX7_scan_80 rfl (iinc_k kc_1) (Nat.le_of_ble_eq_true rfl) rfl ?_
              refine z_goto (tgt := 24) dX7_scan_83 rfl ?_
              refine z_fgt (i := 3) ?_
              exact ih _ _ _ h hK
            · have h := it_f h hc20
              refine z_aload_n (i := 0) dX7_scan_73 rfl rfl ?_
              refine z_iload_n (i := 2) dX7_scan_74 rfl rfl ?_
              obtain ⟨q21, hq22, h⟩ := bnd h
              refine z_fVv (sX7_lengthenToken q18 v2 hq22) dX7_scan_75 ml_X7_57 cd_X7_lengthenToken mk3 rfl rfl rfl rfl rfl rfl ?_
              refine z_iload_n (i := 3) dX7_scan_78 rfl rfl ?_
              refine z_istore_n (i := 1) dX7_scan_79 rfl (Nat.le_of_ble_eq_true rfl) rfl ?_
              refine z_iinc (i := 2) (v := (v2 + (1 : Int32))) dX7_scan_80 rfl (iinc_k kc_1) (Nat.le_of_ble_eq_true rfl) rfl ?_
              refine z_goto (tgt := 24) dX7_scan_83 rfl ?_
              refine z_fgt (i := 3) ?_
              exact ih _ _ _ h hK
set_option maxRecDepth 20000 in
set_option maxHeartbeats 2000000 in
theorem sX7_scan {wv : Wv} (M : Mm) {res : Mm} (h : fX7_scan M  = some res) : TF wv yX7_scan cX7_scan 4 none 2 [.inr (3, 0, 0)] M (none) res := by
  rw [fX7_scan] at h
  refine TF.go (n := 3) (ls := [some (.inr (3, 0, 0)), none, none, none]) rfl rfl rfl rfl rfl ?_
  refine z_aload_n (i := 0) dX7_scan_0 rfl rfl ?_
  refine z_iconst (v := (0 : Int32)) dX7_scan_1 kc_0 ?_
  refine z_putI allR_nd dX7_scan_2 fl_X7_32 mk3 rfl rfl ?_
  refine z_aload_n (i := 0) dX7_scan_5 rfl rfl ?_
  refine z_iconst (v := (-1 : Int32)) dX7_scan_6 kc_m1 ?_
  refine z_putI allR_nd dX7_scan_7 fl_X7_28 mk3 rfl rfl ?_
  refine z_aload_n (i := 0) dX7_scan_10 rfl rfl ?_
  refine z_iconst (v := (0 : Int32)) dX7_scan_11 kc_0 ?_
  refine z_putI allR_nd dX7_scan_12 fl_X7_35 mk3 rfl rfl ?_
  refine z_aload_n (i := 0) dX7_scan_15 rfl rfl ?_
  refine z_iconst (v := (0 : Int32)) dX7_scan_16 kc_0 ?_
  refine z_putI allR_nd dX7_scan_17 fl_X7_38 mk3 rfl rfl ?_
  refine z_iconst (v := (4 : Int32)) dX7_scan_20 kc_4 ?_
  refine z_istore_n (i := 1) dX7_scan_21 rfl (Nat.le_of_ble_eq_true rfl) rfl ?_
  refine z_iconst (v := (0 : Int32)) dX7_scan_22 kc_0 ?_
  refine z_istore_n (i := 2) dX7_scan_23 rfl (Nat.le_of_ble_eq_true rfl) rfl ?_
  refine sX7_scan_L24  NF _ _ _ h (fun w23 w24 M25 h => ?_)
  refine z_aload_n (i := 0) dX7_scan_86 rfl rfl ?_
  refine z_iconst (v := (0 : Int32)) dX7_scan_87 kc_0 ?_
  refine z_aload_n (i := 0) dX7_scan_88 rfl rfl ?_
  refine z_getR (r' := (1, 0, 0)) dX7_scan_89 fl_X7_24 mk3 rfl rfl ?_
  refine z_getI (x := (M25.1 (1, 0, 0) 1)) dX7_scan_92 fl_X7_41 (m1 _ (Nat.le_of_ble_eq_true rfl)) rfl rfl ?_
  obtain ⟨q26, hq27, h⟩ := bnd h
  refine z_fVv (sX7_putToken M25 (0 : Int32) (M25.1 (1, 0, 0) 1) hq27) dX7_scan_95 ml_X7_53 cd_X7_putToken mk3 rfl rfl rfl rfl rfl rfl ?_
  cases h
  exact z_vret dX7_scan_98 rfl (Nat.le_refl _) (Nat.le_refl _) ⟨rfl, rfl⟩
theorem dX7_atKind_0 : decode cX7_atKind 0 = .ok (.aload_n 0, 1) := by decide +kernel
theorem dX7_atKind_1 : decode cX7_atKind 1 = .ok (.getfield 38, 3) := by decide +kernel
theorem dX7_atKind_4 : decode cX7_atKind 4 = .ok (.ifCond .lt 32, 3) := by decide +kernel
theorem dX7_atKind_7 : decode cX7_atKind 7 = .ok (.aload_n 0, 1) := by decide +kernel
theorem dX7_atKind_8 : decode cX7_atKind 8 = .ok (.getfield 38, 3) := by decide +kernel
theorem dX7_atKind_11 : decode cX7_atKind 11 = .ok (.aload_n 0, 1) := by decide +kernel
theorem dX7_atKind_12 : decode cX7_atKind 12 = .ok (.getfield 9, 3) := by decide +kernel
theorem dX7_atKind_15 : decode cX7_atKind 15 = .ok (.arraylength, 1) := by decide +kernel
theorem dX7_atKind_16 : decode cX7_atKind 16 = .ok (.if_icmp .ge 20, 3) := by decide +kernel
theorem dX7_atKind_19 : decode cX7_atKind 19 = .ok (.aload_n 0, 1) := by decide +kernel
theorem dX7_atKind_20 : decode cX7_atKind 20 = .ok (.getfield 9, 3) := by decide +kernel
theorem dX7_atKind_23 : decode cX7_atKind 23 = .ok (.aload_n 0, 1) := by decide +kernel
theorem dX7_atKind_24 : decode cX7_atKind 24 = .ok (.getfield 38, 3) := by decide +kernel
theorem dX7_atKind_27 : decode cX7_atKind 27 = .ok (.iaload, 1) := by decide +kernel
theorem dX7_atKind_28 : decode cX7_atKind 28 = .ok (.iload_n 1, 1) := by decide +kernel
theorem dX7_atKind_29 : decode cX7_atKind 29 = .ok (.if_icmp .ne 7, 3) := by decide +kernel
theorem dX7_atKind_32 : decode cX7_atKind 32 = .ok (.iconst 1, 1) := by decide +kernel
theorem dX7_atKind_33 : decode cX7_atKind 33 = .ok (.goto 4, 3) := by decide +kernel
theorem dX7_atKind_36 : decode cX7_atKind 36 = .ok (.iconst 0, 1) := by decide +kernel
theorem dX7_atKind_37 : decode cX7_atKind 37 = .ok (.ireturn, 1) := by decide +kernel
def fX7_atKind (M : Mm) (x1 : Int32) : Option Int32 := if (M.1 (3, 0, 0) 6) < 0 then some (0 : Int32) else if (801 : Int32) ≤ (M.1 (3, 0, 0) 6) then some (0 : Int32) else if (M.1 (3, 0, 0) 6) < 0 ∨ 801 ≤ (M.1 (3, 0, 0) 6).toNatClampNeg then none else if (M.1 (4, 0, 0) (M.1 (3, 0, 0) 6).toNatClampNeg) = x1 then some (1 : Int32) else some (0 : Int32)
set_option maxRecDepth 20000 in
set_option maxHeartbeats 2000000 in
theorem sX7_atKind {wv : Wv} (M : Mm) (x1 : Int32) {res : Int32} (h : fX7_atKind M x1 = some res) : TF wv yX7_atKind cX7_atKind 2 (some .boolean) 0 [.inr (3, 0, 0), .inl (.int x1)] M (some (.int res)) M := by
  rw [fX7_atKind] at h
  refine TF.go (n := 0) (ls := [some (.inr (3, 0, 0)), some (.inl (.int x1))]) rfl rfl rfl rfl rfl ?_
  refine z_aload_n (i := 0) dX7_atKind_0 rfl rfl ?_
  refine z_getI (x := (M.1 (3, 0, 0) 6)) dX7_atKind_1 fl_X7_38 mk3 rfl rfl ?_
  refine z_if_lt (tgt := 36) dX7_atKind_4 rfl (fun hc1 => ?_) (fun hc1 => ?_)
  · have h := it_t h hc1
    refine z_iconst (v := (0 : Int32)) dX7_atKind_36 kc_0 ?_
    cases h
    exact z_iret dX7_atKind_37 rfl rfl (Nat.le_refl _) (Nat.le_refl _) ⟨rfl, rfl⟩
  · have h := it_f h hc1
    refine z_aload_n (i := 0) dX7_atKind_7 rfl rfl ?_
    refine z_getI (x := (M.1 (3, 0, 0) 6)) dX7_atKind_8 fl_X7_38 mk3 rfl rfl ?_
    refine z_aload_n (i := 0) dX7_atKind_11 rfl rfl ?_
    refine z_getR (r' := (4, 0, 0)) dX7_atKind_12 fl_X7_9 mk3 rfl rfl ?_
    refine z_alen (v := (801 : Int32)) dX7_atKind_15 (m4 _ (Nat.le_of_ble_eq_true rfl)) rfl (Nat.le_of_ble_eq_true rfl) (by decide) ?_
    refine z_icmp_ge (tgt := 36) dX7_atKind_16 rfl (fun hc2 => ?_) (fun hc2 => ?_)
    · have h := it_t h hc2
      refine z_iconst (v := (0 : Int32)) dX7_atKind_36 kc_0 ?_
      cases h
      exact z_iret dX7_atKind_37 rfl rfl (Nat.le_refl _) (Nat.le_refl _) ⟨rfl, rfl⟩
    · have h := it_f h hc2
      refine z_aload_n (i := 0) dX7_atKind_19 rfl rfl ?_
      refine z_getR (r' := (4, 0, 0)) dX7_atKind_20 fl_X7_9 mk3 rfl rfl ?_
      refine z_aload_n (i := 0) dX7_atKind_23 rfl rfl ?_
      refine z_getI (x := (M.1 (3, 0, 0) 6)) dX7_atKind_24 fl_X7_38 mk3 rfl rfl ?_
      obtain ⟨hc3, h⟩ := chk h
      refine z_iald (x := (M.1 (4, 0, 0) (M.1 (3, 0, 0) 6).toNatClampNeg)) dX7_atKind_27 (m4 _ (Nat.le_of_ble_eq_true rfl)) rfl hc3 rfl ?_
      refine z_iload_n (i := 1) dX7_atKind_28 rfl rfl ?_
      refine z_icmp_ne (tgt := 36) dX7_atKind_29 rfl (fun hc4 => ?_) (fun hc4 => ?_)
      · have h := it_f h hc4
        refine z_iconst (v := (0 : Int32)) dX7_atKind_36 kc_0 ?_
        cases h
        exact z_iret dX7_atKind_37 rfl rfl (Nat.le_refl _) (Nat.le_refl _) ⟨rfl, rfl⟩
      · have h := it_t h hc4
        refine z_iconst (v := (1 : Int32)) dX7_atKind_32 kc_1 ?_
        refine z_goto (tgt := 37) dX7_atKind_33 rfl ?_
        cases h
        exact z_iret dX7_atKind_37 rfl rfl (Nat.le_refl _) (Nat.le_refl _) ⟨rfl, rfl⟩
theorem dX7_atWord_0 : decode cX7_atWord 0 = .ok (.aload_n 0, 1) := by decide +kernel
theorem dX7_atWord_1 : decode cX7_atWord 1 = .ok (.iconst 1, 1) := by decide +kernel
theorem dX7_atWord_2 : decode cX7_atWord 2 = .ok (.invokevirtual 68, 3) := by decide +kernel
theorem dX7_atWord_5 : decode cX7_atWord 5 = .ok (.ifCond .eq 29, 3) := by decide +kernel
theorem dX7_atWord_8 : decode cX7_atWord 8 = .ok (.aload_n 0, 1) := by decide +kernel
theorem dX7_atWord_9 : decode cX7_atWord 9 = .ok (.getfield 18, 3) := by decide +kernel
theorem dX7_atWord_12 : decode cX7_atWord 12 = .ok (.aload_n 0, 1) := by decide +kernel
theorem dX7_atWord_13 : decode cX7_atWord 13 = .ok (.getfield 38, 3) := by decide +kernel
theorem dX7_atWord_16 : decode cX7_atWord 16 = .ok (.iaload, 1) := by decide +kernel
theorem dX7_atWord_17 : decode cX7_atWord 17 = .ok (.aload_n 0, 1) := by decide +kernel
theorem dX7_atWord_18 : decode cX7_atWord 18 = .ok (.getfield 15, 3) := by decide +kernel
theorem dX7_atWord_21 : decode cX7_atWord 21 = .ok (.aload_n 0, 1) := by decide +kernel
theorem dX7_atWord_22 : decode cX7_atWord 22 = .ok (.getfield 38, 3) := by decide +kernel
theorem dX7_atWord_25 : decode cX7_atWord 25 = .ok (.iaload, 1) := by decide +kernel
theorem dX7_atWord_26 : decode cX7_atWord 26 = .ok (.isub, 1) := by decide +kernel
theorem dX7_atWord_27 : decode cX7_atWord 27 = .ok (.aload_n 1, 1) := by decide +kernel
theorem dX7_atWord_28 : decode cX7_atWord 28 = .ok (.invokevirtual 72, 3) := by decide +kernel
theorem dX7_atWord_31 : decode cX7_atWord 31 = .ok (.if_icmp .eq 5, 3) := by decide +kernel
theorem dX7_atWord_34 : decode cX7_atWord 34 = .ok (.iconst 0, 1) := by decide +kernel
theorem dX7_atWord_35 : decode cX7_atWord 35 = .ok (.ireturn, 1) := by decide +kernel
theorem dX7_atWord_36 : decode cX7_atWord 36 = .ok (.aload_n 0, 1) := by decide +kernel
theorem dX7_atWord_37 : decode cX7_atWord 37 = .ok (.getfield 15, 3) := by decide +kernel
theorem dX7_atWord_40 : decode cX7_atWord 40 = .ok (.aload_n 0, 1) := by decide +kernel
theorem dX7_atWord_41 : decode cX7_atWord 41 = .ok (.getfield 38, 3) := by decide +kernel
theorem dX7_atWord_44 : decode cX7_atWord 44 = .ok (.iaload, 1) := by decide +kernel
theorem dX7_atWord_45 : decode cX7_atWord 45 = .ok (.istore_n 2, 1) := by decide +kernel
theorem dX7_atWord_46 : decode cX7_atWord 46 = .ok (.iconst 0, 1) := by decide +kernel
theorem dX7_atWord_47 : decode cX7_atWord 47 = .ok (.istore_n 3, 1) := by decide +kernel
theorem dX7_atWord_48 : decode cX7_atWord 48 = .ok (.iload_n 3, 1) := by decide +kernel
theorem dX7_atWord_49 : decode cX7_atWord 49 = .ok (.aload_n 1, 1) := by decide +kernel
theorem dX7_atWord_50 : decode cX7_atWord 50 = .ok (.invokevirtual 72, 3) := by decide +kernel
theorem dX7_atWord_53 : decode cX7_atWord 53 = .ok (.if_icmp .ge 29, 3) := by decide +kernel
theorem dX7_atWord_56 : decode cX7_atWord 56 = .ok (.aload_n 0, 1) := by decide +kernel
theorem dX7_atWord_57 : decode cX7_atWord 57 = .ok (.getfield 24, 3) := by decide +kernel
theorem dX7_atWord_60 : decode cX7_atWord 60 = .ok (.iload_n 2, 1) := by decide +kernel
theorem dX7_atWord_61 : decode cX7_atWord 61 = .ok (.iload_n 3, 1) := by decide +kernel
theorem dX7_atWord_62 : decode cX7_atWord 62 = .ok (.iadd, 1) := by decide +kernel
theorem dX7_atWord_63 : decode cX7_atWord 63 = .ok (.invokevirtual 46, 3) := by decide +kernel
theorem dX7_atWord_66 : decode cX7_atWord 66 = .ok (.aload_n 1, 1) := by decide +kernel
theorem dX7_atWord_67 : decode cX7_atWord 67 = .ok (.iload_n 3, 1) := by decide +kernel
theorem dX7_atWord_68 : decode cX7_atWord 68 = .ok (.invokevirtual 77, 3) := by decide +kernel
theorem dX7_atWord_71 : decode cX7_atWord 71 = .ok (.if_icmp .eq 5, 3) := by decide +kernel
theorem dX7_atWord_74 : decode cX7_atWord 74 = .ok (.iconst 0, 1) := by decide +kernel
theorem dX7_atWord_75 : decode cX7_atWord 75 = .ok (.ireturn, 1) := by decide +kernel
theorem dX7_atWord_76 : decode cX7_atWord 76 = .ok (.iinc 3 1, 3) := by decide +kernel
theorem dX7_atWord_79 : decode cX7_atWord 79 = .ok (.goto (-31), 3) := by decide +kernel
theorem dX7_atWord_82 : decode cX7_atWord 82 = .ok (.iconst 1, 1) := by decide +kernel
theorem dX7_atWord_83 : decode cX7_atWord 83 = .ok (.ireturn, 1) := by decide +kernel
def fX7_atWord_L48 (M : Mm) (j1 : Nat) (c2 : Int32) (K : Int32 → Option Int32) : Nat → Int32 → Option Int32
  | 0, _ => none
  | n + 1, v3 => if (slen j1) ≤ v3 then K v3 else (fX1_at M 0 (c2 + v3)).bind fun q9 => (sch j1 v3).bind fun q11 => if q9 = q11 then fX7_atWord_L48 M j1 c2 K n (v3 + (1 : Int32)) else some (0 : Int32)
def fX7_atWord (M : Mm) (j1 : Nat) : Option Int32 := (fX7_atKind M (1 : Int32)).bind fun q1 => if q1 = 0 then some (0 : Int32) else if (M.1 (3, 0, 0) 6) < 0 ∨ 801 ≤ (M.1 (3, 0, 0) 6).toNatClampNeg then none else if (M.1 (3, 0, 0) 6) < 0 ∨ 801 ≤ (M.1 (3, 0, 0) 6).toNatClampNeg then none else if ((M.1 (4, 2, 0) (M.1 (3, 0, 0) 6).toNatClampNeg) - (M.1 (4, 1, 0) (M.1 (3, 0, 0) 6).toNatClampNeg)) = (slen j1) then (if (M.1 (3, 0, 0) 6) < 0 ∨ 801 ≤ (M.1 (3, 0, 0) 6).toNatClampNeg then none else fX7_atWord_L48 M j1 (M.1 (4, 1, 0) (M.1 (3, 0, 0) 6).toNatClampNeg) (fun w14 => some (1 : Int32)) NF (0 : Int32)) else some (0 : Int32)
set_option maxRecDepth 20000 in
set_option maxHeartbeats 2000000 in
theorem sX7_atWord_L48 {wv : Wv} (M : Mm) (j1 : Nat) (c2 : Int32) (hj1 : j1 < 15) {res : Int32} {K : Int32 → Option Int32} : ∀ (n : Nat) (v3 : Int32), fX7_atWord_L48 M j1 c2 K n v3 = some res →
    (∀ (v3 : Int32), K v3 = some res → Z RX7 cX7_atWord 4 (some .boolean) [] "atWord" (rmD 7 0 0) (QM SH (allR wv) 0 0 (fun v M9 => v = some (.int res) ∧ M9 = M) (fun _ _ => False)) (allR wv) SH 0 0 82 [some (.inr (3, 0, 0)), some (.inr (30, j1, 0)), some (.inl (.int c2)), some (.inl (.int v3))] [] M) → Z RX7 cX7_atWord 4 (some .boolean) [] "atWord" (rmD 7 0 0) (QM SH (allR wv) 0 0 (fun v M9 => v = some (.int res) ∧ M9 = M) (fun _ _ => False)) (allR wv) SH 0 0 48 [some (.inr (3, 0, 0)), some (.inr (30, j1, 0)), some (.inl (.int c2)), some (.inl (.int v3))] [] M := by
  intro n
  induction n with
  | zero => intro v3 h; cases h
  | succ n ih =>
    intro v3 h hK
    rw [fX7_atWord_L48] at h
    refine z_iload_n (i := 3) dX7_atWord_48 rfl rfl ?_
    refine z_aload_n (i := 1) dX7_atWord_49 rfl rfl ?_
    refine z_fTi (S_length M j1 hj1) dX7_atWord_50 ml_X7_72 cd_J0_length_8abf5 hj1 rfl rfl rfl rfl rfl ?_
    refine z_icmp_ge (tgt := 82) dX7_atWord_53 rfl (fun hc8 => ?_) (fun hc8 => ?_)
    · have h := it_t h hc8
      exact hK _ h
    · have h := it_f h hc8
      refine z_aload_n (i := 0) dX7_atWord_56 rfl rfl ?_
      refine z_getR (r' := (1, 0, 0)) dX7_atWord_57 fl_X7_24 mk3 rfl rfl ?_
      refine z_iload_n (i := 2) dX7_atWord_60 rfl rfl ?_
      refine z_iload_n (i := 3) dX7_atWord_61 rfl rfl ?_
      refine z_iadd dX7_atWord_62 ?_
      obtain ⟨q9, hq10, h⟩ := bnd h
      refine z_fVi (sX1_at M 0 (c2 + v3) (Nat.le_of_ble_eq_true rfl) hq10) dX7_atWord_63 ml_X7_46 cd_X1_at (m1 _ (Nat.le_of_ble_eq_true rfl)) rfl rfl rfl rfl rfl rfl ?_
      refine z_aload_n (i := 1) dX7_atWord_66 rfl rfl ?_
      refine z_iload_n (i := 3) dX7_atWord_67 rfl rfl ?_
      obtain ⟨q11, hq12, h⟩ := bnd h
      refine z_fTi (S_charAt M j1 v3 hj1 hq12) dX7_atWord_68 ml_X7_77 cd_J0_charAt_5068e hj1 rfl rfl rfl rfl rfl ?_
      refine z_icmp_eq (tgt := 76) dX7_atWord_71 rfl (fun hc13 => ?_) (fun hc13 => ?_)
      · have h := it_t h hc13
        refine z_iinc (i := 3) (v := (v3 + (1 : Int32))) dX7_atWord_76 rfl (iinc_k kc_1) (Nat.le_of_ble_eq_true rfl) rfl ?_
        refine z_goto (tgt := 48) dX7_atWord_79 rfl ?_
        exact ih _ h hK
      · have h := it_f h hc13
        refine z_iconst (v := (0 : Int32)) dX7_atWord_74 kc_0 ?_
        cases h
        exact z_iret dX7_atWord_75 rfl rfl (Nat.le_refl _) (Nat.le_refl _) ⟨rfl, rfl⟩
set_option maxRecDepth 20000 in
set_option maxHeartbeats 2000000 in
theorem sX7_atWord {wv : Wv} (M : Mm) (j1 : Nat) (hj1 : j1 < 15) {res : Int32} (h : fX7_atWord M j1 = some res) : TF wv yX7_atWord cX7_atWord 4 (some .boolean) 7 [.inr (3, 0, 0), .inr (30, j1, 0)] M (some (.int res)) M := by
  rw [fX7_atWord] at h
  refine TF.go (n := 2) (ls := [some (.inr (3, 0, 0)), some (.inr (30, j1, 0)), none, none]) rfl rfl rfl rfl rfl ?_
  refine z_aload_n (i := 0) dX7_atWord_0 rfl rfl ?_
  refine z_iconst (v := (1 : Int32)) dX7_atWord_1 kc_1 ?_
  obtain ⟨q1, hq2, h⟩ := bnd h
  refine z_fVi (sX7_atKind M (1 : Int32) hq2) dX7_atWord_2 ml_X7_68 cd_X7_atKind mk3 rfl rfl rfl rfl rfl rfl ?_
  refine z_if_eq (tgt := 34) dX7_atWord_5 rfl (fun hc3 => ?_) (fun hc3 => ?_)
  · have h := it_t h hc3
    refine z_iconst (v := (0 : Int32)) dX7_atWord_34 kc_0 ?_
    cases h
    exact z_iret dX7_atWord_35 rfl rfl (Nat.le_refl _) (Nat.le_refl _) ⟨rfl, rfl⟩
  · have h := it_f h hc3
    refine z_aload_n (i := 0) dX7_atWord_8 rfl rfl ?_
    refine z_getR (r' := (4, 2, 0)) dX7_atWord_9 fl_X7_18 mk3 rfl rfl ?_
    refine z_aload_n (i := 0) dX7_atWord_12 rfl rfl ?_
    refine z_getI (x := (M.1 (3, 0, 0) 6)) dX7_atWord_13 fl_X7_38 mk3 rfl rfl ?_
    obtain ⟨hc4, h⟩ := chk h
    refine z_iald (x := (M.1 (4, 2, 0) (M.1 (3, 0, 0) 6).toNatClampNeg)) dX7_atWord_16 (m4 _ (Nat.le_of_ble_eq_true rfl)) rfl hc4 rfl ?_
    refine z_aload_n (i := 0) dX7_atWord_17 rfl rfl ?_
    refine z_getR (r' := (4, 1, 0)) dX7_atWord_18 fl_X7_15 mk3 rfl rfl ?_
    refine z_aload_n (i := 0) dX7_atWord_21 rfl rfl ?_
    refine z_getI (x := (M.1 (3, 0, 0) 6)) dX7_atWord_22 fl_X7_38 mk3 rfl rfl ?_
    obtain ⟨hc5, h⟩ := chk h
    refine z_iald (x := (M.1 (4, 1, 0) (M.1 (3, 0, 0) 6).toNatClampNeg)) dX7_atWord_25 (m4 _ (Nat.le_of_ble_eq_true rfl)) rfl hc5 rfl ?_
    refine z_isub dX7_atWord_26 ?_
    refine z_aload_n (i := 1) dX7_atWord_27 rfl rfl ?_
    refine z_fTi (S_length M j1 hj1) dX7_atWord_28 ml_X7_72 cd_J0_length_8abf5 hj1 rfl rfl rfl rfl rfl ?_
    refine z_icmp_eq (tgt := 36) dX7_atWord_31 rfl (fun hc6 => ?_) (fun hc6 => ?_)
    · have h := it_t h hc6
      refine z_aload_n (i := 0) dX7_atWord_36 rfl rfl ?_
      refine z_getR (r' := (4, 1, 0)) dX7_atWord_37 fl_X7_15 mk3 rfl rfl ?_
      refine z_aload_n (i := 0) dX7_atWord_40 rfl rfl ?_
      refine z_getI (x := (M.1 (3, 0, 0) 6)) dX7_atWord_41 fl_X7_38 mk3 rfl rfl ?_
      obtain ⟨hc7, h⟩ := chk h
      refine z_iald (x := (M.1 (4, 1, 0) (M.1 (3, 0, 0) 6).toNatClampNeg)) dX7_atWord_44 (m4 _ (Nat.le_of_ble_eq_true rfl)) rfl hc7 rfl ?_
      refine z_istore_n (i := 2) dX7_atWord_45 rfl (Nat.le_of_ble_eq_true rfl) rfl ?_
      refine z_iconst (v := (0 : Int32)) dX7_atWord_46 kc_0 ?_
      refine z_istore_n (i := 3) dX7_atWord_47 rfl (Nat.le_of_ble_eq_true rfl) rfl ?_
      refine sX7_atWord_L48 M j1 (M.1 (4, 1, 0) (M.1 (3, 0, 0) 6).toNatClampNeg) hj1 NF _ h (fun w14 h => ?_)
      refine z_iconst (v := (1 : Int32)) dX7_atWord_82 kc_1 ?_
      cases h
      exact z_iret dX7_atWord_83 rfl rfl (Nat.le_refl _) (Nat.le_refl _) ⟨rfl, rfl⟩
    · have h := it_f h hc6
      refine z_iconst (v := (0 : Int32)) dX7_atWord_34 kc_0 ?_
      cases h
      exact z_iret dX7_atWord_35 rfl rfl (Nat.le_refl _) (Nat.le_refl _) ⟨rfl, rfl⟩
theorem dX7_fail_0 : decode cX7_fail 0 = .ok (.aload_n 0, 1) := by decide +kernel
theorem dX7_fail_1 : decode cX7_fail 1 = .ok (.iload_n 1, 1) := by decide +kernel
theorem dX7_fail_2 : decode cX7_fail 2 = .ok (.putfield 32, 3) := by decide +kernel
theorem dX7_fail_5 : decode cX7_fail 5 = .ok (.aload_n 0, 1) := by decide +kernel
theorem dX7_fail_6 : decode cX7_fail 6 = .ok (.aload_n 0, 1) := by decide +kernel
theorem dX7_fail_7 : decode cX7_fail 7 = .ok (.getfield 38, 3) := by decide +kernel
theorem dX7_fail_10 : decode cX7_fail 10 = .ok (.ifCond .lt 27, 3) := by decide +kernel
theorem dX7_fail_13 : decode cX7_fail 13 = .ok (.aload_n 0, 1) := by decide +kernel
theorem dX7_fail_14 : decode cX7_fail 14 = .ok (.getfield 38, 3) := by decide +kernel
theorem dX7_fail_17 : decode cX7_fail 17 = .ok (.aload_n 0, 1) := by decide +kernel
theorem dX7_fail_18 : decode cX7_fail 18 = .ok (.getfield 15, 3) := by decide +kernel
theorem dX7_fail_21 : decode cX7_fail 21 = .ok (.arraylength, 1) := by decide +kernel
theorem dX7_fail_22 : decode cX7_fail 22 = .ok (.if_icmp .ge 15, 3) := by decide +kernel
theorem dX7_fail_25 : decode cX7_fail 25 = .ok (.aload_n 0, 1) := by decide +kernel
theorem dX7_fail_26 : decode cX7_fail 26 = .ok (.getfield 15, 3) := by decide +kernel
theorem dX7_fail_29 : decode cX7_fail 29 = .ok (.aload_n 0, 1) := by decide +kernel
theorem dX7_fail_30 : decode cX7_fail 30 = .ok (.getfield 38, 3) := by decide +kernel
theorem dX7_fail_33 : decode cX7_fail 33 = .ok (.iaload, 1) := by decide +kernel
theorem dX7_fail_34 : decode cX7_fail 34 = .ok (.goto 4, 3) := by decide +kernel
theorem dX7_fail_37 : decode cX7_fail 37 = .ok (.iconst (-1), 1) := by decide +kernel
theorem dX7_fail_38 : decode cX7_fail 38 = .ok (.putfield 28, 3) := by decide +kernel
theorem dX7_fail_41 : decode cX7_fail 41 = .ok (.iconst 0, 1) := by decide +kernel
theorem dX7_fail_42 : decode cX7_fail 42 = .ok (.ireturn, 1) := by decide +kernel
def fX7_fail (M : Mm) (x1 : Int32) : Option (Int32 × Mm) := if (M.1 (3, 0, 0) 6) < 0 then some ((0 : Int32), (putI (putI M (3, 0, 0) 7 x1) (3, 0, 0) 8 (-1 : Int32))) else if (801 : Int32) ≤ (M.1 (3, 0, 0) 6) then some ((0 : Int32), (putI (putI M (3, 0, 0) 7 x1) (3, 0, 0) 8 (-1 : Int32))) else if (M.1 (3, 0, 0) 6) < 0 ∨ 801 ≤ (M.1 (3, 0, 0) 6).toNatClampNeg then none else some ((0 : Int32), (putI (putI M (3, 0, 0) 7 x1) (3, 0, 0) 8 (M.1 (4, 1, 0) (M.1 (3, 0, 0) 6).toNatClampNeg)))
set_option maxRecDepth 20000 in
set_option maxHeartbeats 2000000 in
theorem sX7_fail {wv : Wv} (M : Mm) (x1 : Int32) {res : (Int32 × Mm)} (h : fX7_fail M x1 = some res) : TF wv yX7_fail cX7_fail 2 (some .boolean) 0 [.inr (3, 0, 0), .inl (.int x1)] M (some (.int res.1)) res.2 := by
  rw [fX7_fail] at h
  refine TF.go (n := 0) (ls := [some (.inr (3, 0, 0)), some (.inl (.int x1))]) rfl rfl rfl rfl rfl ?_
  refine z_aload_n (i := 0) dX7_fail_0 rfl rfl ?_
  refine z_iload_n (i := 1) dX7_fail_1 rfl rfl ?_
  refine z_putI allR_nd dX7_fail_2 fl_X7_32 mk3 rfl rfl ?_
  refine z_aload_n (i := 0) dX7_fail_5 rfl rfl ?_
  refine z_aload_n (i := 0) dX7_fail_6 rfl rfl ?_
  refine z_getI (x := (M.1 (3, 0, 0) 6)) dX7_fail_7 fl_X7_38 mk3 rfl rfl ?_
  refine z_if_lt (tgt := 37) dX7_fail_10 rfl (fun hc1 => ?_) (fun hc1 => ?_)
  · have h := it_t h hc1
    refine z_iconst (v := (-1 : Int32)) dX7_fail_37 kc_m1 ?_
    refine z_putI allR_nd dX7_fail_38 fl_X7_28 mk3 rfl rfl ?_
    refine z_iconst (v := (0 : Int32)) dX7_fail_41 kc_0 ?_
    cases h
    exact z_iret dX7_fail_42 rfl rfl (Nat.le_refl _) (Nat.le_refl _) ⟨rfl, rfl⟩
  · have h := it_f h hc1
    refine z_aload_n (i := 0) dX7_fail_13 rfl rfl ?_
    refine z_getI (x := (M.1 (3, 0, 0) 6)) dX7_fail_14 fl_X7_38 mk3 rfl rfl ?_
    refine z_aload_n (i := 0) dX7_fail_17 rfl rfl ?_
    refine z_getR (r' := (4, 1, 0)) dX7_fail_18 fl_X7_15 mk3 rfl rfl ?_
    refine z_alen (v := (801 : Int32)) dX7_fail_21 (m4 _ (Nat.le_of_ble_eq_true rfl)) rfl (Nat.le_of_ble_eq_true rfl) (by decide) ?_
    refine z_icmp_ge (tgt := 37) dX7_fail_22 rfl (fun hc2 => ?_) (fun hc2 => ?_)
    · have h := it_t h hc2
      refine z_iconst (v := (-1 : Int32)) dX7_fail_37 kc_m1 ?_
      refine z_putI allR_nd dX7_fail_38 fl_X7_28 mk3 rfl rfl ?_
      refine z_iconst (v := (0 : Int32)) dX7_fail_41 kc_0 ?_
      cases h
      exact z_iret dX7_fail_42 rfl rfl (Nat.le_refl _) (Nat.le_refl _) ⟨rfl, rfl⟩
    · have h := it_f h hc2
      refine z_aload_n (i := 0) dX7_fail_25 rfl rfl ?_
      refine z_getR (r' := (4, 1, 0)) dX7_fail_26 fl_X7_15 mk3 rfl rfl ?_
      refine z_aload_n (i := 0) dX7_fail_29 rfl rfl ?_
      refine z_getI (x := (M.1 (3, 0, 0) 6)) dX7_fail_30 fl_X7_38 mk3 rfl rfl ?_
      obtain ⟨hc3, h⟩ := chk h
      refine z_iald (x := (M.1 (4, 1, 0) (M.1 (3, 0, 0) 6).toNatClampNeg)) dX7_fail_33 (m4 _ (Nat.le_of_ble_eq_true rfl)) rfl hc3 rfl ?_
      refine z_goto (tgt := 38) dX7_fail_34 rfl ?_
      refine z_putI allR_nd dX7_fail_38 fl_X7_28 mk3 rfl rfl ?_
      refine z_iconst (v := (0 : Int32)) dX7_fail_41 kc_0 ?_
      cases h
      exact z_iret dX7_fail_42 rfl rfl (Nat.le_refl _) (Nat.le_refl _) ⟨rfl, rfl⟩
theorem dX7_advance_0 : decode cX7_advance 0 = .ok (.aload_n 0, 1) := by decide +kernel
theorem dX7_advance_1 : decode cX7_advance 1 = .ok (.getfield 38, 3) := by decide +kernel
theorem dX7_advance_4 : decode cX7_advance 4 = .ok (.aload_n 0, 1) := by decide +kernel
theorem dX7_advance_5 : decode cX7_advance 5 = .ok (.getfield 35, 3) := by decide +kernel
theorem dX7_advance_8 : decode cX7_advance 8 = .ok (.iconst 1, 1) := by decide +kernel
theorem dX7_advance_9 : decode cX7_advance 9 = .ok (.isub, 1) := by decide +kernel
theorem dX7_advance_10 : decode cX7_advance 10 = .ok (.if_icmp .ge 13, 3) := by decide +kernel
theorem dX7_advance_13 : decode cX7_advance 13 = .ok (.aload_n 0, 1) := by decide +kernel
theorem dX7_advance_14 : decode cX7_advance 14 = .ok (.dup, 1) := by decide +kernel
theorem dX7_advance_15 : decode cX7_advance 15 = .ok (.getfield 38, 3) := by decide +kernel
theorem dX7_advance_18 : decode cX7_advance 18 = .ok (.iconst 1, 1) := by decide +kernel
theorem dX7_advance_19 : decode cX7_advance 19 = .ok (.iadd, 1) := by decide +kernel
theorem dX7_advance_20 : decode cX7_advance 20 = .ok (.putfield 38, 3) := by decide +kernel
theorem dX7_advance_23 : decode cX7_advance 23 = .ok (.return_, 1) := by decide +kernel
def fX7_advance (M : Mm) : Mm := if ((M.1 (3, 0, 0) 5) - (1 : Int32)) ≤ (M.1 (3, 0, 0) 6) then M else (putI M (3, 0, 0) 6 ((M.1 (3, 0, 0) 6) + (1 : Int32)))
set_option maxRecDepth 20000 in
set_option maxHeartbeats 2000000 in
theorem tX7_advance {wv : Wv} (M : Mm) {res : Mm} (h : fX7_advance M  = res) : TF wv yX7_advance cX7_advance 1 none 0 [.inr (3, 0, 0)] M (none) res := by
  rw [fX7_advance] at h
  refine TF.go (n := 0) (ls := [some (.inr (3, 0, 0))]) rfl rfl rfl rfl rfl ?_
  refine z_aload_n (i := 0) dX7_advance_0 rfl rfl ?_
  refine z_getI (x := (M.1 (3, 0, 0) 6)) dX7_advance_1 fl_X7_38 mk3 rfl rfl ?_
  refine z_aload_n (i := 0) dX7_advance_4 rfl rfl ?_
  refine z_getI (x := (M.1 (3, 0, 0) 5)) dX7_advance_5 fl_X7_35 mk3 rfl rfl ?_
  refine z_iconst (v := (1 : Int32)) dX7_advance_8 kc_1 ?_
  refine z_isub dX7_advance_9 ?_
  refine z_icmp_ge (tgt := 23) dX7_advance_10 rfl (fun hc1 => ?_) (fun hc1 => ?_)
  · have h := it_t h hc1
    subst h
    exact z_vret dX7_advance_23 rfl (Nat.le_refl _) (Nat.le_refl _) ⟨rfl, rfl⟩
  · have h := it_f h hc1
    refine z_aload_n (i := 0) dX7_advance_13 rfl rfl ?_
    refine z_dup dX7_advance_14 rfl ?_
    refine z_getI (x := (M.1 (3, 0, 0) 6)) dX7_advance_15 fl_X7_38 mk3 rfl rfl ?_
    refine z_iconst (v := (1 : Int32)) dX7_advance_18 kc_1 ?_
    refine z_iadd dX7_advance_19 ?_
    refine z_putI allR_nd dX7_advance_20 fl_X7_38 mk3 rfl rfl ?_
    subst h
    exact z_vret dX7_advance_23 rfl (Nat.le_refl _) (Nat.le_refl _) ⟨rfl, rfl⟩
theorem sX7_advance {wv : Wv} (M : Mm) : TF wv yX7_advance cX7_advance 1 none 0 [.inr (3, 0, 0)] M (none) (fX7_advance M ) := tX7_advance M   rfl
theorem dX7_takeWord_0 : decode cX7_takeWord 0 = .ok (.aload_n 0, 1) := by decide +kernel
theorem dX7_takeWord_1 : decode cX7_takeWord 1 = .ok (.aload_n 1, 1) := by decide +kernel
theorem dX7_takeWord_2 : decode cX7_takeWord 2 = .ok (.invokevirtual 81, 3) := by decide +kernel
theorem dX7_takeWord_5 : decode cX7_takeWord 5 = .ok (.ifCond .ne 9, 3) := by decide +kernel
theorem dX7_takeWord_8 : decode cX7_takeWord 8 = .ok (.aload_n 0, 1) := by decide +kernel
theorem dX7_takeWord_9 : decode cX7_takeWord 9 = .ok (.iconst 1, 1) := by decide +kernel
theorem dX7_takeWord_10 : decode cX7_takeWord 10 = .ok (.invokevirtual 85, 3) := by decide +kernel
theorem dX7_takeWord_13 : decode cX7_takeWord 13 = .ok (.ireturn, 1) := by decide +kernel
theorem dX7_takeWord_14 : decode cX7_takeWord 14 = .ok (.aload_n 0, 1) := by decide +kernel
theorem dX7_takeWord_15 : decode cX7_takeWord 15 = .ok (.invokevirtual 88, 3) := by decide +kernel
theorem dX7_takeWord_18 : decode cX7_takeWord 18 = .ok (.iconst 1, 1) := by decide +kernel
theorem dX7_takeWord_19 : decode cX7_takeWord 19 = .ok (.ireturn, 1) := by decide +kernel
def fX7_takeWord (M : Mm) (j1 : Nat) : Option (Int32 × Mm) := (fX7_atWord M j1).bind fun q1 => if q1 = 0 then ((fX7_fail M (1 : Int32)).bind fun q4 => some ((bz q4.1), q4.2)) else some ((1 : Int32), (fX7_advance M))
set_option maxRecDepth 20000 in
set_option maxHeartbeats 2000000 in
theorem sX7_takeWord {wv : Wv} (M : Mm) (j1 : Nat) (hj1 : j1 < 15) {res : (Int32 × Mm)} (h : fX7_takeWord M j1 = some res) : TF wv yX7_takeWord cX7_takeWord 2 (some .boolean) 8 [.inr (3, 0, 0), .inr (30, j1, 0)] M (some (.int res.1)) res.2 := by
  rw [fX7_takeWord] at h
  refine TF.go (n := 0) (ls := [some (.inr (3, 0, 0)), some (.inr (30, j1, 0))]) rfl rfl rfl rfl rfl ?_
  refine z_aload_n (i := 0) dX7_takeWord_0 rfl rfl ?_
  refine z_aload_n (i := 1) dX7_takeWord_1 rfl rfl ?_
  obtain ⟨q1, hq2, h⟩ := bnd h
  refine z_fVi (sX7_atWord M j1 hj1 hq2) dX7_takeWord_2 ml_X7_81 cd_X7_atWord mk3 rfl rfl rfl rfl rfl rfl ?_
  refine z_if_ne (tgt := 14) dX7_takeWord_5 rfl (fun hc3 => ?_) (fun hc3 => ?_)
  · have h := it_f h hc3
    refine z_aload_n (i := 0) dX7_takeWord_14 rfl rfl ?_
    refine z_fVv (sX7_advance M) dX7_takeWord_15 ml_X7_88 cd_X7_advance mk3 rfl rfl rfl rfl rfl rfl ?_
    refine z_iconst (v := (1 : Int32)) dX7_takeWord_18 kc_1 ?_
    cases h
    exact z_iret dX7_takeWord_19 rfl rfl (Nat.le_refl _) (Nat.le_refl _) ⟨rfl, rfl⟩
  · have h := it_t h hc3
    refine z_aload_n (i := 0) dX7_takeWord_8 rfl rfl ?_
    refine z_iconst (v := (1 : Int32)) dX7_takeWord_9 kc_1 ?_
    obtain ⟨q4, hq5, h⟩ := bnd h
    refine z_fVi (sX7_fail M (1 : Int32) hq5) dX7_takeWord_10 ml_X7_85 cd_X7_fail mk3 rfl rfl rfl rfl rfl rfl ?_
    cases h
    exact z_iret dX7_takeWord_13 rfl (bz_ok _) (Nat.le_refl _) (Nat.le_refl _) ⟨rfl, rfl⟩
theorem dX7_takeNumber_0 : decode cX7_takeNumber 0 = .ok (.aload_n 0, 1) := by decide +kernel
theorem dX7_takeNumber_1 : decode cX7_takeNumber 1 = .ok (.iconst 2, 1) := by decide +kernel
theorem dX7_takeNumber_2 : decode cX7_takeNumber 2 = .ok (.invokevirtual 68, 3) := by decide +kernel
theorem dX7_takeNumber_5 : decode cX7_takeNumber 5 = .ok (.ifCond .ne 11, 3) := by decide +kernel
theorem dX7_takeNumber_8 : decode cX7_takeNumber 8 = .ok (.aload_n 0, 1) := by decide +kernel
theorem dX7_takeNumber_9 : decode cX7_takeNumber 9 = .ok (.iconst 1, 1) := by decide +kernel
theorem dX7_takeNumber_10 : decode cX7_takeNumber 10 = .ok (.invokevirtual 85, 3) := by decide +kernel
theorem dX7_takeNumber_13 : decode cX7_takeNumber 13 = .ok (.pop, 1) := by decide +kernel
theorem dX7_takeNumber_14 : decode cX7_takeNumber 14 = .ok (.iconst (-1), 1) := by decide +kernel
theorem dX7_takeNumber_15 : decode cX7_takeNumber 15 = .ok (.ireturn, 1) := by decide +kernel
theorem dX7_takeNumber_16 : decode cX7_takeNumber 16 = .ok (.aload_n 0, 1) := by decide +kernel
theorem dX7_takeNumber_17 : decode cX7_takeNumber 17 = .ok (.getfield 21, 3) := by decide +kernel
theorem dX7_takeNumber_20 : decode cX7_takeNumber 20 = .ok (.aload_n 0, 1) := by decide +kernel
theorem dX7_takeNumber_21 : decode cX7_takeNumber 21 = .ok (.getfield 38, 3) := by decide +kernel
theorem dX7_takeNumber_24 : decode cX7_takeNumber 24 = .ok (.iaload, 1) := by decide +kernel
theorem dX7_takeNumber_25 : decode cX7_takeNumber 25 = .ok (.istore_n 3, 1) := by decide +kernel
theorem dX7_takeNumber_26 : decode cX7_takeNumber 26 = .ok (.iload_n 3, 1) := by decide +kernel
theorem dX7_takeNumber_27 : decode cX7_takeNumber 27 = .ok (.iload_n 1, 1) := by decide +kernel
theorem dX7_takeNumber_28 : decode cX7_takeNumber 28 = .ok (.if_icmp .lt 8, 3) := by decide +kernel
theorem dX7_takeNumber_31 : decode cX7_takeNumber 31 = .ok (.iload_n 3, 1) := by decide +kernel
theorem dX7_takeNumber_32 : decode cX7_takeNumber 32 = .ok (.iload_n 2, 1) := by decide +kernel
theorem dX7_takeNumber_33 : decode cX7_takeNumber 33 = .ok (.if_icmp .le 11, 3) := by decide +kernel
theorem dX7_takeNumber_36 : decode cX7_takeNumber 36 = .ok (.aload_n 0, 1) := by decide +kernel
theorem dX7_takeNumber_37 : decode cX7_takeNumber 37 = .ok (.iconst 2, 1) := by decide +kernel
theorem dX7_takeNumber_38 : decode cX7_takeNumber 38 = .ok (.invokevirtual 85, 3) := by decide +kernel
theorem dX7_takeNumber_41 : decode cX7_takeNumber 41 = .ok (.pop, 1) := by decide +kernel
theorem dX7_takeNumber_42 : decode cX7_takeNumber 42 = .ok (.iconst (-1), 1) := by decide +kernel
theorem dX7_takeNumber_43 : decode cX7_takeNumber 43 = .ok (.ireturn, 1) := by decide +kernel
theorem dX7_takeNumber_44 : decode cX7_takeNumber 44 = .ok (.aload_n 0, 1) := by decide +kernel
theorem dX7_takeNumber_45 : decode cX7_takeNumber 45 = .ok (.invokevirtual 88, 3) := by decide +kernel
theorem dX7_takeNumber_48 : decode cX7_takeNumber 48 = .ok (.iload_n 3, 1) := by decide +kernel
theorem dX7_takeNumber_49 : decode cX7_takeNumber 49 = .ok (.ireturn, 1) := by decide +kernel
def fX7_takeNumber (M : Mm) (x1 : Int32) (x2 : Int32) : Option (Int32 × Mm) := (fX7_atKind M (2 : Int32)).bind fun q1 => if q1 = 0 then ((fX7_fail M (1 : Int32)).bind fun q11 => some ((-1 : Int32), q11.2)) else if (M.1 (3, 0, 0) 6) < 0 ∨ 801 ≤ (M.1 (3, 0, 0) 6).toNatClampNeg then none else if (M.1 (4, 3, 0) (M.1 (3, 0, 0) 6).toNatClampNeg) < x1 then ((fX7_fail M (2 : Int32)).bind fun q6 => some ((-1 : Int32), q6.2)) else if (M.1 (4, 3, 0) (M.1 (3, 0, 0) 6).toNatClampNeg) ≤ x2 then some ((M.1 (4, 3, 0) (M.1 (3, 0, 0) 6).toNatClampNeg), (fX7_advance M)) else (fX7_fail M (2 : Int32)).bind fun q9 => some ((-1 : Int32), q9.2)
set_option maxRecDepth 20000 in
set_option maxHeartbeats 2000000 in
theorem sX7_takeNumber {wv : Wv} (M : Mm) (x1 : Int32) (x2 : Int32) {res : (Int32 × Mm)} (h : fX7_takeNumber M x1 x2 = some res) : TF wv yX7_takeNumber cX7_takeNumber 4 (some .int) 1 [.inr (3, 0, 0), .inl (.int x1), .inl (.int x2)] M (some (.int res.1)) res.2 := by
  rw [fX7_takeNumber] at h
  refine TF.go (n := 1) (ls := [some (.inr (3, 0, 0)), some (.inl (.int x1)), some (.inl (.int x2)), none]) rfl rfl rfl rfl rfl ?_
  refine z_aload_n (i := 0) dX7_takeNumber_0 rfl rfl ?_
  refine z_iconst (v := (2 : Int32)) dX7_takeNumber_1 kc_2 ?_
  obtain ⟨q1, hq2, h⟩ := bnd h
  refine z_fVi (sX7_atKind M (2 : Int32) hq2) dX7_takeNumber_2 ml_X7_68 cd_X7_atKind mk3 rfl rfl rfl rfl rfl rfl ?_
  refine z_if_ne (tgt := 16) dX7_takeNumber_5 rfl (fun hc3 => ?_) (fun hc3 => ?_)
  · have h := it_f h hc3
    refine z_aload_n (i := 0) dX7_takeNumber_16 rfl rfl ?_
    refine z_getR (r' := (4, 3, 0)) dX7_takeNumber_17 fl_X7_21 mk3 rfl rfl ?_
    refine z_aload_n (i := 0) dX7_takeNumber_20 rfl rfl ?_
    refine z_getI (x := (M.1 (3, 0, 0) 6)) dX7_takeNumber_21 fl_X7_38 mk3 rfl rfl ?_
    obtain ⟨hc4, h⟩ := chk h
    refine z_iald (x := (M.1 (4, 3, 0) (M.1 (3, 0, 0) 6).toNatClampNeg)) dX7_takeNumber_24 (m4 _ (Nat.le_of_ble_eq_true rfl)) rfl hc4 rfl ?_
    refine z_istore_n (i := 3) dX7_takeNumber_25 rfl (Nat.le_of_ble_eq_true rfl) rfl ?_
    refine z_iload_n (i := 3) dX7_takeNumber_26 rfl rfl ?_
    refine z_iload_n (i := 1) dX7_takeNumber_27 rfl rfl ?_
    refine z_icmp_lt (tgt := 36) dX7_takeNumber_28 rfl (fun hc5 => ?_) (fun hc5 => ?_)
    · have h := it_t h hc5
      refine z_aload_n (i := 0) dX7_takeNumber_36 rfl rfl ?_
      refine z_iconst (v := (2 : Int32)) dX7_takeNumber_37 kc_2 ?_
      obtain ⟨q6, hq7, h⟩ := bnd h
      refine z_fVi (sX7_fail M (2 : Int32) hq7) dX7_takeNumber_38 ml_X7_85 cd_X7_fail mk3 rfl rfl rfl rfl rfl rfl ?_
      refine z_pop dX7_takeNumber_41 rfl ?_
      refine z_iconst (v := (-1 : Int32)) dX7_takeNumber_42 kc_m1 ?_
      cases h
      exact z_iret dX7_takeNumber_43 rfl rfl (Nat.le_refl _) (Nat.le_refl _) ⟨rfl, rfl⟩
    · have h := it_f h hc5
      refine z_iload_n (i := 3) dX7_takeNumber_31 rfl rfl ?_
      refine z_iload_n (i := 2) dX7_takeNumber_32 rfl rfl ?_
      refine z_icmp_le (tgt := 44) dX7_takeNumber_33 rfl (fun hc8 => ?_) (fun hc8 => ?_)
      · have h := it_t h hc8
        refine z_aload_n (i := 0) dX7_takeNumber_44 rfl rfl ?_
        refine z_fVv (sX7_advance M) dX7_takeNumber_45 ml_X7_88 cd_X7_advance mk3 rfl rfl rfl rfl rfl rfl ?_
        refine z_iload_n (i := 3) dX7_takeNumber_48 rfl rfl ?_
        cases h
        exact z_iret dX7_takeNumber_49 rfl rfl (Nat.le_refl _) (Nat.le_refl _) ⟨rfl, rfl⟩
      · have h := it_f h hc8
        refine z_aload_n (i := 0) dX7_takeNumber_36 rfl rfl ?_
        refine z_iconst (v := (2 : Int32)) dX7_takeNumber_37 kc_2 ?_
        obtain ⟨q9, hq10, h⟩ := bnd h
        refine z_fVi (sX7_fail M (2 : Int32) hq10) dX7_takeNumber_38 ml_X7_85 cd_X7_fail mk3 rfl rfl rfl rfl rfl rfl ?_
        refine z_pop dX7_takeNumber_41 rfl ?_
        refine z_iconst (v := (-1 : Int32)) dX7_takeNumber_42 kc_m1 ?_
        cases h
        exact z_iret dX7_takeNumber_43 rfl rfl (Nat.le_refl _) (Nat.le_refl _) ⟨rfl, rfl⟩
  · have h := it_t h hc3
    refine z_aload_n (i := 0) dX7_takeNumber_8 rfl rfl ?_
    refine z_iconst (v := (1 : Int32)) dX7_takeNumber_9 kc_1 ?_
    obtain ⟨q11, hq12, h⟩ := bnd h
    refine z_fVi (sX7_fail M (1 : Int32) hq12) dX7_takeNumber_10 ml_X7_85 cd_X7_fail mk3 rfl rfl rfl rfl rfl rfl ?_
    refine z_pop dX7_takeNumber_13 rfl ?_
    refine z_iconst (v := (-1 : Int32)) dX7_takeNumber_14 kc_m1 ?_
    cases h
    exact z_iret dX7_takeNumber_15 rfl rfl (Nat.le_refl _) (Nat.le_refl _) ⟨rfl, rfl⟩
theorem dX7_atSign_0 : decode cX7_atSign 0 = .ok (.aload_n 0, 1) := by decide +kernel
theorem dX7_atSign_1 : decode cX7_atSign 1 = .ok (.iconst 3, 1) := by decide +kernel
theorem dX7_atSign_2 : decode cX7_atSign 2 = .ok (.invokevirtual 68, 3) := by decide +kernel
theorem dX7_atSign_5 : decode cX7_atSign 5 = .ok (.ifCond .eq 27, 3) := by decide +kernel
theorem dX7_atSign_8 : decode cX7_atSign 8 = .ok (.aload_n 0, 1) := by decide +kernel
theorem dX7_atSign_9 : decode cX7_atSign 9 = .ok (.getfield 24, 3) := by decide +kernel
theorem dX7_atSign_12 : decode cX7_atSign 12 = .ok (.aload_n 0, 1) := by decide +kernel
theorem dX7_atSign_13 : decode cX7_atSign 13 = .ok (.getfield 15, 3) := by decide +kernel
theorem dX7_atSign_16 : decode cX7_atSign 16 = .ok (.aload_n 0, 1) := by decide +kernel
theorem dX7_atSign_17 : decode cX7_atSign 17 = .ok (.getfield 38, 3) := by decide +kernel
theorem dX7_atSign_20 : decode cX7_atSign 20 = .ok (.iaload, 1) := by decide +kernel
theorem dX7_atSign_21 : decode cX7_atSign 21 = .ok (.invokevirtual 46, 3) := by decide +kernel
theorem dX7_atSign_24 : decode cX7_atSign 24 = .ok (.iload_n 1, 1) := by decide +kernel
theorem dX7_atSign_25 : decode cX7_atSign 25 = .ok (.if_icmp .ne 7, 3) := by decide +kernel
theorem dX7_atSign_28 : decode cX7_atSign 28 = .ok (.iconst 1, 1) := by decide +kernel
theorem dX7_atSign_29 : decode cX7_atSign 29 = .ok (.goto 4, 3) := by decide +kernel
theorem dX7_atSign_32 : decode cX7_atSign 32 = .ok (.iconst 0, 1) := by decide +kernel
theorem dX7_atSign_33 : decode cX7_atSign 33 = .ok (.ireturn, 1) := by decide +kernel
def fX7_atSign (M : Mm) (x1 : Int32) : Option Int32 := (fX7_atKind M (3 : Int32)).bind fun q1 => if q1 = 0 then some (0 : Int32) else if (M.1 (3, 0, 0) 6) < 0 ∨ 801 ≤ (M.1 (3, 0, 0) 6).toNatClampNeg then none else (fX1_at M 0 (M.1 (4, 1, 0) (M.1 (3, 0, 0) 6).toNatClampNeg)).bind fun q5 => if q5 = x1 then some (1 : Int32) else some (0 : Int32)
set_option maxRecDepth 20000 in
set_option maxHeartbeats 2000000 in
theorem sX7_atSign {wv : Wv} (M : Mm) (x1 : Int32) {res : Int32} (h : fX7_atSign M x1 = some res) : TF wv yX7_atSign cX7_atSign 2 (some .boolean) 1 [.inr (3, 0, 0), .inl (.int x1)] M (some (.int res)) M := by
  rw [fX7_atSign] at h
  refine TF.go (n := 0) (ls := [some (.inr (3, 0, 0)), some (.inl (.int x1))]) rfl rfl rfl rfl rfl ?_
  refine z_aload_n (i := 0) dX7_atSign_0 rfl rfl ?_
  refine z_iconst (v := (3 : Int32)) dX7_atSign_1 kc_3 ?_
  obtain ⟨q1, hq2, h⟩ := bnd h
  refine z_fVi (sX7_atKind M (3 : Int32) hq2) dX7_atSign_2 ml_X7_68 cd_X7_atKind mk3 rfl rfl rfl rfl rfl rfl ?_
  refine z_if_eq (tgt := 32) dX7_atSign_5 rfl (fun hc3 => ?_) (fun hc3 => ?_)
  · have h := it_t h hc3
    refine z_iconst (v := (0 : Int32)) dX7_atSign_32 kc_0 ?_
    cases h
    exact z_iret dX7_atSign_33 rfl rfl (Nat.le_refl _) (Nat.le_refl _) ⟨rfl, rfl⟩
  · have h := it_f h hc3
    refine z_aload_n (i := 0) dX7_atSign_8 rfl rfl ?_
    refine z_getR (r' := (1, 0, 0)) dX7_atSign_9 fl_X7_24 mk3 rfl rfl ?_
    refine z_aload_n (i := 0) dX7_atSign_12 rfl rfl ?_
    refine z_getR (r' := (4, 1, 0)) dX7_atSign_13 fl_X7_15 mk3 rfl rfl ?_
    refine z_aload_n (i := 0) dX7_atSign_16 rfl rfl ?_
    refine z_getI (x := (M.1 (3, 0, 0) 6)) dX7_atSign_17 fl_X7_38 mk3 rfl rfl ?_
    obtain ⟨hc4, h⟩ := chk h
    refine z_iald (x := (M.1 (4, 1, 0) (M.1 (3, 0, 0) 6).toNatClampNeg)) dX7_atSign_20 (m4 _ (Nat.le_of_ble_eq_true rfl)) rfl hc4 rfl ?_
    obtain ⟨q5, hq6, h⟩ := bnd h
    refine z_fVi (sX1_at M 0 (M.1 (4, 1, 0) (M.1 (3, 0, 0) 6).toNatClampNeg) (Nat.le_of_ble_eq_true rfl) hq6) dX7_atSign_21 ml_X7_46 cd_X1_at (m1 _ (Nat.le_of_ble_eq_true rfl)) rfl rfl rfl rfl rfl rfl ?_
    refine z_iload_n (i := 1) dX7_atSign_24 rfl rfl ?_
    refine z_icmp_ne (tgt := 32) dX7_atSign_25 rfl (fun hc7 => ?_) (fun hc7 => ?_)
    · have h := it_f h hc7
      refine z_iconst (v := (0 : Int32)) dX7_atSign_32 kc_0 ?_
      cases h
      exact z_iret dX7_atSign_33 rfl rfl (Nat.le_refl _) (Nat.le_refl _) ⟨rfl, rfl⟩
    · have h := it_t h hc7
      refine z_iconst (v := (1 : Int32)) dX7_atSign_28 kc_1 ?_
      refine z_goto (tgt := 33) dX7_atSign_29 rfl ?_
      cases h
      exact z_iret dX7_atSign_33 rfl rfl (Nat.le_refl _) (Nat.le_refl _) ⟨rfl, rfl⟩
theorem dX7_takeSign_0 : decode cX7_takeSign 0 = .ok (.aload_n 0, 1) := by decide +kernel
theorem dX7_takeSign_1 : decode cX7_takeSign 1 = .ok (.iload_n 1, 1) := by decide +kernel
theorem dX7_takeSign_2 : decode cX7_takeSign 2 = .ok (.invokevirtual 91, 3) := by decide +kernel
theorem dX7_takeSign_5 : decode cX7_takeSign 5 = .ok (.ifCond .ne 9, 3) := by decide +kernel
theorem dX7_takeSign_8 : decode cX7_takeSign 8 = .ok (.aload_n 0, 1) := by decide +kernel
theorem dX7_takeSign_9 : decode cX7_takeSign 9 = .ok (.iconst 1, 1) := by decide +kernel
theorem dX7_takeSign_10 : decode cX7_takeSign 10 = .ok (.invokevirtual 85, 3) := by decide +kernel
theorem dX7_takeSign_13 : decode cX7_takeSign 13 = .ok (.ireturn, 1) := by decide +kernel
theorem dX7_takeSign_14 : decode cX7_takeSign 14 = .ok (.aload_n 0, 1) := by decide +kernel
theorem dX7_takeSign_15 : decode cX7_takeSign 15 = .ok (.invokevirtual 88, 3) := by decide +kernel
theorem dX7_takeSign_18 : decode cX7_takeSign 18 = .ok (.iconst 1, 1) := by decide +kernel
theorem dX7_takeSign_19 : decode cX7_takeSign 19 = .ok (.ireturn, 1) := by decide +kernel
def fX7_takeSign (M : Mm) (x1 : Int32) : Option (Int32 × Mm) := (fX7_atSign M x1).bind fun q1 => if q1 = 0 then ((fX7_fail M (1 : Int32)).bind fun q4 => some ((bz q4.1), q4.2)) else some ((1 : Int32), (fX7_advance M))
set_option maxRecDepth 20000 in
set_option maxHeartbeats 2000000 in
theorem sX7_takeSign {wv : Wv} (M : Mm) (x1 : Int32) {res : (Int32 × Mm)} (h : fX7_takeSign M x1 = some res) : TF wv yX7_takeSign cX7_takeSign 2 (some .boolean) 2 [.inr (3, 0, 0), .inl (.int x1)] M (some (.int res.1)) res.2 := by
  rw [fX7_takeSign] at h
  refine TF.go (n := 0) (ls := [some (.inr (3, 0, 0)), some (.inl (.int x1))]) rfl rfl rfl rfl rfl ?_
  refine z_aload_n (i := 0) dX7_takeSign_0 rfl rfl ?_
  refine z_iload_n (i := 1) dX7_takeSign_1 rfl rfl ?_
  obtain ⟨q1, hq2, h⟩ := bnd h
  refine z_fVi (sX7_atSign M x1 hq2) dX7_takeSign_2 ml_X7_91 cd_X7_atSign mk3 rfl rfl rfl rfl rfl rfl ?_
  refine z_if_ne (tgt := 14) dX7_takeSign_5 rfl (fun hc3 => ?_) (fun hc3 => ?_)
  · have h := it_f h hc3
    refine z_aload_n (i := 0) dX7_takeSign_14 rfl rfl ?_
    refine z_fVv (sX7_advance M) dX7_takeSign_15 ml_X7_88 cd_X7_advance mk3 rfl rfl rfl rfl rfl rfl ?_
    refine z_iconst (v := (1 : Int32)) dX7_takeSign_18 kc_1 ?_
    cases h
    exact z_iret dX7_takeSign_19 rfl rfl (Nat.le_refl _) (Nat.le_refl _) ⟨rfl, rfl⟩
  · have h := it_t h hc3
    refine z_aload_n (i := 0) dX7_takeSign_8 rfl rfl ?_
    refine z_iconst (v := (1 : Int32)) dX7_takeSign_9 kc_1 ?_
    obtain ⟨q4, hq5, h⟩ := bnd h
    refine z_fVi (sX7_fail M (1 : Int32) hq5) dX7_takeSign_10 ml_X7_85 cd_X7_fail mk3 rfl rfl rfl rfl rfl rfl ?_
    cases h
    exact z_iret dX7_takeSign_13 rfl (bz_ok _) (Nat.le_refl _) (Nat.le_refl _) ⟨rfl, rfl⟩
theorem dX6_readHead_0 : decode cX6_readHead 0 = .ok (.aload_n 0, 1) := by decide +kernel
theorem dX6_readHead_1 : decode cX6_readHead 1 = .ok (.getfield 9, 3) := by decide +kernel
theorem dX6_readHead_4 : decode cX6_readHead 4 = .ok (.ldc 48, 2) := by decide +kernel
theorem dX6_readHead_6 : decode cX6_readHead 6 = .ok (.invokevirtual 50, 3) := by decide +kernel
theorem dX6_readHead_9 : decode cX6_readHead 9 = .ok (.ifCond .ne 5, 3) := by decide +kernel
theorem dX6_readHead_12 : decode cX6_readHead 12 = .ok (.iconst 0, 1) := by decide +kernel
theorem dX6_readHead_13 : decode cX6_readHead 13 = .ok (.ireturn, 1) := by decide +kernel
theorem dX6_readHead_14 : decode cX6_readHead 14 = .ok (.aload_n 0, 1) := by decide +kernel
theorem dX6_readHead_15 : decode cX6_readHead 15 = .ok (.getfield 9, 3) := by decide +kernel
theorem dX6_readHead_18 : decode cX6_readHead 18 = .ok (.iconst 4, 1) := by decide +kernel
theorem dX6_readHead_19 : decode cX6_readHead 19 = .ok (.bipush 64, 2) := by decide +kernel
theorem dX6_readHead_21 : decode cX6_readHead 21 = .ok (.invokevirtual 53, 3) := by decide +kernel
theorem dX6_readHead_24 : decode cX6_readHead 24 = .ok (.istore_n 1, 1) := by decide +kernel
theorem dX6_readHead_25 : decode cX6_readHead 25 = .ok (.iload_n 1, 1) := by decide +kernel
theorem dX6_readHead_26 : decode cX6_readHead 26 = .ok (.iconst (-1), 1) := by decide +kernel
theorem dX6_readHead_27 : decode cX6_readHead 27 = .ok (.if_icmp .ne 5, 3) := by decide +kernel
theorem dX6_readHead_30 : decode cX6_readHead 30 = .ok (.iconst 0, 1) := by decide +kernel
theorem dX6_readHead_31 : decode cX6_readHead 31 = .ok (.ireturn, 1) := by decide +kernel
theorem dX6_readHead_32 : decode cX6_readHead 32 = .ok (.aload_n 0, 1) := by decide +kernel
theorem dX6_readHead_33 : decode cX6_readHead 33 = .ok (.getfield 9, 3) := by decide +kernel
theorem dX6_readHead_36 : decode cX6_readHead 36 = .ok (.iconst 0, 1) := by decide +kernel
theorem dX6_readHead_37 : decode cX6_readHead 37 = .ok (.bipush 20, 2) := by decide +kernel
theorem dX6_readHead_39 : decode cX6_readHead 39 = .ok (.invokevirtual 53, 3) := by decide +kernel
theorem dX6_readHead_42 : decode cX6_readHead 42 = .ok (.istore_n 2, 1) := by decide +kernel
theorem dX6_readHead_43 : decode cX6_readHead 43 = .ok (.iload_n 2, 1) := by decide +kernel
theorem dX6_readHead_44 : decode cX6_readHead 44 = .ok (.iconst (-1), 1) := by decide +kernel
theorem dX6_readHead_45 : decode cX6_readHead 45 = .ok (.if_icmp .ne 5, 3) := by decide +kernel
theorem dX6_readHead_48 : decode cX6_readHead 48 = .ok (.iconst 0, 1) := by decide +kernel
theorem dX6_readHead_49 : decode cX6_readHead 49 = .ok (.ireturn, 1) := by decide +kernel
theorem dX6_readHead_50 : decode cX6_readHead 50 = .ok (.aload_n 0, 1) := by decide +kernel
theorem dX6_readHead_51 : decode cX6_readHead 51 = .ok (.getfield 9, 3) := by decide +kernel
theorem dX6_readHead_54 : decode cX6_readHead 54 = .ok (.iconst 0, 1) := by decide +kernel
theorem dX6_readHead_55 : decode cX6_readHead 55 = .ok (.bipush 90, 2) := by decide +kernel
theorem dX6_readHead_57 : decode cX6_readHead 57 = .ok (.invokevirtual 53, 3) := by decide +kernel
theorem dX6_readHead_60 : decode cX6_readHead 60 = .ok (.istore_n 3, 1) := by decide +kernel
theorem dX6_readHead_61 : decode cX6_readHead 61 = .ok (.iload_n 3, 1) := by decide +kernel
theorem dX6_readHead_62 : decode cX6_readHead 62 = .ok (.iconst (-1), 1) := by decide +kernel
theorem dX6_readHead_63 : decode cX6_readHead 63 = .ok (.if_icmp .ne 5, 3) := by decide +kernel
theorem dX6_readHead_66 : decode cX6_readHead 66 = .ok (.iconst 0, 1) := by decide +kernel
theorem dX6_readHead_67 : decode cX6_readHead 67 = .ok (.ireturn, 1) := by decide +kernel
theorem dX6_readHead_68 : decode cX6_readHead 68 = .ok (.aload_n 0, 1) := by decide +kernel
theorem dX6_readHead_69 : decode cX6_readHead 69 = .ok (.getfield 15, 3) := by decide +kernel
theorem dX6_readHead_72 : decode cX6_readHead 72 = .ok (.iload_n 1, 1) := by decide +kernel
theorem dX6_readHead_73 : decode cX6_readHead 73 = .ok (.iload_n 2, 1) := by decide +kernel
theorem dX6_readHead_74 : decode cX6_readHead 74 = .ok (.iload_n 3, 1) := by decide +kernel
theorem dX6_readHead_75 : decode cX6_readHead 75 = .ok (.invokevirtual 57, 3) := by decide +kernel
theorem dX6_readHead_78 : decode cX6_readHead 78 = .ok (.aload_n 0, 1) := by decide +kernel
theorem dX6_readHead_79 : decode cX6_readHead 79 = .ok (.getfield 9, 3) := by decide +kernel
theorem dX6_readHead_82 : decode cX6_readHead 82 = .ok (.bipush 59, 2) := by decide +kernel
theorem dX6_readHead_84 : decode cX6_readHead 84 = .ok (.invokevirtual 63, 3) := by decide +kernel
theorem dX6_readHead_87 : decode cX6_readHead 87 = .ok (.ireturn, 1) := by decide +kernel
def fX6_readHead (M : Mm) : Option (Int32 × Mm) := (fX7_takeWord M 1).bind fun q1 => if q1.1 = 0 then some ((0 : Int32), q1.2) else (fX7_takeNumber q1.2 (4 : Int32) (64 : Int32)).bind fun q4 => if q4.1 = (-1 : Int32) then some ((0 : Int32), q4.2) else (fX7_takeNumber q4.2 (0 : Int32) (20 : Int32)).bind fun q7 => if q7.1 = (-1 : Int32) then some ((0 : Int32), q7.2) else (fX7_takeNumber q7.2 (0 : Int32) (90 : Int32)).bind fun q10 => if q10.1 = (-1 : Int32) then some ((0 : Int32), q10.2) else (fX0_begin q10.2 1 q4.1 q7.1 q10.1).bind fun q13 => (fX7_takeSign q13 (59 : Int32)).bind fun q15 => some ((bz q15.1), q15.2)
set_option maxRecDepth 20000 in
set_option maxHeartbeats 2000000 in
theorem sX6_readHead {wv : Wv} (M : Mm) {res : (Int32 × Mm)} (h : fX6_readHead M  = some res) : TF wv yX6_readHead cX6_readHead 4 (some .boolean) 9 [.inr (5, 0, 0)] M (some (.int res.1)) res.2 := by
  rw [fX6_readHead] at h
  refine TF.go (n := 3) (ls := [some (.inr (5, 0, 0)), none, none, none]) rfl rfl rfl rfl rfl ?_
  refine z_aload_n (i := 0) dX6_readHead_0 rfl rfl ?_
  refine z_getR (r' := (3, 0, 0)) dX6_readHead_1 fl_X6_9 mk5 rfl rfl ?_
  refine z_ldcS (j := 1) dX6_readHead_4 sw_RX6_48 ?_
  obtain ⟨q1, hq2, h⟩ := bnd h
  refine z_fVi (sX7_takeWord M 1 (Nat.le_of_ble_eq_true rfl) hq2) dX6_readHead_6 ml_X6_50 cd_X7_takeWord mk3 rfl rfl rfl rfl rfl rfl ?_
  refine z_if_ne (tgt := 14) dX6_readHead_9 rfl (fun hc3 => ?_) (fun hc3 => ?_)
  · have h := it_f h hc3
    refine z_aload_n (i := 0) dX6_readHead_14 rfl rfl ?_
    refine z_getR (r' := (3, 0, 0)) dX6_readHead_15 fl_X6_9 mk5 rfl rfl ?_
    refine z_iconst (v := (4 : Int32)) dX6_readHead_18 kc_4 ?_
    refine z_bipush (v := (64 : Int32)) dX6_readHead_19 kb_64 ?_
    obtain ⟨q4, hq5, h⟩ := bnd h
    refine z_fVi (sX7_takeNumber q1.2 (4 : Int32) (64 : Int32) hq5) dX6_readHead_21 ml_X6_53 cd_X7_takeNumber mk3 rfl rfl rfl rfl rfl rfl ?_
    refine z_istore_n (i := 1) dX6_readHead_24 rfl (Nat.le_of_ble_eq_true rfl) rfl ?_
    refine z_iload_n (i := 1) dX6_readHead_25 rfl rfl ?_
    refine z_iconst (v := (-1 : Int32)) dX6_readHead_26 kc_m1 ?_
    refine z_icmp_ne (tgt := 32) dX6_readHead_27 rfl (fun hc6 => ?_) (fun hc6 => ?_)
    · have h := it_f h hc6
      refine z_aload_n (i := 0) dX6_readHead_32 rfl rfl ?_
      refine z_getR (r' := (3, 0, 0)) dX6_readHead_33 fl_X6_9 mk5 rfl rfl ?_
      refine z_iconst (v := (0 : Int32)) dX6_readHead_36 kc_0 ?_
      refine z_bipush (v := (20 : Int32)) dX6_readHead_37 kb_20 ?_
      obtain ⟨q7, hq8, h⟩ := bnd h
      refine z_fVi (sX7_takeNumber q4.2 (0 : Int32) (20 : Int32) hq8) dX6_readHead_39 ml_X6_53 cd_X7_takeNumber mk3 rfl rfl rfl rfl rfl rfl ?_
      refine z_istore_n (i := 2) dX6_readHead_42 rfl (Nat.le_of_ble_eq_true rfl) rfl ?_
      refine z_iload_n (i := 2) dX6_readHead_43 rfl rfl ?_
      refine z_iconst (v := (-1 : Int32)) dX6_readHead_44 kc_m1 ?_
      refine z_icmp_ne (tgt := 50) dX6_readHead_45 rfl (fun hc9 => ?_) (fun hc9 => ?_)
      · have h := it_f h hc9
        refine z_aload_n (i := 0) dX6_readHead_50 rfl rfl ?_
        refine z_getR (r' := (3, 0, 0)) dX6_readHead_51 fl_X6_9 mk5 rfl rfl ?_
        refine z_iconst (v := (0 : Int32)) dX6_readHead_54 kc_0 ?_
        refine z_bipush (v := (90 : Int32)) dX6_readHead_55 kb_90 ?_
        obtain ⟨q10, hq11, h⟩ := bnd h
        refine z_fVi (sX7_takeNumber q7.2 (0 : Int32) (90 : Int32) hq11) dX6_readHead_57 ml_X6_53 cd_X7_takeNumber mk3 rfl rfl rfl rfl rfl rfl ?_
        refine z_istore_n (i := 3) dX6_readHead_60 rfl (Nat.le_of_ble_eq_true rfl) rfl ?_
        refine z_iload_n (i := 3) dX6_readHead_61 rfl rfl ?_
        refine z_iconst (v := (-1 : Int32)) dX6_readHead_62 kc_m1 ?_
        refine z_icmp_ne (tgt := 68) dX6_readHead_63 rfl (fun hc12 => ?_) (fun hc12 => ?_)
        · have h := it_f h hc12
          refine z_aload_n (i := 0) dX6_readHead_68 rfl rfl ?_
          refine z_getR (r' := (9, 1, 0)) dX6_readHead_69 fl_X6_15 mk5 rfl rfl ?_
          refine z_iload_n (i := 1) dX6_readHead_72 rfl rfl ?_
          refine z_iload_n (i := 2) dX6_readHead_73 rfl rfl ?_
          refine z_iload_n (i := 3) dX6_readHead_74 rfl rfl ?_
          obtain ⟨q13, hq14, h⟩ := bnd h
          refine z_fVv (sX0_begin q10.2 1 q4.1 q7.1 q10.1 (Nat.le_of_ble_eq_true rfl) hq14) dX6_readHead_75 ml_X6_57 cd_X0_begin (m9 _ (Nat.le_of_ble_eq_true rfl)) rfl rfl rfl rfl rfl rfl ?_
          refine z_aload_n (i := 0) dX6_readHead_78 rfl rfl ?_
          refine z_getR (r' := (3, 0, 0)) dX6_readHead_79 fl_X6_9 mk5 rfl rfl ?_
          refine z_bipush (v := (59 : Int32)) dX6_readHead_82 kb_59 ?_
          obtain ⟨q15, hq16, h⟩ := bnd h
          refine z_fVi (sX7_takeSign q13 (59 : Int32) hq16) dX6_readHead_84 ml_X6_63 cd_X7_takeSign mk3 rfl rfl rfl rfl rfl rfl ?_
          cases h
          exact z_iret dX6_readHead_87 rfl (bz_ok _) (Nat.le_refl _) (Nat.le_refl _) ⟨rfl, rfl⟩
        · have h := it_t h hc12
          refine z_iconst (v := (0 : Int32)) dX6_readHead_66 kc_0 ?_
          cases h
          exact z_iret dX6_readHead_67 rfl rfl (Nat.le_refl _) (Nat.le_refl _) ⟨rfl, rfl⟩
      · have h := it_t h hc9
        refine z_iconst (v := (0 : Int32)) dX6_readHead_48 kc_0 ?_
        cases h
        exact z_iret dX6_readHead_49 rfl rfl (Nat.le_refl _) (Nat.le_refl _) ⟨rfl, rfl⟩
    · have h := it_t h hc6
      refine z_iconst (v := (0 : Int32)) dX6_readHead_30 kc_0 ?_
      cases h
      exact z_iret dX6_readHead_31 rfl rfl (Nat.le_refl _) (Nat.le_refl _) ⟨rfl, rfl⟩
  · have h := it_t h hc3
    refine z_iconst (v := (0 : Int32)) dX6_readHead_12 kc_0 ?_
    cases h
    exact z_iret dX6_readHead_13 rfl rfl (Nat.le_refl _) (Nat.le_refl _) ⟨rfl, rfl⟩
