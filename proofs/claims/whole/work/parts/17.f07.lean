theorem dX7_scan_0 : decode cX7_scan 0 = .ok (.aload_n 0, 1) := by decide +kernel
theorem dX7_scan_1 : decode cX7_scan 1 = .ok (.iconst 0, 1) := by decide +kernel
theorem dX7_scan_2 : decode cX7_scan 2 = .ok (.putfield 32, 3) := by decide +kernel
theorem dX7_scan_5 : decode cX7_scan 5 = .ok (.aload_n 0, 1) := by decide +kernel
theorem dX7_scan_6 : decode cX7_scan 6 = .ok (.iconst (-1), 1) := by decide +kernel
theorem dX7_scan_7 : decode cX7_scan 7 = .ok (.putfield 28, 3) := by decide +kernel
theorem dX7_scan_10 : decode cX7_scan 10 = .ok (.aload_n 0, 1) := by decide +kernel
theorem dX7_scan_11 : decode cX7_scan 11 = .ok (.iconst 0, 1) := by decide +kernel
theorem dX7_scan_12 : decode cX7_scan 12 = .ok (.putfield 35, 3) := by decide +kernel
theorem dX7_scan_15 : decode cX7_scan 15 = .ok (.aload_n 0, 1) := by decide +kernel
theorem dX7_scan_16 : decode cX7_scan 16 = .ok (.iconst 0, 1) := by decide +kernel
theorem dX7_scan_17 : decode cX7_scan 17 = .ok (.putfield 38, 3) := by decide +kernel
theorem dX7_scan_20 : decode cX7_scan 20 = .ok (.iconst 4, 1) := by decide +kernel
theorem dX7_scan_21 : decode cX7_scan 21 = .ok (.istore_n 1, 1) := by decide +kernel
theorem dX7_scan_22 : decode cX7_scan 22 = .ok (.iconst 0, 1) := by decide +kernel
theorem dX7_scan_23 : decode cX7_scan 23 = .ok (.istore_n 2, 1) := by decide +kernel
theorem dX7_scan_24 : decode cX7_scan 24 = .ok (.iload_n 2, 1) := by decide +kernel
theorem dX7_scan_25 : decode cX7_scan 25 = .ok (.aload_n 0, 1) := by decide +kernel
theorem dX7_scan_26 : decode cX7_scan 26 = .ok (.getfield 24, 3) := by decide +kernel
theorem dX7_scan_29 : decode cX7_scan 29 = .ok (.getfield 41, 3) := by decide +kernel
theorem dX7_scan_32 : decode cX7_scan 32 = .ok (.if_icmp .ge 54, 3) := by decide +kernel
theorem dX7_scan_35 : decode cX7_scan 35 = .ok (.aload_n 0, 1) := by decide +kernel
theorem dX7_scan_36 : decode cX7_scan 36 = .ok (.getfield 24, 3) := by decide +kernel
theorem dX7_scan_39 : decode cX7_scan 39 = .ok (.iload_n 2, 1) := by decide +kernel
theorem dX7_scan_40 : decode cX7_scan 40 = .ok (.invokevirtual 46, 3) := by decide +kernel
theorem dX7_scan_43 : decode cX7_scan 43 = .ok (.invokestatic 50, 3) := by decide +kernel
theorem dX7_scan_46 : decode cX7_scan 46 = .ok (.istore_n 3, 1) := by decide +kernel
theorem dX7_scan_47 : decode cX7_scan 47 = .ok (.iload_n 3, 1) := by decide +kernel
theorem dX7_scan_48 : decode cX7_scan 48 = .ok (.iconst 3, 1) := by decide +kernel
theorem dX7_scan_49 : decode cX7_scan 49 = .ok (.if_icmp .eq 13, 3) := by decide +kernel
theorem dX7_scan_52 : decode cX7_scan 52 = .ok (.iload_n 3, 1) := by decide +kernel
theorem dX7_scan_53 : decode cX7_scan 53 = .ok (.iconst 4, 1) := by decide +kernel
theorem dX7_scan_54 : decode cX7_scan 54 = .ok (.if_icmp .eq 14, 3) := by decide +kernel
theorem dX7_scan_57 : decode cX7_scan 57 = .ok (.iload_n 3, 1) := by decide +kernel
theorem dX7_scan_58 : decode cX7_scan 58 = .ok (.iload_n 1, 1) := by decide +kernel
theorem dX7_scan_59 : decode cX7_scan 59 = .ok (.if_icmp .eq 9, 3) := by decide +kernel
theorem dX7_scan_62 : decode cX7_scan 62 = .ok (.aload_n 0, 1) := by decide +kernel
theorem dX7_scan_63 : decode cX7_scan 63 = .ok (.iload_n 3, 1) := by decide +kernel
theorem dX7_scan_64 : decode cX7_scan 64 = .ok (.iload_n 2, 1) := by decide +kernel
theorem dX7_scan_65 : decode cX7_scan 65 = .ok (.invokevirtual 53, 3) := by decide +kernel
theorem dX7_scan_68 : decode cX7_scan 68 = .ok (.iload_n 3, 1) := by decide +kernel
theorem dX7_scan_69 : decode cX7_scan 69 = .ok (.iconst 4, 1) := by decide +kernel
theorem dX7_scan_70 : decode cX7_scan 70 = .ok (.if_icmp .eq 8, 3) := by decide +kernel
theorem dX7_scan_73 : decode cX7_scan 73 = .ok (.aload_n 0, 1) := by decide +kernel
theorem dX7_scan_74 : decode cX7_scan 74 = .ok (.iload_n 2, 1) := by decide +kernel
theorem dX7_scan_75 : decode cX7_scan 75 = .ok (.invokevirtual 57, 3) := by decide +kernel
theorem dX7_scan_78 : decode cX7_scan 78 = .ok (.iload_n 3, 1) := by decide +kernel
theorem dX7_scan_79 : decode cX7_scan 79 = .ok (.istore_n 1, 1) := by decide +kernel
theorem dX7_scan_80 : decode cX7_scan 80 = .ok (.iinc 2 1, 3) := by decide +kernel
theorem dX7_scan_83 : decode cX7_scan 83 = .ok (.goto (-59), 3) := by decide +kernel
theorem dX7_scan_86 : decode cX7_scan 86 = .ok (.aload_n 0, 1) := by decide +kernel
theorem dX7_scan_87 : decode cX7_scan 87 = .ok (.iconst 0, 1) := by decide +kernel
theorem dX7_scan_88 : decode cX7_scan 88 = .ok (.aload_n 0, 1) := by decide +kernel
theorem dX7_scan_89 : decode cX7_scan 89 = .ok (.getfield 24, 3) := by decide +kernel
theorem dX7_scan_92 : decode cX7_scan 92 = .ok (.getfield 41, 3) := by decide +kernel
theorem dX7_scan_95 : decode cX7_scan 95 = .ok (.invokevirtual 53, 3) := by decide +kernel
theorem dX7_scan_98 : decode cX7_scan 98 = .ok (.return_, 1) := by decide +kernel
def fX7_scan_L24 (K : Int32 → Int32 → Mm → Option Mm) : Nat → Int32 → Int32 → Mm → Option Mm
  | 0, _, _, _ => none
  | n + 1, v1, v2, M => if (M.1 (1, 0, 0) 1) ≤ v2 then K v1 v2 M else (fX1_at M 0 v2).bind fun q2 => if (fX7_kindOf M q2) = (3 : Int32) then ((fX7_putToken M (fX7_kindOf M q2) v2).bind fun q5 => if (fX7_kindOf M q2) = (4 : Int32) then fX7_scan_L24 K n (fX7_kindOf M q2) (v2 + (1 : Int32)) q5 else (fX7_lengthenToken q5 v2).bind fun q8 => fX7_scan_L24 K n (fX7_kindOf M q2) (v2 + (1 : Int32)) q8) else if (fX7_kindOf M q2) = (4 : Int32) then (if (fX7_kindOf M q2) = (4 : Int32) then fX7_scan_L24 K n (fX7_kindOf M q2) (v2 + (1 : Int32)) M else (fX7_lengthenToken M v2).bind fun q12 => fX7_scan_L24 K n (fX7_kindOf M q2) (v2 + (1 : Int32)) q12) else if (fX7_kindOf M q2) = v1 then (if (fX7_kindOf M q2) = (4 : Int32) then fX7_scan_L24 K n (fX7_kindOf M q2) (v2 + (1 : Int32)) M else (fX7_lengthenToken M v2).bind fun q16 => fX7_scan_L24 K n (fX7_kindOf M q2) (v2 + (1 : Int32)) q16) else (fX7_putToken M (fX7_kindOf M q2) v2).bind fun q18 => if (fX7_kindOf M q2) = (4 : Int32) then fX7_scan_L24 K n (fX7_kindOf M q2) (v2 + (1 : Int32)) q18 else (fX7_lengthenToken q18 v2).bind fun q21 => fX7_scan_L24 K n (fX7_kindOf M q2) (v2 + (1 : Int32)) q21
def fX7_scan (M : Mm) : Option Mm := fX7_scan_L24 (fun w23 w24 M25 => (fX7_putToken M25 (0 : Int32) (M25.1 (1, 0, 0) 1)).bind fun q26 => some q26) NF (4 : Int32) (0 : Int32) (putI (putI (putI (putI M (3, 0, 0) 7 (0 : Int32)) (3, 0, 0) 8 (-1 : Int32)) (3, 0, 0) 5 (0 : Int32)) (3, 0, 0) 6 (0 : Int32))
set_option maxRecDepth 20000 in
set_option maxHeartbeats 2000000 in
theorem sX7_scan_L24 {wv : Nat} {res : Mm} {K : Int32 → Int32 → Mm → Option Mm} : ∀ (n : Nat) (v1 : Int32) (v2 : Int32) (M : Mm), fX7_scan_L24 K n v1 v2 M = some res →
    (∀ (v1 : Int32) (v2 : Int32) (M : Mm), K v1 v2 M = some res → Z RX7 cX7_scan 4 none [] "scan" (rmD 2 0 0) (QM SH (allR wv) 0 0 (fun v M9 => v = none ∧ M9 = res) (fun _ _ => False)) (allR wv) SH 0 0 86 [some (.inr (3, 0, 0)), some (.inl (.int v1)), some (.inl (.int v2)), none] [] M) → Z RX7 cX7_scan 4 none [] "scan" (rmD 2 0 0) (QM SH (allR wv) 0 0 (fun v M9 => v = none ∧ M9 = res) (fun _ _ => False)) (allR wv) SH 0 0 24 [some (.inr (3, 0, 0)), some (.inl (.int v1)), some (.inl (.int v2)), none] [] M := by
  intro n
  induction n with
  | zero => intro v1 v2 M h; cases h
  | succ n ih =>
    intro v1 v2 M h hK
    rw [fX7_scan_L24] at h
    refine z_iload_n (i := 2) dX7_scan_24 rfl rfl ?_
    refine z_aload_n (i := 0) dX7_scan_25 rfl rfl ?_
    refine z_getR (r' := (1, 0, 0)) dX7_scan_26 fl_X7_24 mk3 rfl rfl ?_
    refine z_getI (x := (M.1 (1, 0, 0) 1)) dX7_scan_29 fl_X7_41 (m1 _ (Nat.le_of_ble_eq_true rfl)) rfl rfl ?_
    refine z_icmp_ge (tgt := 86) dX7_scan_32 rfl (fun hc1 => ?_) (fun hc1 => ?_)
    · have h := it_t h hc1
      exact hK _ _ _ h
    · have h := it_f h hc1
      refine z_aload_n (i := 0) dX7_scan_35 rfl rfl ?_
      refine z_getR (r' := (1, 0, 0)) dX7_scan_36 fl_X7_24 mk3 rfl rfl ?_
      refine z_iload_n (i := 2) dX7_scan_39 rfl rfl ?_
      obtain ⟨q2, hq3, h⟩ := bnd h
      refine z_fVi (sX1_at M 0 v2 (Nat.le_of_ble_eq_true rfl) hq3) dX7_scan_40 ml_X7_46 cd_X1_at (m1 _ (Nat.le_of_ble_eq_true rfl)) rfl rfl rfl rfl rfl rfl ?_
      refine z_fSi (sX7_kindOf M q2) dX7_scan_43 ml_X7_50 cd_X7_kindOf rfl rfl rfl rfl rfl ?_
      refine z_istore_n (i := 3) dX7_scan_46 rfl (Nat.le_of_ble_eq_true rfl) rfl ?_
      refine z_iload_n (i := 3) dX7_scan_47 rfl rfl ?_
      refine z_iconst (v := (3 : Int32)) dX7_scan_48 kc_3 ?_
      refine z_icmp_eq (tgt := 62) dX7_scan_49 rfl (fun hc4 => ?_) (fun hc4 => ?_)
      · have h := it_t h hc4
        refine z_aload_n (i := 0) dX7_scan_62 rfl rfl ?_
        refine z_iload_n (i := 3) dX7_scan_63 rfl rfl ?_
        refine z_iload_n (i := 2) dX7_scan_64 rfl rfl ?_
        obtain ⟨q5, hq6, h⟩ := bnd h
        refine z_fVv (sX7_putToken M (fX7_kindOf M q2) v2 hq6) dX7_scan_65 ml_X7_53 cd_X7_putToken mk3 rfl rfl rfl rfl rfl rfl ?_
        refine z_iload_n (i := 3) dX7_scan_68 rfl rfl ?_
        refine z_iconst (v := (4 : Int32)) dX7_scan_69 kc_4 ?_
        refine z_icmp_eq (tgt := 78) dX7_scan_70 rfl (fun hc7 => ?_) (fun hc7 => ?_)
        · have h := it_t h hc7
          refine z_iload_n (i := 3) dX7_scan_78 rfl rfl ?_
          refine z_istore_n (i := 1) dX7_scan_79 rfl (Nat.le_of_ble_eq_true rfl) rfl ?_
          refine z_iinc (i := 2) (v := (v2 + (1 : Int32))) dX7_scan_80 rfl (iinc_k kc_1) (Nat.le_of_ble_eq_true rfl) rfl ?_
          refine z_goto (tgt := 24) dX7_scan_83 rfl ?_
          refine z_fgt (i := 3) ?_
          exact ih _ _ _ h hK
        · have h := it_f h hc7
          refine z_aload_n (i := 0) dX7_scan_73 rfl rfl ?_
          refine z_iload_n (i := 2) dX7_scan_74 rfl rfl ?_
          obtain ⟨q8, hq9, h⟩ := bnd h
          refine z_fVv (sX7_lengthenToken q5 v2 hq9) dX7_scan_75 ml_X7_57 cd_X7_lengthenToken mk3 rfl rfl rfl rfl rfl rfl ?_
          refine z_iload_n (i := 3) dX7_scan_78 rfl rfl ?_
          refine z_istore_n (i := 1) dX7_scan_79 rfl (Nat.le_of_ble_eq_true rfl) rfl ?_
          refine z_iinc (i := 2) (v := (v2 + (1 : Int32))) dX7_scan_80 rfl (iinc_k kc_1) (Nat.le_of_ble_eq_true rfl) rfl ?_
          refine z_goto (tgt := 24) dX7_scan_83 rfl ?_
          refine z_fgt (i := 3) ?_
          exact ih _ _ _ h hK
      · have h := it_f h hc4
        refine z_iload_n (i := 3) dX7_scan_52 rfl rfl ?_
        refine z_iconst (v := (4 : Int32)) dX7_scan_53 kc_4 ?_
        refine z_icmp_eq (tgt := 68) dX7_scan_54 rfl (fun hc10 => ?_) (fun hc10 => ?_)
        · have h := it_t h hc10
          refine z_iload_n (i := 3) dX7_scan_68 rfl rfl ?_
          refine z_iconst (v := (4 : Int32)) dX7_scan_69 kc_4 ?_
          refine z_icmp_eq (tgt := 78) dX7_scan_70 rfl (fun hc11 => ?_) (fun hc11 => ?_)
          · have h := it_t h hc11
            refine z_iload_n (i := 3) dX7_scan_78 rfl rfl ?_
            refine z_istore_n (i := 1) dX7_scan_79 rfl (Nat.le_of_ble_eq_true rfl) rfl ?_
            refine z_iinc (i := 2) (v := (v2 + (1 : Int32))) dX7_scan_80 rfl (iinc_k kc_1) (Nat.le_of_ble_eq_true rfl) rfl ?_
            refine z_goto (tgt := 24) dX7_scan_83 rfl ?_
            refine z_fgt (i := 3) ?_
            exact ih _ _ _ h hK
          · have h := it_f h hc11
            refine z_aload_n (i := 0) dX7_scan_73 rfl rfl ?_
            refine z_iload_n (i := 2) dX7_scan_74 rfl rfl ?_
            obtain ⟨q12, hq13, h⟩ := bnd h
            refine z_fVv (sX7_lengthenToken M v2 hq13) dX7_scan_75 ml_X7_57 cd_X7_lengthenToken mk3 rfl rfl rfl rfl rfl rfl ?_
            refine z_iload_n (i := 3) dX7_scan_78 rfl rfl ?_
            refine z_istore_n (i := 1) dX7_scan_79 rfl (Nat.le_of_ble_eq_true rfl) rfl ?_
            refine z_iinc (i := 2) (v := (v2 + (1 : Int32))) dX7_scan_80 rfl (iinc_k kc_1) (Nat.le_of_ble_eq_true rfl) rfl ?_
            refine z_goto (tgt := 24) dX7_scan_83 rfl ?_
            refine z_fgt (i := 3) ?_
            exact ih _ _ _ h hK
        · have h := it_f h hc10
          refine z_iload_n (i := 3) dX7_scan_57 rfl rfl ?_
          refine z_iload_n (i := 1) dX7_scan_58 rfl rfl ?_
          refine z_icmp_eq (tgt := 68) dX7_scan_59 rfl (fun hc14 => ?_) (fun hc14 => ?_)
          · have h := it_t h hc14
            refine z_iload_n (i := 3) dX7_scan_68 rfl rfl ?_
            refine z_iconst (v := (4 : Int32)) dX7_scan_69 kc_4 ?_
            refine z_icmp_eq (tgt := 78) dX7_scan_70 rfl (fun hc15 => ?_) (fun hc15 => ?_)
            · have h := it_t h hc15
              refine z_iload_n (i := 3) dX7_scan_78 rfl rfl ?_
              refine z_istore_n (i := 1) dX7_scan_79 rfl (Nat.le_of_ble_eq_true rfl) rfl ?_
              refine z_iinc (i := 2) (v := (v2 + (1 : Int32))) dX7_scan_80 rfl (iinc_k kc_1) (Nat.le_of_ble_eq_true rfl) rfl ?_
              refine z_goto (tgt := 24) dX7_scan_83 rfl ?_
              refine z_fgt (i := 3) ?_
              exact ih _ _ _ h hK
            · have h := it_f h hc15
              refine z_aload_n (i := 0) dX7_scan_73 rfl rfl ?_
              refine z_iload_n (i := 2) dX7_scan_74 rfl rfl ?_
              obtain ⟨q16, hq17, h⟩ := bnd h
              refine z_fVv (sX7_lengthenToken M v2 hq17) dX7_scan_75 ml_X7_57 cd_X7_lengthenToken mk3 rfl rfl rfl rfl rfl rfl ?_
              refine z_iload_n (i := 3) dX7_scan_78 rfl rfl ?_
              refine z_istore_n (i := 1) dX7_scan_79 rfl (Nat.le_of_ble_eq_true rfl) rfl ?_
              refine z_iinc (i := 2) (v := (v2 + (1 : Int32))) dX7_scan_80 rfl (iinc_k kc_1) (Nat.le_of_ble_eq_true rfl) rfl ?_
              refine z_goto (tgt := 24) dX7_scan_83 rfl ?_
              refine z_fgt (i := 3) ?_
              exact ih _ _ _ h hK
          · have h := it_f h hc14
            refine z_aload_n (i := 0) dX7_scan_62 rfl rfl ?_
            refine z_iload_n (i := 3) dX7_scan_63 rfl rfl ?_
            refine z_iload_n (i := 2) dX7_scan_64 rfl rfl ?_
            obtain ⟨q18, hq19, h⟩ := bnd h
            refine z_fVv (sX7_putToken M (fX7_kindOf M q2) v2 hq19) dX7_scan_65 ml_X7_53 cd_X7_putToken mk3 rfl rfl rfl rfl rfl rfl ?_
            refine z_iload_n (i := 3) dX7_scan_68 rfl rfl ?_
            refine z_iconst (v := (4 : Int32)) dX7_scan_69 kc_4 ?_
            refine z_icmp_eq (tgt := 78) dX7_scan_70 rfl (fun hc20 => ?_) (fun hc20 => ?_)
            · have h := it_t h hc20
              refine z_iload_n (i := 3) dX7_scan_78 rfl rfl ?_
              refine z_istore_n (i := 1) dX7_scan_79 rfl (Nat.le_of_ble_eq_true rfl) rfl ?_
              refine z_iinc (i := 2) (v := (v2 + (1 : Int32))) dX7_scan_80 rfl (iinc_k kc_1) (Nat.le_of_ble_eq_true rfl) rfl ?_
              refine z_goto (tgt := 24) dX7_scan_83 rfl ?_
              refine z_fgt (i := 3) ?_
              exact ih _ _ _ h hK
            · have h := it_f h hc20
              refine z_aload_n (i := 0) dX7_scan_73 rfl rfl ?_
              refine z_iload_n (i := 2) dX7_scan_74 rfl rfl ?_
              obtain ⟨q21, hq22, h⟩ := bnd h
              refine z_fVv (sX7_lengthenToken q18 v2 hq22) dX7_scan_75 ml_X7_57 cd_X7_lengthenToken mk3 rfl rfl rfl rfl rfl rfl ?_
              refine z_iload_n (i := 3) dX7_scan_78 rfl rfl ?_
              refine z_istore_n (i := 1) dX7_scan_79 rfl (Nat.le_of_ble_eq_true rfl) rfl ?_
              refine z_iinc (i := 2) (v := (v2 + (1 : Int32))) dX7_scan_80 rfl (iinc_k kc_1) (Nat.le_of_ble_eq_true rfl) rfl ?_
              refine z_goto (tgt := 24) dX7_scan_83 rfl ?_
              refine z_fgt (i := 3) ?_
              exact ih _ _ _ h hK
set_option maxRecDepth 20000 in
set_option maxHeartbeats 2000000 in
theorem sX7_scan {wv : Nat} (M : Mm) {res : Mm} (h : fX7_scan M  = some res) : TF wv yX7_scan cX7_scan 4 none 2 [.inr (3, 0, 0)] M (none) res := by
  rw [fX7_scan] at h
  refine TF.go (n := 3) (ls := [some (.inr (3, 0, 0)), none, none, none]) rfl rfl rfl rfl rfl ?_
  refine z_aload_n (i := 0) dX7_scan_0 rfl rfl ?_
  refine z_iconst (v := (0 : Int32)) dX7_scan_1 kc_0 ?_
  refine z_putI allR_nd dX7_scan_2 fl_X7_32 mk3 rfl rfl ?_
  refine z_aload_n (i := 0) dX7_scan_5 rfl rfl ?_
  refine z_iconst (v := (-1 : Int32)) dX7_scan_6 kc_m1 ?_
  refine z_putI allR_nd dX7_scan_7 fl_X7_28 mk3 rfl rfl ?_
  refine z_aload_n (i := 0) dX7_scan_10 rfl rfl ?_
  refine z_iconst (v := (0 : Int32)) dX7_scan_11 kc_0 ?_
  refine z_putI allR_nd dX7_scan_12 fl_X7_35 mk3 rfl rfl ?_
  refine z_aload_n (i := 0) dX7_scan_15 rfl rfl ?_
  refine z_iconst (v := (0 : Int32)) dX7_scan_16 kc_0 ?_
  refine z_putI allR_nd dX7_scan_17 fl_X7_38 mk3 rfl rfl ?_
  refine z_iconst (v := (4 : Int32)) dX7_scan_20 kc_4 ?_
  refine z_istore_n (i := 1) dX7_scan_21 rfl (Nat.le_of_ble_eq_true rfl) rfl ?_
  refine z_iconst (v := (0 : Int32)) dX7_scan_22 kc_0 ?_
  refine z_istore_n (i := 2) dX7_scan_23 rfl (Nat.le_of_ble_eq_true rfl) rfl ?_
  refine sX7_scan_L24  NF _ _ _ h (fun w23 w24 M25 h => ?_)
  refine z_aload_n (i := 0) dX7_scan_86 rfl rfl ?_
  refine z_iconst (v := (0 : Int32)) dX7_scan_87 kc_0 ?_
  refine z_aload_n (i := 0) dX7_scan_88 rfl rfl ?_
  refine z_getR (r' := (1, 0, 0)) dX7_scan_89 fl_X7_24 mk3 rfl rfl ?_
  refine z_getI (x := (M25.1 (1, 0, 0) 1)) dX7_scan_92 fl_X7_41 (m1 _ (Nat.le_of_ble_eq_true rfl)) rfl rfl ?_
  obtain ⟨q26, hq27, h⟩ := bnd h
  refine z_fVv (sX7_putToken M25 (0 : Int32) (M25.1 (1, 0, 0) 1) hq27) dX7_scan_95 ml_X7_53 cd_X7_putToken mk3 rfl rfl rfl rfl rfl rfl ?_
  cases h
  exact z_vret dX7_scan_98 rfl (Nat.le_refl _) (Nat.le_refl _) ⟨rfl, rfl⟩
theorem dX7_atAnyWord_0 : decode cX7_atAnyWord 0 = .ok (.aload_n 0, 1) := by decide +kernel
theorem dX7_atAnyWord_1 : decode cX7_atAnyWord 1 = .ok (.getfield 9, 3) := by decide +kernel
theorem dX7_atAnyWord_4 : decode cX7_atAnyWord 4 = .ok (.aload_n 0, 1) := by decide +kernel
theorem dX7_atAnyWord_5 : decode cX7_atAnyWord 5 = .ok (.getfield 38, 3) := by decide +kernel
theorem dX7_atAnyWord_8 : decode cX7_atAnyWord 8 = .ok (.iaload, 1) := by decide +kernel
theorem dX7_atAnyWord_9 : decode cX7_atAnyWord 9 = .ok (.iconst 1, 1) := by decide +kernel
theorem dX7_atAnyWord_10 : decode cX7_atAnyWord 10 = .ok (.if_icmp .ne 7, 3) := by decide +kernel
theorem dX7_atAnyWord_13 : decode cX7_atAnyWord 13 = .ok (.iconst 1, 1) := by decide +kernel
theorem dX7_atAnyWord_14 : decode cX7_atAnyWord 14 = .ok (.goto 4, 3) := by decide +kernel
theorem dX7_atAnyWord_17 : decode cX7_atAnyWord 17 = .ok (.iconst 0, 1) := by decide +kernel
theorem dX7_atAnyWord_18 : decode cX7_atAnyWord 18 = .ok (.ireturn, 1) := by decide +kernel
def fX7_atAnyWord (M : Mm) : Option Int32 := if (M.1 (3, 0, 0) 6) < 0 ∨ 801 ≤ (M.1 (3, 0, 0) 6).toNatClampNeg then none else if (M.1 (4, 0, 0) (M.1 (3, 0, 0) 6).toNatClampNeg) = (1 : Int32) then some (1 : Int32) else some (0 : Int32)
set_option maxRecDepth 20000 in
set_option maxHeartbeats 2000000 in
theorem sX7_atAnyWord {wv : Nat} (M : Mm) {res : Int32} (h : fX7_atAnyWord M  = some res) : TF wv yX7_atAnyWord cX7_atAnyWord 1 (some .boolean) 0 [.inr (3, 0, 0)] M (some (.int res)) M := by
  rw [fX7_atAnyWord] at h
  refine TF.go (n := 0) (ls := [some (.inr (3, 0, 0))]) rfl rfl rfl rfl rfl ?_
  refine z_aload_n (i := 0) dX7_atAnyWord_0 rfl rfl ?_
  refine z_getR (r' := (4, 0, 0)) dX7_atAnyWord_1 fl_X7_9 mk3 rfl rfl ?_
  refine z_aload_n (i := 0) dX7_atAnyWord_4 rfl rfl ?_
  refine z_getI (x := (M.1 (3, 0, 0) 6)) dX7_atAnyWord_5 fl_X7_38 mk3 rfl rfl ?_
  obtain ⟨hc1, h⟩ := chk h
  refine z_iald (x := (M.1 (4, 0, 0) (M.1 (3, 0, 0) 6).toNatClampNeg)) dX7_atAnyWord_8 (m4 _ (Nat.le_of_ble_eq_true rfl)) rfl hc1 rfl ?_
  refine z_iconst (v := (1 : Int32)) dX7_atAnyWord_9 kc_1 ?_
  refine z_icmp_ne (tgt := 17) dX7_atAnyWord_10 rfl (fun hc2 => ?_) (fun hc2 => ?_)
  · have h := it_f h hc2
    refine z_iconst (v := (0 : Int32)) dX7_atAnyWord_17 kc_0 ?_
    cases h
    exact z_iret dX7_atAnyWord_18 rfl rfl (Nat.le_refl _) (Nat.le_refl _) ⟨rfl, rfl⟩
  · have h := it_t h hc2
    refine z_iconst (v := (1 : Int32)) dX7_atAnyWord_13 kc_1 ?_
    refine z_goto (tgt := 18) dX7_atAnyWord_14 rfl ?_
    cases h
    exact z_iret dX7_atAnyWord_18 rfl rfl (Nat.le_refl _) (Nat.le_refl _) ⟨rfl, rfl⟩
theorem dX7_atWord_0 : decode cX7_atWord 0 = .ok (.aload_n 0, 1) := by decide +kernel
theorem dX7_atWord_1 : decode cX7_atWord 1 = .ok (.getfield 15, 3) := by decide +kernel
theorem dX7_atWord_4 : decode cX7_atWord 4 = .ok (.aload_n 0, 1) := by decide +kernel
theorem dX7_atWord_5 : decode cX7_atWord 5 = .ok (.getfield 38, 3) := by decide +kernel
theorem dX7_atWord_8 : decode cX7_atWord 8 = .ok (.iaload, 1) := by decide +kernel
theorem dX7_atWord_9 : decode cX7_atWord 9 = .ok (.istore_n 2, 1) := by decide +kernel
theorem dX7_atWord_10 : decode cX7_atWord 10 = .ok (.aload_n 0, 1) := by decide +kernel
theorem dX7_atWord_11 : decode cX7_atWord 11 = .ok (.getfield 9, 3) := by decide +kernel
theorem dX7_atWord_14 : decode cX7_atWord 14 = .ok (.aload_n 0, 1) := by decide +kernel
theorem dX7_atWord_15 : decode cX7_atWord 15 = .ok (.getfield 38, 3) := by decide +kernel
theorem dX7_atWord_18 : decode cX7_atWord 18 = .ok (.iaload, 1) := by decide +kernel
theorem dX7_atWord_19 : decode cX7_atWord 19 = .ok (.iconst 1, 1) := by decide +kernel
theorem dX7_atWord_20 : decode cX7_atWord 20 = .ok (.if_icmp .ne 21, 3) := by decide +kernel
theorem dX7_atWord_23 : decode cX7_atWord 23 = .ok (.aload_n 0, 1) := by decide +kernel
theorem dX7_atWord_24 : decode cX7_atWord 24 = .ok (.getfield 18, 3) := by decide +kernel
theorem dX7_atWord_27 : decode cX7_atWord 27 = .ok (.aload_n 0, 1) := by decide +kernel
theorem dX7_atWord_28 : decode cX7_atWord 28 = .ok (.getfield 38, 3) := by decide +kernel
theorem dX7_atWord_31 : decode cX7_atWord 31 = .ok (.iaload, 1) := by decide +kernel
theorem dX7_atWord_32 : decode cX7_atWord 32 = .ok (.iload_n 2, 1) := by decide +kernel
theorem dX7_atWord_33 : decode cX7_atWord 33 = .ok (.isub, 1) := by decide +kernel
theorem dX7_atWord_34 : decode cX7_atWord 34 = .ok (.aload_n 1, 1) := by decide +kernel
theorem dX7_atWord_35 : decode cX7_atWord 35 = .ok (.invokevirtual 68, 3) := by decide +kernel
theorem dX7_atWord_38 : decode cX7_atWord 38 = .ok (.if_icmp .eq 5, 3) := by decide +kernel
theorem dX7_atWord_41 : decode cX7_atWord 41 = .ok (.iconst 0, 1) := by decide +kernel
theorem dX7_atWord_42 : decode cX7_atWord 42 = .ok (.ireturn, 1) := by decide +kernel
theorem dX7_atWord_43 : decode cX7_atWord 43 = .ok (.iconst 0, 1) := by decide +kernel
theorem dX7_atWord_44 : decode cX7_atWord 44 = .ok (.istore_n 3, 1) := by decide +kernel
theorem dX7_atWord_45 : decode cX7_atWord 45 = .ok (.iload_n 3, 1) := by decide +kernel
theorem dX7_atWord_46 : decode cX7_atWord 46 = .ok (.aload_n 1, 1) := by decide +kernel
theorem dX7_atWord_47 : decode cX7_atWord 47 = .ok (.invokevirtual 68, 3) := by decide +kernel
theorem dX7_atWord_50 : decode cX7_atWord 50 = .ok (.if_icmp .ge 29, 3) := by decide +kernel
theorem dX7_atWord_53 : decode cX7_atWord 53 = .ok (.aload_n 0, 1) := by decide +kernel
theorem dX7_atWord_54 : decode cX7_atWord 54 = .ok (.getfield 24, 3) := by decide +kernel
theorem dX7_atWord_57 : decode cX7_atWord 57 = .ok (.iload_n 2, 1) := by decide +kernel
theorem dX7_atWord_58 : decode cX7_atWord 58 = .ok (.iload_n 3, 1) := by decide +kernel
theorem dX7_atWord_59 : decode cX7_atWord 59 = .ok (.iadd, 1) := by decide +kernel
theorem dX7_atWord_60 : decode cX7_atWord 60 = .ok (.invokevirtual 46, 3) := by decide +kernel
theorem dX7_atWord_63 : decode cX7_atWord 63 = .ok (.aload_n 1, 1) := by decide +kernel
theorem dX7_atWord_64 : decode cX7_atWord 64 = .ok (.iload_n 3, 1) := by decide +kernel
theorem dX7_atWord_65 : decode cX7_atWord 65 = .ok (.invokevirtual 73, 3) := by decide +kernel
theorem dX7_atWord_68 : decode cX7_atWord 68 = .ok (.if_icmp .eq 5, 3) := by decide +kernel
theorem dX7_atWord_71 : decode cX7_atWord 71 = .ok (.iconst 0, 1) := by decide +kernel
theorem dX7_atWord_72 : decode cX7_atWord 72 = .ok (.ireturn, 1) := by decide +kernel
theorem dX7_atWord_73 : decode cX7_atWord 73 = .ok (.iinc 3 1, 3) := by decide +kernel
theorem dX7_atWord_76 : decode cX7_atWord 76 = .ok (.goto (-31), 3) := by decide +kernel
theorem dX7_atWord_79 : decode cX7_atWord 79 = .ok (.iconst 1, 1) := by decide +kernel
theorem dX7_atWord_80 : decode cX7_atWord 80 = .ok (.ireturn, 1) := by decide +kernel
def fX7_atWord_L45 (M : Mm) (j1 : Nat) (c2 : Int32) (K : Int32 → Option Int32) : Nat → Int32 → Option Int32
  | 0, _ => none
  | n + 1, v3 => if (slen j1) ≤ v3 then K v3 else (fX1_at M 0 (c2 + v3)).bind fun q7 => (sch j1 v3).bind fun q9 => if q7 = q9 then fX7_atWord_L45 M j1 c2 K n (v3 + (1 : Int32)) else some (0 : Int32)
def fX7_atWord (M : Mm) (j1 : Nat) : Option Int32 := if (M.1 (3, 0, 0) 6) < 0 ∨ 801 ≤ (M.1 (3, 0, 0) 6).toNatClampNeg then none else if (M.1 (3, 0, 0) 6) < 0 ∨ 801 ≤ (M.1 (3, 0, 0) 6).toNatClampNeg then none else if (M.1 (4, 0, 0) (M.1 (3, 0, 0) 6).toNatClampNeg) = (1 : Int32) then (if (M.1 (3, 0, 0) 6) < 0 ∨ 801 ≤ (M.1 (3, 0, 0) 6).toNatClampNeg then none else if ((M.1 (4, 2, 0) (M.1 (3, 0, 0) 6).toNatClampNeg) - (M.1 (4, 1, 0) (M.1 (3, 0, 0) 6).toNatClampNeg)) = (slen j1) then (fX7_atWord_L45 M j1 (M.1 (4, 1, 0) (M.1 (3, 0, 0) 6).toNatClampNeg) (fun w12 => some (1 : Int32)) NF (0 : Int32)) else some (0 : Int32)) else some (0 : Int32)
set_option maxRecDepth 20000 in
set_option maxHeartbeats 2000000 in
theorem sX7_atWord_L45 {wv : Nat} (M : Mm) (j1 : Nat) (c2 : Int32) (hj1 : j1 < 22) {res : Int32} {K : Int32 → Option Int32} : ∀ (n : Nat) (v3 : Int32), fX7_atWord_L45 M j1 c2 K n v3 = some res →
    (∀ (v3 : Int32), K v3 = some res → Z RX7 cX7_atWord 4 (some .boolean) [] "atWord" (rmD 7 0 0) (QM SH (allR wv) 0 0 (fun v M9 => v = some (.int res) ∧ M9 = M) (fun _ _ => False)) (allR wv) SH 0 0 79 [some (.inr (3, 0, 0)), some (.inr (30, j1, 0)), some (.inl (.int c2)), some (.inl (.int v3))] [] M) → Z RX7 cX7_atWord 4 (some .boolean) [] "atWord" (rmD 7 0 0) (QM SH (allR wv) 0 0 (fun v M9 => v = some (.int res) ∧ M9 = M) (fun _ _ => False)) (allR wv) SH 0 0 45 [some (.inr (3, 0, 0)), some (.inr (30, j1, 0)), some (.inl (.int c2)), some (.inl (.int v3))] [] M := by
  intro n
  induction n with
  | zero => intro v3 h; cases h
  | succ n ih =>
    intro v3 h hK
    rw [fX7_atWord_L45] at h
    refine z_iload_n (i := 3) dX7_atWord_45 rfl rfl ?_
    refine z_aload_n (i := 1) dX7_atWord_46 rfl rfl ?_
    refine z_fTi (S_length M j1 hj1) dX7_atWord_47 ml_X7_68 cd_J0_length_8abf5 hj1 rfl rfl rfl rfl rfl ?_
    refine z_icmp_ge (tgt := 79) dX7_atWord_50 rfl (fun hc6 => ?_) (fun hc6 => ?_)
    · have h := it_t h hc6
      exact hK _ h
    · have h := it_f h hc6
      refine z_aload_n (i := 0) dX7_atWord_53 rfl rfl ?_
      refine z_getR (r' := (1, 0, 0)) dX7_atWord_54 fl_X7_24 mk3 rfl rfl ?_
      refine z_iload_n (i := 2) dX7_atWord_57 rfl rfl ?_
      refine z_iload_n (i := 3) dX7_atWord_58 rfl rfl ?_
      refine z_iadd dX7_atWord_59 ?_
      obtain ⟨q7, hq8, h⟩ := bnd h
      refine z_fVi (sX1_at M 0 (c2 + v3) (Nat.le_of_ble_eq_true rfl) hq8) dX7_atWord_60 ml_X7_46 cd_X1_at (m1 _ (Nat.le_of_ble_eq_true rfl)) rfl rfl rfl rfl rfl rfl ?_
      refine z_aload_n (i := 1) dX7_atWord_63 rfl rfl ?_
      refine z_iload_n (i := 3) dX7_atWord_64 rfl rfl ?_
      obtain ⟨q9, hq10, h⟩ := bnd h
      refine z_fTi (S_charAt M j1 v3 hj1 hq10) dX7_atWord_65 ml_X7_73 cd_J0_charAt_5068e hj1 rfl rfl rfl rfl rfl ?_
      refine z_icmp_eq (tgt := 73) dX7_atWord_68 rfl (fun hc11 => ?_) (fun hc11 => ?_)
      · have h := it_t h hc11
        refine z_iinc (i := 3) (v := (v3 + (1 : Int32))) dX7_atWord_73 rfl (iinc_k kc_1) (Nat.le_of_ble_eq_true rfl) rfl ?_
        refine z_goto (tgt := 45) dX7_atWord_76 rfl ?_
        exact ih _ h hK
      · have h := it_f h hc11
        refine z_iconst (v := (0 : Int32)) dX7_atWord_71 kc_0 ?_
        cases h
        exact z_iret dX7_atWord_72 rfl rfl (Nat.le_refl _) (Nat.le_refl _) ⟨rfl, rfl⟩
set_option maxRecDepth 20000 in
set_option maxHeartbeats 2000000 in
theorem sX7_atWord {wv : Nat} (M : Mm) (j1 : Nat) (hj1 : j1 < 22) {res : Int32} (h : fX7_atWord M j1 = some res) : TF wv yX7_atWord cX7_atWord 4 (some .boolean) 7 [.inr (3, 0, 0), .inr (30, j1, 0)] M (some (.int res)) M := by
  rw [fX7_atWord] at h
  refine TF.go (n := 2) (ls := [some (.inr (3, 0, 0)), some (.inr (30, j1, 0)), none, none]) rfl rfl rfl rfl rfl ?_
  refine z_aload_n (i := 0) dX7_atWord_0 rfl rfl ?_
  refine z_getR (r' := (4, 1, 0)) dX7_atWord_1 fl_X7_15 mk3 rfl rfl ?_
  refine z_aload_n (i := 0) dX7_atWord_4 rfl rfl ?_
  refine z_getI (x := (M.1 (3, 0, 0) 6)) dX7_atWord_5 fl_X7_38 mk3 rfl rfl ?_
  obtain ⟨hc1, h⟩ := chk h
  refine z_iald (x := (M.1 (4, 1, 0) (M.1 (3, 0, 0) 6).toNatClampNeg)) dX7_atWord_8 (m4 _ (Nat.le_of_ble_eq_true rfl)) rfl hc1 rfl ?_
  refine z_istore_n (i := 2) dX7_atWord_9 rfl (Nat.le_of_ble_eq_true rfl) rfl ?_
  refine z_aload_n (i := 0) dX7_atWord_10 rfl rfl ?_
  refine z_getR (r' := (4, 0, 0)) dX7_atWord_11 fl_X7_9 mk3 rfl rfl ?_
  refine z_aload_n (i := 0) dX7_atWord_14 rfl rfl ?_
  refine z_getI (x := (M.1 (3, 0, 0) 6)) dX7_atWord_15 fl_X7_38 mk3 rfl rfl ?_
  obtain ⟨hc2, h⟩ := chk h
  refine z_iald (x := (M.1 (4, 0, 0) (M.1 (3, 0, 0) 6).toNatClampNeg)) dX7_atWord_18 (m4 _ (Nat.le_of_ble_eq_true rfl)) rfl hc2 rfl ?_
  refine z_iconst (v := (1 : Int32)) dX7_atWord_19 kc_1 ?_
  refine z_icmp_ne (tgt := 41) dX7_atWord_20 rfl (fun hc3 => ?_) (fun hc3 => ?_)
  · have h := it_f h hc3
    refine z_iconst (v := (0 : Int32)) dX7_atWord_41 kc_0 ?_
    cases h
    exact z_iret dX7_atWord_42 rfl rfl (Nat.le_refl _) (Nat.le_refl _) ⟨rfl, rfl⟩
  · have h := it_t h hc3
    refine z_aload_n (i := 0) dX7_atWord_23 rfl rfl ?_
    refine z_getR (r' := (4, 2, 0)) dX7_atWord_24 fl_X7_18 mk3 rfl rfl ?_
    refine z_aload_n (i := 0) dX7_atWord_27 rfl rfl ?_
    refine z_getI (x := (M.1 (3, 0, 0) 6)) dX7_atWord_28 fl_X7_38 mk3 rfl rfl ?_
    obtain ⟨hc4, h⟩ := chk h
    refine z_iald (x := (M.1 (4, 2, 0) (M.1 (3, 0, 0) 6).toNatClampNeg)) dX7_atWord_31 (m4 _ (Nat.le_of_ble_eq_true rfl)) rfl hc4 rfl ?_
    refine z_iload_n (i := 2) dX7_atWord_32 rfl rfl ?_
    refine z_isub dX7_atWord_33 ?_
    refine z_aload_n (i := 1) dX7_atWord_34 rfl rfl ?_
    refine z_fTi (S_length M j1 hj1) dX7_atWord_35 ml_X7_68 cd_J0_length_8abf5 hj1 rfl rfl rfl rfl rfl ?_
    refine z_icmp_eq (tgt := 43) dX7_atWord_38 rfl (fun hc5 => ?_) (fun hc5 => ?_)
    · have h := it_t h hc5
      refine z_iconst (v := (0 : Int32)) dX7_atWord_43 kc_0 ?_
      refine z_istore_n (i := 3) dX7_atWord_44 rfl (Nat.le_of_ble_eq_true rfl) rfl ?_
      refine sX7_atWord_L45 M j1 (M.1 (4, 1, 0) (M.1 (3, 0, 0) 6).toNatClampNeg) hj1 NF _ h (fun w12 h => ?_)
      refine z_iconst (v := (1 : Int32)) dX7_atWord_79 kc_1 ?_
      cases h
      exact z_iret dX7_atWord_80 rfl rfl (Nat.le_refl _) (Nat.le_refl _) ⟨rfl, rfl⟩
    · have h := it_f h hc5
      refine z_iconst (v := (0 : Int32)) dX7_atWord_41 kc_0 ?_
      cases h
      exact z_iret dX7_atWord_42 rfl rfl (Nat.le_refl _) (Nat.le_refl _) ⟨rfl, rfl⟩
theorem dX5_kindHere_0 : decode cX5_kindHere 0 = .ok (.aload_n 0, 1) := by decide +kernel
theorem dX5_kindHere_1 : decode cX5_kindHere 1 = .ok (.getfield 9, 3) := by decide +kernel
theorem dX5_kindHere_4 : decode cX5_kindHere 4 = .ok (.ldc 80, 2) := by decide +kernel
theorem dX5_kindHere_6 : decode cX5_kindHere 6 = .ok (.invokevirtual 82, 3) := by decide +kernel
theorem dX5_kindHere_9 : decode cX5_kindHere 9 = .ok (.ifCond .eq 5, 3) := by decide +kernel
theorem dX5_kindHere_12 : decode cX5_kindHere 12 = .ok (.iconst 0, 1) := by decide +kernel
theorem dX5_kindHere_13 : decode cX5_kindHere 13 = .ok (.ireturn, 1) := by decide +kernel
theorem dX5_kindHere_14 : decode cX5_kindHere 14 = .ok (.aload_n 0, 1) := by decide +kernel
theorem dX5_kindHere_15 : decode cX5_kindHere 15 = .ok (.getfield 9, 3) := by decide +kernel
theorem dX5_kindHere_18 : decode cX5_kindHere 18 = .ok (.ldc 86, 2) := by decide +kernel
theorem dX5_kindHere_20 : decode cX5_kindHere 20 = .ok (.invokevirtual 82, 3) := by decide +kernel
theorem dX5_kindHere_23 : decode cX5_kindHere 23 = .ok (.ifCond .eq 5, 3) := by decide +kernel
theorem dX5_kindHere_26 : decode cX5_kindHere 26 = .ok (.iconst 1, 1) := by decide +kernel
theorem dX5_kindHere_27 : decode cX5_kindHere 27 = .ok (.ireturn, 1) := by decide +kernel
theorem dX5_kindHere_28 : decode cX5_kindHere 28 = .ok (.aload_n 0, 1) := by decide +kernel
theorem dX5_kindHere_29 : decode cX5_kindHere 29 = .ok (.getfield 9, 3) := by decide +kernel
theorem dX5_kindHere_32 : decode cX5_kindHere 32 = .ok (.ldc 88, 2) := by decide +kernel
theorem dX5_kindHere_34 : decode cX5_kindHere 34 = .ok (.invokevirtual 82, 3) := by decide +kernel
theorem dX5_kindHere_37 : decode cX5_kindHere 37 = .ok (.ifCond .eq 5, 3) := by decide +kernel
theorem dX5_kindHere_40 : decode cX5_kindHere 40 = .ok (.iconst 2, 1) := by decide +kernel
theorem dX5_kindHere_41 : decode cX5_kindHere 41 = .ok (.ireturn, 1) := by decide +kernel
theorem dX5_kindHere_42 : decode cX5_kindHere 42 = .ok (.aload_n 0, 1) := by decide +kernel
theorem dX5_kindHere_43 : decode cX5_kindHere 43 = .ok (.getfield 9, 3) := by decide +kernel
theorem dX5_kindHere_46 : decode cX5_kindHere 46 = .ok (.ldc 90, 2) := by decide +kernel
theorem dX5_kindHere_48 : decode cX5_kindHere 48 = .ok (.invokevirtual 82, 3) := by decide +kernel
theorem dX5_kindHere_51 : decode cX5_kindHere 51 = .ok (.ifCond .eq 5, 3) := by decide +kernel
theorem dX5_kindHere_54 : decode cX5_kindHere 54 = .ok (.iconst 3, 1) := by decide +kernel
theorem dX5_kindHere_55 : decode cX5_kindHere 55 = .ok (.ireturn, 1) := by decide +kernel
theorem dX5_kindHere_56 : decode cX5_kindHere 56 = .ok (.aload_n 0, 1) := by decide +kernel
theorem dX5_kindHere_57 : decode cX5_kindHere 57 = .ok (.getfield 9, 3) := by decide +kernel
theorem dX5_kindHere_60 : decode cX5_kindHere 60 = .ok (.ldc 92, 2) := by decide +kernel
theorem dX5_kindHere_62 : decode cX5_kindHere 62 = .ok (.invokevirtual 82, 3) := by decide +kernel
theorem dX5_kindHere_65 : decode cX5_kindHere 65 = .ok (.ifCond .eq 5, 3) := by decide +kernel
theorem dX5_kindHere_68 : decode cX5_kindHere 68 = .ok (.iconst 4, 1) := by decide +kernel
theorem dX5_kindHere_69 : decode cX5_kindHere 69 = .ok (.ireturn, 1) := by decide +kernel
theorem dX5_kindHere_70 : decode cX5_kindHere 70 = .ok (.aload_n 0, 1) := by decide +kernel
theorem dX5_kindHere_71 : decode cX5_kindHere 71 = .ok (.getfield 9, 3) := by decide +kernel
theorem dX5_kindHere_74 : decode cX5_kindHere 74 = .ok (.ldc 94, 2) := by decide +kernel
theorem dX5_kindHere_76 : decode cX5_kindHere 76 = .ok (.invokevirtual 82, 3) := by decide +kernel
theorem dX5_kindHere_79 : decode cX5_kindHere 79 = .ok (.ifCond .eq 5, 3) := by decide +kernel
theorem dX5_kindHere_82 : decode cX5_kindHere 82 = .ok (.iconst 5, 1) := by decide +kernel
theorem dX5_kindHere_83 : decode cX5_kindHere 83 = .ok (.ireturn, 1) := by decide +kernel
theorem dX5_kindHere_84 : decode cX5_kindHere 84 = .ok (.aload_n 0, 1) := by decide +kernel
theorem dX5_kindHere_85 : decode cX5_kindHere 85 = .ok (.getfield 9, 3) := by decide +kernel
theorem dX5_kindHere_88 : decode cX5_kindHere 88 = .ok (.ldc 96, 2) := by decide +kernel
theorem dX5_kindHere_90 : decode cX5_kindHere 90 = .ok (.invokevirtual 82, 3) := by decide +kernel
theorem dX5_kindHere_93 : decode cX5_kindHere 93 = .ok (.ifCond .eq 6, 3) := by decide +kernel
theorem dX5_kindHere_96 : decode cX5_kindHere 96 = .ok (.bipush 6, 2) := by decide +kernel
theorem dX5_kindHere_98 : decode cX5_kindHere 98 = .ok (.ireturn, 1) := by decide +kernel
theorem dX5_kindHere_99 : decode cX5_kindHere 99 = .ok (.aload_n 0, 1) := by decide +kernel
theorem dX5_kindHere_100 : decode cX5_kindHere 100 = .ok (.getfield 9, 3) := by decide +kernel
theorem dX5_kindHere_103 : decode cX5_kindHere 103 = .ok (.ldc 98, 2) := by decide +kernel
theorem dX5_kindHere_105 : decode cX5_kindHere 105 = .ok (.invokevirtual 82, 3) := by decide +kernel
theorem dX5_kindHere_108 : decode cX5_kindHere 108 = .ok (.ifCond .eq 6, 3) := by decide +kernel
theorem dX5_kindHere_111 : decode cX5_kindHere 111 = .ok (.bipush 7, 2) := by decide +kernel
theorem dX5_kindHere_113 : decode cX5_kindHere 113 = .ok (.ireturn, 1) := by decide +kernel
theorem dX5_kindHere_114 : decode cX5_kindHere 114 = .ok (.aload_n 0, 1) := by decide +kernel
theorem dX5_kindHere_115 : decode cX5_kindHere 115 = .ok (.getfield 9, 3) := by decide +kernel
theorem dX5_kindHere_118 : decode cX5_kindHere 118 = .ok (.ldc 100, 2) := by decide +kernel
theorem dX5_kindHere_120 : decode cX5_kindHere 120 = .ok (.invokevirtual 82, 3) := by decide +kernel
theorem dX5_kindHere_123 : decode cX5_kindHere 123 = .ok (.ifCond .eq 6, 3) := by decide +kernel
theorem dX5_kindHere_126 : decode cX5_kindHere 126 = .ok (.bipush 8, 2) := by decide +kernel
theorem dX5_kindHere_128 : decode cX5_kindHere 128 = .ok (.ireturn, 1) := by decide +kernel
theorem dX5_kindHere_129 : decode cX5_kindHere 129 = .ok (.aload_n 0, 1) := by decide +kernel
theorem dX5_kindHere_130 : decode cX5_kindHere 130 = .ok (.getfield 9, 3) := by decide +kernel
theorem dX5_kindHere_133 : decode cX5_kindHere 133 = .ok (.ldc 102, 2) := by decide +kernel
theorem dX5_kindHere_135 : decode cX5_kindHere 135 = .ok (.invokevirtual 82, 3) := by decide +kernel
theorem dX5_kindHere_138 : decode cX5_kindHere 138 = .ok (.ifCond .eq 8, 3) := by decide +kernel
theorem dX5_kindHere_141 : decode cX5_kindHere 141 = .ok (.bipush 9, 2) := by decide +kernel
theorem dX5_kindHere_143 : decode cX5_kindHere 143 = .ok (.goto 4, 3) := by decide +kernel
theorem dX5_kindHere_146 : decode cX5_kindHere 146 = .ok (.iconst (-1), 1) := by decide +kernel
theorem dX5_kindHere_147 : decode cX5_kindHere 147 = .ok (.ireturn, 1) := by decide +kernel
def fX5_kindHere (M : Mm) : Option Int32 := (fX7_atWord M 3).bind fun q1 => if q1 = 0 then ((fX7_atWord M 4).bind fun q4 => if q4 = 0 then ((fX7_atWord M 5).bind fun q7 => if q7 = 0 then ((fX7_atWord M 6).bind fun q10 => if q10 = 0 then ((fX7_atWord M 7).bind fun q13 => if q13 = 0 then ((fX7_atWord M 8).bind fun q16 => if q16 = 0 then ((fX7_atWord M 9).bind fun q19 => if q19 = 0 then ((fX7_atWord M 10).bind fun q22 => if q22 = 0 then ((fX7_atWord M 11).bind fun q25 => if q25 = 0 then ((fX7_atWord M 12).bind fun q28 => if q28 = 0 then some (-1 : Int32) else some (9 : Int32)) else some (8 : Int32)) else some (7 : Int32)) else some (6 : Int32)) else some (5 : Int32)) else some (4 : Int32)) else some (3 : Int32)) else some (2 : Int32)) else some (1 : Int32)) else some (0 : Int32)
set_option maxRecDepth 20000 in
set_option maxHeartbeats 2000000 in
theorem sX5_kindHere {wv : Nat} (M : Mm) {res : Int32} (h : fX5_kindHere M  = some res) : TF wv yX5_kindHere cX5_kindHere 1 (some .int) 8 [.inr (6, 0, 0)] M (some (.int res)) M := by
  rw [fX5_kindHere] at h
  refine TF.go (n := 0) (ls := [some (.inr (6, 0, 0))]) rfl rfl rfl rfl rfl ?_
  refine z_aload_n (i := 0) dX5_kindHere_0 rfl rfl ?_
  refine z_getR (r' := (3, 0, 0)) dX5_kindHere_1 fl_X5_9 mk6 rfl rfl ?_
  refine z_ldcS (j := 3) dX5_kindHere_4 sw_RX5_80 ?_
  obtain ⟨q1, hq2, h⟩ := bnd h
  refine z_fVi (sX7_atWord M 3 (Nat.le_of_ble_eq_true rfl) hq2) dX5_kindHere_6 ml_X5_82 cd_X7_atWord mk3 rfl rfl rfl rfl rfl rfl ?_
  refine z_if_eq (tgt := 14) dX5_kindHere_9 rfl (fun hc3 => ?_) (fun hc3 => ?_)
  · have h := it_t h hc3
    refine z_aload_n (i := 0) dX5_kindHere_14 rfl rfl ?_
    refine z_getR (r' := (3, 0, 0)) dX5_kindHere_15 fl_X5_9 mk6 rfl rfl ?_
    refine z_ldcS (j := 4) dX5_kindHere_18 sw_RX5_86 ?_
    obtain ⟨q4, hq5, h⟩ := bnd h
    refine z_fVi (sX7_atWord M 4 (Nat.le_of_ble_eq_true rfl) hq5) dX5_kindHere_20 ml_X5_82 cd_X7_atWord mk3 rfl rfl rfl rfl rfl rfl ?_
    refine z_if_eq (tgt := 28) dX5_kindHere_23 rfl (fun hc6 => ?_) (fun hc6 => ?_)
    · have h := it_t h hc6
      refine z_aload_n (i := 0) dX5_kindHere_28 rfl rfl ?_
      refine z_getR (r' := (3, 0, 0)) dX5_kindHere_29 fl_X5_9 mk6 rfl rfl ?_
      refine z_ldcS (j := 5) dX5_kindHere_32 sw_RX5_88 ?_
      obtain ⟨q7, hq8, h⟩ := bnd h
      refine z_fVi (sX7_atWord M 5 (Nat.le_of_ble_eq_true rfl) hq8) dX5_kindHere_34 ml_X5_82 cd_X7_atWord mk3 rfl rfl rfl rfl rfl rfl ?_
      refine z_if_eq (tgt := 42) dX5_kindHere_37 rfl (fun hc9 => ?_) (fun hc9 => ?_)
      · have h := it_t h hc9
        refine z_aload_n (i := 0) dX5_kindHere_42 rfl rfl ?_
        refine z_getR (r' := (3, 0, 0)) dX5_kindHere_43 fl_X5_9 mk6 rfl rfl ?_
        refine z_ldcS (j := 6) dX5_kindHere_46 sw_RX5_90 ?_
        obtain ⟨q10, hq11, h⟩ := bnd h
        refine z_fVi (sX7_atWord M 6 (Nat.le_of_ble_eq_true rfl) hq11) dX5_kindHere_48 ml_X5_82 cd_X7_atWord mk3 rfl rfl rfl rfl rfl rfl ?_
        refine z_if_eq (tgt := 56) dX5_kindHere_51 rfl (fun hc12 => ?_) (fun hc12 => ?_)
        · have h := it_t h hc12
          refine z_aload_n (i := 0) dX5_kindHere_56 rfl rfl ?_
          refine z_getR (r' := (3, 0, 0)) dX5_kindHere_57 fl_X5_9 mk6 rfl rfl ?_
          refine z_ldcS (j := 7) dX5_kindHere_60 sw_RX5_92 ?_
          obtain ⟨q13, hq14, h⟩ := bnd h
          refine z_fVi (sX7_atWord M 7 (Nat.le_of_ble_eq_true rfl) hq14) dX5_kindHere_62 ml_X5_82 cd_X7_atWord mk3 rfl rfl rfl rfl rfl rfl ?_
          refine z_if_eq (tgt := 70) dX5_kindHere_65 rfl (fun hc15 => ?_) (fun hc15 => ?_)
          · have h := it_t h hc15
            refine z_aload_n (i := 0) dX5_kindHere_70 rfl rfl ?_
            refine z_getR (r' := (3, 0, 0)) dX5_kindHere_71 fl_X5_9 mk6 rfl rfl ?_
            refine z_ldcS (j := 8) dX5_kindHere_74 sw_RX5_94 ?_
            obtain ⟨q16, hq17, h⟩ := bnd h
            refine z_fVi (sX7_atWord M 8 (Nat.le_of_ble_eq_true rfl) hq17) dX5_kindHere_76 ml_X5_82 cd_X7_atWord mk3 rfl rfl rfl rfl rfl rfl ?_
            refine z_if_eq (tgt := 84) dX5_kindHere_79 rfl (fun hc18 => ?_) (fun hc18 => ?_)
            · have h := it_t h hc18
              refine z_aload_n (i := 0) dX5_kindHere_84 rfl rfl ?_
              refine z_getR (r' := (3, 0, 0)) dX5_kindHere_85 fl_X5_9 mk6 rfl rfl ?_
              refine z_ldcS (j := 9) dX5_kindHere_88 sw_RX5_96 ?_
              obtain ⟨q19, hq20, h⟩ := bnd h
              refine z_fVi (sX7_atWord M 9 (Nat.le_of_ble_eq_true rfl) hq20) dX5_kindHere_90 ml_X5_82 cd_X7_atWord mk3 rfl rfl rfl rfl rfl rfl ?_
              refine z_if_eq (tgt := 99) dX5_kindHere_93 rfl (fun hc21 => ?_) (fun hc21 => ?_)
              · have h := it_t h hc21
                refine z_aload_n (i := 0) dX5_kindHere_99 rfl rfl ?_
                refine z_getR (r' := (3, 0, 0)) dX5_kindHere_100 fl_X5_9 mk6 rfl rfl ?_
                refine z_ldcS (j := 10) dX5_kindHere_103 sw_RX5_98 ?_
                obtain ⟨q22, hq23, h⟩ := bnd h
                refine z_fVi (sX7_atWord M 10 (Nat.le_of_ble_eq_true rfl) hq23) dX5_kindHere_105 ml_X5_82 cd_X7_atWord mk3 rfl rfl rfl rfl rfl rfl ?_
                refine z_if_eq (tgt := 114) dX5_kindHere_108 rfl (fun hc24 => ?_) (fun hc24 => ?_)
                · have h := it_t h hc24
                  refine z_aload_n (i := 0) dX5_kindHere_114 rfl rfl ?_
                  refine z_getR (r' := (3, 0, 0)) dX5_kindHere_115 fl_X5_9 mk6 rfl rfl ?_
                  refine z_ldcS (j := 11) dX5_kindHere_118 sw_RX5_100 ?_
                  obtain ⟨q25, hq26, h⟩ := bnd h
                  refine z_fVi (sX7_atWord M 11 (Nat.le_of_ble_eq_true rfl) hq26) dX5_kindHere_120 ml_X5_82 cd_X7_atWord mk3 rfl rfl rfl rfl rfl rfl ?_
                  refine z_if_eq (tgt := 129) dX5_kindHere_123 rfl (fun hc27 => ?_) (fun hc27 => ?_)
                  · have h := it_t h hc27
                    refine z_aload_n (i := 0) dX5_kindHere_129 rfl rfl ?_
                    refine z_getR (r' := (3, 0, 0)) dX5_kindHere_130 fl_X5_9 mk6 rfl rfl ?_
                    refine z_ldcS (j := 12) dX5_kindHere_133 sw_RX5_102 ?_
                    obtain ⟨q28, hq29, h⟩ := bnd h
                    refine z_fVi (sX7_atWord M 12 (Nat.le_of_ble_eq_true rfl) hq29) dX5_kindHere_135 ml_X5_82 cd_X7_atWord mk3 rfl rfl rfl rfl rfl rfl ?_
                    refine z_if_eq (tgt := 146) dX5_kindHere_138 rfl (fun hc30 => ?_) (fun hc30 => ?_)
                    · have h := it_t h hc30
                      refine z_iconst (v := (-1 : Int32)) dX5_kindHere_146 kc_m1 ?_
                      cases h
                      exact z_iret dX5_kindHere_147 rfl rfl (Nat.le_refl _) (Nat.le_refl _) ⟨rfl, rfl⟩
                    · have h := it_f h hc30
                      refine z_bipush (v := (9 : Int32)) dX5_kindHere_141 kb_9 ?_
                      refine z_goto (tgt := 147) dX5_kindHere_143 rfl ?_
                      cases h
                      exact z_iret dX5_kindHere_147 rfl rfl (Nat.le_refl _) (Nat.le_refl _) ⟨rfl, rfl⟩
                  · have h := it_f h hc27
                    refine z_bipush (v := (8 : Int32)) dX5_kindHere_126 kb_8 ?_
                    cases h
                    exact z_iret dX5_kindHere_128 rfl rfl (Nat.le_refl _) (Nat.le_refl _) ⟨rfl, rfl⟩
                · have h := it_f h hc24
                  refine z_bipush (v := (7 : Int32)) dX5_kindHere_111 kb_7 ?_
                  cases h
                  exact z_iret dX5_kindHere_113 rfl rfl (Nat.le_refl _) (Nat.le_refl _) ⟨rfl, rfl⟩
              · have h := it_f h hc21
                refine z_bipush (v := (6 : Int32)) dX5_kindHere_96 kb_6 ?_
                cases h
                exact z_iret dX5_kindHere_98 rfl rfl (Nat.le_refl _) (Nat.le_refl _) ⟨rfl, rfl⟩
            · have h := it_f h hc18
              refine z_iconst (v := (5 : Int32)) dX5_kindHere_82 kc_5 ?_
              cases h
              exact z_iret dX5_kindHere_83 rfl rfl (Nat.le_refl _) (Nat.le_refl _) ⟨rfl, rfl⟩
          · have h := it_f h hc15
            refine z_iconst (v := (4 : Int32)) dX5_kindHere_68 kc_4 ?_
            cases h
            exact z_iret dX5_kindHere_69 rfl rfl (Nat.le_refl _) (Nat.le_refl _) ⟨rfl, rfl⟩
        · have h := it_f h hc12
          refine z_iconst (v := (3 : Int32)) dX5_kindHere_54 kc_3 ?_
          cases h
          exact z_iret dX5_kindHere_55 rfl rfl (Nat.le_refl _) (Nat.le_refl _) ⟨rfl, rfl⟩
      · have h := it_f h hc9
        refine z_iconst (v := (2 : Int32)) dX5_kindHere_40 kc_2 ?_
        cases h
        exact z_iret dX5_kindHere_41 rfl rfl (Nat.le_refl _) (Nat.le_refl _) ⟨rfl, rfl⟩
    · have h := it_f h hc6
      refine z_iconst (v := (1 : Int32)) dX5_kindHere_26 kc_1 ?_
      cases h
      exact z_iret dX5_kindHere_27 rfl rfl (Nat.le_refl _) (Nat.le_refl _) ⟨rfl, rfl⟩
  · have h := it_f h hc3
    refine z_iconst (v := (0 : Int32)) dX5_kindHere_12 kc_0 ?_
    cases h
    exact z_iret dX5_kindHere_13 rfl rfl (Nat.le_refl _) (Nat.le_refl _) ⟨rfl, rfl⟩
theorem dX7_fail_0 : decode cX7_fail 0 = .ok (.aload_n 0, 1) := by decide +kernel
theorem dX7_fail_1 : decode cX7_fail 1 = .ok (.iload_n 1, 1) := by decide +kernel
theorem dX7_fail_2 : decode cX7_fail 2 = .ok (.putfield 32, 3) := by decide +kernel
theorem dX7_fail_5 : decode cX7_fail 5 = .ok (.aload_n 0, 1) := by decide +kernel
theorem dX7_fail_6 : decode cX7_fail 6 = .ok (.aload_n 0, 1) := by decide +kernel
theorem dX7_fail_7 : decode cX7_fail 7 = .ok (.getfield 15, 3) := by decide +kernel
theorem dX7_fail_10 : decode cX7_fail 10 = .ok (.aload_n 0, 1) := by decide +kernel
theorem dX7_fail_11 : decode cX7_fail 11 = .ok (.getfield 38, 3) := by decide +kernel
theorem dX7_fail_14 : decode cX7_fail 14 = .ok (.iaload, 1) := by decide +kernel
theorem dX7_fail_15 : decode cX7_fail 15 = .ok (.putfield 28, 3) := by decide +kernel
theorem dX7_fail_18 : decode cX7_fail 18 = .ok (.iconst 0, 1) := by decide +kernel
theorem dX7_fail_19 : decode cX7_fail 19 = .ok (.ireturn, 1) := by decide +kernel
def fX7_fail (M : Mm) (x1 : Int32) : Option (Int32 × Mm) := if (M.1 (3, 0, 0) 6) < 0 ∨ 801 ≤ (M.1 (3, 0, 0) 6).toNatClampNeg then none else some ((0 : Int32), (putI (putI M (3, 0, 0) 7 x1) (3, 0, 0) 8 (M.1 (4, 1, 0) (M.1 (3, 0, 0) 6).toNatClampNeg)))
set_option maxRecDepth 20000 in
set_option maxHeartbeats 2000000 in
theorem sX7_fail {wv : Nat} (M : Mm) (x1 : Int32) {res : (Int32 × Mm)} (h : fX7_fail M x1 = some res) : TF wv yX7_fail cX7_fail 2 (some .boolean) 0 [.inr (3, 0, 0), .inl (.int x1)] M (some (.int res.1)) res.2 := by
  rw [fX7_fail] at h
  refine TF.go (n := 0) (ls := [some (.inr (3, 0, 0)), some (.inl (.int x1))]) rfl rfl rfl rfl rfl ?_
  refine z_aload_n (i := 0) dX7_fail_0 rfl rfl ?_
  refine z_iload_n (i := 1) dX7_fail_1 rfl rfl ?_
  refine z_putI allR_nd dX7_fail_2 fl_X7_32 mk3 rfl rfl ?_
  refine z_aload_n (i := 0) dX7_fail_5 rfl rfl ?_
  refine z_aload_n (i := 0) dX7_fail_6 rfl rfl ?_
  refine z_getR (r' := (4, 1, 0)) dX7_fail_7 fl_X7_15 mk3 rfl rfl ?_
  refine z_aload_n (i := 0) dX7_fail_10 rfl rfl ?_
  refine z_getI (x := (M.1 (3, 0, 0) 6)) dX7_fail_11 fl_X7_38 mk3 rfl rfl ?_
  obtain ⟨hc1, h⟩ := chk h
  refine z_iald (x := (M.1 (4, 1, 0) (M.1 (3, 0, 0) 6).toNatClampNeg)) dX7_fail_14 (m4 _ (Nat.le_of_ble_eq_true rfl)) rfl hc1 rfl ?_
  refine z_putI allR_nd dX7_fail_15 fl_X7_28 mk3 rfl rfl ?_
  refine z_iconst (v := (0 : Int32)) dX7_fail_18 kc_0 ?_
  cases h
  exact z_iret dX7_fail_19 rfl rfl (Nat.le_refl _) (Nat.le_refl _) ⟨rfl, rfl⟩
theorem dX7_advance_0 : decode cX7_advance 0 = .ok (.aload_n 0, 1) := by decide +kernel
theorem dX7_advance_1 : decode cX7_advance 1 = .ok (.getfield 38, 3) := by decide +kernel
theorem dX7_advance_4 : decode cX7_advance 4 = .ok (.aload_n 0, 1) := by decide +kernel
theorem dX7_advance_5 : decode cX7_advance 5 = .ok (.getfield 35, 3) := by decide +kernel
theorem dX7_advance_8 : decode cX7_advance 8 = .ok (.iconst 1, 1) := by decide +kernel
theorem dX7_advance_9 : decode cX7_advance 9 = .ok (.isub, 1) := by decide +kernel
theorem dX7_advance_10 : decode cX7_advance 10 = .ok (.if_icmp .ge 13, 3) := by decide +kernel
theorem dX7_advance_13 : decode cX7_advance 13 = .ok (.aload_n 0, 1) := by decide +kernel
theorem dX7_advance_14 : decode cX7_advance 14 = .ok (.dup, 1) := by decide +kernel
theorem dX7_advance_15 : decode cX7_advance 15 = .ok (.getfield 38, 3) := by decide +kernel
theorem dX7_advance_18 : decode cX7_advance 18 = .ok (.iconst 1, 1) := by decide +kernel
theorem dX7_advance_19 : decode cX7_advance 19 = .ok (.iadd, 1) := by decide +kernel
theorem dX7_advance_20 : decode cX7_advance 20 = .ok (.putfield 38, 3) := by decide +kernel
theorem dX7_advance_23 : decode cX7_advance 23 = .ok (.return_, 1) := by decide +kernel
def fX7_advance (M : Mm) : Mm := if ((M.1 (3, 0, 0) 5) - (1 : Int32)) ≤ (M.1 (3, 0, 0) 6) then M else (putI M (3, 0, 0) 6 ((M.1 (3, 0, 0) 6) + (1 : Int32)))
set_option maxRecDepth 20000 in
set_option maxHeartbeats 2000000 in
theorem tX7_advance {wv : Nat} (M : Mm) {res : Mm} (h : fX7_advance M  = res) : TF wv yX7_advance cX7_advance 1 none 0 [.inr (3, 0, 0)] M (none) res := by
  rw [fX7_advance] at h
  refine TF.go (n := 0) (ls := [some (.inr (3, 0, 0))]) rfl rfl rfl rfl rfl ?_
  refine z_aload_n (i := 0) dX7_advance_0 rfl rfl ?_
  refine z_getI (x := (M.1 (3, 0, 0) 6)) dX7_advance_1 fl_X7_38 mk3 rfl rfl ?_
  refine z_aload_n (i := 0) dX7_advance_4 rfl rfl ?_
  refine z_getI (x := (M.1 (3, 0, 0) 5)) dX7_advance_5 fl_X7_35 mk3 rfl rfl ?_
  refine z_iconst (v := (1 : Int32)) dX7_advance_8 kc_1 ?_
  refine z_isub dX7_advance_9 ?_
  refine z_icmp_ge (tgt := 23) dX7_advance_10 rfl (fun hc1 => ?_) (fun hc1 => ?_)
  · have h := it_t h hc1
    subst h
    exact z_vret dX7_advance_23 rfl (Nat.le_refl _) (Nat.le_refl _) ⟨rfl, rfl⟩
  · have h := it_f h hc1
    refine z_aload_n (i := 0) dX7_advance_13 rfl rfl ?_
    refine z_dup dX7_advance_14 rfl ?_
    refine z_getI (x := (M.1 (3, 0, 0) 6)) dX7_advance_15 fl_X7_38 mk3 rfl rfl ?_
    refine z_iconst (v := (1 : Int32)) dX7_advance_18 kc_1 ?_
    refine z_iadd dX7_advance_19 ?_
    refine z_putI allR_nd dX7_advance_20 fl_X7_38 mk3 rfl rfl ?_
    subst h
    exact z_vret dX7_advance_23 rfl (Nat.le_refl _) (Nat.le_refl _) ⟨rfl, rfl⟩
theorem sX7_advance {wv : Nat} (M : Mm) : TF wv yX7_advance cX7_advance 1 none 0 [.inr (3, 0, 0)] M (none) (fX7_advance M ) := tX7_advance M   rfl
theorem dX7_takeNumber_0 : decode cX7_takeNumber 0 = .ok (.aload_n 0, 1) := by decide +kernel
theorem dX7_takeNumber_1 : decode cX7_takeNumber 1 = .ok (.getfield 9, 3) := by decide +kernel
theorem dX7_takeNumber_4 : decode cX7_takeNumber 4 = .ok (.aload_n 0, 1) := by decide +kernel
theorem dX7_takeNumber_5 : decode cX7_takeNumber 5 = .ok (.getfield 38, 3) := by decide +kernel
theorem dX7_takeNumber_8 : decode cX7_takeNumber 8 = .ok (.iaload, 1) := by decide +kernel
theorem dX7_takeNumber_9 : decode cX7_takeNumber 9 = .ok (.iconst 2, 1) := by decide +kernel
theorem dX7_takeNumber_10 : decode cX7_takeNumber 10 = .ok (.if_icmp .eq 11, 3) := by decide +kernel
theorem dX7_takeNumber_13 : decode cX7_takeNumber 13 = .ok (.aload_n 0, 1) := by decide +kernel
theorem dX7_takeNumber_14 : decode cX7_takeNumber 14 = .ok (.iconst 1, 1) := by decide +kernel
theorem dX7_takeNumber_15 : decode cX7_takeNumber 15 = .ok (.invokevirtual 81, 3) := by decide +kernel
theorem dX7_takeNumber_18 : decode cX7_takeNumber 18 = .ok (.pop, 1) := by decide +kernel
theorem dX7_takeNumber_19 : decode cX7_takeNumber 19 = .ok (.iconst (-1), 1) := by decide +kernel
theorem dX7_takeNumber_20 : decode cX7_takeNumber 20 = .ok (.ireturn, 1) := by decide +kernel
theorem dX7_takeNumber_21 : decode cX7_takeNumber 21 = .ok (.aload_n 0, 1) := by decide +kernel
theorem dX7_takeNumber_22 : decode cX7_takeNumber 22 = .ok (.getfield 21, 3) := by decide +kernel
theorem dX7_takeNumber_25 : decode cX7_takeNumber 25 = .ok (.aload_n 0, 1) := by decide +kernel
theorem dX7_takeNumber_26 : decode cX7_takeNumber 26 = .ok (.getfield 38, 3) := by decide +kernel
theorem dX7_takeNumber_29 : decode cX7_takeNumber 29 = .ok (.iaload, 1) := by decide +kernel
theorem dX7_takeNumber_30 : decode cX7_takeNumber 30 = .ok (.istore_n 3, 1) := by decide +kernel
theorem dX7_takeNumber_31 : decode cX7_takeNumber 31 = .ok (.iload_n 3, 1) := by decide +kernel
theorem dX7_takeNumber_32 : decode cX7_takeNumber 32 = .ok (.iload_n 1, 1) := by decide +kernel
theorem dX7_takeNumber_33 : decode cX7_takeNumber 33 = .ok (.if_icmp .lt 8, 3) := by decide +kernel
theorem dX7_takeNumber_36 : decode cX7_takeNumber 36 = .ok (.iload_n 3, 1) := by decide +kernel
theorem dX7_takeNumber_37 : decode cX7_takeNumber 37 = .ok (.iload_n 2, 1) := by decide +kernel
theorem dX7_takeNumber_38 : decode cX7_takeNumber 38 = .ok (.if_icmp .le 11, 3) := by decide +kernel
theorem dX7_takeNumber_41 : decode cX7_takeNumber 41 = .ok (.aload_n 0, 1) := by decide +kernel
theorem dX7_takeNumber_42 : decode cX7_takeNumber 42 = .ok (.iconst 2, 1) := by decide +kernel
theorem dX7_takeNumber_43 : decode cX7_takeNumber 43 = .ok (.invokevirtual 81, 3) := by decide +kernel
theorem dX7_takeNumber_46 : decode cX7_takeNumber 46 = .ok (.pop, 1) := by decide +kernel
theorem dX7_takeNumber_47 : decode cX7_takeNumber 47 = .ok (.iconst (-1), 1) := by decide +kernel
theorem dX7_takeNumber_48 : decode cX7_takeNumber 48 = .ok (.ireturn, 1) := by decide +kernel
theorem dX7_takeNumber_49 : decode cX7_takeNumber 49 = .ok (.aload_n 0, 1) := by decide +kernel
theorem dX7_takeNumber_50 : decode cX7_takeNumber 50 = .ok (.invokevirtual 85, 3) := by decide +kernel
theorem dX7_takeNumber_53 : decode cX7_takeNumber 53 = .ok (.iload_n 3, 1) := by decide +kernel
theorem dX7_takeNumber_54 : decode cX7_takeNumber 54 = .ok (.ireturn, 1) := by decide +kernel
def fX7_takeNumber (M : Mm) (x1 : Int32) (x2 : Int32) : Option (Int32 × Mm) := if (M.1 (3, 0, 0) 6) < 0 ∨ 801 ≤ (M.1 (3, 0, 0) 6).toNatClampNeg then none else if (M.1 (4, 0, 0) (M.1 (3, 0, 0) 6).toNatClampNeg) = (2 : Int32) then (if (M.1 (3, 0, 0) 6) < 0 ∨ 801 ≤ (M.1 (3, 0, 0) 6).toNatClampNeg then none else if (M.1 (4, 3, 0) (M.1 (3, 0, 0) 6).toNatClampNeg) < x1 then ((fX7_fail M (2 : Int32)).bind fun q5 => some ((-1 : Int32), q5.2)) else if (M.1 (4, 3, 0) (M.1 (3, 0, 0) 6).toNatClampNeg) ≤ x2 then some ((M.1 (4, 3, 0) (M.1 (3, 0, 0) 6).toNatClampNeg), (fX7_advance M)) else (fX7_fail M (2 : Int32)).bind fun q8 => some ((-1 : Int32), q8.2)) else (fX7_fail M (1 : Int32)).bind fun q10 => some ((-1 : Int32), q10.2)
set_option maxRecDepth 20000 in
set_option maxHeartbeats 2000000 in
theorem sX7_takeNumber {wv : Nat} (M : Mm) (x1 : Int32) (x2 : Int32) {res : (Int32 × Mm)} (h : fX7_takeNumber M x1 x2 = some res) : TF wv yX7_takeNumber cX7_takeNumber 4 (some .int) 1 [.inr (3, 0, 0), .inl (.int x1), .inl (.int x2)] M (some (.int res.1)) res.2 := by
  rw [fX7_takeNumber] at h
  refine TF.go (n := 1) (ls := [some (.inr (3, 0, 0)), some (.inl (.int x1)), some (.inl (.int x2)), none]) rfl rfl rfl rfl rfl ?_
  refine z_aload_n (i := 0) dX7_takeNumber_0 rfl rfl ?_
  refine z_getR (r' := (4, 0, 0)) dX7_takeNumber_1 fl_X7_9 mk3 rfl rfl ?_
  refine z_aload_n (i := 0) dX7_takeNumber_4 rfl rfl ?_
  refine z_getI (x := (M.1 (3, 0, 0) 6)) dX7_takeNumber_5 fl_X7_38 mk3 rfl rfl ?_
  obtain ⟨hc1, h⟩ := chk h
  refine z_iald (x := (M.1 (4, 0, 0) (M.1 (3, 0, 0) 6).toNatClampNeg)) dX7_takeNumber_8 (m4 _ (Nat.le_of_ble_eq_true rfl)) rfl hc1 rfl ?_
  refine z_iconst (v := (2 : Int32)) dX7_takeNumber_9 kc_2 ?_
  refine z_icmp_eq (tgt := 21) dX7_takeNumber_10 rfl (fun hc2 => ?_) (fun hc2 => ?_)
  · have h := it_t h hc2
    refine z_aload_n (i := 0) dX7_takeNumber_21 rfl rfl ?_
    refine z_getR (r' := (4, 3, 0)) dX7_takeNumber_22 fl_X7_21 mk3 rfl rfl ?_
    refine z_aload_n (i := 0) dX7_takeNumber_25 rfl rfl ?_
    refine z_getI (x := (M.1 (3, 0, 0) 6)) dX7_takeNumber_26 fl_X7_38 mk3 rfl rfl ?_
    obtain ⟨hc3, h⟩ := chk h
    refine z_iald (x := (M.1 (4, 3, 0) (M.1 (3, 0, 0) 6).toNatClampNeg)) dX7_takeNumber_29 (m4 _ (Nat.le_of_ble_eq_true rfl)) rfl hc3 rfl ?_
    refine z_istore_n (i := 3) dX7_takeNumber_30 rfl (Nat.le_of_ble_eq_true rfl) rfl ?_
    refine z_iload_n (i := 3) dX7_takeNumber_31 rfl rfl ?_
    refine z_iload_n (i := 1) dX7_takeNumber_32 rfl rfl ?_
    refine z_icmp_lt (tgt := 41) dX7_takeNumber_33 rfl (fun hc4 => ?_) (fun hc4 => ?_)
    · have h := it_t h hc4
      refine z_aload_n (i := 0) dX7_takeNumber_41 rfl rfl ?_
      refine z_iconst (v := (2 : Int32)) dX7_takeNumber_42 kc_2 ?_
      obtain ⟨q5, hq6, h⟩ := bnd h
      refine z_fVi (sX7_fail M (2 : Int32) hq6) dX7_takeNumber_43 ml_X7_81 cd_X7_fail mk3 rfl rfl rfl rfl rfl rfl ?_
      refine z_pop dX7_takeNumber_46 rfl ?_
      refine z_iconst (v := (-1 : Int32)) dX7_takeNumber_47 kc_m1 ?_
      cases h
      exact z_iret dX7_takeNumber_48 rfl rfl (Nat.le_refl _) (Nat.le_refl _) ⟨rfl, rfl⟩
    · have h := it_f h hc4
      refine z_iload_n (i := 3) dX7_takeNumber_36 rfl rfl ?_
      refine z_iload_n (i := 2) dX7_takeNumber_37 rfl rfl ?_
      refine z_icmp_le (tgt := 49) dX7_takeNumber_38 rfl (fun hc7 => ?_) (fun hc7 => ?_)
      · have h := it_t h hc7
        refine z_aload_n (i := 0) dX7_takeNumber_49 rfl rfl ?_
        refine z_fVv (sX7_advance M) dX7_takeNumber_50 ml_X7_85 cd_X7_advance mk3 rfl rfl rfl rfl rfl rfl ?_
        refine z_iload_n (i := 3) dX7_takeNumber_53 rfl rfl ?_
        cases h
        exact z_iret dX7_takeNumber_54 rfl rfl (Nat.le_refl _) (Nat.le_refl _) ⟨rfl, rfl⟩
      · have h := it_f h hc7
        refine z_aload_n (i := 0) dX7_takeNumber_41 rfl rfl ?_
        refine z_iconst (v := (2 : Int32)) dX7_takeNumber_42 kc_2 ?_
        obtain ⟨q8, hq9, h⟩ := bnd h
        refine z_fVi (sX7_fail M (2 : Int32) hq9) dX7_takeNumber_43 ml_X7_81 cd_X7_fail mk3 rfl rfl rfl rfl rfl rfl ?_
        refine z_pop dX7_takeNumber_46 rfl ?_
        refine z_iconst (v := (-1 : Int32)) dX7_takeNumber_47 kc_m1 ?_
        cases h
        exact z_iret dX7_takeNumber_48 rfl rfl (Nat.le_refl _) (Nat.le_refl _) ⟨rfl, rfl⟩
  · have h := it_f h hc2
    refine z_aload_n (i := 0) dX7_takeNumber_13 rfl rfl ?_
    refine z_iconst (v := (1 : Int32)) dX7_takeNumber_14 kc_1 ?_
    obtain ⟨q10, hq11, h⟩ := bnd h
    refine z_fVi (sX7_fail M (1 : Int32) hq11) dX7_takeNumber_15 ml_X7_81 cd_X7_fail mk3 rfl rfl rfl rfl rfl rfl ?_
    refine z_pop dX7_takeNumber_18 rfl ?_
    refine z_iconst (v := (-1 : Int32)) dX7_takeNumber_19 kc_m1 ?_
    cases h
    exact z_iret dX7_takeNumber_20 rfl rfl (Nat.le_refl _) (Nat.le_refl _) ⟨rfl, rfl⟩
theorem dX5_readArgument_0 : decode cX5_readArgument 0 = .ok (.aload_n 0, 1) := by decide +kernel
theorem dX5_readArgument_1 : decode cX5_readArgument 1 = .ok (.getfield 9, 3) := by decide +kernel
theorem dX5_readArgument_4 : decode cX5_readArgument 4 = .ok (.iload_n 3, 1) := by decide +kernel
theorem dX5_readArgument_5 : decode cX5_readArgument 5 = .ok (.iload 4, 2) := by decide +kernel
theorem dX5_readArgument_7 : decode cX5_readArgument 7 = .ok (.invokevirtual 107, 3) := by decide +kernel
theorem dX5_readArgument_10 : decode cX5_readArgument 10 = .ok (.istore 5, 2) := by decide +kernel
theorem dX5_readArgument_12 : decode cX5_readArgument 12 = .ok (.iload 5, 2) := by decide +kernel
theorem dX5_readArgument_14 : decode cX5_readArgument 14 = .ok (.iconst (-1), 1) := by decide +kernel
theorem dX5_readArgument_15 : decode cX5_readArgument 15 = .ok (.if_icmp .ne 5, 3) := by decide +kernel
theorem dX5_readArgument_18 : decode cX5_readArgument 18 = .ok (.iconst 0, 1) := by decide +kernel
theorem dX5_readArgument_19 : decode cX5_readArgument 19 = .ok (.ireturn, 1) := by decide +kernel
theorem dX5_readArgument_20 : decode cX5_readArgument 20 = .ok (.aload_n 0, 1) := by decide +kernel
theorem dX5_readArgument_21 : decode cX5_readArgument 21 = .ok (.getfield 15, 3) := by decide +kernel
theorem dX5_readArgument_24 : decode cX5_readArgument 24 = .ok (.iload_n 1, 1) := by decide +kernel
theorem dX5_readArgument_25 : decode cX5_readArgument 25 = .ok (.iload_n 2, 1) := by decide +kernel
theorem dX5_readArgument_26 : decode cX5_readArgument 26 = .ok (.iload 5, 2) := by decide +kernel
theorem dX5_readArgument_28 : decode cX5_readArgument 28 = .ok (.invokevirtual 110, 3) := by decide +kernel
theorem dX5_readArgument_31 : decode cX5_readArgument 31 = .ok (.iconst 1, 1) := by decide +kernel
theorem dX5_readArgument_32 : decode cX5_readArgument 32 = .ok (.ireturn, 1) := by decide +kernel
def fX5_readArgument (M : Mm) (x1 : Int32) (x2 : Int32) (x3 : Int32) (x4 : Int32) : Option (Int32 × Mm) := (fX7_takeNumber M x3 x4).bind fun q1 => if q1.1 = (-1 : Int32) then some ((0 : Int32), q1.2) else (fX4_putArgument q1.2 x1 x2 q1.1).bind fun q4 => some ((1 : Int32), q4)
set_option maxRecDepth 20000 in
set_option maxHeartbeats 2000000 in
theorem sX5_readArgument {wv : Nat} (M : Mm) (x1 : Int32) (x2 : Int32) (x3 : Int32) (x4 : Int32) {res : (Int32 × Mm)} (h : fX5_readArgument M x1 x2 x3 x4 = some res) : TF wv yX5_readArgument cX5_readArgument 6 (some .boolean) 2 [.inr (6, 0, 0), .inl (.int x1), .inl (.int x2), .inl (.int x3), .inl (.int x4)] M (some (.int res.1)) res.2 := by
  rw [fX5_readArgument] at h
  refine TF.go (n := 1) (ls := [some (.inr (6, 0, 0)), some (.inl (.int x1)), some (.inl (.int x2)), some (.inl (.int x3)), some (.inl (.int x4)), none]) rfl rfl rfl rfl rfl ?_
  refine z_aload_n (i := 0) dX5_readArgument_0 rfl rfl ?_
  refine z_getR (r' := (3, 0, 0)) dX5_readArgument_1 fl_X5_9 mk6 rfl rfl ?_
  refine z_iload_n (i := 3) dX5_readArgument_4 rfl rfl ?_
  refine z_iload (i := 4) dX5_readArgument_5 rfl ?_
  obtain ⟨q1, hq2, h⟩ := bnd h
  refine z_fVi (sX7_takeNumber M x3 x4 hq2) dX5_readArgument_7 ml_X5_107 cd_X7_takeNumber mk3 rfl rfl rfl rfl rfl rfl ?_
  refine z_istore (i := 5) dX5_readArgument_10 (Nat.le_of_ble_eq_true rfl) rfl ?_
  refine z_iload (i := 5) dX5_readArgument_12 rfl ?_
  refine z_iconst (v := (-1 : Int32)) dX5_readArgument_14 kc_m1 ?_
  refine z_icmp_ne (tgt := 20) dX5_readArgument_15 rfl (fun hc3 => ?_) (fun hc3 => ?_)
  · have h := it_f h hc3
    refine z_aload_n (i := 0) dX5_readArgument_20 rfl rfl ?_
    refine z_getR (r' := (7, 0, 0)) dX5_readArgument_21 fl_X5_15 mk6 rfl rfl ?_
    refine z_iload_n (i := 1) dX5_readArgument_24 rfl rfl ?_
    refine z_iload_n (i := 2) dX5_readArgument_25 rfl rfl ?_
    refine z_iload (i := 5) dX5_readArgument_26 rfl ?_
    obtain ⟨q4, hq5, h⟩ := bnd h
    refine z_fVv (sX4_putArgument q1.2 x1 x2 q1.1 hq5) dX5_readArgument_28 ml_X5_110 cd_X4_putArgument mk7 rfl rfl rfl rfl rfl rfl ?_
    refine z_iconst (v := (1 : Int32)) dX5_readArgument_31 kc_1 ?_
    cases h
    exact z_iret dX5_readArgument_32 rfl rfl (Nat.le_refl _) (Nat.le_refl _) ⟨rfl, rfl⟩
  · have h := it_t h hc3
    refine z_iconst (v := (0 : Int32)) dX5_readArgument_18 kc_0 ?_
    cases h
    exact z_iret dX5_readArgument_19 rfl rfl (Nat.le_refl _) (Nat.le_refl _) ⟨rfl, rfl⟩
theorem dX7_atSign_0 : decode cX7_atSign 0 = .ok (.aload_n 0, 1) := by decide +kernel
theorem dX7_atSign_1 : decode cX7_atSign 1 = .ok (.getfield 9, 3) := by decide +kernel
theorem dX7_atSign_4 : decode cX7_atSign 4 = .ok (.aload_n 0, 1) := by decide +kernel
theorem dX7_atSign_5 : decode cX7_atSign 5 = .ok (.getfield 38, 3) := by decide +kernel
theorem dX7_atSign_8 : decode cX7_atSign 8 = .ok (.iaload, 1) := by decide +kernel
theorem dX7_atSign_9 : decode cX7_atSign 9 = .ok (.iconst 3, 1) := by decide +kernel
theorem dX7_atSign_10 : decode cX7_atSign 10 = .ok (.if_icmp .ne 27, 3) := by decide +kernel
theorem dX7_atSign_13 : decode cX7_atSign 13 = .ok (.aload_n 0, 1) := by decide +kernel
theorem dX7_atSign_14 : decode cX7_atSign 14 = .ok (.getfield 24, 3) := by decide +kernel
theorem dX7_atSign_17 : decode cX7_atSign 17 = .ok (.aload_n 0, 1) := by decide +kernel
theorem dX7_atSign_18 : decode cX7_atSign 18 = .ok (.getfield 15, 3) := by decide +kernel
theorem dX7_atSign_21 : decode cX7_atSign 21 = .ok (.aload_n 0, 1) := by decide +kernel
theorem dX7_atSign_22 : decode cX7_atSign 22 = .ok (.getfield 38, 3) := by decide +kernel
theorem dX7_atSign_25 : decode cX7_atSign 25 = .ok (.iaload, 1) := by decide +kernel
theorem dX7_atSign_26 : decode cX7_atSign 26 = .ok (.invokevirtual 46, 3) := by decide +kernel
theorem dX7_atSign_29 : decode cX7_atSign 29 = .ok (.iload_n 1, 1) := by decide +kernel
theorem dX7_atSign_30 : decode cX7_atSign 30 = .ok (.if_icmp .ne 7, 3) := by decide +kernel
theorem dX7_atSign_33 : decode cX7_atSign 33 = .ok (.iconst 1, 1) := by decide +kernel
theorem dX7_atSign_34 : decode cX7_atSign 34 = .ok (.goto 4, 3) := by decide +kernel
theorem dX7_atSign_37 : decode cX7_atSign 37 = .ok (.iconst 0, 1) := by decide +kernel
theorem dX7_atSign_38 : decode cX7_atSign 38 = .ok (.ireturn, 1) := by decide +kernel
def fX7_atSign (M : Mm) (x1 : Int32) : Option Int32 := if (M.1 (3, 0, 0) 6) < 0 ∨ 801 ≤ (M.1 (3, 0, 0) 6).toNatClampNeg then none else if (M.1 (4, 0, 0) (M.1 (3, 0, 0) 6).toNatClampNeg) = (3 : Int32) then (if (M.1 (3, 0, 0) 6) < 0 ∨ 801 ≤ (M.1 (3, 0, 0) 6).toNatClampNeg then none else (fX1_at M 0 (M.1 (4, 1, 0) (M.1 (3, 0, 0) 6).toNatClampNeg)).bind fun q4 => if q4 = x1 then some (1 : Int32) else some (0 : Int32)) else some (0 : Int32)
set_option maxRecDepth 20000 in
set_option maxHeartbeats 2000000 in
theorem sX7_atSign {wv : Nat} (M : Mm) (x1 : Int32) {res : Int32} (h : fX7_atSign M x1 = some res) : TF wv yX7_atSign cX7_atSign 2 (some .boolean) 1 [.inr (3, 0, 0), .inl (.int x1)] M (some (.int res)) M := by
  rw [fX7_atSign] at h
  refine TF.go (n := 0) (ls := [some (.inr (3, 0, 0)), some (.inl (.int x1))]) rfl rfl rfl rfl rfl ?_
  refine z_aload_n (i := 0) dX7_atSign_0 rfl rfl ?_
  refine z_getR (r' := (4, 0, 0)) dX7_atSign_1 fl_X7_9 mk3 rfl rfl ?_
  refine z_aload_n (i := 0) dX7_atSign_4 rfl rfl ?_
  refine z_getI (x := (M.1 (3, 0, 0) 6)) dX7_atSign_5 fl_X7_38 mk3 rfl rfl ?_
  obtain ⟨hc1, h⟩ := chk h
  refine z_iald (x := (M.1 (4, 0, 0) (M.1 (3, 0, 0) 6).toNatClampNeg)) dX7_atSign_8 (m4 _ (Nat.le_of_ble_eq_true rfl)) rfl hc1 rfl ?_
  refine z_iconst (v := (3 : Int32)) dX7_atSign_9 kc_3 ?_
  refine z_icmp_ne (tgt := 37) dX7_atSign_10 rfl (fun hc2 => ?_) (fun hc2 => ?_)
  · have h := it_f h hc2
    refine z_iconst (v := (0 : Int32)) dX7_atSign_37 kc_0 ?_
    cases h
    exact z_iret dX7_atSign_38 rfl rfl (Nat.le_refl _) (Nat.le_refl _) ⟨rfl, rfl⟩
  · have h := it_t h hc2
    refine z_aload_n (i := 0) dX7_atSign_13 rfl rfl ?_
    refine z_getR (r' := (1, 0, 0)) dX7_atSign_14 fl_X7_24 mk3 rfl rfl ?_
    refine z_aload_n (i := 0) dX7_atSign_17 rfl rfl ?_
    refine z_getR (r' := (4, 1, 0)) dX7_atSign_18 fl_X7_15 mk3 rfl rfl ?_
    refine z_aload_n (i := 0) dX7_atSign_21 rfl rfl ?_
    refine z_getI (x := (M.1 (3, 0, 0) 6)) dX7_atSign_22 fl_X7_38 mk3 rfl rfl ?_
    obtain ⟨hc3, h⟩ := chk h
    refine z_iald (x := (M.1 (4, 1, 0) (M.1 (3, 0, 0) 6).toNatClampNeg)) dX7_atSign_25 (m4 _ (Nat.le_of_ble_eq_true rfl)) rfl hc3 rfl ?_
    obtain ⟨q4, hq5, h⟩ := bnd h
    refine z_fVi (sX1_at M 0 (M.1 (4, 1, 0) (M.1 (3, 0, 0) 6).toNatClampNeg) (Nat.le_of_ble_eq_true rfl) hq5) dX7_atSign_26 ml_X7_46 cd_X1_at (m1 _ (Nat.le_of_ble_eq_true rfl)) rfl rfl rfl rfl rfl rfl ?_
    refine z_iload_n (i := 1) dX7_atSign_29 rfl rfl ?_
    refine z_icmp_ne (tgt := 37) dX7_atSign_30 rfl (fun hc6 => ?_) (fun hc6 => ?_)
    · have h := it_f h hc6
      refine z_iconst (v := (0 : Int32)) dX7_atSign_37 kc_0 ?_
      cases h
      exact z_iret dX7_atSign_38 rfl rfl (Nat.le_refl _) (Nat.le_refl _) ⟨rfl, rfl⟩
    · have h := it_t h hc6
      refine z_iconst (v := (1 : Int32)) dX7_atSign_33 kc_1 ?_
      refine z_goto (tgt := 38) dX7_atSign_34 rfl ?_
      cases h
      exact z_iret dX7_atSign_38 rfl rfl (Nat.le_refl _) (Nat.le_refl _) ⟨rfl, rfl⟩
