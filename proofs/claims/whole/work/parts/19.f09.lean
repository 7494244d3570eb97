theorem dX5_readCommands_0 : decode cX5_readCommands 0 = .ok (.iconst 0, 1) := by decide +kernel
theorem dX5_readCommands_1 : decode cX5_readCommands 1 = .ok (.istore_n 2, 1) := by decide +kernel
theorem dX5_readCommands_2 : decode cX5_readCommands 2 = .ok (.iload_n 2, 1) := by decide +kernel
theorem dX5_readCommands_3 : decode cX5_readCommands 3 = .ok (.bipush 30, 2) := by decide +kernel
theorem dX5_readCommands_5 : decode cX5_readCommands 5 = .ok (.if_icmp .gt 121, 3) := by decide +kernel
theorem dX5_readCommands_8 : decode cX5_readCommands 8 = .ok (.aload_n 0, 1) := by decide +kernel
theorem dX5_readCommands_9 : decode cX5_readCommands 9 = .ok (.getfield 9, 3) := by decide +kernel
theorem dX5_readCommands_12 : decode cX5_readCommands 12 = .ok (.invokevirtual 37, 3) := by decide +kernel
theorem dX5_readCommands_15 : decode cX5_readCommands 15 = .ok (.ifCond .eq 111, 3) := by decide +kernel
theorem dX5_readCommands_18 : decode cX5_readCommands 18 = .ok (.aload_n 0, 1) := by decide +kernel
theorem dX5_readCommands_19 : decode cX5_readCommands 19 = .ok (.invokevirtual 40, 3) := by decide +kernel
theorem dX5_readCommands_22 : decode cX5_readCommands 22 = .ok (.istore_n 3, 1) := by decide +kernel
theorem dX5_readCommands_23 : decode cX5_readCommands 23 = .ok (.iload_n 3, 1) := by decide +kernel
theorem dX5_readCommands_24 : decode cX5_readCommands 24 = .ok (.iconst (-1), 1) := by decide +kernel
theorem dX5_readCommands_25 : decode cX5_readCommands 25 = .ok (.if_icmp .ne 12, 3) := by decide +kernel
theorem dX5_readCommands_28 : decode cX5_readCommands 28 = .ok (.aload_n 0, 1) := by decide +kernel
theorem dX5_readCommands_29 : decode cX5_readCommands 29 = .ok (.getfield 9, 3) := by decide +kernel
theorem dX5_readCommands_32 : decode cX5_readCommands 32 = .ok (.iconst 1, 1) := by decide +kernel
theorem dX5_readCommands_33 : decode cX5_readCommands 33 = .ok (.invokevirtual 44, 3) := by decide +kernel
theorem dX5_readCommands_36 : decode cX5_readCommands 36 = .ok (.ireturn, 1) := by decide +kernel
theorem dX5_readCommands_37 : decode cX5_readCommands 37 = .ok (.aload_n 0, 1) := by decide +kernel
theorem dX5_readCommands_38 : decode cX5_readCommands 38 = .ok (.getfield 15, 3) := by decide +kernel
theorem dX5_readCommands_41 : decode cX5_readCommands 41 = .ok (.getfield 47, 3) := by decide +kernel
theorem dX5_readCommands_44 : decode cX5_readCommands 44 = .ok (.bipush 30, 2) := by decide +kernel
theorem dX5_readCommands_46 : decode cX5_readCommands 46 = .ok (.if_icmp .lt 12, 3) := by decide +kernel
theorem dX5_readCommands_49 : decode cX5_readCommands 49 = .ok (.aload_n 0, 1) := by decide +kernel
theorem dX5_readCommands_50 : decode cX5_readCommands 50 = .ok (.getfield 9, 3) := by decide +kernel
theorem dX5_readCommands_53 : decode cX5_readCommands 53 = .ok (.iconst 4, 1) := by decide +kernel
theorem dX5_readCommands_54 : decode cX5_readCommands 54 = .ok (.invokevirtual 44, 3) := by decide +kernel
theorem dX5_readCommands_57 : decode cX5_readCommands 57 = .ok (.ireturn, 1) := by decide +kernel
theorem dX5_readCommands_58 : decode cX5_readCommands 58 = .ok (.aload_n 0, 1) := by decide +kernel
theorem dX5_readCommands_59 : decode cX5_readCommands 59 = .ok (.getfield 9, 3) := by decide +kernel
theorem dX5_readCommands_62 : decode cX5_readCommands 62 = .ok (.invokevirtual 51, 3) := by decide +kernel
theorem dX5_readCommands_65 : decode cX5_readCommands 65 = .ok (.aload_n 0, 1) := by decide +kernel
theorem dX5_readCommands_66 : decode cX5_readCommands 66 = .ok (.getfield 15, 3) := by decide +kernel
theorem dX5_readCommands_69 : decode cX5_readCommands 69 = .ok (.iload_n 3, 1) := by decide +kernel
theorem dX5_readCommands_70 : decode cX5_readCommands 70 = .ok (.iload_n 1, 1) := by decide +kernel
theorem dX5_readCommands_71 : decode cX5_readCommands 71 = .ok (.invokevirtual 54, 3) := by decide +kernel
theorem dX5_readCommands_74 : decode cX5_readCommands 74 = .ok (.istore 4, 2) := by decide +kernel
theorem dX5_readCommands_76 : decode cX5_readCommands 76 = .ok (.iload_n 3, 1) := by decide +kernel
theorem dX5_readCommands_77 : decode cX5_readCommands 77 = .ok (.bipush 9, 2) := by decide +kernel
theorem dX5_readCommands_79 : decode cX5_readCommands 79 = .ok (.if_icmp .ne 13, 3) := by decide +kernel
theorem dX5_readCommands_82 : decode cX5_readCommands 82 = .ok (.aload_n 0, 1) := by decide +kernel
theorem dX5_readCommands_83 : decode cX5_readCommands 83 = .ok (.iload 4, 2) := by decide +kernel
theorem dX5_readCommands_85 : decode cX5_readCommands 85 = .ok (.iload_n 1, 1) := by decide +kernel
theorem dX5_readCommands_86 : decode cX5_readCommands 86 = .ok (.invokevirtual 58, 3) := by decide +kernel
theorem dX5_readCommands_89 : decode cX5_readCommands 89 = .ok (.goto 10, 3) := by decide +kernel
theorem dX5_readCommands_92 : decode cX5_readCommands 92 = .ok (.aload_n 0, 1) := by decide +kernel
theorem dX5_readCommands_93 : decode cX5_readCommands 93 = .ok (.iload 4, 2) := by decide +kernel
theorem dX5_readCommands_95 : decode cX5_readCommands 95 = .ok (.iload_n 3, 1) := by decide +kernel
theorem dX5_readCommands_96 : decode cX5_readCommands 96 = .ok (.invokevirtual 62, 3) := by decide +kernel
theorem dX5_readCommands_99 : decode cX5_readCommands 99 = .ok (.istore 5, 2) := by decide +kernel
theorem dX5_readCommands_101 : decode cX5_readCommands 101 = .ok (.iload 5, 2) := by decide +kernel
theorem dX5_readCommands_103 : decode cX5_readCommands 103 = .ok (.ifCond .eq 15, 3) := by decide +kernel
theorem dX5_readCommands_106 : decode cX5_readCommands 106 = .ok (.aload_n 0, 1) := by decide +kernel
theorem dX5_readCommands_107 : decode cX5_readCommands 107 = .ok (.getfield 9, 3) := by decide +kernel
theorem dX5_readCommands_110 : decode cX5_readCommands 110 = .ok (.bipush 59, 2) := by decide +kernel
theorem dX5_readCommands_112 : decode cX5_readCommands 112 = .ok (.invokevirtual 65, 3) := by decide +kernel
theorem dX5_readCommands_115 : decode cX5_readCommands 115 = .ok (.ifCond .ne 5, 3) := by decide +kernel
theorem dX5_readCommands_118 : decode cX5_readCommands 118 = .ok (.iconst 0, 1) := by decide +kernel
theorem dX5_readCommands_119 : decode cX5_readCommands 119 = .ok (.ireturn, 1) := by decide +kernel
theorem dX5_readCommands_120 : decode cX5_readCommands 120 = .ok (.iinc 2 1, 3) := by decide +kernel
theorem dX5_readCommands_123 : decode cX5_readCommands 123 = .ok (.goto (-121), 3) := by decide +kernel
theorem dX5_readCommands_126 : decode cX5_readCommands 126 = .ok (.iconst 1, 1) := by decide +kernel
theorem dX5_readCommands_127 : decode cX5_readCommands 127 = .ok (.ireturn, 1) := by decide +kernel
def fX5_readCommands_L2 (rc : Mm → Int32 → Option (Int32 × Mm)) (c1 : Int32) (K : Int32 → Mm → Option (Int32 × Mm)) : Nat → Int32 → Mm → Option (Int32 × Mm)
  | 0, _, _ => none
  | n + 1, v2, M => if (30 : Int32) < v2 then K v2 M else (fX7_atAnyWord M).bind fun q2 => if q2 = 0 then K v2 M else (fX5_kindHere M).bind fun q5 => if q5 = (-1 : Int32) then ((fX7_fail M (1 : Int32)).bind fun q26 => some ((bz q26.1), q26.2)) else if (M.1 (7, 0, 0) 4) < (30 : Int32) then ((fX4_putCommand (fX7_advance M) q5 c1).bind fun q9 => if q5 = (9 : Int32) then ((fX5_readRepeat rc q9.2 q9.1 c1).bind fun q18 => if q18.1 = 0 then some ((0 : Int32), q18.2) else (fX7_takeSign q18.2 (59 : Int32)).bind fun q21 => if q21.1 = 0 then some ((0 : Int32), q21.2) else fX5_readCommands_L2 rc c1 K n (v2 + (1 : Int32)) q21.2) else (fX5_readArguments q9.2 q9.1 q5).bind fun q12 => if q12.1 = 0 then some ((0 : Int32), q12.2) else (fX7_takeSign q12.2 (59 : Int32)).bind fun q15 => if q15.1 = 0 then some ((0 : Int32), q15.2) else fX5_readCommands_L2 rc c1 K n (v2 + (1 : Int32)) q15.2) else (fX7_fail M (4 : Int32)).bind fun q24 => some ((bz q24.1), q24.2)
def fX5_readCommands (rc : Mm → Int32 → Option (Int32 × Mm)) (M : Mm) (x1 : Int32) : Option (Int32 × Mm) := fX5_readCommands_L2 rc x1 (fun w28 M29 => some ((1 : Int32), M29)) NF (0 : Int32) M
def gX5_readCommands : Nat → Mm → Int32 → Option (Int32 × Mm)
  | 0, _, _ => none
  | n + 1, M, x1 => fX5_readCommands (gX5_readCommands n) M x1
set_option maxRecDepth 20000 in
set_option maxHeartbeats 2000000 in
theorem sX5_readCommands_L2 {wv : Nat} (rc : Mm → Int32 → Option (Int32 × Mm)) (c1 : Int32) (dd : Nat) (hrc : ∀ (M : Mm) (x1 : Int32) (res : (Int32 × Mm)), rc M x1 = some res → TF wv yX5_readCommands cX5_readCommands 6 (some .boolean) dd [.inr (6, 0, 0), .inl (.int x1)] M (some (.int res.1)) res.2) {res : (Int32 × Mm)} {K : Int32 → Mm → Option (Int32 × Mm)} : ∀ (n : Nat) (v2 : Int32) (M : Mm), fX5_readCommands_L2 rc c1 K n v2 M = some res →
    (∀ (v2 : Int32) (M : Mm), K v2 M = some res → Z RX5 cX5_readCommands 6 (some .boolean) [] "readCommands" (rmD (dd + 10) 0 0) (QM SH (allR wv) 0 0 (fun v M9 => v = some (.int res.1) ∧ M9 = res.2) (fun _ _ => False)) (allR wv) SH 0 0 126 [some (.inr (6, 0, 0)), some (.inl (.int c1)), some (.inl (.int v2)), none, none, none] [] M) → Z RX5 cX5_readCommands 6 (some .boolean) [] "readCommands" (rmD (dd + 10) 0 0) (QM SH (allR wv) 0 0 (fun v M9 => v = some (.int res.1) ∧ M9 = res.2) (fun _ _ => False)) (allR wv) SH 0 0 2 [some (.inr (6, 0, 0)), some (.inl (.int c1)), some (.inl (.int v2)), none, none, none] [] M := by
  intro n
  induction n with
  | zero => intro v2 M h; cases h
  | succ n ih =>
    intro v2 M h hK
    rw [fX5_readCommands_L2] at h
    refine z_iload_n (i := 2) dX5_readCommands_2 rfl rfl ?_
    refine z_bipush (v := (30 : Int32)) dX5_readCommands_3 kb_30 ?_
    refine z_icmp_gt (tgt := 126) dX5_readCommands_5 rfl (fun hc1 => ?_) (fun hc1 => ?_)
    · have h := it_t h hc1
      exact hK _ _ h
    · have h := it_f h hc1
      refine z_aload_n (i := 0) dX5_readCommands_8 rfl rfl ?_
      refine z_getR (r' := (3, 0, 0)) dX5_readCommands_9 fl_X5_9 mk6 rfl rfl ?_
      obtain ⟨q2, hq3, h⟩ := bnd h
      refine z_fVi (sX7_atAnyWord M hq3) dX5_readCommands_12 ml_X5_37 cd_X7_atAnyWord mk3 rfl rfl rfl (rmk_d (by omega) (by decide)) rfl rfl ?_
      refine z_if_eq (tgt := 126) dX5_readCommands_15 rfl (fun hc4 => ?_) (fun hc4 => ?_)
      · have h := it_t h hc4
        exact hK _ _ h
      · have h := it_f h hc4
        refine z_aload_n (i := 0) dX5_readCommands_18 rfl rfl ?_
        obtain ⟨q5, hq6, h⟩ := bnd h
        refine z_fVi (sX5_kindHere M hq6) dX5_readCommands_19 ml_X5_40 cd_X5_kindHere mk6 rfl rfl rfl (rmk_d (by omega) (by decide)) rfl rfl ?_
        refine z_istore_n (i := 3) dX5_readCommands_22 rfl (Nat.le_of_ble_eq_true rfl) rfl ?_
        refine z_iload_n (i := 3) dX5_readCommands_23 rfl rfl ?_
        refine z_iconst (v := (-1 : Int32)) dX5_readCommands_24 kc_m1 ?_
        refine z_icmp_ne (tgt := 37) dX5_readCommands_25 rfl (fun hc7 => ?_) (fun hc7 => ?_)
        · have h := it_f h hc7
          refine z_aload_n (i := 0) dX5_readCommands_37 rfl rfl ?_
          refine z_getR (r' := (7, 0, 0)) dX5_readCommands_38 fl_X5_15 mk6 rfl rfl ?_
          refine z_getI (x := (M.1 (7, 0, 0) 4)) dX5_readCommands_41 fl_X5_47 mk7 rfl rfl ?_
          refine z_bipush (v := (30 : Int32)) dX5_readCommands_44 kb_30 ?_
          refine z_icmp_lt (tgt := 58) dX5_readCommands_46 rfl (fun hc8 => ?_) (fun hc8 => ?_)
          · have h := it_t h hc8
            refine z_aload_n (i := 0) dX5_readCommands_58 rfl rfl ?_
            refine z_getR (r' := (3, 0, 0)) dX5_readCommands_59 fl_X5_9 mk6 rfl rfl ?_
            refine z_fVv (sX7_advance M) dX5_readCommands_62 ml_X5_51 cd_X7_advance mk3 rfl rfl rfl (rmk_d (by omega) (by decide)) rfl rfl ?_
            refine z_aload_n (i := 0) dX5_readCommands_65 rfl rfl ?_
            refine z_getR (r' := (7, 0, 0)) dX5_readCommands_66 fl_X5_15 mk6 rfl rfl ?_
            refine z_iload_n (i := 3) dX5_readCommands_69 rfl rfl ?_
            refine z_iload_n (i := 1) dX5_readCommands_70 rfl rfl ?_
            obtain ⟨q9, hq10, h⟩ := bnd h
            refine z_fVi (sX4_putCommand (fX7_advance M) q5 c1 hq10) dX5_readCommands_71 ml_X5_54 cd_X4_putCommand mk7 rfl rfl rfl (rmk_d (by omega) (by decide)) rfl rfl ?_
            refine z_istore (i := 4) dX5_readCommands_74 (Nat.le_of_ble_eq_true rfl) rfl ?_
            refine z_iload_n (i := 3) dX5_readCommands_76 rfl rfl ?_
            refine z_bipush (v := (9 : Int32)) dX5_readCommands_77 kb_9 ?_
            refine z_icmp_ne (tgt := 92) dX5_readCommands_79 rfl (fun hc11 => ?_) (fun hc11 => ?_)
            · have h := it_f h hc11
              refine z_aload_n (i := 0) dX5_readCommands_92 rfl rfl ?_
              refine z_iload (i := 4) dX5_readCommands_93 rfl ?_
              refine z_iload_n (i := 3) dX5_readCommands_95 rfl rfl ?_
              obtain ⟨q12, hq13, h⟩ := bnd h
              refine z_fVi (sX5_readArguments q9.2 q9.1 q5 hq13) dX5_readCommands_96 ml_X5_62 cd_X5_readArguments mk6 rfl rfl rfl (rmk_d (by omega) (by decide)) rfl rfl ?_
              refine z_istore (i := 5) dX5_readCommands_99 (Nat.le_of_ble_eq_true rfl) rfl ?_
              refine z_iload (i := 5) dX5_readCommands_101 rfl ?_
              refine z_if_eq (tgt := 118) dX5_readCommands_103 rfl (fun hc14 => ?_) (fun hc14 => ?_)
              · have h := it_t h hc14
                refine z_iconst (v := (0 : Int32)) dX5_readCommands_118 kc_0 ?_
                cases h
                exact z_iret dX5_readCommands_119 rfl rfl (Nat.le_refl _) (Nat.le_refl _) ⟨rfl, rfl⟩
              · have h := it_f h hc14
                refine z_aload_n (i := 0) dX5_readCommands_106 rfl rfl ?_
                refine z_getR (r' := (3, 0, 0)) dX5_readCommands_107 fl_X5_9 mk6 rfl rfl ?_
                refine z_bipush (v := (59 : Int32)) dX5_readCommands_110 kb_59 ?_
                obtain ⟨q15, hq16, h⟩ := bnd h
                refine z_fVi (sX7_takeSign q12.2 (59 : Int32) hq16) dX5_readCommands_112 ml_X5_65 cd_X7_takeSign mk3 rfl rfl rfl (rmk_d (by omega) (by decide)) rfl rfl ?_
                refine z_if_ne (tgt := 120) dX5_readCommands_115 rfl (fun hc17 => ?_) (fun hc17 => ?_)
                · have h := it_f h hc17
                  refine z_iinc (i := 2) (v := (v2 + (1 : Int32))) dX5_readCommands_120 rfl (iinc_k kc_1) (Nat.le_of_ble_eq_true rfl) rfl ?_
                  refine z_goto (tgt := 2) dX5_readCommands_123 rfl ?_
                  refine z_fgt (i := 3) ?_
                  refine z_fgt (i := 4) ?_
                  refine z_fgt (i := 5) ?_
                  exact ih _ _ h hK
                · have h := it_t h hc17
                  refine z_iconst (v := (0 : Int32)) dX5_readCommands_118 kc_0 ?_
                  cases h
                  exact z_iret dX5_readCommands_119 rfl rfl (Nat.le_refl _) (Nat.le_refl _) ⟨rfl, rfl⟩
            · have h := it_t h hc11
              refine z_aload_n (i := 0) dX5_readCommands_82 rfl rfl ?_
              refine z_iload (i := 4) dX5_readCommands_83 rfl ?_
              refine z_iload_n (i := 1) dX5_readCommands_85 rfl rfl ?_
              obtain ⟨q18, hq19, h⟩ := bnd h
              refine z_fVi (sX5_readRepeat rc dd hrc q9.2 q9.1 c1 hq19) dX5_readCommands_86 ml_X5_58 cd_X5_readRepeat mk6 rfl rfl rfl (rmk_d (by omega) (by decide)) rfl rfl ?_
              refine z_goto (tgt := 99) dX5_readCommands_89 rfl ?_
              refine z_istore (i := 5) dX5_readCommands_99 (Nat.le_of_ble_eq_true rfl) rfl ?_
              refine z_iload (i := 5) dX5_readCommands_101 rfl ?_
              refine z_if_eq (tgt := 118) dX5_readCommands_103 rfl (fun hc20 => ?_) (fun hc20 => ?_)
              · have h := it_t h hc20
                refine z_iconst (v := (0 : Int32)) dX5_readCommands_118 kc_0 ?_
                cases h
                exact z_iret dX5_readCommands_119 rfl rfl (Nat.le_refl _) (Nat.le_refl _) ⟨rfl, rfl⟩
              · have h := it_f h hc20
                refine z_aload_n (i := 0) dX5_readCommands_106 rfl rfl ?_
                refine z_getR (r' := (3, 0, 0)) dX5_readCommands_107 fl_X5_9 mk6 rfl rfl ?_
                refine z_bipush (v := (59 : Int32)) dX5_readCommands_110 kb_59 ?_
                obtain ⟨q21, hq22, h⟩ := bnd h
                refine z_fVi (sX7_takeSign q18.2 (59 : Int32) hq22) dX5_readCommands_112 ml_X5_65 cd_X7_takeSign mk3 rfl rfl rfl (rmk_d (by omega) (by decide)) rfl rfl ?_
                refine z_if_ne (tgt := 120) dX5_readCommands_115 rfl (fun hc23 => ?_) (fun hc23 => ?_)
                · have h := it_f h hc23
                  refine z_iinc (i := 2) (v := (v2 + (1 : Int32))) dX5_readCommands_120 rfl (iinc_k kc_1) (Nat.le_of_ble_eq_true rfl) rfl ?_
                  refine z_goto (tgt := 2) dX5_readCommands_123 rfl ?_
                  refine z_fgt (i := 3) ?_
                  refine z_fgt (i := 4) ?_
                  refine z_fgt (i := 5) ?_
                  exact ih _ _ h hK
                · have h := it_t h hc23
                  refine z_iconst (v := (0 : Int32)) dX5_readCommands_118 kc_0 ?_
                  cases h
                  exact z_iret dX5_readCommands_119 rfl rfl (Nat.le_refl _) (Nat.le_refl _) ⟨rfl, rfl⟩
          · have h := it_f h hc8
            refine z_aload_n (i := 0) dX5_readCommands_49 rfl rfl ?_
            refine z_getR (r' := (3, 0, 0)) dX5_readCommands_50 fl_X5_9 mk6 rfl rfl ?_
            refine z_iconst (v := (4 : Int32)) dX5_readCommands_53 kc_4 ?_
            obtain ⟨q24, hq25, h⟩ := bnd h
            refine z_fVi (sX7_fail M (4 : Int32) hq25) dX5_readCommands_54 ml_X5_44 cd_X7_fail mk3 rfl rfl rfl (rmk_d (by omega) (by decide)) rfl rfl ?_
            cases h
            exact z_iret dX5_readCommands_57 rfl (bz_ok _) (Nat.le_refl _) (Nat.le_refl _) ⟨rfl, rfl⟩
        · have h := it_t h hc7
          refine z_aload_n (i := 0) dX5_readCommands_28 rfl rfl ?_
          refine z_getR (r' := (3, 0, 0)) dX5_readCommands_29 fl_X5_9 mk6 rfl rfl ?_
          refine z_iconst (v := (1 : Int32)) dX5_readCommands_32 kc_1 ?_
          obtain ⟨q26, hq27, h⟩ := bnd h
          refine z_fVi (sX7_fail M (1 : Int32) hq27) dX5_readCommands_33 ml_X5_44 cd_X7_fail mk3 rfl rfl rfl (rmk_d (by omega) (by decide)) rfl rfl ?_
          cases h
          exact z_iret dX5_readCommands_36 rfl (bz_ok _) (Nat.le_refl _) (Nat.le_refl _) ⟨rfl, rfl⟩
set_option maxRecDepth 20000 in
set_option maxHeartbeats 2000000 in
theorem sX5_readCommands {wv : Nat} (rc : Mm → Int32 → Option (Int32 × Mm)) (dd : Nat) (hrc : ∀ (M : Mm) (x1 : Int32) (res : (Int32 × Mm)), rc M x1 = some res → TF wv yX5_readCommands cX5_readCommands 6 (some .boolean) dd [.inr (6, 0, 0), .inl (.int x1)] M (some (.int res.1)) res.2) (M : Mm) (x1 : Int32) {res : (Int32 × Mm)} (h : fX5_readCommands rc M x1 = some res) : TF wv yX5_readCommands cX5_readCommands 6 (some .boolean) (dd + 10) [.inr (6, 0, 0), .inl (.int x1)] M (some (.int res.1)) res.2 := by
  rw [fX5_readCommands] at h
  refine TF.go (n := 4) (ls := [some (.inr (6, 0, 0)), some (.inl (.int x1)), none, none, none, none]) rfl rfl rfl rfl rfl ?_
  refine z_iconst (v := (0 : Int32)) dX5_readCommands_0 kc_0 ?_
  refine z_istore_n (i := 2) dX5_readCommands_1 rfl (Nat.le_of_ble_eq_true rfl) rfl ?_
  refine sX5_readCommands_L2 rc x1 dd hrc NF _ _ h (fun w28 M29 h => ?_)
  refine z_iconst (v := (1 : Int32)) dX5_readCommands_126 kc_1 ?_
  cases h
  exact z_iret dX5_readCommands_127 rfl rfl (Nat.le_refl _) (Nat.le_refl _) ⟨rfl, rfl⟩
set_option maxRecDepth 20000 in
set_option maxHeartbeats 2000000 in
theorem uX5_readCommands {wv : Nat} : ∀ (n : Nat) (M : Mm) (x1 : Int32) (res : (Int32 × Mm)), gX5_readCommands n M x1 = some res → TF wv yX5_readCommands cX5_readCommands 6 (some .boolean) (10 * n) [.inr (6, 0, 0), .inl (.int x1)] M (some (.int res.1)) res.2 := by
  intro n
  induction n with
  | zero => intro M x1  res h; cases h
  | succ n ih =>
    intro M x1  res h
    exact sX5_readCommands (gX5_readCommands n) (10 * n) (fun M x1  res h => ih M x1  res h) M x1  h
theorem dX7_takeEnd_0 : decode cX7_takeEnd 0 = .ok (.aload_n 0, 1) := by decide +kernel
theorem dX7_takeEnd_1 : decode cX7_takeEnd 1 = .ok (.getfield 9, 3) := by decide +kernel
theorem dX7_takeEnd_4 : decode cX7_takeEnd 4 = .ok (.aload_n 0, 1) := by decide +kernel
theorem dX7_takeEnd_5 : decode cX7_takeEnd 5 = .ok (.getfield 38, 3) := by decide +kernel
theorem dX7_takeEnd_8 : decode cX7_takeEnd 8 = .ok (.iaload, 1) := by decide +kernel
theorem dX7_takeEnd_9 : decode cX7_takeEnd 9 = .ok (.ifCond .eq 11, 3) := by decide +kernel
theorem dX7_takeEnd_12 : decode cX7_takeEnd 12 = .ok (.aload_n 0, 1) := by decide +kernel
theorem dX7_takeEnd_13 : decode cX7_takeEnd 13 = .ok (.iconst 1, 1) := by decide +kernel
theorem dX7_takeEnd_14 : decode cX7_takeEnd 14 = .ok (.invokevirtual 81, 3) := by decide +kernel
theorem dX7_takeEnd_17 : decode cX7_takeEnd 17 = .ok (.ifCond .eq 7, 3) := by decide +kernel
theorem dX7_takeEnd_20 : decode cX7_takeEnd 20 = .ok (.iconst 1, 1) := by decide +kernel
theorem dX7_takeEnd_21 : decode cX7_takeEnd 21 = .ok (.goto 4, 3) := by decide +kernel
theorem dX7_takeEnd_24 : decode cX7_takeEnd 24 = .ok (.iconst 0, 1) := by decide +kernel
theorem dX7_takeEnd_25 : decode cX7_takeEnd 25 = .ok (.ireturn, 1) := by decide +kernel
def fX7_takeEnd (M : Mm) : Option (Int32 × Mm) := if (M.1 (3, 0, 0) 6) < 0 ∨ 801 ≤ (M.1 (3, 0, 0) 6).toNatClampNeg then none else if (M.1 (4, 0, 0) (M.1 (3, 0, 0) 6).toNatClampNeg) = 0 then some ((1 : Int32), M) else (fX7_fail M (1 : Int32)).bind fun q3 => if q3.1 = 0 then some ((0 : Int32), q3.2) else some ((1 : Int32), q3.2)
set_option maxRecDepth 20000 in
set_option maxHeartbeats 2000000 in
theorem sX7_takeEnd {wv : Nat} (M : Mm) {res : (Int32 × Mm)} (h : fX7_takeEnd M  = some res) : TF wv yX7_takeEnd cX7_takeEnd 1 (some .boolean) 1 [.inr (3, 0, 0)] M (some (.int res.1)) res.2 := by
  rw [fX7_takeEnd] at h
  refine TF.go (n := 0) (ls := [some (.inr (3, 0, 0))]) rfl rfl rfl rfl rfl ?_
  refine z_aload_n (i := 0) dX7_takeEnd_0 rfl rfl ?_
  refine z_getR (r' := (4, 0, 0)) dX7_takeEnd_1 fl_X7_9 mk3 rfl rfl ?_
  refine z_aload_n (i := 0) dX7_takeEnd_4 rfl rfl ?_
  refine z_getI (x := (M.1 (3, 0, 0) 6)) dX7_takeEnd_5 fl_X7_38 mk3 rfl rfl ?_
  obtain ⟨hc1, h⟩ := chk h
  refine z_iald (x := (M.1 (4, 0, 0) (M.1 (3, 0, 0) 6).toNatClampNeg)) dX7_takeEnd_8 (m4 _ (Nat.le_of_ble_eq_true rfl)) rfl hc1 rfl ?_
  refine z_if_eq (tgt := 20) dX7_takeEnd_9 rfl (fun hc2 => ?_) (fun hc2 => ?_)
  · have h := it_t h hc2
    refine z_iconst (v := (1 : Int32)) dX7_takeEnd_20 kc_1 ?_
    refine z_goto (tgt := 25) dX7_takeEnd_21 rfl ?_
    cases h
    exact z_iret dX7_takeEnd_25 rfl rfl (Nat.le_refl _) (Nat.le_refl _) ⟨rfl, rfl⟩
  · have h := it_f h hc2
    refine z_aload_n (i := 0) dX7_takeEnd_12 rfl rfl ?_
    refine z_iconst (v := (1 : Int32)) dX7_takeEnd_13 kc_1 ?_
    obtain ⟨q3, hq4, h⟩ := bnd h
    refine z_fVi (sX7_fail M (1 : Int32) hq4) dX7_takeEnd_14 ml_X7_81 cd_X7_fail mk3 rfl rfl rfl rfl rfl rfl ?_
    refine z_if_eq (tgt := 24) dX7_takeEnd_17 rfl (fun hc5 => ?_) (fun hc5 => ?_)
    · have h := it_t h hc5
      refine z_iconst (v := (0 : Int32)) dX7_takeEnd_24 kc_0 ?_
      cases h
      exact z_iret dX7_takeEnd_25 rfl rfl (Nat.le_refl _) (Nat.le_refl _) ⟨rfl, rfl⟩
    · have h := it_f h hc5
      refine z_iconst (v := (1 : Int32)) dX7_takeEnd_20 kc_1 ?_
      refine z_goto (tgt := 25) dX7_takeEnd_21 rfl ?_
      cases h
      exact z_iret dX7_takeEnd_25 rfl rfl (Nat.le_refl _) (Nat.le_refl _) ⟨rfl, rfl⟩
theorem dX5_readScript_0 : decode cX5_readScript 0 = .ok (.aload_n 0, 1) := by decide +kernel
theorem dX5_readScript_1 : decode cX5_readScript 1 = .ok (.getfield 15, 3) := by decide +kernel
theorem dX5_readScript_4 : decode cX5_readScript 4 = .ok (.invokevirtual 19, 3) := by decide +kernel
theorem dX5_readScript_7 : decode cX5_readScript 7 = .ok (.aload_n 0, 1) := by decide +kernel
theorem dX5_readScript_8 : decode cX5_readScript 8 = .ok (.getfield 9, 3) := by decide +kernel
theorem dX5_readScript_11 : decode cX5_readScript 11 = .ok (.invokevirtual 24, 3) := by decide +kernel
theorem dX5_readScript_14 : decode cX5_readScript 14 = .ok (.aload_n 0, 1) := by decide +kernel
theorem dX5_readScript_15 : decode cX5_readScript 15 = .ok (.iconst 0, 1) := by decide +kernel
theorem dX5_readScript_16 : decode cX5_readScript 16 = .ok (.invokevirtual 29, 3) := by decide +kernel
theorem dX5_readScript_19 : decode cX5_readScript 19 = .ok (.ifCond .eq 17, 3) := by decide +kernel
theorem dX5_readScript_22 : decode cX5_readScript 22 = .ok (.aload_n 0, 1) := by decide +kernel
theorem dX5_readScript_23 : decode cX5_readScript 23 = .ok (.getfield 9, 3) := by decide +kernel
theorem dX5_readScript_26 : decode cX5_readScript 26 = .ok (.invokevirtual 33, 3) := by decide +kernel
theorem dX5_readScript_29 : decode cX5_readScript 29 = .ok (.ifCond .eq 7, 3) := by decide +kernel
theorem dX5_readScript_32 : decode cX5_readScript 32 = .ok (.iconst 1, 1) := by decide +kernel
theorem dX5_readScript_33 : decode cX5_readScript 33 = .ok (.goto 4, 3) := by decide +kernel
theorem dX5_readScript_36 : decode cX5_readScript 36 = .ok (.iconst 0, 1) := by decide +kernel
theorem dX5_readScript_37 : decode cX5_readScript 37 = .ok (.ireturn, 1) := by decide +kernel
def fX5_readScript (M : Mm) : Option (Int32 × Mm) := (fX7_scan (fX4_begin M)).bind fun q1 => (gX5_readCommands 6 q1 (0 : Int32)).bind fun q3 => if q3.1 = 0 then some ((0 : Int32), q3.2) else (fX7_takeEnd q3.2).bind fun q6 => if q6.1 = 0 then some ((0 : Int32), q6.2) else some ((1 : Int32), q6.2)
set_option maxRecDepth 20000 in
set_option maxHeartbeats 2000000 in
theorem sX5_readScript {wv : Nat} (M : Mm) {res : (Int32 × Mm)} (h : fX5_readScript M  = some res) : TF wv yX5_readScript cX5_readScript 1 (some .boolean) 61 [.inr (6, 0, 0)] M (some (.int res.1)) res.2 := by
  rw [fX5_readScript] at h
  refine TF.go (n := 0) (ls := [some (.inr (6, 0, 0))]) rfl rfl rfl rfl rfl ?_
  refine z_aload_n (i := 0) dX5_readScript_0 rfl rfl ?_
  refine z_getR (r' := (7, 0, 0)) dX5_readScript_1 fl_X5_15 mk6 rfl rfl ?_
  refine z_fVv (sX4_begin M) dX5_readScript_4 ml_X5_19 cd_X4_begin mk7 rfl rfl rfl rfl rfl rfl ?_
  refine z_aload_n (i := 0) dX5_readScript_7 rfl rfl ?_
  refine z_getR (r' := (3, 0, 0)) dX5_readScript_8 fl_X5_9 mk6 rfl rfl ?_
  obtain ⟨q1, hq2, h⟩ := bnd h
  refine z_fVv (sX7_scan (fX4_begin M) hq2) dX5_readScript_11 ml_X5_24 cd_X7_scan mk3 rfl rfl rfl rfl rfl rfl ?_
  refine z_aload_n (i := 0) dX5_readScript_14 rfl rfl ?_
  refine z_iconst (v := (0 : Int32)) dX5_readScript_15 kc_0 ?_
  obtain ⟨q3, hq4, h⟩ := bnd h
  refine z_fVi (uX5_readCommands 6 q1 (0 : Int32) _ hq4) dX5_readScript_16 ml_X5_29 cd_X5_readCommands mk6 rfl rfl rfl rfl rfl rfl ?_
  refine z_if_eq (tgt := 36) dX5_readScript_19 rfl (fun hc5 => ?_) (fun hc5 => ?_)
  · have h := it_t h hc5
    refine z_iconst (v := (0 : Int32)) dX5_readScript_36 kc_0 ?_
    cases h
    exact z_iret dX5_readScript_37 rfl rfl (Nat.le_refl _) (Nat.le_refl _) ⟨rfl, rfl⟩
  · have h := it_f h hc5
    refine z_aload_n (i := 0) dX5_readScript_22 rfl rfl ?_
    refine z_getR (r' := (3, 0, 0)) dX5_readScript_23 fl_X5_9 mk6 rfl rfl ?_
    obtain ⟨q6, hq7, h⟩ := bnd h
    refine z_fVi (sX7_takeEnd q3.2 hq7) dX5_readScript_26 ml_X5_33 cd_X7_takeEnd mk3 rfl rfl rfl rfl rfl rfl ?_
    refine z_if_eq (tgt := 36) dX5_readScript_29 rfl (fun hc8 => ?_) (fun hc8 => ?_)
    · have h := it_t h hc8
      refine z_iconst (v := (0 : Int32)) dX5_readScript_36 kc_0 ?_
      cases h
      exact z_iret dX5_readScript_37 rfl rfl (Nat.le_refl _) (Nat.le_refl _) ⟨rfl, rfl⟩
    · have h := it_f h hc8
      refine z_iconst (v := (1 : Int32)) dX5_readScript_32 kc_1 ?_
      refine z_goto (tgt := 37) dX5_readScript_33 rfl ?_
      cases h
      exact z_iret dX5_readScript_37 rfl rfl (Nat.le_refl _) (Nat.le_refl _) ⟨rfl, rfl⟩
theorem dX7_takeWord_0 : decode cX7_takeWord 0 = .ok (.aload_n 0, 1) := by decide +kernel
theorem dX7_takeWord_1 : decode cX7_takeWord 1 = .ok (.aload_n 1, 1) := by decide +kernel
theorem dX7_takeWord_2 : decode cX7_takeWord 2 = .ok (.invokevirtual 77, 3) := by decide +kernel
theorem dX7_takeWord_5 : decode cX7_takeWord 5 = .ok (.ifCond .ne 9, 3) := by decide +kernel
theorem dX7_takeWord_8 : decode cX7_takeWord 8 = .ok (.aload_n 0, 1) := by decide +kernel
theorem dX7_takeWord_9 : decode cX7_takeWord 9 = .ok (.iconst 1, 1) := by decide +kernel
theorem dX7_takeWord_10 : decode cX7_takeWord 10 = .ok (.invokevirtual 81, 3) := by decide +kernel
theorem dX7_takeWord_13 : decode cX7_takeWord 13 = .ok (.ireturn, 1) := by decide +kernel
theorem dX7_takeWord_14 : decode cX7_takeWord 14 = .ok (.aload_n 0, 1) := by decide +kernel
theorem dX7_takeWord_15 : decode cX7_takeWord 15 = .ok (.invokevirtual 85, 3) := by decide +kernel
theorem dX7_takeWord_18 : decode cX7_takeWord 18 = .ok (.iconst 1, 1) := by decide +kernel
theorem dX7_takeWord_19 : decode cX7_takeWord 19 = .ok (.ireturn, 1) := by decide +kernel
def fX7_takeWord (M : Mm) (j1 : Nat) : Option (Int32 × Mm) := (fX7_atWord M j1).bind fun q1 => if q1 = 0 then ((fX7_fail M (1 : Int32)).bind fun q4 => some ((bz q4.1), q4.2)) else some ((1 : Int32), (fX7_advance M))
set_option maxRecDepth 20000 in
set_option maxHeartbeats 2000000 in
theorem sX7_takeWord {wv : Nat} (M : Mm) (j1 : Nat) (hj1 : j1 < 22) {res : (Int32 × Mm)} (h : fX7_takeWord M j1 = some res) : TF wv yX7_takeWord cX7_takeWord 2 (some .boolean) 8 [.inr (3, 0, 0), .inr (30, j1, 0)] M (some (.int res.1)) res.2 := by
  rw [fX7_takeWord] at h
  refine TF.go (n := 0) (ls := [some (.inr (3, 0, 0)), some (.inr (30, j1, 0))]) rfl rfl rfl rfl rfl ?_
  refine z_aload_n (i := 0) dX7_takeWord_0 rfl rfl ?_
  refine z_aload_n (i := 1) dX7_takeWord_1 rfl rfl ?_
  obtain ⟨q1, hq2, h⟩ := bnd h
  refine z_fVi (sX7_atWord M j1 hj1 hq2) dX7_takeWord_2 ml_X7_77 cd_X7_atWord mk3 rfl rfl rfl rfl rfl rfl ?_
  refine z_if_ne (tgt := 14) dX7_takeWord_5 rfl (fun hc3 => ?_) (fun hc3 => ?_)
  · have h := it_f h hc3
    refine z_aload_n (i := 0) dX7_takeWord_14 rfl rfl ?_
    refine z_fVv (sX7_advance M) dX7_takeWord_15 ml_X7_85 cd_X7_advance mk3 rfl rfl rfl rfl rfl rfl ?_
    refine z_iconst (v := (1 : Int32)) dX7_takeWord_18 kc_1 ?_
    cases h
    exact z_iret dX7_takeWord_19 rfl rfl (Nat.le_refl _) (Nat.le_refl _) ⟨rfl, rfl⟩
  · have h := it_t h hc3
    refine z_aload_n (i := 0) dX7_takeWord_8 rfl rfl ?_
    refine z_iconst (v := (1 : Int32)) dX7_takeWord_9 kc_1 ?_
    obtain ⟨q4, hq5, h⟩ := bnd h
    refine z_fVi (sX7_fail M (1 : Int32) hq5) dX7_takeWord_10 ml_X7_81 cd_X7_fail mk3 rfl rfl rfl rfl rfl rfl ?_
    cases h
    exact z_iret dX7_takeWord_13 rfl (bz_ok _) (Nat.le_refl _) (Nat.le_refl _) ⟨rfl, rfl⟩
theorem dX6_readHead_0 : decode cX6_readHead 0 = .ok (.aload_n 0, 1) := by decide +kernel
theorem dX6_readHead_1 : decode cX6_readHead 1 = .ok (.getfield 9, 3) := by decide +kernel
theorem dX6_readHead_4 : decode cX6_readHead 4 = .ok (.ldc 48, 2) := by decide +kernel
theorem dX6_readHead_6 : decode cX6_readHead 6 = .ok (.invokevirtual 50, 3) := by decide +kernel
theorem dX6_readHead_9 : decode cX6_readHead 9 = .ok (.ifCond .ne 5, 3) := by decide +kernel
theorem dX6_readHead_12 : decode cX6_readHead 12 = .ok (.iconst 0, 1) := by decide +kernel
theorem dX6_readHead_13 : decode cX6_readHead 13 = .ok (.ireturn, 1) := by decide +kernel
theorem dX6_readHead_14 : decode cX6_readHead 14 = .ok (.aload_n 0, 1) := by decide +kernel
theorem dX6_readHead_15 : decode cX6_readHead 15 = .ok (.getfield 9, 3) := by decide +kernel
theorem dX6_readHead_18 : decode cX6_readHead 18 = .ok (.iconst 4, 1) := by decide +kernel
theorem dX6_readHead_19 : decode cX6_readHead 19 = .ok (.bipush 64, 2) := by decide +kernel
theorem dX6_readHead_21 : decode cX6_readHead 21 = .ok (.invokevirtual 53, 3) := by decide +kernel
theorem dX6_readHead_24 : decode cX6_readHead 24 = .ok (.istore_n 1, 1) := by decide +kernel
theorem dX6_readHead_25 : decode cX6_readHead 25 = .ok (.iload_n 1, 1) := by decide +kernel
theorem dX6_readHead_26 : decode cX6_readHead 26 = .ok (.iconst (-1), 1) := by decide +kernel
theorem dX6_readHead_27 : decode cX6_readHead 27 = .ok (.if_icmp .ne 5, 3) := by decide +kernel
theorem dX6_readHead_30 : decode cX6_readHead 30 = .ok (.iconst 0, 1) := by decide +kernel
theorem dX6_readHead_31 : decode cX6_readHead 31 = .ok (.ireturn, 1) := by decide +kernel
theorem dX6_readHead_32 : decode cX6_readHead 32 = .ok (.aload_n 0, 1) := by decide +kernel
theorem dX6_readHead_33 : decode cX6_readHead 33 = .ok (.getfield 9, 3) := by decide +kernel
theorem dX6_readHead_36 : decode cX6_readHead 36 = .ok (.iconst 0, 1) := by decide +kernel
theorem dX6_readHead_37 : decode cX6_readHead 37 = .ok (.bipush 20, 2) := by decide +kernel
theorem dX6_readHead_39 : decode cX6_readHead 39 = .ok (.invokevirtual 53, 3) := by decide +kernel
theorem dX6_readHead_42 : decode cX6_readHead 42 = .ok (.istore_n 2, 1) := by decide +kernel
theorem dX6_readHead_43 : decode cX6_readHead 43 = .ok (.iload_n 2, 1) := by decide +kernel
theorem dX6_readHead_44 : decode cX6_readHead 44 = .ok (.iconst (-1), 1) := by decide +kernel
theorem dX6_readHead_45 : decode cX6_readHead 45 = .ok (.if_icmp .ne 5, 3) := by decide +kernel
theorem dX6_readHead_48 : decode cX6_readHead 48 = .ok (.iconst 0, 1) := by decide +kernel
theorem dX6_readHead_49 : decode cX6_readHead 49 = .ok (.ireturn, 1) := by decide +kernel
theorem dX6_readHead_50 : decode cX6_readHead 50 = .ok (.aload_n 0, 1) := by decide +kernel
theorem dX6_readHead_51 : decode cX6_readHead 51 = .ok (.getfield 9, 3) := by decide +kernel
theorem dX6_readHead_54 : decode cX6_readHead 54 = .ok (.iconst 0, 1) := by decide +kernel
theorem dX6_readHead_55 : decode cX6_readHead 55 = .ok (.bipush 90, 2) := by decide +kernel
theorem dX6_readHead_57 : decode cX6_readHead 57 = .ok (.invokevirtual 53, 3) := by decide +kernel
theorem dX6_readHead_60 : decode cX6_readHead 60 = .ok (.istore_n 3, 1) := by decide +kernel
theorem dX6_readHead_61 : decode cX6_readHead 61 = .ok (.iload_n 3, 1) := by decide +kernel
theorem dX6_readHead_62 : decode cX6_readHead 62 = .ok (.iconst (-1), 1) := by decide +kernel
theorem dX6_readHead_63 : decode cX6_readHead 63 = .ok (.if_icmp .ne 5, 3) := by decide +kernel
theorem dX6_readHead_66 : decode cX6_readHead 66 = .ok (.iconst 0, 1) := by decide +kernel
theorem dX6_readHead_67 : decode cX6_readHead 67 = .ok (.ireturn, 1) := by decide +kernel
theorem dX6_readHead_68 : decode cX6_readHead 68 = .ok (.aload_n 0, 1) := by decide +kernel
theorem dX6_readHead_69 : decode cX6_readHead 69 = .ok (.getfield 15, 3) := by decide +kernel
theorem dX6_readHead_72 : decode cX6_readHead 72 = .ok (.iload_n 1, 1) := by decide +kernel
theorem dX6_readHead_73 : decode cX6_readHead 73 = .ok (.iload_n 2, 1) := by decide +kernel
theorem dX6_readHead_74 : decode cX6_readHead 74 = .ok (.iload_n 3, 1) := by decide +kernel
theorem dX6_readHead_75 : decode cX6_readHead 75 = .ok (.invokevirtual 57, 3) := by decide +kernel
theorem dX6_readHead_78 : decode cX6_readHead 78 = .ok (.aload_n 0, 1) := by decide +kernel
theorem dX6_readHead_79 : decode cX6_readHead 79 = .ok (.getfield 9, 3) := by decide +kernel
theorem dX6_readHead_82 : decode cX6_readHead 82 = .ok (.bipush 59, 2) := by decide +kernel
theorem dX6_readHead_84 : decode cX6_readHead 84 = .ok (.invokevirtual 63, 3) := by decide +kernel
theorem dX6_readHead_87 : decode cX6_readHead 87 = .ok (.ireturn, 1) := by decide +kernel
def fX6_readHead (M : Mm) : Option (Int32 × Mm) := (fX7_takeWord M 1).bind fun q1 => if q1.1 = 0 then some ((0 : Int32), q1.2) else (fX7_takeNumber q1.2 (4 : Int32) (64 : Int32)).bind fun q4 => if q4.1 = (-1 : Int32) then some ((0 : Int32), q4.2) else (fX7_takeNumber q4.2 (0 : Int32) (20 : Int32)).bind fun q7 => if q7.1 = (-1 : Int32) then some ((0 : Int32), q7.2) else (fX7_takeNumber q7.2 (0 : Int32) (90 : Int32)).bind fun q10 => if q10.1 = (-1 : Int32) then some ((0 : Int32), q10.2) else (fX0_begin q10.2 1 q4.1 q7.1 q10.1).bind fun q13 => (fX7_takeSign q13 (59 : Int32)).bind fun q15 => some ((bz q15.1), q15.2)
set_option maxRecDepth 20000 in
set_option maxHeartbeats 2000000 in
theorem sX6_readHead {wv : Nat} (M : Mm) {res : (Int32 × Mm)} (h : fX6_readHead M  = some res) : TF wv yX6_readHead cX6_readHead 4 (some .boolean) 9 [.inr (5, 0, 0)] M (some (.int res.1)) res.2 := by
  rw [fX6_readHead] at h
  refine TF.go (n := 3) (ls := [some (.inr (5, 0, 0)), none, none, none]) rfl rfl rfl rfl rfl ?_
  refine z_aload_n (i := 0) dX6_readHead_0 rfl rfl ?_
  refine z_getR (r' := (3, 0, 0)) dX6_readHead_1 fl_X6_9 mk5 rfl rfl ?_
  refine z_ldcS (j := 1) dX6_readHead_4 sw_RX6_48 ?_
  obtain ⟨q1, hq2, h⟩ := bnd h
  refine z_fVi (sX7_takeWord M 1 (Nat.le_of_ble_eq_true rfl) hq2) dX6_readHead_6 ml_X6_50 cd_X7_takeWord mk3 rfl rfl rfl rfl rfl rfl ?_
  refine z_if_ne (tgt := 14) dX6_readHead_9 rfl (fun hc3 => ?_) (fun hc3 => ?_)
  · have h := it_f h hc3
    refine z_aload_n (i := 0) dX6_readHead_14 rfl rfl ?_
    refine z_getR (r' := (3, 0, 0)) dX6_readHead_15 fl_X6_9 mk5 rfl rfl ?_
    refine z_iconst (v := (4 : Int32)) dX6_readHead_18 kc_4 ?_
    refine z_bipush (v := (64 : Int32)) dX6_readHead_19 kb_64 ?_
    obtain ⟨q4, hq5, h⟩ := bnd h
    refine z_fVi (sX7_takeNumber q1.2 (4 : Int32) (64 : Int32) hq5) dX6_readHead_21 ml_X6_53 cd_X7_takeNumber mk3 rfl rfl rfl rfl rfl rfl ?_
    refine z_istore_n (i := 1) dX6_readHead_24 rfl (Nat.le_of_ble_eq_true rfl) rfl ?_
    refine z_iload_n (i := 1) dX6_readHead_25 rfl rfl ?_
    refine z_iconst (v := (-1 : Int32)) dX6_readHead_26 kc_m1 ?_
    refine z_icmp_ne (tgt := 32) dX6_readHead_27 rfl (fun hc6 => ?_) (fun hc6 => ?_)
    · have h := it_f h hc6
      refine z_aload_n (i := 0) dX6_readHead_32 rfl rfl ?_
      refine z_getR (r' := (3, 0, 0)) dX6_readHead_33 fl_X6_9 mk5 rfl rfl ?_
      refine z_iconst (v := (0 : Int32)) dX6_readHead_36 kc_0 ?_
      refine z_bipush (v := (20 : Int32)) dX6_readHead_37 kb_20 ?_
      obtain ⟨q7, hq8, h⟩ := bnd h
      refine z_fVi (sX7_takeNumber q4.2 (0 : Int32) (20 : Int32) hq8) dX6_readHead_39 ml_X6_53 cd_X7_takeNumber mk3 rfl rfl rfl rfl rfl rfl ?_
      refine z_istore_n (i := 2) dX6_readHead_42 rfl (Nat.le_of_ble_eq_true rfl) rfl ?_
      refine z_iload_n (i := 2) dX6_readHead_43 rfl rfl ?_
      refine z_iconst (v := (-1 : Int32)) dX6_readHead_44 kc_m1 ?_
      refine z_icmp_ne (tgt := 50) dX6_readHead_45 rfl (fun hc9 => ?_) (fun hc9 => ?_)
      · have h := it_f h hc9
        refine z_aload_n (i := 0) dX6_readHead_50 rfl rfl ?_
        refine z_getR (r' := (3, 0, 0)) dX6_readHead_51 fl_X6_9 mk5 rfl rfl ?_
        refine z_iconst (v := (0 : Int32)) dX6_readHead_54 kc_0 ?_
        refine z_bipush (v := (90 : Int32)) dX6_readHead_55 kb_90 ?_
        obtain ⟨q10, hq11, h⟩ := bnd h
        refine z_fVi (sX7_takeNumber q7.2 (0 : Int32) (90 : Int32) hq11) dX6_readHead_57 ml_X6_53 cd_X7_takeNumber mk3 rfl rfl rfl rfl rfl rfl ?_
        refine z_istore_n (i := 3) dX6_readHead_60 rfl (Nat.le_of_ble_eq_true rfl) rfl ?_
        refine z_iload_n (i := 3) dX6_readHead_61 rfl rfl ?_
        refine z_iconst (v := (-1 : Int32)) dX6_readHead_62 kc_m1 ?_
        refine z_icmp_ne (tgt := 68) dX6_readHead_63 rfl (fun hc12 => ?_) (fun hc12 => ?_)
        · have h := it_f h hc12
          refine z_aload_n (i := 0) dX6_readHead_68 rfl rfl ?_
          refine z_getR (r' := (9, 1, 0)) dX6_readHead_69 fl_X6_15 mk5 rfl rfl ?_
          refine z_iload_n (i := 1) dX6_readHead_72 rfl rfl ?_
          refine z_iload_n (i := 2) dX6_readHead_73 rfl rfl ?_
          refine z_iload_n (i := 3) dX6_readHead_74 rfl rfl ?_
          obtain ⟨q13, hq14, h⟩ := bnd h
          refine z_fVv (sX0_begin q10.2 1 q4.1 q7.1 q10.1 (Nat.le_of_ble_eq_true rfl) hq14) dX6_readHead_75 ml_X6_57 cd_X0_begin (m9 _ (Nat.le_of_ble_eq_true rfl)) rfl rfl rfl rfl rfl rfl ?_
          refine z_aload_n (i := 0) dX6_readHead_78 rfl rfl ?_
          refine z_getR (r' := (3, 0, 0)) dX6_readHead_79 fl_X6_9 mk5 rfl rfl ?_
          refine z_bipush (v := (59 : Int32)) dX6_readHead_82 kb_59 ?_
          obtain ⟨q15, hq16, h⟩ := bnd h
          refine z_fVi (sX7_takeSign q13 (59 : Int32) hq16) dX6_readHead_84 ml_X6_63 cd_X7_takeSign mk3 rfl rfl rfl rfl rfl rfl ?_
          cases h
          exact z_iret dX6_readHead_87 rfl (bz_ok _) (Nat.le_refl _) (Nat.le_refl _) ⟨rfl, rfl⟩
        · have h := it_t h hc12
          refine z_iconst (v := (0 : Int32)) dX6_readHead_66 kc_0 ?_
          cases h
          exact z_iret dX6_readHead_67 rfl rfl (Nat.le_refl _) (Nat.le_refl _) ⟨rfl, rfl⟩
      · have h := it_t h hc9
        refine z_iconst (v := (0 : Int32)) dX6_readHead_48 kc_0 ?_
        cases h
        exact z_iret dX6_readHead_49 rfl rfl (Nat.le_refl _) (Nat.le_refl _) ⟨rfl, rfl⟩
    · have h := it_t h hc6
      refine z_iconst (v := (0 : Int32)) dX6_readHead_30 kc_0 ?_
      cases h
      exact z_iret dX6_readHead_31 rfl rfl (Nat.le_refl _) (Nat.le_refl _) ⟨rfl, rfl⟩
  · have h := it_t h hc3
    refine z_iconst (v := (0 : Int32)) dX6_readHead_12 kc_0 ?_
    cases h
    exact z_iret dX6_readHead_13 rfl rfl (Nat.le_refl _) (Nat.le_refl _) ⟨rfl, rfl⟩
theorem dX6_readTooth_0 : decode cX6_readTooth 0 = .ok (.aload_n 0, 1) := by decide +kernel
theorem dX6_readTooth_1 : decode cX6_readTooth 1 = .ok (.getfield 9, 3) := by decide +kernel
theorem dX6_readTooth_4 : decode cX6_readTooth 4 = .ok (.ldc 31, 2) := by decide +kernel
theorem dX6_readTooth_6 : decode cX6_readTooth 6 = .ok (.invokevirtual 33, 3) := by decide +kernel
theorem dX6_readTooth_9 : decode cX6_readTooth 9 = .ok (.ifCond .eq 24, 3) := by decide +kernel
theorem dX6_readTooth_12 : decode cX6_readTooth 12 = .ok (.aload_n 0, 1) := by decide +kernel
theorem dX6_readTooth_13 : decode cX6_readTooth 13 = .ok (.getfield 15, 3) := by decide +kernel
theorem dX6_readTooth_16 : decode cX6_readTooth 16 = .ok (.getfield 67, 3) := by decide +kernel
theorem dX6_readTooth_19 : decode cX6_readTooth 19 = .ok (.bipush 12, 2) := by decide +kernel
theorem dX6_readTooth_21 : decode cX6_readTooth 21 = .ok (.if_icmp .lt 12, 3) := by decide +kernel
theorem dX6_readTooth_24 : decode cX6_readTooth 24 = .ok (.aload_n 0, 1) := by decide +kernel
theorem dX6_readTooth_25 : decode cX6_readTooth 25 = .ok (.getfield 9, 3) := by decide +kernel
theorem dX6_readTooth_28 : decode cX6_readTooth 28 = .ok (.iconst 4, 1) := by decide +kernel
theorem dX6_readTooth_29 : decode cX6_readTooth 29 = .ok (.invokevirtual 71, 3) := by decide +kernel
theorem dX6_readTooth_32 : decode cX6_readTooth 32 = .ok (.ireturn, 1) := by decide +kernel
theorem dX6_readTooth_33 : decode cX6_readTooth 33 = .ok (.aload_n 0, 1) := by decide +kernel
theorem dX6_readTooth_34 : decode cX6_readTooth 34 = .ok (.getfield 9, 3) := by decide +kernel
theorem dX6_readTooth_37 : decode cX6_readTooth 37 = .ok (.ldc 31, 2) := by decide +kernel
theorem dX6_readTooth_39 : decode cX6_readTooth 39 = .ok (.invokevirtual 50, 3) := by decide +kernel
theorem dX6_readTooth_42 : decode cX6_readTooth 42 = .ok (.ifCond .ne 5, 3) := by decide +kernel
theorem dX6_readTooth_45 : decode cX6_readTooth 45 = .ok (.iconst 0, 1) := by decide +kernel
theorem dX6_readTooth_46 : decode cX6_readTooth 46 = .ok (.ireturn, 1) := by decide +kernel
theorem dX6_readTooth_47 : decode cX6_readTooth 47 = .ok (.aload_n 0, 1) := by decide +kernel
theorem dX6_readTooth_48 : decode cX6_readTooth 48 = .ok (.getfield 9, 3) := by decide +kernel
theorem dX6_readTooth_51 : decode cX6_readTooth 51 = .ok (.iconst 0, 1) := by decide +kernel
theorem dX6_readTooth_52 : decode cX6_readTooth 52 = .ok (.bipush 60, 2) := by decide +kernel
theorem dX6_readTooth_54 : decode cX6_readTooth 54 = .ok (.invokevirtual 53, 3) := by decide +kernel
theorem dX6_readTooth_57 : decode cX6_readTooth 57 = .ok (.istore_n 1, 1) := by decide +kernel
theorem dX6_readTooth_58 : decode cX6_readTooth 58 = .ok (.iload_n 1, 1) := by decide +kernel
theorem dX6_readTooth_59 : decode cX6_readTooth 59 = .ok (.iconst (-1), 1) := by decide +kernel
theorem dX6_readTooth_60 : decode cX6_readTooth 60 = .ok (.if_icmp .ne 5, 3) := by decide +kernel
theorem dX6_readTooth_63 : decode cX6_readTooth 63 = .ok (.iconst 0, 1) := by decide +kernel
theorem dX6_readTooth_64 : decode cX6_readTooth 64 = .ok (.ireturn, 1) := by decide +kernel
theorem dX6_readTooth_65 : decode cX6_readTooth 65 = .ok (.aload_n 0, 1) := by decide +kernel
theorem dX6_readTooth_66 : decode cX6_readTooth 66 = .ok (.getfield 9, 3) := by decide +kernel
theorem dX6_readTooth_69 : decode cX6_readTooth 69 = .ok (.iconst 1, 1) := by decide +kernel
theorem dX6_readTooth_70 : decode cX6_readTooth 70 = .ok (.bipush 9, 2) := by decide +kernel
theorem dX6_readTooth_72 : decode cX6_readTooth 72 = .ok (.invokevirtual 53, 3) := by decide +kernel
theorem dX6_readTooth_75 : decode cX6_readTooth 75 = .ok (.istore_n 2, 1) := by decide +kernel
theorem dX6_readTooth_76 : decode cX6_readTooth 76 = .ok (.iload_n 2, 1) := by decide +kernel
theorem dX6_readTooth_77 : decode cX6_readTooth 77 = .ok (.iconst (-1), 1) := by decide +kernel
theorem dX6_readTooth_78 : decode cX6_readTooth 78 = .ok (.if_icmp .ne 5, 3) := by decide +kernel
theorem dX6_readTooth_81 : decode cX6_readTooth 81 = .ok (.iconst 0, 1) := by decide +kernel
theorem dX6_readTooth_82 : decode cX6_readTooth 82 = .ok (.ireturn, 1) := by decide +kernel
theorem dX6_readTooth_83 : decode cX6_readTooth 83 = .ok (.aload_n 0, 1) := by decide +kernel
theorem dX6_readTooth_84 : decode cX6_readTooth 84 = .ok (.getfield 9, 3) := by decide +kernel
theorem dX6_readTooth_87 : decode cX6_readTooth 87 = .ok (.bipush 10, 2) := by decide +kernel
theorem dX6_readTooth_89 : decode cX6_readTooth 89 = .ok (.sipush 999, 3) := by decide +kernel
theorem dX6_readTooth_92 : decode cX6_readTooth 92 = .ok (.invokevirtual 53, 3) := by decide +kernel
theorem dX6_readTooth_95 : decode cX6_readTooth 95 = .ok (.istore_n 3, 1) := by decide +kernel
theorem dX6_readTooth_96 : decode cX6_readTooth 96 = .ok (.iload_n 3, 1) := by decide +kernel
theorem dX6_readTooth_97 : decode cX6_readTooth 97 = .ok (.iconst (-1), 1) := by decide +kernel
theorem dX6_readTooth_98 : decode cX6_readTooth 98 = .ok (.if_icmp .ne 5, 3) := by decide +kernel
theorem dX6_readTooth_101 : decode cX6_readTooth 101 = .ok (.iconst 0, 1) := by decide +kernel
theorem dX6_readTooth_102 : decode cX6_readTooth 102 = .ok (.ireturn, 1) := by decide +kernel
theorem dX6_readTooth_103 : decode cX6_readTooth 103 = .ok (.aload_n 0, 1) := by decide +kernel
theorem dX6_readTooth_104 : decode cX6_readTooth 104 = .ok (.getfield 15, 3) := by decide +kernel
theorem dX6_readTooth_107 : decode cX6_readTooth 107 = .ok (.iload_n 1, 1) := by decide +kernel
theorem dX6_readTooth_108 : decode cX6_readTooth 108 = .ok (.iload_n 2, 1) := by decide +kernel
theorem dX6_readTooth_109 : decode cX6_readTooth 109 = .ok (.iload_n 3, 1) := by decide +kernel
theorem dX6_readTooth_110 : decode cX6_readTooth 110 = .ok (.invokevirtual 75, 3) := by decide +kernel
theorem dX6_readTooth_113 : decode cX6_readTooth 113 = .ok (.aload_n 0, 1) := by decide +kernel
theorem dX6_readTooth_114 : decode cX6_readTooth 114 = .ok (.getfield 9, 3) := by decide +kernel
theorem dX6_readTooth_117 : decode cX6_readTooth 117 = .ok (.bipush 59, 2) := by decide +kernel
theorem dX6_readTooth_119 : decode cX6_readTooth 119 = .ok (.invokevirtual 63, 3) := by decide +kernel
theorem dX6_readTooth_122 : decode cX6_readTooth 122 = .ok (.ireturn, 1) := by decide +kernel
def fX6_readTooth (M : Mm) : Option (Int32 × Mm) := (fX7_atWord M 2).bind fun q1 => if q1 = 0 then ((fX7_takeWord M 2).bind fun q4 => if q4.1 = 0 then some ((0 : Int32), q4.2) else (fX7_takeNumber q4.2 (0 : Int32) (60 : Int32)).bind fun q7 => if q7.1 = (-1 : Int32) then some ((0 : Int32), q7.2) else (fX7_takeNumber q7.2 (1 : Int32) (9 : Int32)).bind fun q10 => if q10.1 = (-1 : Int32) then some ((0 : Int32), q10.2) else (fX7_takeNumber q10.2 (10 : Int32) (999 : Int32)).bind fun q13 => if q13.1 = (-1 : Int32) then some ((0 : Int32), q13.2) else (fX0_putTooth q13.2 1 q7.1 q10.1 q13.1).bind fun q16 => (fX7_takeSign q16 (59 : Int32)).bind fun q18 => some ((bz q18.1), q18.2)) else if (M.1 (9, 1, 0) 2) < (12 : Int32) then ((fX7_takeWord M 2).bind fun q21 => if q21.1 = 0 then some ((0 : Int32), q21.2) else (fX7_takeNumber q21.2 (0 : Int32) (60 : Int32)).bind fun q24 => if q24.1 = (-1 : Int32) then some ((0 : Int32), q24.2) else (fX7_takeNumber q24.2 (1 : Int32) (9 : Int32)).bind fun q27 => if q27.1 = (-1 : Int32) then some ((0 : Int32), q27.2) else (fX7_takeNumber q27.2 (10 : Int32) (999 : Int32)).bind fun q30 => if q30.1 = (-1 : Int32) then some ((0 : Int32), q30.2) else (fX0_putTooth q30.2 1 q24.1 q27.1 q30.1).bind fun q33 => (fX7_takeSign q33 (59 : Int32)).bind fun q35 => some ((bz q35.1), q35.2)) else (fX7_fail M (4 : Int32)).bind fun q37 => some ((bz q37.1), q37.2)
set_option maxRecDepth 20000 in
set_option maxHeartbeats 2000000 in
theorem sX6_readTooth {wv : Nat} (M : Mm) {res : (Int32 × Mm)} (h : fX6_readTooth M  = some res) : TF wv yX6_readTooth cX6_readTooth 4 (some .boolean) 9 [.inr (5, 0, 0)] M (some (.int res.1)) res.2 := by
  rw [fX6_readTooth] at h
  refine TF.go (n := 3) (ls := [some (.inr (5, 0, 0)), none, none, none]) rfl rfl rfl rfl rfl ?_
  refine z_aload_n (i := 0) dX6_readTooth_0 rfl rfl ?_
  refine z_getR (r' := (3, 0, 0)) dX6_readTooth_1 fl_X6_9 mk5 rfl rfl ?_
  refine z_ldcS (j := 2) dX6_readTooth_4 sw_RX6_31 ?_
  obtain ⟨q1, hq2, h⟩ := bnd h
  refine z_fVi (sX7_atWord M 2 (Nat.le_of_ble_eq_true rfl) hq2) dX6_readTooth_6 ml_X6_33 cd_X7_atWord mk3 rfl rfl rfl rfl rfl rfl ?_
  refine z_if_eq (tgt := 33) dX6_readTooth_9 rfl (fun hc3 => ?_) (fun hc3 => ?_)
  · have h := it_t h hc3
    refine z_aload_n (i := 0) dX6_readTooth_33 rfl rfl ?_
    refine z_getR (r' := (3, 0, 0)) dX6_readTooth_34 fl_X6_9 mk5 rfl rfl ?_
    refine z_ldcS (j := 2) dX6_readTooth_37 sw_RX6_31 ?_
    obtain ⟨q4, hq5, h⟩ := bnd h
    refine z_fVi (sX7_takeWord M 2 (Nat.le_of_ble_eq_true rfl) hq5) dX6_readTooth_39 ml_X6_50 cd_X7_takeWord mk3 rfl rfl rfl rfl rfl rfl ?_
    refine z_if_ne (tgt := 47) dX6_readTooth_42 rfl (fun hc6 => ?_) (fun hc6 => ?_)
    · have h := it_f h hc6
      refine z_aload_n (i := 0) dX6_readTooth_47 rfl rfl ?_
      refine z_getR (r' := (3, 0, 0)) dX6_readTooth_48 fl_X6_9 mk5 rfl rfl ?_
      refine z_iconst (v := (0 : Int32)) dX6_readTooth_51 kc_0 ?_
      refine z_bipush (v := (60 : Int32)) dX6_readTooth_52 kb_60 ?_
      obtain ⟨q7, hq8, h⟩ := bnd h
      refine z_fVi (sX7_takeNumber q4.2 (0 : Int32) (60 : Int32) hq8) dX6_readTooth_54 ml_X6_53 cd_X7_takeNumber mk3 rfl rfl rfl rfl rfl rfl ?_
      refine z_istore_n (i := 1) dX6_readTooth_57 rfl (Nat.le_of_ble_eq_true rfl) rfl ?_
      refine z_iload_n (i := 1) dX6_readTooth_58 rfl rfl ?_
      refine z_iconst (v := (-1 : Int32)) dX6_readTooth_59 kc_m1 ?_
      refine z_icmp_ne (tgt := 65) dX6_readTooth_60 rfl (fun hc9 => ?_) (fun hc9 => ?_)
      · have h := it_f h hc9
        refine z_aload_n (i := 0) dX6_readTooth_65 rfl rfl ?_
        refine z_getR (r' := (3, 0, 0)) dX6_readTooth_66 fl_X6_9 mk5 rfl rfl ?_
        refine z_iconst (v := (1 : Int32)) dX6_readTooth_69 kc_1 ?_
        refine z_bipush (v := (9 : Int32)) dX6_readTooth_70 kb_9 ?_
        obtain ⟨q10, hq11, h⟩ := bnd h
        refine z_fVi (sX7_takeNumber q7.2 (1 : Int32) (9 : Int32) hq11) dX6_readTooth_72 ml_X6_53 cd_X7_takeNumber mk3 rfl rfl rfl rfl rfl rfl ?_
        refine z_istore_n (i := 2) dX6_readTooth_75 rfl (Nat.le_of_ble_eq_true rfl) rfl ?_
        refine z_iload_n (i := 2) dX6_readTooth_76 rfl rfl ?_
        refine z_iconst (v := (-1 : Int32)) dX6_readTooth_77 kc_m1 ?_
        refine z_icmp_ne (tgt := 83) dX6_readTooth_78 rfl (fun hc12 => ?_) (fun hc12 => ?_)
        · have h := it_f h hc12
          refine z_aload_n (i := 0) dX6_readTooth_83 rfl rfl ?_
          refine z_getR (r' := (3, 0, 0)) dX6_readTooth_84 fl_X6_9 mk5 rfl rfl ?_
          refine z_bipush (v := (10 : Int32)) dX6_readTooth_87 kb_10 ?_
          refine z_sipush (v := (999 : Int32)) dX6_readTooth_89 ks_999 ?_
          obtain ⟨q13, hq14, h⟩ := bnd h
          refine z_fVi (sX7_takeNumber q10.2 (10 : Int32) (999 : Int32) hq14) dX6_readTooth_92 ml_X6_53 cd_X7_takeNumber mk3 rfl rfl rfl rfl rfl rfl ?_
          refine z_istore_n (i := 3) dX6_readTooth_95 rfl (Nat.le_of_ble_eq_true rfl) rfl ?_
          refine z_iload_n (i := 3) dX6_readTooth_96 rfl rfl ?_
          refine z_iconst (v := (-1 : Int32)) dX6_readTooth_97 kc_m1 ?_
          refine z_icmp_ne (tgt := 103) dX6_readTooth_98 rfl (fun hc15 => ?_) (fun hc15 => ?_)
          · have h := it_f h hc15
            refine z_aload_n (i := 0) dX6_readTooth_103 rfl rfl ?_
            refine z_getR (r' := (9, 1, 0)) dX6_readTooth_104 fl_X6_15 mk5 rfl rfl ?_
            refine z_iload_n (i := 1) dX6_readTooth_107 rfl rfl ?_
            refine z_iload_n (i := 2) dX6_readTooth_108 rfl rfl ?_
            refine z_iload_n (i := 3) dX6_readTooth_109 rfl rfl ?_
            obtain ⟨q16, hq17, h⟩ := bnd h
            refine z_fVv (sX0_putTooth q13.2 1 q7.1 q10.1 q13.1 (Nat.le_of_ble_eq_true rfl) hq17) dX6_readTooth_110 ml_X6_75 cd_X0_putTooth (m9 _ (Nat.le_of_ble_eq_true rfl)) rfl rfl rfl rfl rfl rfl ?_
            refine z_aload_n (i := 0) dX6_readTooth_113 rfl rfl ?_
            refine z_getR (r' := (3, 0, 0)) dX6_readTooth_114 fl_X6_9 mk5 rfl rfl ?_
            refine z_bipush (v := (59 : Int32)) dX6_readTooth_117 kb_59 ?_
            obtain ⟨q18, hq19, h⟩ := bnd h
            refine z_fVi (sX7_takeSign q16 (59 : Int32) hq19) dX6_readTooth_119 ml_X6_63 cd_X7_takeSign mk3 rfl rfl rfl rfl rfl rfl ?_
            cases h
            exact z_iret dX6_readTooth_122 rfl (bz_ok _) (Nat.le_refl _) (Nat.le_refl _) ⟨rfl, rfl⟩
          · have h := it_t h hc15
            refine z_iconst (v := (0 : Int32)) dX6_readTooth_101 kc_0 ?_
            cases h
            exact z_iret dX6_readTooth_102 rfl rfl (Nat.le_refl _) (Nat.le_refl _) ⟨rfl, rfl⟩
        · have h := it_t h hc12
          refine z_iconst (v := (0 : Int32)) dX6_readTooth_81 kc_0 ?_
          cases h
          exact z_iret dX6_readTooth_82 rfl rfl (Nat.le_refl _) (Nat.le_refl _) ⟨rfl, rfl⟩
      · have h := it_t h hc9
        refine z_iconst (v := (0 : Int32)) dX6_readTooth_63 kc_0 ?_
        cases h
        exact z_iret dX6_readTooth_64 rfl rfl (Nat.le_refl _) (Nat.le_refl _) ⟨rfl, rfl⟩
    · have h := it_t h hc6
      refine z_iconst (v := (0 : Int32)) dX6_readTooth_45 kc_0 ?_
      cases h
      exact z_iret dX6_readTooth_46 rfl rfl (Nat.le_refl _) (Nat.le_refl _) ⟨rfl, rfl⟩
  · have h := it_f h hc3
    refine z_aload_n (i := 0) dX6_readTooth_12 rfl rfl ?_
    refine z_getR (r' := (9, 1, 0)) dX6_readTooth_13 fl_X6_15 mk5 rfl rfl ?_
    refine z_getI (x := (M.1 (9, 1, 0) 2)) dX6_readTooth_16 fl_X6_67 (m9 _ (Nat.le_of_ble_eq_true rfl)) rfl rfl ?_
    refine z_bipush (v := (12 : Int32)) dX6_readTooth_19 kb_12 ?_
    refine z_icmp_lt (tgt := 33) dX6_readTooth_21 rfl (fun hc20 => ?_) (fun hc20 => ?_)
    · have h := it_t h hc20
      refine z_aload_n (i := 0) dX6_readTooth_33 rfl rfl ?_
      refine z_getR (r' := (3, 0, 0)) dX6_readTooth_34 fl_X6_9 mk5 rfl rfl ?_
      refine z_ldcS (j := 2) dX6_readTooth_37 sw_RX6_31 ?_
      obtain ⟨q21, hq22, h⟩ := bnd h
      refine z_fVi (sX7_takeWord M 2 (Nat.le_of_ble_eq_true rfl) hq22) dX6_readTooth_39 ml_X6_50 cd_X7_takeWord mk3 rfl rfl rfl rfl rfl rfl ?_
      refine z_if_ne (tgt := 47) dX6_readTooth_42 rfl (fun hc23 => ?_) (fun hc23 => ?_)
      · have h := it_f h hc23
        refine z_aload_n (i := 0) dX6_readTooth_47 rfl rfl ?_
        refine z_getR (r' := (3, 0, 0)) dX6_readTooth_48 fl_X6_9 mk5 rfl rfl ?_
        refine z_iconst (v := (0 : Int32)) dX6_readTooth_51 kc_0 ?_
        refine z_bipush (v := (60 : Int32)) dX6_readTooth_52 kb_60 ?_
        obtain ⟨q24, hq25, h⟩ := bnd h
        refine z_fVi (sX7_takeNumber q21.2 (0 : Int32) (60 : Int32) hq25) dX6_readTooth_54 ml_X6_53 cd_X7_takeNumber mk3 rfl rfl rfl rfl rfl rfl ?_
        refine z_istore_n (i := 1) dX6_readTooth_57 rfl (Nat.le_of_ble_eq_true rfl) rfl ?_
        refine z_iload_n (i := 1) dX6_readTooth_58 rfl rfl ?_
        refine z_iconst (v := (-1 : Int32)) dX6_readTooth_59 kc_m1 ?_
        refine z_icmp_ne (tgt := 65) dX6_readTooth_60 rfl (fun hc26 => ?_) (fun hc26 => ?_)
        · have h := it_f h hc26
          refine z_aload_n (i := 0) dX6_readTooth_65 rfl rfl ?_
          refine z_getR (r' := (3, 0, 0)) dX6_readTooth_66 fl_X6_9 mk5 rfl rfl ?_
          refine z_iconst (v := (1 : Int32)) dX6_readTooth_69 kc_1 ?_
          refine z_bipush (v := (9 : Int32)) dX6_readTooth_70 kb_9 ?_
          obtain ⟨q27, hq28, h⟩ := bnd h
          refine z_fVi (sX7_takeNumber q24.2 (1 : Int32) (9 : Int32) hq28) dX6_readTooth_72 ml_X6_53 cd_X7_takeNumber mk3 rfl rfl rfl rfl rfl rfl ?_
          refine z_istore_n (i := 2) dX6_readTooth_75 rfl (Nat.le_of_ble_eq_true rfl) rfl ?_
          refine z_iload_n (i := 2) dX6_readTooth_76 rfl rfl ?_
          refine z_iconst (v := (-1 : Int32)) dX6_readTooth_77 kc_m1 ?_
          refine z_icmp_ne (tgt := 83) dX6_readTooth_78 rfl (fun hc29 => ?_) (fun hc29 => ?_)
          · have h := it_f h hc29
            refine z_aload_n (i := 0) dX6_readTooth_83 rfl rfl ?_
            refine z_getR (r' := (3, 0, 0)) dX6_readTooth_84 fl_X6_9 mk5 rfl rfl ?_
            refine z_bipush (v := (10 : Int32)) dX6_readTooth_87 kb_10 ?_
            refine z_sipush (v := (999 : Int32)) dX6_readTooth_89 ks_999 ?_
            obtain ⟨q30, hq31, h⟩ := bnd h
            refine z_fVi (sX7_takeNumber q27.2 (10 : Int32) (999 : Int32) hq31) dX6_readTooth_92 ml_X6_53 cd_X7_takeNumber mk3 rfl rfl rfl rfl rfl rfl ?_
            refine z_istore_n (i := 3) dX6_readTooth_95 rfl (Nat.le_of_ble_eq_true rfl) rfl ?_
            refine z_iload_n (i := 3) dX6_readTooth_96 rfl rfl ?_
            refine z_iconst (v := (-1 : Int32)) dX6_readTooth_97 kc_m1 ?_
            refine z_icmp_ne (tgt := 103) dX6_readTooth_98 rfl (fun hc32 => ?_) (fun hc32 => ?_)
            · have h := it_f h hc32
              refine z_aload_n (i := 0) dX6_readTooth_103 rfl rfl ?_
              refine z_getR (r' := (9, 1, 0)) dX6_readTooth_104 fl_X6_15 mk5 rfl rfl ?_
              refine z_iload_n (i := 1) dX6_readTooth_107 rfl rfl ?_
              refine z_iload_n (i := 2) dX6_readTooth_108 rfl rfl ?_
              refine z_iload_n (i := 3) dX6_readTooth_109 rfl rfl ?_
              obtain ⟨q33, hq34, h⟩ := bnd h
              refine z_fVv (sX0_putTooth q30.2 1 q24.1 q27.1 q30.1 (Nat.le_of_ble_eq_true rfl) hq34) dX6_readTooth_110 ml_X6_75 cd_X0_putTooth (m9 _ (Nat.le_of_ble_eq_true rfl)) rfl rfl rfl rfl rfl rfl ?_
              refine z_aload_n (i := 0) dX6_readTooth_113 rfl rfl ?_
              refine z_getR (r' := (3, 0, 0)) dX6_readTooth_114 fl_X6_9 mk5 rfl rfl ?_
              refine z_bipush (v := (59 : Int32)) dX6_readTooth_117 kb_59 ?_
              obtain ⟨q35, hq36, h⟩ := bnd h
              refine z_fVi (sX7_takeSign q33 (59 : Int32) hq36) dX6_readTooth_119 ml_X6_63 cd_X7_takeSign mk3 rfl rfl rfl rfl rfl rfl ?_
              cases h
              exact z_iret dX6_readTooth_122 rfl (bz_ok _) (Nat.le_refl _) (Nat.le_refl _) ⟨rfl, rfl⟩
            · have h := it_t h hc32
              refine z_iconst (v := (0 : Int32)) dX6_readTooth_101 kc_0 ?_
              cases h
              exact z_iret dX6_readTooth_102 rfl rfl (Nat.le_refl _) (Nat.le_refl _) ⟨rfl, rfl⟩
          · have h := it_t h hc29
            refine z_iconst (v := (0 : Int32)) dX6_readTooth_81 kc_0 ?_
            cases h
            exact z_iret dX6_readTooth_82 rfl rfl (Nat.le_refl _) (Nat.le_refl _) ⟨rfl, rfl⟩
        · have h := it_t h hc26
          refine z_iconst (v := (0 : Int32)) dX6_readTooth_63 kc_0 ?_
          cases h
          exact z_iret dX6_readTooth_64 rfl rfl (Nat.le_refl _) (Nat.le_refl _) ⟨rfl, rfl⟩
      · have h := it_t h hc23
        refine z_iconst (v := (0 : Int32)) dX6_readTooth_45 kc_0 ?_
        cases h
        exact z_iret dX6_readTooth_46 rfl rfl (Nat.le_refl _) (Nat.le_refl _) ⟨rfl, rfl⟩
    · have h := it_f h hc20
      refine z_aload_n (i := 0) dX6_readTooth_24 rfl rfl ?_
      refine z_getR (r' := (3, 0, 0)) dX6_readTooth_25 fl_X6_9 mk5 rfl rfl ?_
      refine z_iconst (v := (4 : Int32)) dX6_readTooth_28 kc_4 ?_
      obtain ⟨q37, hq38, h⟩ := bnd h
      refine z_fVi (sX7_fail M (4 : Int32) hq38) dX6_readTooth_29 ml_X6_71 cd_X7_fail mk3 rfl rfl rfl rfl rfl rfl ?_
      cases h
      exact z_iret dX6_readTooth_32 rfl (bz_ok _) (Nat.le_refl _) (Nat.le_refl _) ⟨rfl, rfl⟩
theorem dX7_failTaken_0 : decode cX7_failTaken 0 = .ok (.aload_n 0, 1) := by decide +kernel
theorem dX7_failTaken_1 : decode cX7_failTaken 1 = .ok (.iload_n 1, 1) := by decide +kernel
theorem dX7_failTaken_2 : decode cX7_failTaken 2 = .ok (.putfield 32, 3) := by decide +kernel
theorem dX7_failTaken_5 : decode cX7_failTaken 5 = .ok (.aload_n 0, 1) := by decide +kernel
theorem dX7_failTaken_6 : decode cX7_failTaken 6 = .ok (.aload_n 0, 1) := by decide +kernel
theorem dX7_failTaken_7 : decode cX7_failTaken 7 = .ok (.getfield 38, 3) := by decide +kernel
theorem dX7_failTaken_10 : decode cX7_failTaken 10 = .ok (.ifCond .le 17, 3) := by decide +kernel
theorem dX7_failTaken_13 : decode cX7_failTaken 13 = .ok (.aload_n 0, 1) := by decide +kernel
theorem dX7_failTaken_14 : decode cX7_failTaken 14 = .ok (.getfield 15, 3) := by decide +kernel
theorem dX7_failTaken_17 : decode cX7_failTaken 17 = .ok (.aload_n 0, 1) := by decide +kernel
theorem dX7_failTaken_18 : decode cX7_failTaken 18 = .ok (.getfield 38, 3) := by decide +kernel
theorem dX7_failTaken_21 : decode cX7_failTaken 21 = .ok (.iconst 1, 1) := by decide +kernel
theorem dX7_failTaken_22 : decode cX7_failTaken 22 = .ok (.isub, 1) := by decide +kernel
theorem dX7_failTaken_23 : decode cX7_failTaken 23 = .ok (.iaload, 1) := by decide +kernel
theorem dX7_failTaken_24 : decode cX7_failTaken 24 = .ok (.goto 12, 3) := by decide +kernel
theorem dX7_failTaken_27 : decode cX7_failTaken 27 = .ok (.aload_n 0, 1) := by decide +kernel
theorem dX7_failTaken_28 : decode cX7_failTaken 28 = .ok (.getfield 15, 3) := by decide +kernel
theorem dX7_failTaken_31 : decode cX7_failTaken 31 = .ok (.aload_n 0, 1) := by decide +kernel
theorem dX7_failTaken_32 : decode cX7_failTaken 32 = .ok (.getfield 38, 3) := by decide +kernel
theorem dX7_failTaken_35 : decode cX7_failTaken 35 = .ok (.iaload, 1) := by decide +kernel
theorem dX7_failTaken_36 : decode cX7_failTaken 36 = .ok (.putfield 28, 3) := by decide +kernel
theorem dX7_failTaken_39 : decode cX7_failTaken 39 = .ok (.iconst 0, 1) := by decide +kernel
theorem dX7_failTaken_40 : decode cX7_failTaken 40 = .ok (.ireturn, 1) := by decide +kernel
def fX7_failTaken (M : Mm) (x1 : Int32) : Option (Int32 × Mm) := if (M.1 (3, 0, 0) 6) ≤ 0 then (if (M.1 (3, 0, 0) 6) < 0 ∨ 801 ≤ (M.1 (3, 0, 0) 6).toNatClampNeg then none else some ((0 : Int32), (putI (putI M (3, 0, 0) 7 x1) (3, 0, 0) 8 (M.1 (4, 1, 0) (M.1 (3, 0, 0) 6).toNatClampNeg)))) else if ((M.1 (3, 0, 0) 6) - (1 : Int32)) < 0 ∨ 801 ≤ ((M.1 (3, 0, 0) 6) - (1 : Int32)).toNatClampNeg then none else some ((0 : Int32), (putI (putI M (3, 0, 0) 7 x1) (3, 0, 0) 8 (M.1 (4, 1, 0) ((M.1 (3, 0, 0) 6) - (1 : Int32)).toNatClampNeg)))
set_option maxRecDepth 20000 in
set_option maxHeartbeats 2000000 in
theorem sX7_failTaken {wv : Nat} (M : Mm) (x1 : Int32) {res : (Int32 × Mm)} (h : fX7_failTaken M x1 = some res) : TF wv yX7_failTaken cX7_failTaken 2 (some .boolean) 0 [.inr (3, 0, 0), .inl (.int x1)] M (some (.int res.1)) res.2 := by
  rw [fX7_failTaken] at h
  refine TF.go (n := 0) (ls := [some (.inr (3, 0, 0)), some (.inl (.int x1))]) rfl rfl rfl rfl rfl ?_
  refine z_aload_n (i := 0) dX7_failTaken_0 rfl rfl ?_
  refine z_iload_n (i := 1) dX7_failTaken_1 rfl rfl ?_
  refine z_putI allR_nd dX7_failTaken_2 fl_X7_32 mk3 rfl rfl ?_
  refine z_aload_n (i := 0) dX7_failTaken_5 rfl rfl ?_
  refine z_aload_n (i := 0) dX7_failTaken_6 rfl rfl ?_
  refine z_getI (x := (M.1 (3, 0, 0) 6)) dX7_failTaken_7 fl_X7_38 mk3 rfl rfl ?_
  refine z_if_le (tgt := 27) dX7_failTaken_10 rfl (fun hc1 => ?_) (fun hc1 => ?_)
  · have h := it_t h hc1
    refine z_aload_n (i := 0) dX7_failTaken_27 rfl rfl ?_
    refine z_getR (r' := (4, 1, 0)) dX7_failTaken_28 fl_X7_15 mk3 rfl rfl ?_
    refine z_aload_n (i := 0) dX7_failTaken_31 rfl rfl ?_
    refine z_getI (x := (M.1 (3, 0, 0) 6)) dX7_failTaken_32 fl_X7_38 mk3 rfl rfl ?_
    obtain ⟨hc2, h⟩ := chk h
    refine z_iald (x := (M.1 (4, 1, 0) (M.1 (3, 0, 0) 6).toNatClampNeg)) dX7_failTaken_35 (m4 _ (Nat.le_of_ble_eq_true rfl)) rfl hc2 rfl ?_
    refine z_putI allR_nd dX7_failTaken_36 fl_X7_28 mk3 rfl rfl ?_
    refine z_iconst (v := (0 : Int32)) dX7_failTaken_39 kc_0 ?_
    cases h
    exact z_iret dX7_failTaken_40 rfl rfl (Nat.le_refl _) (Nat.le_refl _) ⟨rfl, rfl⟩
  · have h := it_f h hc1
    refine z_aload_n (i := 0) dX7_failTaken_13 rfl rfl ?_
    refine z_getR (r' := (4, 1, 0)) dX7_failTaken_14 fl_X7_15 mk3 rfl rfl ?_
    refine z_aload_n (i := 0) dX7_failTaken_17 rfl rfl ?_
    refine z_getI (x := (M.1 (3, 0, 0) 6)) dX7_failTaken_18 fl_X7_38 mk3 rfl rfl ?_
    refine z_iconst (v := (1 : Int32)) dX7_failTaken_21 kc_1 ?_
    refine z_isub dX7_failTaken_22 ?_
    obtain ⟨hc3, h⟩ := chk h
    refine z_iald (x := (M.1 (4, 1, 0) ((M.1 (3, 0, 0) 6) - (1 : Int32)).toNatClampNeg)) dX7_failTaken_23 (m4 _ (Nat.le_of_ble_eq_true rfl)) rfl hc3 rfl ?_
    refine z_goto (tgt := 36) dX7_failTaken_24 rfl ?_
    refine z_putI allR_nd dX7_failTaken_36 fl_X7_28 mk3 rfl rfl ?_
    refine z_iconst (v := (0 : Int32)) dX7_failTaken_39 kc_0 ?_
    cases h
    exact z_iret dX7_failTaken_40 rfl rfl (Nat.le_refl _) (Nat.le_refl _) ⟨rfl, rfl⟩
