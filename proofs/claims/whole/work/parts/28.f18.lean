theorem dX10_readsCommand_0 : decode cX10_readsCommand 0 = .ok (.aload_n 0, 1) := by decide +kernel
theorem dX10_readsCommand_1 : decode cX10_readsCommand 1 = .ok (.invokevirtual 234, 3) := by decide +kernel
theorem dX10_readsCommand_4 : decode cX10_readsCommand 4 = .ok (.istore_n 2, 1) := by decide +kernel
theorem dX10_readsCommand_5 : decode cX10_readsCommand 5 = .ok (.aload_n 0, 1) := by decide +kernel
theorem dX10_readsCommand_6 : decode cX10_readsCommand 6 = .ok (.iload_n 2, 1) := by decide +kernel
theorem dX10_readsCommand_7 : decode cX10_readsCommand 7 = .ok (.iconst (-1), 1) := by decide +kernel
theorem dX10_readsCommand_8 : decode cX10_readsCommand 8 = .ok (.if_icmp .eq 7, 3) := by decide +kernel
theorem dX10_readsCommand_11 : decode cX10_readsCommand 11 = .ok (.iconst 1, 1) := by decide +kernel
theorem dX10_readsCommand_12 : decode cX10_readsCommand 12 = .ok (.goto 4, 3) := by decide +kernel
theorem dX10_readsCommand_15 : decode cX10_readsCommand 15 = .ok (.iconst 0, 1) := by decide +kernel
theorem dX10_readsCommand_16 : decode cX10_readsCommand 16 = .ok (.iconst 1, 1) := by decide +kernel
theorem dX10_readsCommand_17 : decode cX10_readsCommand 17 = .ok (.invokevirtual 161, 3) := by decide +kernel
theorem dX10_readsCommand_20 : decode cX10_readsCommand 20 = .ok (.ifCond .eq 25, 3) := by decide +kernel
theorem dX10_readsCommand_23 : decode cX10_readsCommand 23 = .ok (.aload_n 0, 1) := by decide +kernel
theorem dX10_readsCommand_24 : decode cX10_readsCommand 24 = .ok (.aload_n 0, 1) := by decide +kernel
theorem dX10_readsCommand_25 : decode cX10_readsCommand 25 = .ok (.getfield 224, 3) := by decide +kernel
theorem dX10_readsCommand_28 : decode cX10_readsCommand 28 = .ok (.bipush 30, 2) := by decide +kernel
theorem dX10_readsCommand_30 : decode cX10_readsCommand 30 = .ok (.if_icmp .ge 7, 3) := by decide +kernel
theorem dX10_readsCommand_33 : decode cX10_readsCommand 33 = .ok (.iconst 1, 1) := by decide +kernel
theorem dX10_readsCommand_34 : decode cX10_readsCommand 34 = .ok (.goto 4, 3) := by decide +kernel
theorem dX10_readsCommand_37 : decode cX10_readsCommand 37 = .ok (.iconst 0, 1) := by decide +kernel
theorem dX10_readsCommand_38 : decode cX10_readsCommand 38 = .ok (.iconst 4, 1) := by decide +kernel
theorem dX10_readsCommand_39 : decode cX10_readsCommand 39 = .ok (.invokevirtual 161, 3) := by decide +kernel
theorem dX10_readsCommand_42 : decode cX10_readsCommand 42 = .ok (.ifCond .ne 4, 3) := by decide +kernel
theorem dX10_readsCommand_45 : decode cX10_readsCommand 45 = .ok (.return_, 1) := by decide +kernel
theorem dX10_readsCommand_46 : decode cX10_readsCommand 46 = .ok (.aload_n 0, 1) := by decide +kernel
theorem dX10_readsCommand_47 : decode cX10_readsCommand 47 = .ok (.getfield 224, 3) := by decide +kernel
theorem dX10_readsCommand_50 : decode cX10_readsCommand 50 = .ok (.istore_n 3, 1) := by decide +kernel
theorem dX10_readsCommand_51 : decode cX10_readsCommand 51 = .ok (.aload_n 0, 1) := by decide +kernel
theorem dX10_readsCommand_52 : decode cX10_readsCommand 52 = .ok (.getfield 39, 3) := by decide +kernel
theorem dX10_readsCommand_55 : decode cX10_readsCommand 55 = .ok (.iload_n 3, 1) := by decide +kernel
theorem dX10_readsCommand_56 : decode cX10_readsCommand 56 = .ok (.iload_n 2, 1) := by decide +kernel
theorem dX10_readsCommand_57 : decode cX10_readsCommand 57 = .ok (.iastore, 1) := by decide +kernel
theorem dX10_readsCommand_58 : decode cX10_readsCommand 58 = .ok (.aload_n 0, 1) := by decide +kernel
theorem dX10_readsCommand_59 : decode cX10_readsCommand 59 = .ok (.dup, 1) := by decide +kernel
theorem dX10_readsCommand_60 : decode cX10_readsCommand 60 = .ok (.getfield 224, 3) := by decide +kernel
theorem dX10_readsCommand_63 : decode cX10_readsCommand 63 = .ok (.iconst 1, 1) := by decide +kernel
theorem dX10_readsCommand_64 : decode cX10_readsCommand 64 = .ok (.iadd, 1) := by decide +kernel
theorem dX10_readsCommand_65 : decode cX10_readsCommand 65 = .ok (.putfield 224, 3) := by decide +kernel
theorem dX10_readsCommand_68 : decode cX10_readsCommand 68 = .ok (.aload_n 0, 1) := by decide +kernel
theorem dX10_readsCommand_69 : decode cX10_readsCommand 69 = .ok (.invokevirtual 155, 3) := by decide +kernel
theorem dX10_readsCommand_72 : decode cX10_readsCommand 72 = .ok (.iload_n 2, 1) := by decide +kernel
theorem dX10_readsCommand_73 : decode cX10_readsCommand 73 = .ok (.bipush 9, 2) := by decide +kernel
theorem dX10_readsCommand_75 : decode cX10_readsCommand 75 = .ok (.if_icmp .ne 12, 3) := by decide +kernel
theorem dX10_readsCommand_78 : decode cX10_readsCommand 78 = .ok (.aload_n 0, 1) := by decide +kernel
theorem dX10_readsCommand_79 : decode cX10_readsCommand 79 = .ok (.iload_n 3, 1) := by decide +kernel
theorem dX10_readsCommand_80 : decode cX10_readsCommand 80 = .ok (.iload_n 1, 1) := by decide +kernel
theorem dX10_readsCommand_81 : decode cX10_readsCommand 81 = .ok (.invokevirtual 237, 3) := by decide +kernel
theorem dX10_readsCommand_84 : decode cX10_readsCommand 84 = .ok (.goto 8, 3) := by decide +kernel
theorem dX10_readsCommand_87 : decode cX10_readsCommand 87 = .ok (.aload_n 0, 1) := by decide +kernel
theorem dX10_readsCommand_88 : decode cX10_readsCommand 88 = .ok (.iload_n 3, 1) := by decide +kernel
theorem dX10_readsCommand_89 : decode cX10_readsCommand 89 = .ok (.invokevirtual 241, 3) := by decide +kernel
theorem dX10_readsCommand_92 : decode cX10_readsCommand 92 = .ok (.aload_n 0, 1) := by decide +kernel
theorem dX10_readsCommand_93 : decode cX10_readsCommand 93 = .ok (.bipush 59, 2) := by decide +kernel
theorem dX10_readsCommand_95 : decode cX10_readsCommand 95 = .ok (.invokevirtual 180, 3) := by decide +kernel
theorem dX10_readsCommand_98 : decode cX10_readsCommand 98 = .ok (.return_, 1) := by decide +kernel
def fX10_readsCommand (rc : Mm → Int32 → Option Mm) (M : Mm) (x1 : Int32) : Option Mm := (fX10_commandHere M).bind fun q1 => if q1 = (-1 : Int32) then ((fX10_must M (0 : Int32) (1 : Int32)).bind fun q4 => if q4.1 = 0 then some (q4.2) else if (30 : Int32) ≤ (q4.2.1 (18, 0, 0) 23) then ((fX10_must q4.2 (0 : Int32) (4 : Int32)).bind fun q8 => if q8.1 = 0 then some (q8.2) else if (q8.2.1 (18, 0, 0) 23) < 0 ∨ 30 ≤ (q8.2.1 (18, 0, 0) 23).toNatClampNeg then none else (fX10_reads (putI (putI q8.2 (19, 7, 0) (q8.2.1 (18, 0, 0) 23).toNatClampNeg q1) (18, 0, 0) 23 ((q8.2.1 (18, 0, 0) 23) + (1 : Int32)))).bind fun q12 => if q1 = (9 : Int32) then ((fX10_readsRepeat rc q12 (q8.2.1 (18, 0, 0) 23) x1).bind fun q19 => (fX10_takesSign q19 (59 : Int32)).bind fun q21 => some q21) else (fX10_readsSingle q12 (q8.2.1 (18, 0, 0) 23)).bind fun q15 => (fX10_takesSign q15 (59 : Int32)).bind fun q17 => some q17) else (fX10_must q4.2 (1 : Int32) (4 : Int32)).bind fun q23 => if q23.1 = 0 then some (q23.2) else if (q23.2.1 (18, 0, 0) 23) < 0 ∨ 30 ≤ (q23.2.1 (18, 0, 0) 23).toNatClampNeg then none else (fX10_reads (putI (putI q23.2 (19, 7, 0) (q23.2.1 (18, 0, 0) 23).toNatClampNeg q1) (18, 0, 0) 23 ((q23.2.1 (18, 0, 0) 23) + (1 : Int32)))).bind fun q27 => if q1 = (9 : Int32) then ((fX10_readsRepeat rc q27 (q23.2.1 (18, 0, 0) 23) x1).bind fun q34 => (fX10_takesSign q34 (59 : Int32)).bind fun q36 => some q36) else (fX10_readsSingle q27 (q23.2.1 (18, 0, 0) 23)).bind fun q30 => (fX10_takesSign q30 (59 : Int32)).bind fun q32 => some q32) else (fX10_must M (1 : Int32) (1 : Int32)).bind fun q38 => if q38.1 = 0 then some (q38.2) else if (30 : Int32) ≤ (q38.2.1 (18, 0, 0) 23) then ((fX10_must q38.2 (0 : Int32) (4 : Int32)).bind fun q42 => if q42.1 = 0 then some (q42.2) else if (q42.2.1 (18, 0, 0) 23) < 0 ∨ 30 ≤ (q42.2.1 (18, 0, 0) 23).toNatClampNeg then none else (fX10_reads (putI (putI q42.2 (19, 7, 0) (q42.2.1 (18, 0, 0) 23).toNatClampNeg q1) (18, 0, 0) 23 ((q42.2.1 (18, 0, 0) 23) + (1 : Int32)))).bind fun q46 => if q1 = (9 : Int32) then ((fX10_readsRepeat rc q46 (q42.2.1 (18, 0, 0) 23) x1).bind fun q53 => (fX10_takesSign q53 (59 : Int32)).bind fun q55 => some q55) else (fX10_readsSingle q46 (q42.2.1 (18, 0, 0) 23)).bind fun q49 => (fX10_takesSign q49 (59 : Int32)).bind fun q51 => some q51) else (fX10_must q38.2 (1 : Int32) (4 : Int32)).bind fun q57 => if q57.1 = 0 then some (q57.2) else if (q57.2.1 (18, 0, 0) 23) < 0 ∨ 30 ≤ (q57.2.1 (18, 0, 0) 23).toNatClampNeg then none else (fX10_reads (putI (putI q57.2 (19, 7, 0) (q57.2.1 (18, 0, 0) 23).toNatClampNeg q1) (18, 0, 0) 23 ((q57.2.1 (18, 0, 0) 23) + (1 : Int32)))).bind fun q61 => if q1 = (9 : Int32) then ((fX10_readsRepeat rc q61 (q57.2.1 (18, 0, 0) 23) x1).bind fun q68 => (fX10_takesSign q68 (59 : Int32)).bind fun q70 => some q70) else (fX10_readsSingle q61 (q57.2.1 (18, 0, 0) 23)).bind fun q64 => (fX10_takesSign q64 (59 : Int32)).bind fun q66 => some q66
set_option maxRecDepth 20000 in
set_option maxHeartbeats 2000000 in
theorem sX10_readsCommand {wv : Nat} (rc : Mm → Int32 → Option Mm) (dd : Nat) (hrc : ∀ (M : Mm) (x1 : Int32) (res : Mm), rc M x1 = some res → TF (wv + 1) yX10_readsCommands cX10_readsCommands 2 none dd [.inr (18, 0, 0), .inl (.int x1)] M (none) res) (M : Mm) (x1 : Int32) {res : Mm} (h : fX10_readsCommand rc M x1 = some res) : TF (wv + 1) yX10_readsCommand cX10_readsCommand 4 none (dd + 10) [.inr (18, 0, 0), .inl (.int x1)] M (none) res := by
  rw [fX10_readsCommand] at h
  refine TF.go (n := 2) (ls := [some (.inr (18, 0, 0)), some (.inl (.int x1)), none, none]) rfl rfl rfl rfl rfl ?_
  refine z_aload_n (i := 0) dX10_readsCommand_0 rfl rfl ?_
  obtain ⟨q1, hq2, h⟩ := bnd h
  refine z_fVi (sX10_commandHere M hq2) dX10_readsCommand_1 ml_X10_234 cd_X10_commandHere mk18 rfl rfl rfl (rmk_d (by omega) (by decide)) rfl rfl ?_
  refine z_istore_n (i := 2) dX10_readsCommand_4 rfl (Nat.le_of_ble_eq_true rfl) rfl ?_
  refine z_aload_n (i := 0) dX10_readsCommand_5 rfl rfl ?_
  refine z_iload_n (i := 2) dX10_readsCommand_6 rfl rfl ?_
  refine z_iconst (v := (-1 : Int32)) dX10_readsCommand_7 kc_m1 ?_
  refine z_icmp_eq (tgt := 15) dX10_readsCommand_8 rfl (fun hc3 => ?_) (fun hc3 => ?_)
  · have h := it_t h hc3
    refine z_iconst (v := (0 : Int32)) dX10_readsCommand_15 kc_0 ?_
    refine z_iconst (v := (1 : Int32)) dX10_readsCommand_16 kc_1 ?_
    obtain ⟨q4, hq5, h⟩ := bnd h
    refine z_fVi (sX10_must M (0 : Int32) (1 : Int32) hq5) dX10_readsCommand_17 ml_X10_161 cd_X10_must mk18 rfl rfl rfl (rmk_d (by omega) (by decide)) rfl rfl ?_
    refine z_if_eq (tgt := 45) dX10_readsCommand_20 rfl (fun hc6 => ?_) (fun hc6 => ?_)
    · have h := it_t h hc6
      cases h
      exact z_vret dX10_readsCommand_45 rfl (Nat.le_refl _) (Nat.le_refl _) ⟨rfl, rfl⟩
    · have h := it_f h hc6
      refine z_aload_n (i := 0) dX10_readsCommand_23 rfl rfl ?_
      refine z_aload_n (i := 0) dX10_readsCommand_24 rfl rfl ?_
      refine z_getI (x := (q4.2.1 (18, 0, 0) 23)) dX10_readsCommand_25 fl_X10_224 mk18 rfl rfl ?_
      refine z_bipush (v := (30 : Int32)) dX10_readsCommand_28 kb_30 ?_
      refine z_icmp_ge (tgt := 37) dX10_readsCommand_30 rfl (fun hc7 => ?_) (fun hc7 => ?_)
      · have h := it_t h hc7
        refine z_iconst (v := (0 : Int32)) dX10_readsCommand_37 kc_0 ?_
        refine z_iconst (v := (4 : Int32)) dX10_readsCommand_38 kc_4 ?_
        obtain ⟨q8, hq9, h⟩ := bnd h
        refine z_fVi (sX10_must q4.2 (0 : Int32) (4 : Int32) hq9) dX10_readsCommand_39 ml_X10_161 cd_X10_must mk18 rfl rfl rfl (rmk_d (by omega) (by decide)) rfl rfl ?_
        refine z_if_ne (tgt := 46) dX10_readsCommand_42 rfl (fun hc10 => ?_) (fun hc10 => ?_)
        · have h := it_f h hc10
          refine z_aload_n (i := 0) dX10_readsCommand_46 rfl rfl ?_
          refine z_getI (x := (q8.2.1 (18, 0, 0) 23)) dX10_readsCommand_47 fl_X10_224 mk18 rfl rfl ?_
          refine z_istore_n (i := 3) dX10_readsCommand_50 rfl (Nat.le_of_ble_eq_true rfl) rfl ?_
          refine z_aload_n (i := 0) dX10_readsCommand_51 rfl rfl ?_
          refine z_getR (r' := (19, 7, 0)) dX10_readsCommand_52 fl_X10_39 mk18 rfl rfl ?_
          refine z_iload_n (i := 3) dX10_readsCommand_55 rfl rfl ?_
          refine z_iload_n (i := 2) dX10_readsCommand_56 rfl rfl ?_
          obtain ⟨hc11, h⟩ := chk h
          refine z_iast (j := (q8.2.1 (18, 0, 0) 23).toNatClampNeg) allR_nd dX10_readsCommand_57 (m19 _ (Nat.le_of_ble_eq_true rfl)) rfl hc11 rfl ?_
          refine z_aload_n (i := 0) dX10_readsCommand_58 rfl rfl ?_
          refine z_dup dX10_readsCommand_59 rfl ?_
          refine z_getI (x := (q8.2.1 (18, 0, 0) 23)) dX10_readsCommand_60 fl_X10_224 mk18 rfl rfl ?_
          refine z_iconst (v := (1 : Int32)) dX10_readsCommand_63 kc_1 ?_
          refine z_iadd dX10_readsCommand_64 ?_
          refine z_putI allR_nd dX10_readsCommand_65 fl_X10_224 mk18 rfl rfl ?_
          refine z_aload_n (i := 0) dX10_readsCommand_68 rfl rfl ?_
          obtain ⟨q12, hq13, h⟩ := bnd h
          refine z_fVv (sX10_reads (putI (putI q8.2 (19, 7, 0) (q8.2.1 (18, 0, 0) 23).toNatClampNeg q1) (18, 0, 0) 23 ((q8.2.1 (18, 0, 0) 23) + (1 : Int32))) hq13) dX10_readsCommand_69 ml_X10_155 cd_X10_reads mk18 rfl rfl rfl (rmk_d (by omega) (by decide)) rfl rfl ?_
          refine z_iload_n (i := 2) dX10_readsCommand_72 rfl rfl ?_
          refine z_bipush (v := (9 : Int32)) dX10_readsCommand_73 kb_9 ?_
          refine z_icmp_ne (tgt := 87) dX10_readsCommand_75 rfl (fun hc14 => ?_) (fun hc14 => ?_)
          · have h := it_f h hc14
            refine z_aload_n (i := 0) dX10_readsCommand_87 rfl rfl ?_
            refine z_iload_n (i := 3) dX10_readsCommand_88 rfl rfl ?_
            obtain ⟨q15, hq16, h⟩ := bnd h
            refine z_fVv (sX10_readsSingle q12 (q8.2.1 (18, 0, 0) 23) hq16) dX10_readsCommand_89 ml_X10_241 cd_X10_readsSingle mk18 rfl rfl rfl (rmk_d (by omega) (by decide)) rfl rfl ?_
            refine z_aload_n (i := 0) dX10_readsCommand_92 rfl rfl ?_
            refine z_bipush (v := (59 : Int32)) dX10_readsCommand_93 kb_59 ?_
            obtain ⟨q17, hq18, h⟩ := bnd h
            refine z_fVv (sX10_takesSign q15 (59 : Int32) hq18) dX10_readsCommand_95 ml_X10_180 cd_X10_takesSign mk18 rfl rfl rfl (rmk_d (by omega) (by decide)) rfl rfl ?_
            cases h
            exact z_vret dX10_readsCommand_98 rfl (Nat.le_refl _) (Nat.le_refl _) ⟨rfl, rfl⟩
          · have h := it_t h hc14
            refine z_aload_n (i := 0) dX10_readsCommand_78 rfl rfl ?_
            refine z_iload_n (i := 3) dX10_readsCommand_79 rfl rfl ?_
            refine z_iload_n (i := 1) dX10_readsCommand_80 rfl rfl ?_
            obtain ⟨q19, hq20, h⟩ := bnd h
            refine z_fVv (sX10_readsRepeat rc dd hrc q12 (q8.2.1 (18, 0, 0) 23) x1 hq20) dX10_readsCommand_81 ml_X10_237 cd_X10_readsRepeat mk18 rfl rfl rfl (rmk_d (by omega) (by decide)) rfl rfl ?_
            refine z_goto (tgt := 92) dX10_readsCommand_84 rfl ?_
            refine z_aload_n (i := 0) dX10_readsCommand_92 rfl rfl ?_
            refine z_bipush (v := (59 : Int32)) dX10_readsCommand_93 kb_59 ?_
            obtain ⟨q21, hq22, h⟩ := bnd h
            refine z_fVv (sX10_takesSign q19 (59 : Int32) hq22) dX10_readsCommand_95 ml_X10_180 cd_X10_takesSign mk18 rfl rfl rfl (rmk_d (by omega) (by decide)) rfl rfl ?_
            cases h
            exact z_vret dX10_readsCommand_98 rfl (Nat.le_refl _) (Nat.le_refl _) ⟨rfl, rfl⟩
        · have h := it_t h hc10
          cases h
          exact z_vret dX10_readsCommand_45 rfl (Nat.le_refl _) (Nat.le_refl _) ⟨rfl, rfl⟩
      · have h := it_f h hc7
        refine z_iconst (v := (1 : Int32)) dX10_readsCommand_33 kc_1 ?_
        refine z_goto (tgt := 38) dX10_readsCommand_34 rfl ?_
        refine z_iconst (v := (4 : Int32)) dX10_readsCommand_38 kc_4 ?_
        obtain ⟨q23, hq24, h⟩ := bnd h
        refine z_fVi (sX10_must q4.2 (1 : Int32) (4 : Int32) hq24) dX10_readsCommand_39 ml_X10_161 cd_X10_must mk18 rfl rfl rfl (rmk_d (by omega) (by decide)) rfl rfl ?_
        refine z_if_ne (tgt := 46) dX10_readsCommand_42 rfl (fun hc25 => ?_) (fun hc25 => ?_)
        · have h := it_f h hc25
          refine z_aload_n (i := 0) dX10_readsCommand_46 rfl rfl ?_
          refine z_getI (x := (q23.2.1 (18, 0, 0) 23)) dX10_readsCommand_47 fl_X10_224 mk18 rfl rfl ?_
          refine z_istore_n (i := 3) dX10_readsCommand_50 rfl (Nat.le_of_ble_eq_true rfl) rfl ?_
          refine z_aload_n (i := 0) dX10_readsCommand_51 rfl rfl ?_
          refine z_getR (r' := (19, 7, 0)) dX10_readsCommand_52 fl_X10_39 mk18 rfl rfl ?_
          refine z_iload_n (i := 3) dX10_readsCommand_55 rfl rfl ?_
          refine z_iload_n (i := 2) dX10_readsCommand_56 rfl rfl ?_
          obtain ⟨hc26, h⟩ := chk h
          refine z_iast (j := (q23.2.1 (18, 0, 0) 23).toNatClampNeg) allR_nd dX10_readsCommand_57 (m19 _ (Nat.le_of_ble_eq_true rfl)) rfl hc26 rfl ?_
          refine z_aload_n (i := 0) dX10_readsCommand_58 rfl rfl ?_
          refine z_dup dX10_readsCommand_59 rfl ?_
          refine z_getI (x := (q23.2.1 (18, 0, 0) 23)) dX10_readsCommand_60 fl_X10_224 mk18 rfl rfl ?_
          refine z_iconst (v := (1 : Int32)) dX10_readsCommand_63 kc_1 ?_
          refine z_iadd dX10_readsCommand_64 ?_
          refine z_putI allR_nd dX10_readsCommand_65 fl_X10_224 mk18 rfl rfl ?_
          refine z_aload_n (i := 0) dX10_readsCommand_68 rfl rfl ?_
          obtain ⟨q27, hq28, h⟩ := bnd h
          refine z_fVv (sX10_reads (putI (putI q23.2 (19, 7, 0) (q23.2.1 (18, 0, 0) 23).toNatClampNeg q1) (18, 0, 0) 23 ((q23.2.1 (18, 0, 0) 23) + (1 : Int32))) hq28) dX10_readsCommand_69 ml_X10_155 cd_X10_reads mk18 rfl rfl rfl (rmk_d (by omega) (by decide)) rfl rfl ?_
          refine z_iload_n (i := 2) dX10_readsCommand_72 rfl rfl ?_
          refine z_bipush (v := (9 : Int32)) dX10_readsCommand_73 kb_9 ?_
          refine z_icmp_ne (tgt := 87) dX10_readsCommand_75 rfl (fun hc29 => ?_) (fun hc29 => ?_)
          · have h := it_f h hc29
            refine z_aload_n (i := 0) dX10_readsCommand_87 rfl rfl ?_
            refine z_iload_n (i := 3) dX10_readsCommand_88 rfl rfl ?_
            obtain ⟨q30, hq31, h⟩ := bnd h
            refine z_fVv (sX10_readsSingle q27 (q23.2.1 (18, 0, 0) 23) hq31) dX10_readsCommand_89 ml_X10_241 cd_X10_readsSingle mk18 rfl rfl rfl (rmk_d (by omega) (by decide)) rfl rfl ?_
            refine z_aload_n (i := 0) dX10_readsCommand_92 rfl rfl ?_
            refine z_bipush (v := (59 : Int32)) dX10_readsCommand_93 kb_59 ?_
            obtain ⟨q32, hq33, h⟩ := bnd h
            refine z_fVv (sX10_takesSign q30 (59 : Int32) hq33) dX10_readsCommand_95 ml_X10_180 cd_X10_takesSign mk18 rfl rfl rfl (rmk_d (by omega) (by decide)) rfl rfl ?_
            cases h
            exact z_vret dX10_readsCommand_98 rfl (Nat.le_refl _) (Nat.le_refl _) ⟨rfl, rfl⟩
          · have h := it_t h hc29
            refine z_aload_n (i := 0) dX10_readsCommand_78 rfl rfl ?_
            refine z_iload_n (i := 3) dX10_readsCommand_79 rfl rfl ?_
            refine z_iload_n (i := 1) dX10_readsCommand_80 rfl rfl ?_
            obtain ⟨q34, hq35, h⟩ := bnd h
            refine z_fVv (sX10_readsRepeat rc dd hrc q27 (q23.2.1 (18, 0, 0) 23) x1 hq35) dX10_readsCommand_81 ml_X10_237 cd_X10_readsRepeat mk18 rfl rfl rfl (rmk_d (by omega) (by decide)) rfl rfl ?_
            refine z_goto (tgt := 92) dX10_readsCommand_84 rfl ?_
            refine z_aload_n (i := 0) dX10_readsCommand_92 rfl rfl ?_
            refine z_bipush (v := (59 : Int32)) dX10_readsCommand_93 kb_59 ?_
            obtain ⟨q36, hq37, h⟩ := bnd h
            refine z_fVv (sX10_takesSign q34 (59 : Int32) hq37) dX10_readsCommand_95 ml_X10_180 cd_X10_takesSign mk18 rfl rfl rfl (rmk_d (by omega) (by decide)) rfl rfl ?_
            cases h
            exact z_vret dX10_readsCommand_98 rfl (Nat.le_refl _) (Nat.le_refl _) ⟨rfl, rfl⟩
        · have h := it_t h hc25
          cases h
          exact z_vret dX10_readsCommand_45 rfl (Nat.le_refl _) (Nat.le_refl _) ⟨rfl, rfl⟩
  · have h := it_f h hc3
    refine z_iconst (v := (1 : Int32)) dX10_readsCommand_11 kc_1 ?_
    refine z_goto (tgt := 16) dX10_readsCommand_12 rfl ?_
    refine z_iconst (v := (1 : Int32)) dX10_readsCommand_16 kc_1 ?_
    obtain ⟨q38, hq39, h⟩ := bnd h
    refine z_fVi (sX10_must M (1 : Int32) (1 : Int32) hq39) dX10_readsCommand_17 ml_X10_161 cd_X10_must mk18 rfl rfl rfl (rmk_d (by omega) (by decide)) rfl rfl ?_
    refine z_if_eq (tgt := 45) dX10_readsCommand_20 rfl (fun hc40 => ?_) (fun hc40 => ?_)
    · have h := it_t h hc40
      cases h
      exact z_vret dX10_readsCommand_45 rfl (Nat.le_refl _) (Nat.le_refl _) ⟨rfl, rfl⟩
    · have h := it_f h hc40
      refine z_aload_n (i := 0) dX10_readsCommand_23 rfl rfl ?_
      refine z_aload_n (i := 0) dX10_readsCommand_24 rfl rfl ?_
      refine z_getI (x := (q38.2.1 (18, 0, 0) 23)) dX10_readsCommand_25 fl_X10_224 mk18 rfl rfl ?_
      refine z_bipush (v := (30 : Int32)) dX10_readsCommand_28 kb_30 ?_
      refine z_icmp_ge (tgt := 37) dX10_readsCommand_30 rfl (fun hc41 => ?_) (fun hc41 => ?_)
      · have h := it_t h hc41
        refine z_iconst (v := (0 : Int32)) dX10_readsCommand_37 kc_0 ?_
        refine z_iconst (v := (4 : Int32)) dX10_readsCommand_38 kc_4 ?_
        obtain ⟨q42, hq43, h⟩ := bnd h
        refine z_fVi (sX10_must q38.2 (0 : Int32) (4 : Int32) hq43) dX10_readsCommand_39 ml_X10_161 cd_X10_must mk18 rfl rfl rfl (rmk_d (by omega) (by decide)) rfl rfl ?_
        refine z_if_ne (tgt := 46) dX10_readsCommand_42 rfl (fun hc44 => ?_) (fun hc44 => ?_)
        · have h := it_f h hc44
          refine z_aload_n (i := 0) dX10_readsCommand_46 rfl rfl ?_
          refine z_getI (x := (q42.2.1 (18, 0, 0) 23)) dX10_readsCommand_47 fl_X10_224 mk18 rfl rfl ?_
          refine z_istore_n (i := 3) dX10_readsCommand_50 rfl (Nat.le_of_ble_eq_true rfl) rfl ?_
          refine z_aload_n (i := 0) dX10_readsCommand_51 rfl rfl ?_
          refine z_getR (r' := (19, 7, 0)) dX10_readsCommand_52 fl_X10_39 mk18 rfl rfl ?_
          refine z_iload_n (i := 3) dX10_readsCommand_55 rfl rfl ?_
          refine z_iload_n (i := 2) dX10_readsCommand_56 rfl rfl ?_
          obtain ⟨hc45, h⟩ := chk h
          refine z_iast (j := (q42.2.1 (18, 0, 0) 23).toNatClampNeg) allR_nd dX10_readsCommand_57 (m19 _ (Nat.le_of_ble_eq_true rfl)) rfl hc45 rfl ?_
          refine z_aload_n (i := 0) dX10_readsCommand_58 rfl rfl ?_
          refine z_dup dX10_readsCommand_59 rfl ?_
          refine z_getI (x := (q42.2.1 (18, 0, 0) 23)) dX10_readsCommand_60 fl_X10_224 mk18 rfl rfl ?_
          refine z_iconst (v := (1 : Int32)) dX10_readsCommand_63 kc_1 ?_
          refine z_iadd dX10_readsCommand_64 ?_
          refine z_putI allR_nd dX10_readsCommand_65 fl_X10_224 mk18 rfl rfl ?_
          refine z_aload_n (i := 0) dX10_readsCommand_68 rfl rfl ?_
          obtain ⟨q46, hq47, h⟩ := bnd h
          refine z_fVv (sX10_reads (putI (putI q42.2 (19, 7, 0) (q42.2.1 (18, 0, 0) 23).toNatClampNeg q1) (18, 0, 0) 23 ((q42.2.1 (18, 0, 0) 23) + (1 : Int32))) hq47) dX10_readsCommand_69 ml_X10_155 cd_X10_reads mk18 rfl rfl rfl (rmk_d (by omega) (by decide)) rfl rfl ?_
          refine z_iload_n (i := 2) dX10_readsCommand_72 rfl rfl ?_
          refine z_bipush (v := (9 : Int32)) dX10_readsCommand_73 kb_9 ?_
          refine z_icmp_ne (tgt := 87) dX10_readsCommand_75 rfl (fun hc48 => ?_) (fun hc48 => ?_)
          · have h := it_f h hc48
            refine z_aload_n (i := 0) dX10_readsCommand_87 rfl rfl ?_
            refine z_iload_n (i := 3) dX10_readsCommand_88 rfl rfl ?_
            obtain ⟨q49, hq50, h⟩ := bnd h
            refine z_fVv (sX10_readsSingle q46 (q42.2.1 (18, 0, 0) 23) hq50) dX10_readsCommand_89 ml_X10_241 cd_X10_readsSingle mk18 rfl rfl rfl (rmk_d (by omega) (by decide)) rfl rfl ?_
            refine z_aload_n (i := 0) dX10_readsCommand_92 rfl rfl ?_
            refine z_bipush (v := (59 : Int32)) dX10_readsCommand_93 kb_59 ?_
            obtain ⟨q51, hq52, h⟩ := bnd h
            refine z_fVv (sX10_takesSign q49 (59 : Int32) hq52) dX10_readsCommand_95 ml_X10_180 cd_X10_takesSign mk18 rfl rfl rfl (rmk_d (by omega) (by decide)) rfl rfl ?_
            cases h
            exact z_vret dX10_readsCommand_98 rfl (Nat.le_refl _) (Nat.le_refl _) ⟨rfl, rfl⟩
          · have h := it_t h hc48
            refine z_aload_n (i := 0) dX10_readsCommand_78 rfl rfl ?_
            refine z_iload_n (i := 3) dX10_readsCommand_79 rfl rfl ?_
            refine z_iload_n (i := 1) dX10_readsCommand_80 rfl rfl ?_
            obtain ⟨q53, hq54, h⟩ := bnd h
            refine z_fVv (sX10_readsRepeat rc dd hrc q46 (q42.2.1 (18, 0, 0) 23) x1 hq54) dX10_readsCommand_81 ml_X10_237 cd_X10_readsRepeat mk18 rfl rfl rfl (rmk_d (by omega) (by decide)) rfl rfl ?_
            refine z_goto (tgt := 92) dX10_readsCommand_84 rfl ?_
            refine z_aload_n (i := 0) dX10_readsCommand_92 rfl rfl ?_
            refine z_bipush (v := (59 : Int32)) dX10_readsCommand_93 kb_59 ?_
            obtain ⟨q55, hq56, h⟩ := bnd h
            refine z_fVv (sX10_takesSign q53 (59 : Int32) hq56) dX10_readsCommand_95 ml_X10_180 cd_X10_takesSign mk18 rfl rfl rfl (rmk_d (by omega) (by decide)) rfl rfl ?_
            cases h
            exact z_vret dX10_readsCommand_98 rfl (Nat.le_refl _) (Nat.le_refl _) ⟨rfl, rfl⟩
        · have h := it_t h hc44
          cases h
          exact z_vret dX10_readsCommand_45 rfl (Nat.le_refl _) (Nat.le_refl _) ⟨rfl, rfl⟩
      · have h := it_f h hc41
        refine z_iconst (v := (1 : Int32)) dX10_readsCommand_33 kc_1 ?_
        refine z_goto (tgt := 38) dX10_readsCommand_34 rfl ?_
        refine z_iconst (v := (4 : Int32)) dX10_readsCommand_38 kc_4 ?_
        obtain ⟨q57, hq58, h⟩ := bnd h
        refine z_fVi (sX10_must q38.2 (1 : Int32) (4 : Int32) hq58) dX10_readsCommand_39 ml_X10_161 cd_X10_must mk18 rfl rfl rfl (rmk_d (by omega) (by decide)) rfl rfl ?_
        refine z_if_ne (tgt := 46) dX10_readsCommand_42 rfl (fun hc59 => ?_) (fun hc59 => ?_)
        · have h := it_f h hc59
          refine z_aload_n (i := 0) dX10_readsCommand_46 rfl rfl ?_
          refine z_getI (x := (q57.2.1 (18, 0, 0) 23)) dX10_readsCommand_47 fl_X10_224 mk18 rfl rfl ?_
          refine z_istore_n (i := 3) dX10_readsCommand_50 rfl (Nat.le_of_ble_eq_true rfl) rfl ?_
          refine z_aload_n (i := 0) dX10_readsCommand_51 rfl rfl ?_
          refine z_getR (r' := (19, 7, 0)) dX10_readsCommand_52 fl_X10_39 mk18 rfl rfl ?_
          refine z_iload_n (i := 3) dX10_readsCommand_55 rfl rfl ?_
          refine z_iload_n (i := 2) dX10_readsCommand_56 rfl rfl ?_
          obtain ⟨hc60, h⟩ := chk h
          refine z_iast (j := (q57.2.1 (18, 0, 0) 23).toNatClampNeg) allR_nd dX10_readsCommand_57 (m19 _ (Nat.le_of_ble_eq_true rfl)) rfl hc60 rfl ?_
          refine z_aload_n (i := 0) dX10_readsCommand_58 rfl rfl ?_
          refine z_dup dX10_readsCommand_59 rfl ?_
          refine z_getI (x := (q57.2.1 (18, 0, 0) 23)) dX10_readsCommand_60 fl_X10_224 mk18 rfl rfl ?_
          refine z_iconst (v := (1 : Int32)) dX10_readsCommand_63 kc_1 ?_
          refine z_iadd dX10_readsCommand_64 ?_
          refine z_putI allR_nd dX10_readsCommand_65 fl_X10_224 mk18 rfl rfl ?_
          refine z_aload_n (i := 0) dX10_readsCommand_68 rfl rfl ?_
          obtain ⟨q61, hq62, h⟩ := bnd h
          refine z_fVv (sX10_reads (putI (putI q57.2 (19, 7, 0) (q57.2.1 (18, 0, 0) 23).toNatClampNeg q1) (18, 0, 0) 23 ((q57.2.1 (18, 0, 0) 23) + (1 : Int32))) hq62) dX10_readsCommand_69 ml_X10_155 cd_X10_reads mk18 rfl rfl rfl (rmk_d (by omega) (by decide)) rfl rfl ?_
          refine z_iload_n (i := 2) dX10_readsCommand_72 rfl rfl ?_
          refine z_bipush (v := (9 : Int32)) dX10_readsCommand_73 kb_9 ?_
          refine z_icmp_ne (tgt := 87) dX10_readsCommand_75 rfl (fun hc63 => ?_) (fun hc63 => ?_)
          · have h := it_f h hc63
            refine z_aload_n (i := 0) dX10_readsCommand_87 rfl rfl ?_
            refine z_iload_n (i := 3) dX10_readsCommand_88 rfl rfl ?_
            obtain ⟨q64, hq65, h⟩ := bnd h
            refine z_fVv (sX10_readsSingle q61 (q57.2.1 (18, 0, 0) 23) hq65) dX10_readsCommand_89 ml_X10_241 cd_X10_readsSingle mk18 rfl rfl rfl (rmk_d (by omega) (by decide)) rfl rfl ?_
            refine z_aload_n (i := 0) dX10_readsCommand_92 rfl rfl ?_
            refine z_bipush (v := (59 : Int32)) dX10_readsCommand_93 kb_59 ?_
            obtain ⟨q66, hq67, h⟩ := bnd h
            refine z_fVv (sX10_takesSign q64 (59 : Int32) hq67) dX10_readsCommand_95 ml_X10_180 cd_X10_takesSign mk18 rfl rfl rfl (rmk_d (by omega) (by decide)) rfl rfl ?_
            cases h
            exact z_vret dX10_readsCommand_98 rfl (Nat.le_refl _) (Nat.le_refl _) ⟨rfl, rfl⟩
          · have h := it_t h hc63
            refine z_aload_n (i := 0) dX10_readsCommand_78 rfl rfl ?_
            refine z_iload_n (i := 3) dX10_readsCommand_79 rfl rfl ?_
            refine z_iload_n (i := 1) dX10_readsCommand_80 rfl rfl ?_
            obtain ⟨q68, hq69, h⟩ := bnd h
            refine z_fVv (sX10_readsRepeat rc dd hrc q61 (q57.2.1 (18, 0, 0) 23) x1 hq69) dX10_readsCommand_81 ml_X10_237 cd_X10_readsRepeat mk18 rfl rfl rfl (rmk_d (by omega) (by decide)) rfl rfl ?_
            refine z_goto (tgt := 92) dX10_readsCommand_84 rfl ?_
            refine z_aload_n (i := 0) dX10_readsCommand_92 rfl rfl ?_
            refine z_bipush (v := (59 : Int32)) dX10_readsCommand_93 kb_59 ?_
            obtain ⟨q70, hq71, h⟩ := bnd h
            refine z_fVv (sX10_takesSign q68 (59 : Int32) hq71) dX10_readsCommand_95 ml_X10_180 cd_X10_takesSign mk18 rfl rfl rfl (rmk_d (by omega) (by decide)) rfl rfl ?_
            cases h
            exact z_vret dX10_readsCommand_98 rfl (Nat.le_refl _) (Nat.le_refl _) ⟨rfl, rfl⟩
        · have h := it_t h hc59
          cases h
          exact z_vret dX10_readsCommand_45 rfl (Nat.le_refl _) (Nat.le_refl _) ⟨rfl, rfl⟩
theorem dX10_readsCommands_0 : decode cX10_readsCommands 0 = .ok (.aload_n 0, 1) := by decide +kernel
theorem dX10_readsCommands_1 : decode cX10_readsCommands 1 = .ok (.getfield 149, 3) := by decide +kernel
theorem dX10_readsCommands_4 : decode cX10_readsCommands 4 = .ok (.ifCond .ne 27, 3) := by decide +kernel
theorem dX10_readsCommands_7 : decode cX10_readsCommands 7 = .ok (.aload_n 0, 1) := by decide +kernel
theorem dX10_readsCommands_8 : decode cX10_readsCommands 8 = .ok (.getfield 143, 3) := by decide +kernel
theorem dX10_readsCommands_11 : decode cX10_readsCommands 11 = .ok (.ifCond .eq 20, 3) := by decide +kernel
theorem dX10_readsCommands_14 : decode cX10_readsCommands 14 = .ok (.aload_n 0, 1) := by decide +kernel
theorem dX10_readsCommands_15 : decode cX10_readsCommands 15 = .ok (.bipush 41, 2) := by decide +kernel
theorem dX10_readsCommands_17 : decode cX10_readsCommands 17 = .ok (.invokevirtual 158, 3) := by decide +kernel
theorem dX10_readsCommands_20 : decode cX10_readsCommands 20 = .ok (.ifCond .ne 11, 3) := by decide +kernel
theorem dX10_readsCommands_23 : decode cX10_readsCommands 23 = .ok (.aload_n 0, 1) := by decide +kernel
theorem dX10_readsCommands_24 : decode cX10_readsCommands 24 = .ok (.iload_n 1, 1) := by decide +kernel
theorem dX10_readsCommands_25 : decode cX10_readsCommands 25 = .ok (.invokevirtual 244, 3) := by decide +kernel
theorem dX10_readsCommands_28 : decode cX10_readsCommands 28 = .ok (.goto (-28), 3) := by decide +kernel
theorem dX10_readsCommands_31 : decode cX10_readsCommands 31 = .ok (.return_, 1) := by decide +kernel
def fX10_readsCommands_L0 (rc : Mm → Int32 → Option Mm) (c1 : Int32) (K : Mm → Option Mm) : Nat → Mm → Option Mm
  | 0, _ => none
  | n + 1, M => if (M.1 (18, 0, 0) 17) = 0 then (if (M.1 (18, 0, 0) 15) = 0 then K M else (fX10_isSign M (41 : Int32)).bind fun q3 => if q3 = 0 then ((fX10_readsCommand rc M c1).bind fun q6 => fX10_readsCommands_L0 rc c1 K n q6) else K M) else K M
def fX10_readsCommands (rc : Mm → Int32 → Option Mm) (M : Mm) (x1 : Int32) : Option Mm := fX10_readsCommands_L0 rc x1 (fun M8 => some M8) NF M
def gX10_readsCommands : Nat → Mm → Int32 → Option Mm
  | 0, _, _ => none
  | n + 1, M, x1 => fX10_readsCommands (gX10_readsCommands n) M x1
set_option maxRecDepth 20000 in
set_option maxHeartbeats 2000000 in
theorem sX10_readsCommands_L0 {wv : Nat} (rc : Mm → Int32 → Option Mm) (c1 : Int32) (dd : Nat) (hrc : ∀ (M : Mm) (x1 : Int32) (res : Mm), rc M x1 = some res → TF (wv + 1) yX10_readsCommands cX10_readsCommands 2 none dd [.inr (18, 0, 0), .inl (.int x1)] M (none) res) {res : Mm} {K : Mm → Option Mm} : ∀ (n : Nat) (M : Mm), fX10_readsCommands_L0 rc c1 K n M = some res →
    (∀ (M : Mm), K M = some res → Z RX10 cX10_readsCommands 2 none [] "readsCommands" (rmD (dd + 11) 0 0) (QM SH (allR (wv + 1)) 0 0 (fun v M9 => v = none ∧ M9 = res) (fun _ _ => False)) (allR (wv + 1)) SH 0 0 31 [some (.inr (18, 0, 0)), some (.inl (.int c1))] [] M) → Z RX10 cX10_readsCommands 2 none [] "readsCommands" (rmD (dd + 11) 0 0) (QM SH (allR (wv + 1)) 0 0 (fun v M9 => v = none ∧ M9 = res) (fun _ _ => False)) (allR (wv + 1)) SH 0 0 0 [some (.inr (18, 0, 0)), some (.inl (.int c1))] [] M := by
  intro n
  induction n with
  | zero => intro M h; cases h
  | succ n ih =>
    intro M h hK
    rw [fX10_readsCommands_L0] at h
    refine z_aload_n (i := 0) dX10_readsCommands_0 rfl rfl ?_
    refine z_getI (x := (M.1 (18, 0, 0) 17)) dX10_readsCommands_1 fl_X10_149 mk18 rfl rfl ?_
    refine z_if_ne (tgt := 31) dX10_readsCommands_4 rfl (fun hc1 => ?_) (fun hc1 => ?_)
    · have h := it_f h hc1
      exact hK _ h
    · have h := it_t h hc1
      refine z_aload_n (i := 0) dX10_readsCommands_7 rfl rfl ?_
      refine z_getI (x := (M.1 (18, 0, 0) 15)) dX10_readsCommands_8 fl_X10_143 mk18 rfl rfl ?_
      refine z_if_eq (tgt := 31) dX10_readsCommands_11 rfl (fun hc2 => ?_) (fun hc2 => ?_)
      · have h := it_t h hc2
        exact hK _ h
      · have h := it_f h hc2
        refine z_aload_n (i := 0) dX10_readsCommands_14 rfl rfl ?_
        refine z_bipush (v := (41 : Int32)) dX10_readsCommands_15 kb_41 ?_
        obtain ⟨q3, hq4, h⟩ := bnd h
        refine z_fVi (sX10_isSign M (41 : Int32) hq4) dX10_readsCommands_17 ml_X10_158 cd_X10_isSign mk18 rfl rfl rfl (rmk_d (by omega) (by decide)) rfl rfl ?_
        refine z_if_ne (tgt := 31) dX10_readsCommands_20 rfl (fun hc5 => ?_) (fun hc5 => ?_)
        · have h := it_f h hc5
          exact hK _ h
        · have h := it_t h hc5
          refine z_aload_n (i := 0) dX10_readsCommands_23 rfl rfl ?_
          refine z_iload_n (i := 1) dX10_readsCommands_24 rfl rfl ?_
          obtain ⟨q6, hq7, h⟩ := bnd h
          refine z_fVv (sX10_readsCommand rc dd hrc M c1 hq7) dX10_readsCommands_25 ml_X10_244 cd_X10_readsCommand mk18 rfl rfl rfl (rmk_d (by omega) (by decide)) rfl rfl ?_
          refine z_goto (tgt := 0) dX10_readsCommands_28 rfl ?_
          exact ih _ h hK
set_option maxRecDepth 20000 in
set_option maxHeartbeats 2000000 in
theorem sX10_readsCommands {wv : Nat} (rc : Mm → Int32 → Option Mm) (dd : Nat) (hrc : ∀ (M : Mm) (x1 : Int32) (res : Mm), rc M x1 = some res → TF (wv + 1) yX10_readsCommands cX10_readsCommands 2 none dd [.inr (18, 0, 0), .inl (.int x1)] M (none) res) (M : Mm) (x1 : Int32) {res : Mm} (h : fX10_readsCommands rc M x1 = some res) : TF (wv + 1) yX10_readsCommands cX10_readsCommands 2 none (dd + 11) [.inr (18, 0, 0), .inl (.int x1)] M (none) res := by
  rw [fX10_readsCommands] at h
  refine TF.go (n := 0) (ls := [some (.inr (18, 0, 0)), some (.inl (.int x1))]) rfl rfl rfl rfl rfl ?_
  refine sX10_readsCommands_L0 rc x1 dd hrc NF _ h (fun M8 h => ?_)
  cases h
  exact z_vret dX10_readsCommands_31 rfl (Nat.le_refl _) (Nat.le_refl _) ⟨rfl, rfl⟩
set_option maxRecDepth 20000 in
set_option maxHeartbeats 2000000 in
theorem uX10_readsCommands {wv : Nat} : ∀ (n : Nat) (M : Mm) (x1 : Int32) (res : Mm), gX10_readsCommands n M x1 = some res → TF (wv + 1) yX10_readsCommands cX10_readsCommands 2 none (11 * n) [.inr (18, 0, 0), .inl (.int x1)] M (none) res := by
  intro n
  induction n with
  | zero => intro M x1  res h; cases h
  | succ n ih =>
    intro M x1  res h
    exact sX10_readsCommands (gX10_readsCommands n) (11 * n) (fun M x1  res h => ih M x1  res h) M x1  h
theorem dX10_keeps_0 : decode cX10_keeps 0 = .ok (.aload_n 0, 1) := by decide +kernel
theorem dX10_keeps_1 : decode cX10_keeps 1 = .ok (.getfield 200, 3) := by decide +kernel
theorem dX10_keeps_4 : decode cX10_keeps 4 = .ok (.bipush 8, 2) := by decide +kernel
theorem dX10_keeps_6 : decode cX10_keeps 6 = .ok (.if_icmp .ne 44, 3) := by decide +kernel
theorem dX10_keeps_9 : decode cX10_keeps 9 = .ok (.iconst 0, 1) := by decide +kernel
theorem dX10_keeps_10 : decode cX10_keeps 10 = .ok (.istore_n 1, 1) := by decide +kernel
theorem dX10_keeps_11 : decode cX10_keeps 11 = .ok (.iload_n 1, 1) := by decide +kernel
theorem dX10_keeps_12 : decode cX10_keeps 12 = .ok (.sipush 1960, 3) := by decide +kernel
theorem dX10_keeps_15 : decode cX10_keeps 15 = .ok (.if_icmp .ge 25, 3) := by decide +kernel
theorem dX10_keeps_18 : decode cX10_keeps 18 = .ok (.aload_n 0, 1) := by decide +kernel
theorem dX10_keeps_19 : decode cX10_keeps 19 = .ok (.getfield 19, 3) := by decide +kernel
theorem dX10_keeps_22 : decode cX10_keeps 22 = .ok (.iload_n 1, 1) := by decide +kernel
theorem dX10_keeps_23 : decode cX10_keeps 23 = .ok (.aload_n 0, 1) := by decide +kernel
theorem dX10_keeps_24 : decode cX10_keeps 24 = .ok (.getfield 19, 3) := by decide +kernel
theorem dX10_keeps_27 : decode cX10_keeps 27 = .ok (.iload_n 1, 1) := by decide +kernel
theorem dX10_keeps_28 : decode cX10_keeps 28 = .ok (.sipush 280, 3) := by decide +kernel
theorem dX10_keeps_31 : decode cX10_keeps 31 = .ok (.iadd, 1) := by decide +kernel
theorem dX10_keeps_32 : decode cX10_keeps 32 = .ok (.iaload, 1) := by decide +kernel
theorem dX10_keeps_33 : decode cX10_keeps 33 = .ok (.iastore, 1) := by decide +kernel
theorem dX10_keeps_34 : decode cX10_keeps 34 = .ok (.iinc 1 1, 3) := by decide +kernel
theorem dX10_keeps_37 : decode cX10_keeps 37 = .ok (.goto (-26), 3) := by decide +kernel
theorem dX10_keeps_40 : decode cX10_keeps 40 = .ok (.aload_n 0, 1) := by decide +kernel
theorem dX10_keeps_41 : decode cX10_keeps 41 = .ok (.dup, 1) := by decide +kernel
theorem dX10_keeps_42 : decode cX10_keeps 42 = .ok (.getfield 200, 3) := by decide +kernel
theorem dX10_keeps_45 : decode cX10_keeps 45 = .ok (.iconst 1, 1) := by decide +kernel
theorem dX10_keeps_46 : decode cX10_keeps 46 = .ok (.isub, 1) := by decide +kernel
theorem dX10_keeps_47 : decode cX10_keeps 47 = .ok (.putfield 200, 3) := by decide +kernel
theorem dX10_keeps_50 : decode cX10_keeps 50 = .ok (.iconst 0, 1) := by decide +kernel
theorem dX10_keeps_51 : decode cX10_keeps 51 = .ok (.istore_n 1, 1) := by decide +kernel
theorem dX10_keeps_52 : decode cX10_keeps 52 = .ok (.iload_n 1, 1) := by decide +kernel
theorem dX10_keeps_53 : decode cX10_keeps 53 = .ok (.sipush 280, 3) := by decide +kernel
theorem dX10_keeps_56 : decode cX10_keeps 56 = .ok (.if_icmp .ge 30, 3) := by decide +kernel
theorem dX10_keeps_59 : decode cX10_keeps 59 = .ok (.aload_n 0, 1) := by decide +kernel
theorem dX10_keeps_60 : decode cX10_keeps 60 = .ok (.getfield 19, 3) := by decide +kernel
theorem dX10_keeps_63 : decode cX10_keeps 63 = .ok (.sipush 280, 3) := by decide +kernel
theorem dX10_keeps_66 : decode cX10_keeps 66 = .ok (.aload_n 0, 1) := by decide +kernel
theorem dX10_keeps_67 : decode cX10_keeps 67 = .ok (.getfield 200, 3) := by decide +kernel
theorem dX10_keeps_70 : decode cX10_keeps 70 = .ok (.imul, 1) := by decide +kernel
theorem dX10_keeps_71 : decode cX10_keeps 71 = .ok (.iload_n 1, 1) := by decide +kernel
theorem dX10_keeps_72 : decode cX10_keeps 72 = .ok (.iadd, 1) := by decide +kernel
theorem dX10_keeps_73 : decode cX10_keeps 73 = .ok (.aload_n 0, 1) := by decide +kernel
theorem dX10_keeps_74 : decode cX10_keeps 74 = .ok (.getfield 7, 3) := by decide +kernel
theorem dX10_keeps_77 : decode cX10_keeps 77 = .ok (.iload_n 1, 1) := by decide +kernel
theorem dX10_keeps_78 : decode cX10_keeps 78 = .ok (.iaload, 1) := by decide +kernel
theorem dX10_keeps_79 : decode cX10_keeps 79 = .ok (.iastore, 1) := by decide +kernel
theorem dX10_keeps_80 : decode cX10_keeps 80 = .ok (.iinc 1 1, 3) := by decide +kernel
theorem dX10_keeps_83 : decode cX10_keeps 83 = .ok (.goto (-31), 3) := by decide +kernel
theorem dX10_keeps_86 : decode cX10_keeps 86 = .ok (.aload_n 0, 1) := by decide +kernel
theorem dX10_keeps_87 : decode cX10_keeps 87 = .ok (.dup, 1) := by decide +kernel
theorem dX10_keeps_88 : decode cX10_keeps 88 = .ok (.getfield 200, 3) := by decide +kernel
theorem dX10_keeps_91 : decode cX10_keeps 91 = .ok (.iconst 1, 1) := by decide +kernel
theorem dX10_keeps_92 : decode cX10_keeps 92 = .ok (.iadd, 1) := by decide +kernel
theorem dX10_keeps_93 : decode cX10_keeps 93 = .ok (.putfield 200, 3) := by decide +kernel
theorem dX10_keeps_96 : decode cX10_keeps 96 = .ok (.return_, 1) := by decide +kernel
def fX10_keeps_L52 (K : Int32 → Mm → Option Mm) : Nat → Int32 → Mm → Option Mm
  | 0, _, _ => none
  | n + 1, v1, M => if (280 : Int32) ≤ v1 then K v1 M else if v1 < 0 ∨ 280 ≤ v1.toNatClampNeg then none else if (((280 : Int32) * (M.1 (18, 0, 0) 7)) + v1) < 0 ∨ 2240 ≤ (((280 : Int32) * (M.1 (18, 0, 0) 7)) + v1).toNatClampNeg then none else fX10_keeps_L52 K n (v1 + (1 : Int32)) (putI M (19, 3, 0) (((280 : Int32) * (M.1 (18, 0, 0) 7)) + v1).toNatClampNeg (M.1 (19, 0, 0) v1.toNatClampNeg))
def fX10_keeps_L11 (K : Int32 → Mm → Option Mm) : Nat → Int32 → Mm → Option Mm
  | 0, _, _ => none
  | n + 1, v1, M => if (1960 : Int32) ≤ v1 then K v1 M else if (v1 + (280 : Int32)) < 0 ∨ 2240 ≤ (v1 + (280 : Int32)).toNatClampNeg then none else if v1 < 0 ∨ 2240 ≤ v1.toNatClampNeg then none else fX10_keeps_L11 K n (v1 + (1 : Int32)) (putI M (19, 3, 0) v1.toNatClampNeg (M.1 (19, 3, 0) (v1 + (280 : Int32)).toNatClampNeg))
def fX10_keeps (M : Mm) : Option Mm := if (M.1 (18, 0, 0) 7) = (8 : Int32) then (fX10_keeps_L11 (fun w10 M11 => fX10_keeps_L52 (fun w12 M13 => some (putI M13 (18, 0, 0) 7 ((M13.1 (18, 0, 0) 7) + (1 : Int32)))) NF (0 : Int32) (putI M11 (18, 0, 0) 7 ((M11.1 (18, 0, 0) 7) - (1 : Int32)))) NF (0 : Int32) M) else fX10_keeps_L52 (fun w5 M6 => some (putI M6 (18, 0, 0) 7 ((M6.1 (18, 0, 0) 7) + (1 : Int32)))) NF (0 : Int32) M
set_option maxRecDepth 20000 in
set_option maxHeartbeats 2000000 in
theorem sX10_keeps_L52 {wv : Nat} {res : Mm} {K : Int32 → Mm → Option Mm} : ∀ (n : Nat) (v1 : Int32) (M : Mm), fX10_keeps_L52 K n v1 M = some res →
    (∀ (v1 : Int32) (M : Mm), K v1 M = some res → Z RX10 cX10_keeps 2 none [] "keeps" (rmD 0 0 0) (QM SH (allR (wv + 1)) 0 0 (fun v M9 => v = none ∧ M9 = res) (fun _ _ => False)) (allR (wv + 1)) SH 0 0 86 [some (.inr (18, 0, 0)), some (.inl (.int v1))] [] M) → Z RX10 cX10_keeps 2 none [] "keeps" (rmD 0 0 0) (QM SH (allR (wv + 1)) 0 0 (fun v M9 => v = none ∧ M9 = res) (fun _ _ => False)) (allR (wv + 1)) SH 0 0 52 [some (.inr (18, 0, 0)), some (.inl (.int v1))] [] M := by
  intro n
  induction n with
  | zero => intro v1 M h; cases h
  | succ n ih =>
    intro v1 M h hK
    rw [fX10_keeps_L52] at h
    refine z_iload_n (i := 1) dX10_keeps_52 rfl rfl ?_
    refine z_sipush (v := (280 : Int32)) dX10_keeps_53 ks_280 ?_
    refine z_icmp_ge (tgt := 86) dX10_keeps_56 rfl (fun hc2 => ?_) (fun hc2 => ?_)
    · have h := it_t h hc2
      exact hK _ _ h
    · have h := it_f h hc2
      refine z_aload_n (i := 0) dX10_keeps_59 rfl rfl ?_
      refine z_getR (r' := (19, 3, 0)) dX10_keeps_60 fl_X10_19 mk18 rfl rfl ?_
      refine z_sipush (v := (280 : Int32)) dX10_keeps_63 ks_280 ?_
      refine z_aload_n (i := 0) dX10_keeps_66 rfl rfl ?_
      refine z_getI (x := (M.1 (18, 0, 0) 7)) dX10_keeps_67 fl_X10_200 mk18 rfl rfl ?_
      refine z_imul dX10_keeps_70 ?_
      refine z_iload_n (i := 1) dX10_keeps_71 rfl rfl ?_
      refine z_iadd dX10_keeps_72 ?_
      refine z_aload_n (i := 0) dX10_keeps_73 rfl rfl ?_
      refine z_getR (r' := (19, 0, 0)) dX10_keeps_74 fl_X10_7 mk18 rfl rfl ?_
      refine z_iload_n (i := 1) dX10_keeps_77 rfl rfl ?_
      obtain ⟨hc3, h⟩ := chk h
      refine z_iald (x := (M.1 (19, 0, 0) v1.toNatClampNeg)) dX10_keeps_78 (m19 _ (Nat.le_of_ble_eq_true rfl)) rfl hc3 rfl ?_
      obtain ⟨hc4, h⟩ := chk h
      refine z_iast (j := (((280 : Int32) * (M.1 (18, 0, 0) 7)) + v1).toNatClampNeg) allR_nd dX10_keeps_79 (m19 _ (Nat.le_of_ble_eq_true rfl)) rfl hc4 rfl ?_
      refine z_iinc (i := 1) (v := (v1 + (1 : Int32))) dX10_keeps_80 rfl (iinc_k kc_1) (Nat.le_of_ble_eq_true rfl) rfl ?_
      refine z_goto (tgt := 52) dX10_keeps_83 rfl ?_
      exact ih _ _ h hK
set_option maxRecDepth 20000 in
set_option maxHeartbeats 2000000 in
theorem sX10_keeps_L11 {wv : Nat} {res : Mm} {K : Int32 → Mm → Option Mm} : ∀ (n : Nat) (v1 : Int32) (M : Mm), fX10_keeps_L11 K n v1 M = some res →
    (∀ (v1 : Int32) (M : Mm), K v1 M = some res → Z RX10 cX10_keeps 2 none [] "keeps" (rmD 0 0 0) (QM SH (allR (wv + 1)) 0 0 (fun v M9 => v = none ∧ M9 = res) (fun _ _ => False)) (allR (wv + 1)) SH 0 0 40 [some (.inr (18, 0, 0)), some (.inl (.int v1))] [] M) → Z RX10 cX10_keeps 2 none [] "keeps" (rmD 0 0 0) (QM SH (allR (wv + 1)) 0 0 (fun v M9 => v = none ∧ M9 = res) (fun _ _ => False)) (allR (wv + 1)) SH 0 0 11 [some (.inr (18, 0, 0)), some (.inl (.int v1))] [] M := by
  intro n
  induction n with
  | zero => intro v1 M h; cases h
  | succ n ih =>
    intro v1 M h hK
    rw [fX10_keeps_L11] at h
    refine z_iload_n (i := 1) dX10_keeps_11 rfl rfl ?_
    refine z_sipush (v := (1960 : Int32)) dX10_keeps_12 ks_1960 ?_
    refine z_icmp_ge (tgt := 40) dX10_keeps_15 rfl (fun hc7 => ?_) (fun hc7 => ?_)
    · have h := it_t h hc7
      exact hK _ _ h
    · have h := it_f h hc7
      refine z_aload_n (i := 0) dX10_keeps_18 rfl rfl ?_
      refine z_getR (r' := (19, 3, 0)) dX10_keeps_19 fl_X10_19 mk18 rfl rfl ?_
      refine z_iload_n (i := 1) dX10_keeps_22 rfl rfl ?_
      refine z_aload_n (i := 0) dX10_keeps_23 rfl rfl ?_
      refine z_getR (r' := (19, 3, 0)) dX10_keeps_24 fl_X10_19 mk18 rfl rfl ?_
      refine z_iload_n (i := 1) dX10_keeps_27 rfl rfl ?_
      refine z_sipush (v := (280 : Int32)) dX10_keeps_28 ks_280 ?_
      refine z_iadd dX10_keeps_31 ?_
      obtain ⟨hc8, h⟩ := chk h
      refine z_iald (x := (M.1 (19, 3, 0) (v1 + (280 : Int32)).toNatClampNeg)) dX10_keeps_32 (m19 _ (Nat.le_of_ble_eq_true rfl)) rfl hc8 rfl ?_
      obtain ⟨hc9, h⟩ := chk h
      refine z_iast (j := v1.toNatClampNeg) allR_nd dX10_keeps_33 (m19 _ (Nat.le_of_ble_eq_true rfl)) rfl hc9 rfl ?_
      refine z_iinc (i := 1) (v := (v1 + (1 : Int32))) dX10_keeps_34 rfl (iinc_k kc_1) (Nat.le_of_ble_eq_true rfl) rfl ?_
      refine z_goto (tgt := 11) dX10_keeps_37 rfl ?_
      exact ih _ _ h hK
set_option maxRecDepth 20000 in
set_option maxHeartbeats 2000000 in
theorem sX10_keeps {wv : Nat} (M : Mm) {res : Mm} (h : fX10_keeps M  = some res) : TF (wv + 1) yX10_keeps cX10_keeps 2 none 0 [.inr (18, 0, 0)] M (none) res := by
  rw [fX10_keeps] at h
  refine TF.go (n := 1) (ls := [some (.inr (18, 0, 0)), none]) rfl rfl rfl rfl rfl ?_
  refine z_aload_n (i := 0) dX10_keeps_0 rfl rfl ?_
  refine z_getI (x := (M.1 (18, 0, 0) 7)) dX10_keeps_1 fl_X10_200 mk18 rfl rfl ?_
  refine z_bipush (v := (8 : Int32)) dX10_keeps_4 kb_8 ?_
  refine z_icmp_ne (tgt := 50) dX10_keeps_6 rfl (fun hc1 => ?_) (fun hc1 => ?_)
  · have h := it_f h hc1
    refine z_iconst (v := (0 : Int32)) dX10_keeps_50 kc_0 ?_
    refine z_istore_n (i := 1) dX10_keeps_51 rfl (Nat.le_of_ble_eq_true rfl) rfl ?_
    refine sX10_keeps_L52  NF _ _ h (fun w5 M6 h => ?_)
    refine z_aload_n (i := 0) dX10_keeps_86 rfl rfl ?_
    refine z_dup dX10_keeps_87 rfl ?_
    refine z_getI (x := (M6.1 (18, 0, 0) 7)) dX10_keeps_88 fl_X10_200 mk18 rfl rfl ?_
    refine z_iconst (v := (1 : Int32)) dX10_keeps_91 kc_1 ?_
    refine z_iadd dX10_keeps_92 ?_
    refine z_putI allR_nd dX10_keeps_93 fl_X10_200 mk18 rfl rfl ?_
    cases h
    exact z_vret dX10_keeps_96 rfl (Nat.le_refl _) (Nat.le_refl _) ⟨rfl, rfl⟩
  · have h := it_t h hc1
    refine z_iconst (v := (0 : Int32)) dX10_keeps_9 kc_0 ?_
    refine z_istore_n (i := 1) dX10_keeps_10 rfl (Nat.le_of_ble_eq_true rfl) rfl ?_
    refine sX10_keeps_L11  NF _ _ h (fun w10 M11 h => ?_)
    refine z_aload_n (i := 0) dX10_keeps_40 rfl rfl ?_
    refine z_dup dX10_keeps_41 rfl ?_
    refine z_getI (x := (M11.1 (18, 0, 0) 7)) dX10_keeps_42 fl_X10_200 mk18 rfl rfl ?_
    refine z_iconst (v := (1 : Int32)) dX10_keeps_45 kc_1 ?_
    refine z_isub dX10_keeps_46 ?_
    refine z_putI allR_nd dX10_keeps_47 fl_X10_200 mk18 rfl rfl ?_
    refine z_iconst (v := (0 : Int32)) dX10_keeps_50 kc_0 ?_
    refine z_istore_n (i := 1) dX10_keeps_51 rfl (Nat.le_of_ble_eq_true rfl) rfl ?_
    refine sX10_keeps_L52  NF _ _ h (fun w12 M13 h => ?_)
    refine z_aload_n (i := 0) dX10_keeps_86 rfl rfl ?_
    refine z_dup dX10_keeps_87 rfl ?_
    refine z_getI (x := (M13.1 (18, 0, 0) 7)) dX10_keeps_88 fl_X10_200 mk18 rfl rfl ?_
    refine z_iconst (v := (1 : Int32)) dX10_keeps_91 kc_1 ?_
    refine z_iadd dX10_keeps_92 ?_
    refine z_putI allR_nd dX10_keeps_93 fl_X10_200 mk18 rfl rfl ?_
    cases h
    exact z_vret dX10_keeps_96 rfl (Nat.le_refl _) (Nat.le_refl _) ⟨rfl, rfl⟩
theorem dX10_changes_0 : decode cX10_changes 0 = .ok (.aload_n 0, 1) := by decide +kernel
theorem dX10_changes_1 : decode cX10_changes 1 = .ok (.getfield 284, 3) := by decide +kernel
theorem dX10_changes_4 : decode cX10_changes 4 = .ok (.ifCond .ne 7, 3) := by decide +kernel
theorem dX10_changes_7 : decode cX10_changes 7 = .ok (.aload_n 0, 1) := by decide +kernel
theorem dX10_changes_8 : decode cX10_changes 8 = .ok (.invokevirtual 281, 3) := by decide +kernel
theorem dX10_changes_11 : decode cX10_changes 11 = .ok (.return_, 1) := by decide +kernel
def fX10_changes (M : Mm) : Option Mm := if (M.1 (18, 0, 0) 25) = 0 then ((fX10_keeps M).bind fun q2 => some q2) else some M
set_option maxRecDepth 20000 in
set_option maxHeartbeats 2000000 in
theorem sX10_changes {wv : Nat} (M : Mm) {res : Mm} (h : fX10_changes M  = some res) : TF (wv + 1) yX10_changes cX10_changes 1 none 1 [.inr (18, 0, 0)] M (none) res := by
  rw [fX10_changes] at h
  refine TF.go (n := 0) (ls := [some (.inr (18, 0, 0))]) rfl rfl rfl rfl rfl ?_
  refine z_aload_n (i := 0) dX10_changes_0 rfl rfl ?_
  refine z_getI (x := (M.1 (18, 0, 0) 25)) dX10_changes_1 fl_X10_284 mk18 rfl rfl ?_
  refine z_if_ne (tgt := 11) dX10_changes_4 rfl (fun hc1 => ?_) (fun hc1 => ?_)
  · have h := it_f h hc1
    cases h
    exact z_vret dX10_changes_11 rfl (Nat.le_refl _) (Nat.le_refl _) ⟨rfl, rfl⟩
  · have h := it_t h hc1
    refine z_aload_n (i := 0) dX10_changes_7 rfl rfl ?_
    obtain ⟨q2, hq3, h⟩ := bnd h
    refine z_fVv (sX10_keeps M hq3) dX10_changes_8 ml_X10_281 cd_X10_keeps mk18 rfl rfl rfl rfl rfl rfl ?_
    cases h
    exact z_vret dX10_changes_11 rfl (Nat.le_refl _) (Nat.le_refl _) ⟨rfl, rfl⟩
