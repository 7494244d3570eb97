/-! from the law's entry to its loop -/
theorem df_9 : ∀ j, j < Nc 9 → defaultValue (tyc 9 j) = vp_V (([true, true, true, true, true, true, true, true, true, true, true] : List Bool).map fun b => if b = true then .null else .int 0) j := by
  intro j hj
  match j, hj with
  | 0, _ => rfl
  | 1, _ => rfl
  | 2, _ => rfl
  | 3, _ => rfl
  | 4, _ => rfl
  | 5, _ => rfl
  | 6, _ => rfl
  | 7, _ => rfl
  | 8, _ => rfl
  | 9, _ => rfl
  | 10, _ => rfl
theorem lz_1 : agB K0 (shN SH (0, 0, 0)) (shM K0) = true := by decide +kernel
theorem fr_C0 : FrI wvC (owR 0) := fun r hr hm => by
  have h1 := cl_17 r hm
  have := (owR_i hr).2.1
  omega
theorem nv_C0 {hA : (wvC.1 ++ owR 0).Nodup ∧ clo (owR 0)} : NoV (wvA wvC (owR 0) hA) 0 := fun r hr => by
  rcases List.mem_append.mp hr with h | h
  · exact vol_17 (cl_17 r h)
  · exact vol_ow (by decide) h
theorem mem_P0 {hA : (wvC.1 ++ owR 0).Nodup ∧ clo (owR 0)} {r : Rf} : r ∈ allR (wvP 0) ↔ r ∈ allR (wvA wvC (owR 0) hA) ++ [((23, 0, 0) : Rf)] := by
  show r ∈ clR ++ (owsR 0 ++ [((23, 0, 0) : Rf)]) ↔ r ∈ (clR ++ owR 0) ++ [((23, 0, 0) : Rf)]
  rw [List.append_assoc]
  rfl
set_option maxRecDepth 20000 in
set_option maxHeartbeats 4000000 in
theorem law_Z {b L : Nat} {xs : Nat → Int32} {xt : List ExceptionTableEntry} {nme : String} {I J : Nat → Nat → Mm → Prop} {M0 : Mm} {r1 : Int32} {M1 : Mm} (W : LawPure L xs I J M0 r1 M1) : Z RL code 9 ret xt nme room_1 (lwQ b L xs) [] SH 0 0 0 [some (.inl (.ref b)), none, none, none, none, none, none, none, none] [] MI := by
  have hA : (wvC.1 ++ owR 0).Nodup ∧ clo (owR 0) := nd_ow fr_C0
  have h18 : ((18, 0, 0) : Rf) ∉ allR wvC := fr_C0 _ ow18
  have h23 : ((23, 0, 0) : Rf) ∉ allR (wvA wvC (owR 0) hA) := fun h => by
    rcases List.mem_append.mp h with h | h
    · exact absurd (cl_17 _ h) (by decide)
    · exact absurd (owR_i h).2.2 (by decide)
  refine z_new (ci := 9) (r := (0, 0, 0)) (ks := [true, true, true, true, true, true, true, true, true, true, true]) List.nodup_nil List.not_mem_nil (by decide) dL_law_0 nw_L_30 rfl (by decide) df_9 (fun x h => absurd h List.not_mem_nil) lwQ_G (noC_f (chg := [(0, 0, 0)]) (by simp) rfl) (fun v h => absurd h List.not_mem_nil) (by decide) (by decide) ?_
  rw [mNI (by decide)]
  refine z_pic (rs' := K0) (agB_spec lz_1) (fun x => Iff.rfl) ?_
  refine z_dup dL_law_3 rfl ?_
  refine z_callI (av := []) (nY9 W.h0) dL_law_4 ml_L_358 cd_X9_init rfl rfl ⟨by decide, by decide, by decide, by decide⟩ (Nat.le_of_ble_eq_true rfl) rfl lwQ_G (fun i v hi => ?_) (st_1 (P := inR _) (Or.inl (by decide))) ?_
  · match i, hi with
    | 0, hi => cases hi; trivial
    | i + 1, hi =>
      have : ([none, none, none, none, none, none, none, none] : List (Option MV))[i]? = some (some v) := hi
      have h2 := List.mem_of_getElem? this
      simp at h2
  refine z_astore_n (i := 1) dL_law_7 rfl (by decide) rfl ?_
  refine z_newF (ci := 10) (r := (18, 0, 0)) allR_nd h18 (by decide) dL_law_8 nw_L_40 rfl (by decide) df_10 (nrf_of wvC.2.2.2 h18) (qa_I (S := [(18, 0, 0)]) lwQ_I (by simp)) (noC_f (chg := [(18, 0, 0)]) (by simp) rfl) (fun v h => absurd h List.not_mem_nil) (by decide) (by decide) ?_
  refine z_dup dL_law_11 rfl ?_
  refine z_cGIN (sX10_init (mN M0 (18, 0, 0)) 0 fr_C0 hA) dL_law_12 ml_L_359 cd_X10_init rfl rfl rfl (rq_rr (by decide) (by decide) (by decide) (by decide)) rfl rfl lwQ_I rfl rfl rfl ?_
  refine z_astore_n (i := 2) dL_law_15 rfl (by decide) rfl ?_
  refine z_aload_n (i := 1) dL_law_16 rfl rfl ?_
  refine z_aload_n (i := 2) dL_law_17 rfl rfl ?_
  refine z_aloadQ_n (i := 0) dL_law_18 rfl rfl ?_
  refine z_gSix lwQ_V (sL_begins b _ 0 L xs ow0 nv_C0 W.h1) dL_law_19 ml_L_360 cd_L_begins rfl rfl (rq_rr (by decide) (by decide) (by decide) (by decide)) rfl rfl ?_
  refine z_if_ne (tgt := 27) dL_law_22 rfl (fun _ => ?_) (fun h => absurd h W.h1r)
  refine z_bipush (v := (42 : Int32)) dL_law_27 kb_42 ?_
  refine z_newqF (t := 6) (N := 42) (r := (23, 0, 0)) allR_nd h23 (by decide) dL_law_29 cq_L_40 (fun _ => rfl) (fun tc ad => he_Q (t := 2) rfl) (by decide) (by decide) (by decide) (nrf_of (wvA wvC (owR 0) hA).2.2.2 h23) (qa_I (S := [(23, 0, 0)]) lwQ_I (by simp)) (noC_f (chg := [(23, 0, 0)]) (by simp) rfl) (fun v h => absurd h List.not_mem_nil) (by decide) (by decide) ?_
  refine z_astore_n (i := 3) dL_law_32 rfl (by decide) rfl ?_
  refine z_iconst (v := (0 : Int32)) dL_law_33 kc_0 ?_
  refine z_istore (i := 4) dL_law_34 (by decide) rfl ?_
  refine z_iconst (v := (0 : Int32)) dL_law_36 kc_0 ?_
  refine z_istore (i := 5) dL_law_37 (by decide) rfl ?_
  refine z_cv (sh' := SH) (M' := mN M1 (23, 0, 0)) (fun x hx => ⟨fun j hj => ?_, fun _ => rfl, fun _ => rfl⟩) ?_
  · by_cases e : x = (23, 0, 0)
    · subst e; exact (if_pos rfl).symm
    · exact (if_neg e).symm
  refine z_perm (rs' := allR (wvP 0)) (fun r => mem_P0) ?_
  exact law_loop W 40 0 0 _ _ _ rfl (Nat.le_refl 0) W.hI (by decide) (by decide)
