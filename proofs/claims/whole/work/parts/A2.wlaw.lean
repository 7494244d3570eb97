/-! the law's own methods: what they answer -/
theorem W_append (M : Mm) (x1 : Int32) (x2 : Int32) (x3 : Int32) (x4 : Int32) (x5 : Int32) {res : Int32 ⊕ Nat} {M1 : Mm} (h : fX9_append M x1 x2 x3 x4 x5 = some (res, M1)) (he : ∀ e, res = .inr e → e ∈ [0]) : Tri yL_append (.codeWith yL_append cL_append 8 (some .int) [(0, 16, 19, 13)]) 8 4 24 SH (allR 2) [.inr (0, 0, 0), .inl (.int x1), .inl (.int x2), .inl (.int x3), .inl (.int x4), .inl (.int x5), .inr (21, 0, 0)] M (WP [0] (21, 0, 0) fI res M1) (fun _ _ => False) := by
  refine Tri.goH (own := RL) (nme := "append") (n := 1) (ls := [some (.inr (0, 0, 0)), some (.inl (.int x1)), some (.inl (.int x2)), some (.inl (.int x3)), some (.inl (.int x4)), some (.inl (.int x5)), some (.inr (21, 0, 0)), none]) (by decide) rfl rfl rfl rfl ?_
  refine z_aload (i := 6) dL_append_0 rfl ?_
  refine z_iconst (v := (0 : Int32)) dL_append_2 (by decide) ?_
  refine z_aload_n (i := 0) dL_append_3 rfl rfl ?_
  refine z_iload_n (i := 1) dL_append_4 rfl rfl ?_
  refine z_iload_n (i := 2) dL_append_5 rfl rfl ?_
  refine z_iload_n (i := 3) dL_append_6 rfl rfl ?_
  refine z_iload (i := 4) dL_append_7 rfl ?_
  refine z_iload (i := 5) dL_append_9 rfl ?_
  refine z_callV (av := [.inl (.int x1), .inl (.int x2), .inl (.int x3), .inl (.int x4), .inl (.int x5)]) (ci := 9) (sX9_append M x1 x2 x3 x4 x5 h) dL_append_11 ml_L_7 cd_X9_append mk0 rfl ⟨by decide, rfl⟩ rfl ⟨by decide, by decide, by decide, by decide⟩ (by decide) rfl (fun v M9 hv => ?_) (fun E M9 hx => ?_)
  · obtain ⟨x, hr, rfl, rfl⟩ := hv
    have hr : res = .inl x := hr
    subst hr
    refine z_i2l dL_append_14 ?_
    refine z_last (j := 0) allR_nd dL_append_15 mk21 rfl (by decide) rfl ?_
    refine z_goto (tgt := 23) dL_append_16 rfl ?_
    refine z_iconst (v := (0 : Int32)) dL_append_23 (by decide) ?_
    exact z_iret dL_append_24 rfl rfl (Nat.le_of_ble_eq_true rfl) (Nat.le_of_ble_eq_true rfl) ⟨rfl, rfl⟩
  · obtain ⟨e, hr, hE, rfl⟩ := hx
    have hr : res = .inr e := hr
    subst hr
    have hm := he e rfl
    have hm := List.mem_singleton.mp hm
    subst hm
    have hE : some "java/lang/IllegalStateException" = some E := hE
    cases hE
    refine zx_catch [] ⟨0, 16, 19, 13⟩ [] rfl (fun z hz => nomatch hz) exs_0 (by decide) (by decide) lke_0 cst_0 (fun q => ?_)
    refine z_astoreQ (i := 7) dL_append_19 (by decide) rfl ?_
    refine z_iconst (v := (1 : Int32)) dL_append_21 (by decide) ?_
    exact z_iret dL_append_22 rfl rfl (Nat.le_of_ble_eq_true rfl) (Nat.le_of_ble_eq_true rfl) ⟨0, by decide, rfl, by decide, rfl, rfl⟩
theorem W_truncate (M : Mm) (x1 : Int32) {res : Int32 ⊕ Nat} {M1 : Mm} (h : fX9_truncate M x1 = some (res, M1)) (he : ∀ e, res = .inr e → e ∈ [1]) : Tri yL_truncate (.codeWith yL_truncate cL_truncate 4 (some .int) [(0, 9, 12, 19)]) 8 4 24 SH (allR 2) [.inr (0, 0, 0), .inl (.int x1), .inr (21, 0, 0)] M (WP [1] (21, 0, 0) fI res M1) (fun _ _ => False) := by
  refine Tri.goH (own := RL) (nme := "truncate") (n := 1) (ls := [some (.inr (0, 0, 0)), some (.inl (.int x1)), some (.inr (21, 0, 0)), none]) (by decide) rfl rfl rfl rfl ?_
  refine z_aload_n (i := 2) dL_truncate_0 rfl rfl ?_
  refine z_iconst (v := (0 : Int32)) dL_truncate_1 (by decide) ?_
  refine z_aload_n (i := 0) dL_truncate_2 rfl rfl ?_
  refine z_iload_n (i := 1) dL_truncate_3 rfl rfl ?_
  refine z_callV (av := [.inl (.int x1)]) (ci := 9) (sX9_truncate M x1 h) dL_truncate_4 ml_L_15 cd_X9_truncate mk0 rfl ⟨by decide, rfl⟩ rfl ⟨by decide, by decide, by decide, by decide⟩ (by decide) rfl (fun v M9 hv => ?_) (fun E M9 hx => ?_)
  · obtain ⟨x, hr, rfl, rfl⟩ := hv
    have hr : res = .inl x := hr
    subst hr
    refine z_i2l dL_truncate_7 ?_
    refine z_last (j := 0) allR_nd dL_truncate_8 mk21 rfl (by decide) rfl ?_
    refine z_goto (tgt := 15) dL_truncate_9 rfl ?_
    refine z_iconst (v := (0 : Int32)) dL_truncate_15 (by decide) ?_
    exact z_iret dL_truncate_16 rfl rfl (Nat.le_of_ble_eq_true rfl) (Nat.le_of_ble_eq_true rfl) ⟨rfl, rfl⟩
  · obtain ⟨e, hr, hE, rfl⟩ := hx
    have hr : res = .inr e := hr
    subst hr
    have hm := he e rfl
    have hm := List.mem_singleton.mp hm
    subst hm
    have hE : some "java/lang/IllegalArgumentException" = some E := hE
    cases hE
    refine zx_catch [] ⟨0, 9, 12, 19⟩ [] rfl (fun z hz => nomatch hz) exs_1 (by decide) (by decide) lke_1 cst_1 (fun q => ?_)
    refine z_astoreQ_n (i := 3) dL_truncate_12 rfl (by decide) rfl ?_
    refine z_iconst (v := (1 : Int32)) dL_truncate_13 (by decide) ?_
    exact z_iret dL_truncate_14 rfl rfl (Nat.le_of_ble_eq_true rfl) (Nat.le_of_ble_eq_true rfl) ⟨0, by decide, rfl, by decide, rfl, rfl⟩
theorem W_isPin (M : Mm) (x1 : Int32) (x2 : Int32) (x3 : Int32) {res : Int32 ⊕ Nat} {M1 : Mm} (h : fX9_isPin M x1 x2 x3 = some (res, M1)) (he : ∀ e, res = .inr e → e ∈ [2]) : Tri yL_isPin (.codeWith yL_isPin cL_isPin 6 (some .int) [(0, 19, 22, 25)]) 8 4 24 SH (allR 2) [.inr (0, 0, 0), .inl (.int x1), .inl (.int x2), .inl (.int x3), .inr (21, 0, 0)] M (WP [2] (21, 0, 0) fB res M1) (fun _ _ => False) := by
  refine Tri.goH (own := RL) (nme := "isPin") (n := 1) (ls := [some (.inr (0, 0, 0)), some (.inl (.int x1)), some (.inl (.int x2)), some (.inl (.int x3)), some (.inr (21, 0, 0)), none]) (by decide) rfl rfl rfl rfl ?_
  refine z_aload (i := 4) dL_isPin_0 rfl ?_
  refine z_iconst (v := (0 : Int32)) dL_isPin_2 (by decide) ?_
  refine z_aload_n (i := 0) dL_isPin_3 rfl rfl ?_
  refine z_iload_n (i := 1) dL_isPin_4 rfl rfl ?_
  refine z_iload_n (i := 2) dL_isPin_5 rfl rfl ?_
  refine z_iload_n (i := 3) dL_isPin_6 rfl rfl ?_
  refine z_callV (av := [.inl (.int x1), .inl (.int x2), .inl (.int x3)]) (ci := 9) (sX9_isPin M x1 x2 x3 h) dL_isPin_7 ml_L_21 cd_X9_isPin mk0 rfl ⟨by decide, rfl⟩ rfl ⟨by decide, by decide, by decide, by decide⟩ (by decide) rfl (fun v M9 hv => ?_) (fun E M9 hx => ?_)
  · obtain ⟨x, hr, rfl, rfl⟩ := hv
    have hr : res = .inl x := hr
    subst hr
    refine z_if_eq (tgt := 17) dL_isPin_10 rfl (fun hc => ?_) (fun hc => ?_)
    · refine z_lconst (v := 0) dL_isPin_17 rfl ?_
      refine z_last (j := 0) allR_nd dL_isPin_18 mk21 rfl (by decide) rfl ?_
      refine z_goto (tgt := 26) dL_isPin_19 rfl ?_
      refine z_iconst (v := (0 : Int32)) dL_isPin_26 (by decide) ?_
      exact z_iret dL_isPin_27 rfl rfl (Nat.le_of_ble_eq_true rfl) (Nat.le_of_ble_eq_true rfl) ⟨rfl, by unfold fB; rw [if_pos hc]⟩
    · refine z_lconst (v := 1) dL_isPin_13 rfl ?_
      refine z_goto (tgt := 18) dL_isPin_14 rfl ?_
      refine z_last (j := 0) allR_nd dL_isPin_18 mk21 rfl (by decide) rfl ?_
      refine z_goto (tgt := 26) dL_isPin_19 rfl ?_
      refine z_iconst (v := (0 : Int32)) dL_isPin_26 (by decide) ?_
      exact z_iret dL_isPin_27 rfl rfl (Nat.le_of_ble_eq_true rfl) (Nat.le_of_ble_eq_true rfl) ⟨rfl, by unfold fB; rw [if_neg hc]⟩
  · obtain ⟨e, hr, hE, rfl⟩ := hx
    have hr : res = .inr e := hr
    subst hr
    have hm := he e rfl
    have hm := List.mem_singleton.mp hm
    subst hm
    have hE : some "java/lang/IndexOutOfBoundsException" = some E := hE
    cases hE
    refine zx_catch [] ⟨0, 19, 22, 25⟩ [] rfl (fun z hz => nomatch hz) exs_2 (by decide) (by decide) lke_2 cst_2 (fun q => ?_)
    refine z_astoreQ (i := 5) dL_isPin_22 (by decide) rfl ?_
    refine z_iconst (v := (1 : Int32)) dL_isPin_24 (by decide) ?_
    exact z_iret dL_isPin_25 rfl rfl (Nat.le_of_ble_eq_true rfl) (Nat.le_of_ble_eq_true rfl) ⟨0, by decide, rfl, by decide, rfl, rfl⟩
theorem W_pinCount (M : Mm) (x1 : Int32) {res : Int32 ⊕ Nat} {M1 : Mm} (h : fX9_pinCount M x1 = some (res, M1)) (he : ∀ e, res = .inr e → e ∈ [2]) : Tri yL_pinCount (.codeWith yL_pinCount cL_pinCount 4 (some .int) [(0, 9, 12, 25)]) 8 4 24 SH (allR 2) [.inr (0, 0, 0), .inl (.int x1), .inr (21, 0, 0)] M (WP [2] (21, 0, 0) fI res M1) (fun _ _ => False) := by
  refine Tri.goH (own := RL) (nme := "pinCount") (n := 1) (ls := [some (.inr (0, 0, 0)), some (.inl (.int x1)), some (.inr (21, 0, 0)), none]) (by decide) rfl rfl rfl rfl ?_
  refine z_aload_n (i := 2) dL_pinCount_0 rfl rfl ?_
  refine z_iconst (v := (0 : Int32)) dL_pinCount_1 (by decide) ?_
  refine z_aload_n (i := 0) dL_pinCount_2 rfl rfl ?_
  refine z_iload_n (i := 1) dL_pinCount_3 rfl rfl ?_
  refine z_callV (av := [.inl (.int x1)]) (ci := 9) (sX9_pinCount M x1 h) dL_pinCount_4 ml_L_27 cd_X9_pinCount mk0 rfl ⟨by decide, rfl⟩ rfl ⟨by decide, by decide, by decide, by decide⟩ (by decide) rfl (fun v M9 hv => ?_) (fun E M9 hx => ?_)
  · obtain ⟨x, hr, rfl, rfl⟩ := hv
    have hr : res = .inl x := hr
    subst hr
    refine z_i2l dL_pinCount_7 ?_
    refine z_last (j := 0) allR_nd dL_pinCount_8 mk21 rfl (by decide) rfl ?_
    refine z_goto (tgt := 15) dL_pinCount_9 rfl ?_
    refine z_iconst (v := (0 : Int32)) dL_pinCount_15 (by decide) ?_
    exact z_iret dL_pinCount_16 rfl rfl (Nat.le_of_ble_eq_true rfl) (Nat.le_of_ble_eq_true rfl) ⟨rfl, rfl⟩
  · obtain ⟨e, hr, hE, rfl⟩ := hx
    have hr : res = .inr e := hr
    subst hr
    have hm := he e rfl
    have hm := List.mem_singleton.mp hm
    subst hm
    have hE : some "java/lang/IndexOutOfBoundsException" = some E := hE
    cases hE
    refine zx_catch [] ⟨0, 9, 12, 25⟩ [] rfl (fun z hz => nomatch hz) exs_2 (by decide) (by decide) lke_2 cst_2 (fun q => ?_)
    refine z_astoreQ_n (i := 3) dL_pinCount_12 rfl (by decide) rfl ?_
    refine z_iconst (v := (1 : Int32)) dL_pinCount_13 (by decide) ?_
    exact z_iret dL_pinCount_14 rfl rfl (Nat.le_of_ble_eq_true rfl) (Nat.le_of_ble_eq_true rfl) ⟨0, by decide, rfl, by decide, rfl, rfl⟩
theorem W_chord (M : Mm) (x1 : Int32) (x2 : Int32) {res : Int32 ⊕ Nat} {M1 : Mm} (h : fX9_chord M x1 x2 = some (res, M1)) (he : ∀ e, res = .inr e → e ∈ [2]) : Tri yL_chord (.codeWith yL_chord cL_chord 5 (some .int) [(0, 10, 13, 25)]) 8 4 24 SH (allR 2) [.inr (0, 0, 0), .inl (.int x1), .inl (.int x2), .inr (21, 0, 0)] M (WP [2] (21, 0, 0) fI res M1) (fun _ _ => False) := by
  refine Tri.goH (own := RL) (nme := "chord") (n := 1) (ls := [some (.inr (0, 0, 0)), some (.inl (.int x1)), some (.inl (.int x2)), some (.inr (21, 0, 0)), none]) (by decide) rfl rfl rfl rfl ?_
  refine z_aload_n (i := 3) dL_chord_0 rfl rfl ?_
  refine z_iconst (v := (0 : Int32)) dL_chord_1 (by decide) ?_
  refine z_aload_n (i := 0) dL_chord_2 rfl rfl ?_
  refine z_iload_n (i := 1) dL_chord_3 rfl rfl ?_
  refine z_iload_n (i := 2) dL_chord_4 rfl rfl ?_
  refine z_callV (av := [.inl (.int x1), .inl (.int x2)]) (ci := 9) (sX9_chord M x1 x2 h) dL_chord_5 ml_L_30 cd_X9_chord mk0 rfl ⟨by decide, rfl⟩ rfl ⟨by decide, by decide, by decide, by decide⟩ (by decide) rfl (fun v M9 hv => ?_) (fun E M9 hx => ?_)
  · obtain ⟨x, hr, rfl, rfl⟩ := hv
    have hr : res = .inl x := hr
    subst hr
    refine z_i2l dL_chord_8 ?_
    refine z_last (j := 0) allR_nd dL_chord_9 mk21 rfl (by decide) rfl ?_
    refine z_goto (tgt := 17) dL_chord_10 rfl ?_
    refine z_iconst (v := (0 : Int32)) dL_chord_17 (by decide) ?_
    exact z_iret dL_chord_18 rfl rfl (Nat.le_of_ble_eq_true rfl) (Nat.le_of_ble_eq_true rfl) ⟨rfl, rfl⟩
  · obtain ⟨e, hr, hE, rfl⟩ := hx
    have hr : res = .inr e := hr
    subst hr
    have hm := he e rfl
    have hm := List.mem_singleton.mp hm
    subst hm
    have hE : some "java/lang/IndexOutOfBoundsException" = some E := hE
    cases hE
    refine zx_catch [] ⟨0, 10, 13, 25⟩ [] rfl (fun z hz => nomatch hz) exs_2 (by decide) (by decide) lke_2 cst_2 (fun q => ?_)
    refine z_astoreQ (i := 4) dL_chord_13 (by decide) rfl ?_
    refine z_iconst (v := (1 : Int32)) dL_chord_15 (by decide) ?_
    exact z_iret dL_chord_16 rfl rfl (Nat.le_of_ble_eq_true rfl) (Nat.le_of_ble_eq_true rfl) ⟨0, by decide, rfl, by decide, rfl, rfl⟩
theorem W_distance (M : Mm) (x1 : Int32) (x2 : Int32) (x3 : Int32) {res : Int32 ⊕ Nat} {M1 : Mm} (h : fX9_distance M x1 x2 x3 = some (res, M1)) (he : ∀ e, res = .inr e → e ∈ [2, 3]) : Tri yL_distance (.codeWith yL_distance cL_distance 6 (some .int) [(0, 12, 15, 25), (0, 12, 19, 38)]) 8 4 24 SH (allR 2) [.inr (0, 0, 0), .inl (.int x1), .inl (.int x2), .inl (.int x3), .inr (21, 0, 0)] M (WP [2, 3] (21, 0, 0) fI res M1) (fun _ _ => False) := by
  refine Tri.goH (own := RL) (nme := "distance") (n := 1) (ls := [some (.inr (0, 0, 0)), some (.inl (.int x1)), some (.inl (.int x2)), some (.inl (.int x3)), some (.inr (21, 0, 0)), none]) (by decide) rfl rfl rfl rfl ?_
  refine z_aload (i := 4) dL_distance_0 rfl ?_
  refine z_iconst (v := (0 : Int32)) dL_distance_2 (by decide) ?_
  refine z_aload_n (i := 0) dL_distance_3 rfl rfl ?_
  refine z_iload_n (i := 1) dL_distance_4 rfl rfl ?_
  refine z_iload_n (i := 2) dL_distance_5 rfl rfl ?_
  refine z_iload_n (i := 3) dL_distance_6 rfl rfl ?_
  refine z_callV (av := [.inl (.int x1), .inl (.int x2), .inl (.int x3)]) (ci := 9) (sX9_distance M x1 x2 x3 h) dL_distance_7 ml_L_34 cd_X9_distance mk0 rfl ⟨by decide, rfl⟩ rfl ⟨by decide, by decide, by decide, by decide⟩ (by decide) rfl (fun v M9 hv => ?_) (fun E M9 hx => ?_)
  · obtain ⟨x, hr, rfl, rfl⟩ := hv
    have hr : res = .inl x := hr
    subst hr
    refine z_i2l dL_distance_10 ?_
    refine z_last (j := 0) allR_nd dL_distance_11 mk21 rfl (by decide) rfl ?_
    refine z_goto (tgt := 23) dL_distance_12 rfl ?_
    refine z_iconst (v := (0 : Int32)) dL_distance_23 (by decide) ?_
    exact z_iret dL_distance_24 rfl rfl (Nat.le_of_ble_eq_true rfl) (Nat.le_of_ble_eq_true rfl) ⟨rfl, rfl⟩
  · obtain ⟨e, hr, hE, rfl⟩ := hx
    have hr : res = .inr e := hr
    subst hr
    have hm := he e rfl
    rcases List.mem_cons.mp hm with rfl | hm
    · have hE : some "java/lang/IndexOutOfBoundsException" = some E := hE
      cases hE
      refine zx_catch [] ⟨0, 12, 15, 25⟩ [⟨0, 12, 19, 38⟩] rfl (fun z hz => nomatch hz) exs_2 (by decide) (by decide) lke_2 cst_2 (fun q => ?_)
      refine z_astoreQ (i := 5) dL_distance_15 (by decide) rfl ?_
      refine z_iconst (v := (1 : Int32)) dL_distance_17 (by decide) ?_
      exact z_iret dL_distance_18 rfl rfl (Nat.le_of_ble_eq_true rfl) (Nat.le_of_ble_eq_true rfl) ⟨0, by decide, rfl, by decide, rfl, rfl⟩
    have hm := List.mem_singleton.mp hm
    subst hm
    have hE : some "java/util/NoSuchElementException" = some E := hE
    cases hE
    refine zx_catch [⟨0, 12, 15, 25⟩] ⟨0, 12, 19, 38⟩ [] rfl (fun z hz => by rw [List.mem_singleton.mp hz]; exact ⟨by decide, _, lke_2, exs_2, by decide⟩) exs_3 (by decide) (by decide) lke_3 cst_3 (fun q => ?_)
    refine z_astoreQ (i := 5) dL_distance_19 (by decide) rfl ?_
    refine z_iconst (v := (2 : Int32)) dL_distance_21 (by decide) ?_
    exact z_iret dL_distance_22 rfl rfl (Nat.le_of_ble_eq_true rfl) (Nat.le_of_ble_eq_true rfl) ⟨1, by decide, rfl, by decide, rfl, rfl⟩
theorem W_closePins (M : Mm) (x1 : Int32) {res : Int32 ⊕ Nat} {M1 : Mm} (h : fX9_closePins M x1 = some (res, M1)) (he : ∀ e, res = .inr e → e ∈ [2]) : Tri yL_closePins (.codeWith yL_closePins cL_closePins 4 (some .int) [(0, 9, 12, 25)]) 8 4 24 SH (allR 2) [.inr (0, 0, 0), .inl (.int x1), .inr (21, 0, 0)] M (WP [2] (21, 0, 0) fI res M1) (fun _ _ => False) := by
  refine Tri.goH (own := RL) (nme := "closePins") (n := 1) (ls := [some (.inr (0, 0, 0)), some (.inl (.int x1)), some (.inr (21, 0, 0)), none]) (by decide) rfl rfl rfl rfl ?_
  refine z_aload_n (i := 2) dL_closePins_0 rfl rfl ?_
  refine z_iconst (v := (0 : Int32)) dL_closePins_1 (by decide) ?_
  refine z_aload_n (i := 0) dL_closePins_2 rfl rfl ?_
  refine z_iload_n (i := 1) dL_closePins_3 rfl rfl ?_
  refine z_callV (av := [.inl (.int x1)]) (ci := 9) (sX9_closePins M x1 h) dL_closePins_4 ml_L_40 cd_X9_closePins mk0 rfl ⟨by decide, rfl⟩ rfl ⟨by decide, by decide, by decide, by decide⟩ (by decide) rfl (fun v M9 hv => ?_) (fun E M9 hx => ?_)
  · obtain ⟨x, hr, rfl, rfl⟩ := hv
    have hr : res = .inl x := hr
    subst hr
    refine z_i2l dL_closePins_7 ?_
    refine z_last (j := 0) allR_nd dL_closePins_8 mk21 rfl (by decide) rfl ?_
    refine z_goto (tgt := 15) dL_closePins_9 rfl ?_
    refine z_iconst (v := (0 : Int32)) dL_closePins_15 (by decide) ?_
    exact z_iret dL_closePins_16 rfl rfl (Nat.le_of_ble_eq_true rfl) (Nat.le_of_ble_eq_true rfl) ⟨rfl, rfl⟩
  · obtain ⟨e, hr, hE, rfl⟩ := hx
    have hr : res = .inr e := hr
    subst hr
    have hm := he e rfl
    have hm := List.mem_singleton.mp hm
    subst hm
    have hE : some "java/lang/IndexOutOfBoundsException" = some E := hE
    cases hE
    refine zx_catch [] ⟨0, 9, 12, 25⟩ [] rfl (fun z hz => nomatch hz) exs_2 (by decide) (by decide) lke_2 cst_2 (fun q => ?_)
    refine z_astoreQ_n (i := 3) dL_closePins_12 rfl (by decide) rfl ?_
    refine z_iconst (v := (1 : Int32)) dL_closePins_13 (by decide) ?_
    exact z_iret dL_closePins_14 rfl rfl (Nat.le_of_ble_eq_true rfl) (Nat.le_of_ble_eq_true rfl) ⟨0, by decide, rfl, by decide, rfl, rfl⟩
theorem W_longestRest (M : Mm) (x1 : Int32) {res : Int32 ⊕ Nat} {M1 : Mm} (h : fX9_longestRest M x1 = some (res, M1)) (he : ∀ e, res = .inr e → e ∈ [2]) : Tri yL_longestRest (.codeWith yL_longestRest cL_longestRest 4 (some .int) [(0, 9, 12, 25)]) 8 4 24 SH (allR 2) [.inr (0, 0, 0), .inl (.int x1), .inr (21, 0, 0)] M (WP [2] (21, 0, 0) fI res M1) (fun _ _ => False) := by
  refine Tri.goH (own := RL) (nme := "longestRest") (n := 1) (ls := [some (.inr (0, 0, 0)), some (.inl (.int x1)), some (.inr (21, 0, 0)), none]) (by decide) rfl rfl rfl rfl ?_
  refine z_aload_n (i := 2) dL_longestRest_0 rfl rfl ?_
  refine z_iconst (v := (0 : Int32)) dL_longestRest_1 (by decide) ?_
  refine z_aload_n (i := 0) dL_longestRest_2 rfl rfl ?_
  refine z_iload_n (i := 1) dL_longestRest_3 rfl rfl ?_
  refine z_callV (av := [.inl (.int x1)]) (ci := 9) (sX9_longestRest M x1 h) dL_longestRest_4 ml_L_43 cd_X9_longestRest mk0 rfl ⟨by decide, rfl⟩ rfl ⟨by decide, by decide, by decide, by decide⟩ (by decide) rfl (fun v M9 hv => ?_) (fun E M9 hx => ?_)
  · obtain ⟨x, hr, rfl, rfl⟩ := hv
    have hr : res = .inl x := hr
    subst hr
    refine z_i2l dL_longestRest_7 ?_
    refine z_last (j := 0) allR_nd dL_longestRest_8 mk21 rfl (by decide) rfl ?_
    refine z_goto (tgt := 15) dL_longestRest_9 rfl ?_
    refine z_iconst (v := (0 : Int32)) dL_longestRest_15 (by decide) ?_
    exact z_iret dL_longestRest_16 rfl rfl (Nat.le_of_ble_eq_true rfl) (Nat.le_of_ble_eq_true rfl) ⟨rfl, rfl⟩
  · obtain ⟨e, hr, hE, rfl⟩ := hx
    have hr : res = .inr e := hr
    subst hr
    have hm := he e rfl
    have hm := List.mem_singleton.mp hm
    subst hm
    have hE : some "java/lang/IndexOutOfBoundsException" = some E := hE
    cases hE
    refine zx_catch [] ⟨0, 9, 12, 25⟩ [] rfl (fun z hz => nomatch hz) exs_2 (by decide) (by decide) lke_2 cst_2 (fun q => ?_)
    refine z_astoreQ_n (i := 3) dL_longestRest_12 rfl (by decide) rfl ?_
    refine z_iconst (v := (1 : Int32)) dL_longestRest_13 (by decide) ?_
    exact z_iret dL_longestRest_14 rfl rfl (Nat.le_of_ble_eq_true rfl) (Nat.le_of_ble_eq_true rfl) ⟨0, by decide, rfl, by decide, rfl, rfl⟩
theorem W_soundingPitch (M : Mm) (x1 : Int32) {res : Int32 ⊕ Nat} {M1 : Mm} (h : fX9_soundingPitch M x1 = some (res, M1)) (he : ∀ e, res = .inr e → e ∈ [2]) : Tri yL_soundingPitch (.codeWith yL_soundingPitch cL_soundingPitch 4 (some .int) [(0, 9, 12, 25)]) 8 4 24 SH (allR 2) [.inr (0, 0, 0), .inl (.int x1), .inr (21, 0, 0)] M (WP [2] (21, 0, 0) fI res M1) (fun _ _ => False) := by
  refine Tri.goH (own := RL) (nme := "soundingPitch") (n := 1) (ls := [some (.inr (0, 0, 0)), some (.inl (.int x1)), some (.inr (21, 0, 0)), none]) (by decide) rfl rfl rfl rfl ?_
  refine z_aload_n (i := 2) dL_soundingPitch_0 rfl rfl ?_
  refine z_iconst (v := (0 : Int32)) dL_soundingPitch_1 (by decide) ?_
  refine z_aload_n (i := 0) dL_soundingPitch_2 rfl rfl ?_
  refine z_iload_n (i := 1) dL_soundingPitch_3 rfl rfl ?_
  refine z_callV (av := [.inl (.int x1)]) (ci := 9) (sX9_soundingPitch M x1 h) dL_soundingPitch_4 ml_L_46 cd_X9_soundingPitch mk0 rfl ⟨by decide, rfl⟩ rfl ⟨by decide, by decide, by decide, by decide⟩ (by decide) rfl (fun v M9 hv => ?_) (fun E M9 hx => ?_)
  · obtain ⟨x, hr, rfl, rfl⟩ := hv
    have hr : res = .inl x := hr
    subst hr
    refine z_i2l dL_soundingPitch_7 ?_
    refine z_last (j := 0) allR_nd dL_soundingPitch_8 mk21 rfl (by decide) rfl ?_
    refine z_goto (tgt := 15) dL_soundingPitch_9 rfl ?_
    refine z_iconst (v := (0 : Int32)) dL_soundingPitch_15 (by decide) ?_
    exact z_iret dL_soundingPitch_16 rfl rfl (Nat.le_of_ble_eq_true rfl) (Nat.le_of_ble_eq_true rfl) ⟨rfl, rfl⟩
  · obtain ⟨e, hr, hE, rfl⟩ := hx
    have hr : res = .inr e := hr
    subst hr
    have hm := he e rfl
    have hm := List.mem_singleton.mp hm
    subst hm
    have hE : some "java/lang/IndexOutOfBoundsException" = some E := hE
    cases hE
    refine zx_catch [] ⟨0, 9, 12, 25⟩ [] rfl (fun z hz => nomatch hz) exs_2 (by decide) (by decide) lke_2 cst_2 (fun q => ?_)
    refine z_astoreQ_n (i := 3) dL_soundingPitch_12 rfl (by decide) rfl ?_
    refine z_iconst (v := (1 : Int32)) dL_soundingPitch_13 (by decide) ?_
    exact z_iret dL_soundingPitch_14 rfl rfl (Nat.le_of_ble_eq_true rfl) (Nat.le_of_ble_eq_true rfl) ⟨0, by decide, rfl, by decide, rfl, rfl⟩
theorem W_bendOf (M : Mm) (x1 : Int32) {res : Int32 ⊕ Nat} {M1 : Mm} (h : fX9_bendOf M x1 = some (res, M1)) (he : ∀ e, res = .inr e → e ∈ [2]) : Tri yL_bendOf (.codeWith yL_bendOf cL_bendOf 4 (some .int) [(0, 9, 12, 25)]) 8 4 24 SH (allR 2) [.inr (0, 0, 0), .inl (.int x1), .inr (21, 0, 0)] M (WP [2] (21, 0, 0) fI res M1) (fun _ _ => False) := by
  refine Tri.goH (own := RL) (nme := "bendOf") (n := 1) (ls := [some (.inr (0, 0, 0)), some (.inl (.int x1)), some (.inr (21, 0, 0)), none]) (by decide) rfl rfl rfl rfl ?_
  refine z_aload_n (i := 2) dL_bendOf_0 rfl rfl ?_
  refine z_iconst (v := (0 : Int32)) dL_bendOf_1 (by decide) ?_
  refine z_aload_n (i := 0) dL_bendOf_2 rfl rfl ?_
  refine z_iload_n (i := 1) dL_bendOf_3 rfl rfl ?_
  refine z_callV (av := [.inl (.int x1)]) (ci := 9) (sX9_bendOf M x1 h) dL_bendOf_4 ml_L_49 cd_X9_bendOf mk0 rfl ⟨by decide, rfl⟩ rfl ⟨by decide, by decide, by decide, by decide⟩ (by decide) rfl (fun v M9 hv => ?_) (fun E M9 hx => ?_)
  · obtain ⟨x, hr, rfl, rfl⟩ := hv
    have hr : res = .inl x := hr
    subst hr
    refine z_i2l dL_bendOf_7 ?_
    refine z_last (j := 0) allR_nd dL_bendOf_8 mk21 rfl (by decide) rfl ?_
    refine z_goto (tgt := 15) dL_bendOf_9 rfl ?_
    refine z_iconst (v := (0 : Int32)) dL_bendOf_15 (by decide) ?_
    exact z_iret dL_bendOf_16 rfl rfl (Nat.le_of_ble_eq_true rfl) (Nat.le_of_ble_eq_true rfl) ⟨rfl, rfl⟩
  · obtain ⟨e, hr, hE, rfl⟩ := hx
    have hr : res = .inr e := hr
    subst hr
    have hm := he e rfl
    have hm := List.mem_singleton.mp hm
    subst hm
    have hE : some "java/lang/IndexOutOfBoundsException" = some E := hE
    cases hE
    refine zx_catch [] ⟨0, 9, 12, 25⟩ [] rfl (fun z hz => nomatch hz) exs_2 (by decide) (by decide) lke_2 cst_2 (fun q => ?_)
    refine z_astoreQ_n (i := 3) dL_bendOf_12 rfl (by decide) rfl ?_
    refine z_iconst (v := (1 : Int32)) dL_bendOf_13 (by decide) ?_
    exact z_iret dL_bendOf_14 rfl rfl (Nat.le_of_ble_eq_true rfl) (Nat.le_of_ble_eq_true rfl) ⟨0, by decide, rfl, by decide, rfl, rfl⟩
theorem W_gap (M : Mm) (x1 : Int32) {res : Int32 ⊕ Nat} {M1 : Mm} (h : fX9_gap M x1 = some (res, M1)) (he : ∀ e, res = .inr e → e ∈ [2]) : Tri yL_gap (.codeWith yL_gap cL_gap 4 (some .int) [(0, 9, 12, 25)]) 8 4 24 SH (allR 2) [.inr (0, 0, 0), .inl (.int x1), .inr (21, 0, 0)] M (WP [2] (21, 0, 0) fI res M1) (fun _ _ => False) := by
  refine Tri.goH (own := RL) (nme := "gap") (n := 1) (ls := [some (.inr (0, 0, 0)), some (.inl (.int x1)), some (.inr (21, 0, 0)), none]) (by decide) rfl rfl rfl rfl ?_
  refine z_aload_n (i := 2) dL_gap_0 rfl rfl ?_
  refine z_iconst (v := (0 : Int32)) dL_gap_1 (by decide) ?_
  refine z_aload_n (i := 0) dL_gap_2 rfl rfl ?_
  refine z_iload_n (i := 1) dL_gap_3 rfl rfl ?_
  refine z_callV (av := [.inl (.int x1)]) (ci := 9) (sX9_gap M x1 h) dL_gap_4 ml_L_52 cd_X9_gap mk0 rfl ⟨by decide, rfl⟩ rfl ⟨by decide, by decide, by decide, by decide⟩ (by decide) rfl (fun v M9 hv => ?_) (fun E M9 hx => ?_)
  · obtain ⟨x, hr, rfl, rfl⟩ := hv
    have hr : res = .inl x := hr
    subst hr
    refine z_i2l dL_gap_7 ?_
    refine z_last (j := 0) allR_nd dL_gap_8 mk21 rfl (by decide) rfl ?_
    refine z_goto (tgt := 15) dL_gap_9 rfl ?_
    refine z_iconst (v := (0 : Int32)) dL_gap_15 (by decide) ?_
    exact z_iret dL_gap_16 rfl rfl (Nat.le_of_ble_eq_true rfl) (Nat.le_of_ble_eq_true rfl) ⟨rfl, rfl⟩
  · obtain ⟨e, hr, hE, rfl⟩ := hx
    have hr : res = .inr e := hr
    subst hr
    have hm := he e rfl
    have hm := List.mem_singleton.mp hm
    subst hm
    have hE : some "java/lang/IndexOutOfBoundsException" = some E := hE
    cases hE
    refine zx_catch [] ⟨0, 9, 12, 25⟩ [] rfl (fun z hz => nomatch hz) exs_2 (by decide) (by decide) lke_2 cst_2 (fun q => ?_)
    refine z_astoreQ_n (i := 3) dL_gap_12 rfl (by decide) rfl ?_
    refine z_iconst (v := (1 : Int32)) dL_gap_13 (by decide) ?_
    exact z_iret dL_gap_14 rfl rfl (Nat.le_of_ble_eq_true rfl) (Nat.le_of_ble_eq_true rfl) ⟨0, by decide, rfl, by decide, rfl, rfl⟩
theorem W_wear (M : Mm) (x1 : Int32) {res : Int32 ⊕ Nat} {M1 : Mm} (h : fX9_wear M x1 = some (res, M1)) (he : ∀ e, res = .inr e → e ∈ [2]) : Tri yL_wear (.codeWith yL_wear cL_wear 4 (some .int) [(0, 9, 12, 25)]) 8 4 24 SH (allR 2) [.inr (0, 0, 0), .inl (.int x1), .inr (21, 0, 0)] M (WP [2] (21, 0, 0) fI res M1) (fun _ _ => False) := by
  refine Tri.goH (own := RL) (nme := "wear") (n := 1) (ls := [some (.inr (0, 0, 0)), some (.inl (.int x1)), some (.inr (21, 0, 0)), none]) (by decide) rfl rfl rfl rfl ?_
  refine z_aload_n (i := 2) dL_wear_0 rfl rfl ?_
  refine z_iconst (v := (0 : Int32)) dL_wear_1 (by decide) ?_
  refine z_aload_n (i := 0) dL_wear_2 rfl rfl ?_
  refine z_iload_n (i := 1) dL_wear_3 rfl rfl ?_
  refine z_callV (av := [.inl (.int x1)]) (ci := 9) (sX9_wear M x1 h) dL_wear_4 ml_L_55 cd_X9_wear mk0 rfl ⟨by decide, rfl⟩ rfl ⟨by decide, by decide, by decide, by decide⟩ (by decide) rfl (fun v M9 hv => ?_) (fun E M9 hx => ?_)
  · obtain ⟨x, hr, rfl, rfl⟩ := hv
    have hr : res = .inl x := hr
    subst hr
    refine z_i2l dL_wear_7 ?_
    refine z_last (j := 0) allR_nd dL_wear_8 mk21 rfl (by decide) rfl ?_
    refine z_goto (tgt := 15) dL_wear_9 rfl ?_
    refine z_iconst (v := (0 : Int32)) dL_wear_15 (by decide) ?_
    exact z_iret dL_wear_16 rfl rfl (Nat.le_of_ble_eq_true rfl) (Nat.le_of_ble_eq_true rfl) ⟨rfl, rfl⟩
  · obtain ⟨e, hr, hE, rfl⟩ := hx
    have hr : res = .inr e := hr
    subst hr
    have hm := he e rfl
    have hm := List.mem_singleton.mp hm
    subst hm
    have hE : some "java/lang/IndexOutOfBoundsException" = some E := hE
    cases hE
    refine zx_catch [] ⟨0, 9, 12, 25⟩ [] rfl (fun z hz => nomatch hz) exs_2 (by decide) (by decide) lke_2 cst_2 (fun q => ?_)
    refine z_astoreQ_n (i := 3) dL_wear_12 rfl (by decide) rfl ?_
    refine z_iconst (v := (1 : Int32)) dL_wear_13 (by decide) ?_
    exact z_iret dL_wear_14 rfl rfl (Nat.le_of_ble_eq_true rfl) (Nat.le_of_ble_eq_true rfl) ⟨0, by decide, rfl, by decide, rfl, rfl⟩
theorem W_silence (M : Mm) (x1 : Int32) {res : Int32 ⊕ Nat} {M1 : Mm} (h : fX9_silence M x1 = some (res, M1)) (he : ∀ e, res = .inr e → e ∈ [2]) : Tri yL_silence (.codeWith yL_silence cL_silence 4 (some .int) [(0, 9, 12, 25)]) 8 4 24 SH (allR 2) [.inr (0, 0, 0), .inl (.int x1), .inr (21, 0, 0)] M (WP [2] (21, 0, 0) fI res M1) (fun _ _ => False) := by
  refine Tri.goH (own := RL) (nme := "silence") (n := 1) (ls := [some (.inr (0, 0, 0)), some (.inl (.int x1)), some (.inr (21, 0, 0)), none]) (by decide) rfl rfl rfl rfl ?_
  refine z_aload_n (i := 2) dL_silence_0 rfl rfl ?_
  refine z_iconst (v := (0 : Int32)) dL_silence_1 (by decide) ?_
  refine z_aload_n (i := 0) dL_silence_2 rfl rfl ?_
  refine z_iload_n (i := 1) dL_silence_3 rfl rfl ?_
  refine z_callV (av := [.inl (.int x1)]) (ci := 9) (sX9_silence M x1 h) dL_silence_4 ml_L_58 cd_X9_silence mk0 rfl ⟨by decide, rfl⟩ rfl ⟨by decide, by decide, by decide, by decide⟩ (by decide) rfl (fun v M9 hv => ?_) (fun E M9 hx => ?_)
  · obtain ⟨x, hr, rfl, rfl⟩ := hv
    have hr : res = .inl x := hr
    subst hr
    refine z_i2l dL_silence_7 ?_
    refine z_last (j := 0) allR_nd dL_silence_8 mk21 rfl (by decide) rfl ?_
    refine z_goto (tgt := 15) dL_silence_9 rfl ?_
    refine z_iconst (v := (0 : Int32)) dL_silence_15 (by decide) ?_
    exact z_iret dL_silence_16 rfl rfl (Nat.le_of_ble_eq_true rfl) (Nat.le_of_ble_eq_true rfl) ⟨rfl, rfl⟩
  · obtain ⟨e, hr, hE, rfl⟩ := hx
    have hr : res = .inr e := hr
    subst hr
    have hm := he e rfl
    have hm := List.mem_singleton.mp hm
    subst hm
    have hE : some "java/lang/IndexOutOfBoundsException" = some E := hE
    cases hE
    refine zx_catch [] ⟨0, 9, 12, 25⟩ [] rfl (fun z hz => nomatch hz) exs_2 (by decide) (by decide) lke_2 cst_2 (fun q => ?_)
    refine z_astoreQ_n (i := 3) dL_silence_12 rfl (by decide) rfl ?_
    refine z_iconst (v := (1 : Int32)) dL_silence_13 (by decide) ?_
    exact z_iret dL_silence_14 rfl rfl (Nat.le_of_ble_eq_true rfl) (Nat.le_of_ble_eq_true rfl) ⟨0, by decide, rfl, by decide, rfl, rfl⟩
theorem W_isBroken (M : Mm) (x1 : Int32) {res : Int32 ⊕ Nat} {M1 : Mm} (h : fX9_isBroken M x1 = some (res, M1)) (he : ∀ e, res = .inr e → e ∈ [2]) : Tri yL_isBroken (.codeWith yL_isBroken cL_isBroken 4 (some .int) [(0, 16, 19, 25)]) 8 4 24 SH (allR 2) [.inr (0, 0, 0), .inl (.int x1), .inr (21, 0, 0)] M (WP [2] (21, 0, 0) fB res M1) (fun _ _ => False) := by
  refine Tri.goH (own := RL) (nme := "isBroken") (n := 1) (ls := [some (.inr (0, 0, 0)), some (.inl (.int x1)), some (.inr (21, 0, 0)), none]) (by decide) rfl rfl rfl rfl ?_
  refine z_aload_n (i := 2) dL_isBroken_0 rfl rfl ?_
  refine z_iconst (v := (0 : Int32)) dL_isBroken_1 (by decide) ?_
  refine z_aload_n (i := 0) dL_isBroken_2 rfl rfl ?_
  refine z_iload_n (i := 1) dL_isBroken_3 rfl rfl ?_
  refine z_callV (av := [.inl (.int x1)]) (ci := 9) (sX9_isBroken M x1 h) dL_isBroken_4 ml_L_61 cd_X9_isBroken mk0 rfl ⟨by decide, rfl⟩ rfl ⟨by decide, by decide, by decide, by decide⟩ (by decide) rfl (fun v M9 hv => ?_) (fun E M9 hx => ?_)
  · obtain ⟨x, hr, rfl, rfl⟩ := hv
    have hr : res = .inl x := hr
    subst hr
    refine z_if_eq (tgt := 14) dL_isBroken_7 rfl (fun hc => ?_) (fun hc => ?_)
    · refine z_lconst (v := 0) dL_isBroken_14 rfl ?_
      refine z_last (j := 0) allR_nd dL_isBroken_15 mk21 rfl (by decide) rfl ?_
      refine z_goto (tgt := 22) dL_isBroken_16 rfl ?_
      refine z_iconst (v := (0 : Int32)) dL_isBroken_22 (by decide) ?_
      exact z_iret dL_isBroken_23 rfl rfl (Nat.le_of_ble_eq_true rfl) (Nat.le_of_ble_eq_true rfl) ⟨rfl, by unfold fB; rw [if_pos hc]⟩
    · refine z_lconst (v := 1) dL_isBroken_10 rfl ?_
      refine z_goto (tgt := 15) dL_isBroken_11 rfl ?_
      refine z_last (j := 0) allR_nd dL_isBroken_15 mk21 rfl (by decide) rfl ?_
      refine z_goto (tgt := 22) dL_isBroken_16 rfl ?_
      refine z_iconst (v := (0 : Int32)) dL_isBroken_22 (by decide) ?_
      exact z_iret dL_isBroken_23 rfl rfl (Nat.le_of_ble_eq_true rfl) (Nat.le_of_ble_eq_true rfl) ⟨rfl, by unfold fB; rw [if_neg hc]⟩
  · obtain ⟨e, hr, hE, rfl⟩ := hx
    have hr : res = .inr e := hr
    subst hr
    have hm := he e rfl
    have hm := List.mem_singleton.mp hm
    subst hm
    have hE : some "java/lang/IndexOutOfBoundsException" = some E := hE
    cases hE
    refine zx_catch [] ⟨0, 16, 19, 25⟩ [] rfl (fun z hz => nomatch hz) exs_2 (by decide) (by decide) lke_2 cst_2 (fun q => ?_)
    refine z_astoreQ_n (i := 3) dL_isBroken_19 rfl (by decide) rfl ?_
    refine z_iconst (v := (1 : Int32)) dL_isBroken_20 (by decide) ?_
    exact z_iret dL_isBroken_21 rfl rfl (Nat.le_of_ble_eq_true rfl) (Nat.le_of_ble_eq_true rfl) ⟨0, by decide, rfl, by decide, rfl, rfl⟩
theorem W_nextSound (M : Mm) (x1 : Int32) {res : Int32 ⊕ Nat} {M1 : Mm} (h : fX9_nextSound M x1 = some (res, M1)) (he : ∀ e, res = .inr e → e ∈ [2]) : Tri yL_nextSound (.codeWith yL_nextSound cL_nextSound 4 (some .int) [(0, 9, 12, 25)]) 8 4 24 SH (allR 2) [.inr (0, 0, 0), .inl (.int x1), .inr (21, 0, 0)] M (WP [2] (21, 0, 0) fI res M1) (fun _ _ => False) := by
  refine Tri.goH (own := RL) (nme := "nextSound") (n := 1) (ls := [some (.inr (0, 0, 0)), some (.inl (.int x1)), some (.inr (21, 0, 0)), none]) (by decide) rfl rfl rfl rfl ?_
  refine z_aload_n (i := 2) dL_nextSound_0 rfl rfl ?_
  refine z_iconst (v := (0 : Int32)) dL_nextSound_1 (by decide) ?_
  refine z_aload_n (i := 0) dL_nextSound_2 rfl rfl ?_
  refine z_iload_n (i := 1) dL_nextSound_3 rfl rfl ?_
  refine z_callV (av := [.inl (.int x1)]) (ci := 9) (sX9_nextSound M x1 h) dL_nextSound_4 ml_L_65 cd_X9_nextSound mk0 rfl ⟨by decide, rfl⟩ rfl ⟨by decide, by decide, by decide, by decide⟩ (by decide) rfl (fun v M9 hv => ?_) (fun E M9 hx => ?_)
  · obtain ⟨x, hr, rfl, rfl⟩ := hv
    have hr : res = .inl x := hr
    subst hr
    refine z_i2l dL_nextSound_7 ?_
    refine z_last (j := 0) allR_nd dL_nextSound_8 mk21 rfl (by decide) rfl ?_
    refine z_goto (tgt := 15) dL_nextSound_9 rfl ?_
    refine z_iconst (v := (0 : Int32)) dL_nextSound_15 (by decide) ?_
    exact z_iret dL_nextSound_16 rfl rfl (Nat.le_of_ble_eq_true rfl) (Nat.le_of_ble_eq_true rfl) ⟨rfl, rfl⟩
  · obtain ⟨e, hr, hE, rfl⟩ := hx
    have hr : res = .inr e := hr
    subst hr
    have hm := he e rfl
    have hm := List.mem_singleton.mp hm
    subst hm
    have hE : some "java/lang/IndexOutOfBoundsException" = some E := hE
    cases hE
    refine zx_catch [] ⟨0, 9, 12, 25⟩ [] rfl (fun z hz => nomatch hz) exs_2 (by decide) (by decide) lke_2 cst_2 (fun q => ?_)
    refine z_astoreQ_n (i := 3) dL_nextSound_12 rfl (by decide) rfl ?_
    refine z_iconst (v := (1 : Int32)) dL_nextSound_13 (by decide) ?_
    exact z_iret dL_nextSound_14 rfl rfl (Nat.le_of_ble_eq_true rfl) (Nat.le_of_ble_eq_true rfl) ⟨0, by decide, rfl, by decide, rfl, rfl⟩
theorem W_meanPitch (M : Mm) (x1 : Int32) {res : UInt64 ⊕ Nat} {M1 : Mm} (h : fX9_meanPitch M x1 = some (res, M1)) (he : ∀ e, res = .inr e → e ∈ [2]) : Tri yL_meanPitch (.codeWith yL_meanPitch cL_meanPitch 4 (some .int) [(0, 8, 11, 25)]) 8 4 24 SH (allR 2) [.inr (0, 0, 0), .inl (.int x1), .inr (22, 0, 0)] M (WP [2] (22, 0, 0) fD res M1) (fun _ _ => False) := by
  refine Tri.goH (own := RL) (nme := "meanPitch") (n := 1) (ls := [some (.inr (0, 0, 0)), some (.inl (.int x1)), some (.inr (22, 0, 0)), none]) (by decide) rfl rfl rfl rfl ?_
  refine z_aload_n (i := 2) dL_meanPitch_0 rfl rfl ?_
  refine z_iconst (v := (0 : Int32)) dL_meanPitch_1 (by decide) ?_
  refine z_aload_n (i := 0) dL_meanPitch_2 rfl rfl ?_
  refine z_iload_n (i := 1) dL_meanPitch_3 rfl rfl ?_
  refine z_callV (av := [.inl (.int x1)]) (ci := 9) (sX9_meanPitch M x1 h) dL_meanPitch_4 ml_L_68 cd_X9_meanPitch mk0 rfl ⟨by decide, rfl⟩ rfl ⟨by decide, by decide, by decide, by decide⟩ (by decide) rfl (fun v M9 hv => ?_) (fun E M9 hx => ?_)
  · obtain ⟨x, hr, rfl, rfl⟩ := hv
    have hr : res = .inl x := hr
    subst hr
    refine z_dast allR_nd dL_meanPitch_7 mk22 rfl (by decide) ?_
    refine z_goto (tgt := 14) dL_meanPitch_8 rfl ?_
    refine z_iconst (v := (0 : Int32)) dL_meanPitch_14 (by decide) ?_
    exact z_iret dL_meanPitch_15 rfl rfl (Nat.le_of_ble_eq_true rfl) (Nat.le_of_ble_eq_true rfl) ⟨rfl, rfl⟩
  · obtain ⟨e, hr, hE, rfl⟩ := hx
    have hr : res = .inr e := hr
    subst hr
    have hm := he e rfl
    have hm := List.mem_singleton.mp hm
    subst hm
    have hE : some "java/lang/IndexOutOfBoundsException" = some E := hE
    cases hE
    refine zx_catch [] ⟨0, 8, 11, 25⟩ [] rfl (fun z hz => nomatch hz) exs_2 (by decide) (by decide) lke_2 cst_2 (fun q => ?_)
    refine z_astoreQ_n (i := 3) dL_meanPitch_11 rfl (by decide) rfl ?_
    refine z_iconst (v := (1 : Int32)) dL_meanPitch_12 (by decide) ?_
    exact z_iret dL_meanPitch_13 rfl rfl (Nat.le_of_ble_eq_true rfl) (Nat.le_of_ble_eq_true rfl) ⟨0, by decide, rfl, by decide, rfl, rfl⟩
theorem W_density (M : Mm) (x1 : Int32) {res : UInt32 ⊕ Nat} {M1 : Mm} (h : fX9_density M x1 = some (res, M1)) (he : ∀ e, res = .inr e → e ∈ [2]) (hok : ∀ x, res = .inl x → vf_n64 (FP.f2d x)) : Tri yL_density (.codeWith yL_density cL_density 4 (some .int) [(0, 9, 12, 25)]) 8 4 24 SH (allR 2) [.inr (0, 0, 0), .inl (.int x1), .inr (22, 0, 0)] M (WP [2] (22, 0, 0) fF res M1) (fun _ _ => False) := by
  refine Tri.goH (own := RL) (nme := "density") (n := 1) (ls := [some (.inr (0, 0, 0)), some (.inl (.int x1)), some (.inr (22, 0, 0)), none]) (by decide) rfl rfl rfl rfl ?_
  refine z_aload_n (i := 2) dL_density_0 rfl rfl ?_
  refine z_iconst (v := (0 : Int32)) dL_density_1 (by decide) ?_
  refine z_aload_n (i := 0) dL_density_2 rfl rfl ?_
  refine z_iload_n (i := 1) dL_density_3 rfl rfl ?_
  refine z_callV (av := [.inl (.int x1)]) (ci := 9) (sX9_density M x1 h) dL_density_4 ml_L_72 cd_X9_density mk0 rfl ⟨by decide, rfl⟩ rfl ⟨by decide, by decide, by decide, by decide⟩ (by decide) rfl (fun v M9 hv => ?_) (fun E M9 hx => ?_)
  · obtain ⟨x, hr, rfl, rfl⟩ := hv
    have hr : res = .inl x := hr
    subst hr
    refine z_f2d dL_density_7 (hok x rfl) ?_
    refine z_dast allR_nd dL_density_8 mk22 rfl (by decide) ?_
    refine z_goto (tgt := 15) dL_density_9 rfl ?_
    refine z_iconst (v := (0 : Int32)) dL_density_15 (by decide) ?_
    exact z_iret dL_density_16 rfl rfl (Nat.le_of_ble_eq_true rfl) (Nat.le_of_ble_eq_true rfl) ⟨rfl, rfl⟩
  · obtain ⟨e, hr, hE, rfl⟩ := hx
    have hr : res = .inr e := hr
    subst hr
    have hm := he e rfl
    have hm := List.mem_singleton.mp hm
    subst hm
    have hE : some "java/lang/IndexOutOfBoundsException" = some E := hE
    cases hE
    refine zx_catch [] ⟨0, 9, 12, 25⟩ [] rfl (fun z hz => nomatch hz) exs_2 (by decide) (by decide) lke_2 cst_2 (fun q => ?_)
    refine z_astoreQ_n (i := 3) dL_density_12 rfl (by decide) rfl ?_
    refine z_iconst (v := (1 : Int32)) dL_density_13 (by decide) ?_
    exact z_iret dL_density_14 rfl rfl (Nat.le_of_ble_eq_true rfl) (Nat.le_of_ble_eq_true rfl) ⟨0, by decide, rfl, by decide, rfl, rfl⟩
theorem W_stepsUntilBroken (M : Mm) (x1 : Int32) {res : Int32 ⊕ Nat} {M1 : Mm} (h : fX9_stepsUntilBroken M x1 = some (res, M1)) (he : ∀ e, res = .inr e → e ∈ [2]) : Tri yL_stepsUntilBroken (.codeWith yL_stepsUntilBroken cL_stepsUntilBroken 4 (some .int) [(0, 9, 12, 25)]) 8 4 24 SH (allR 2) [.inr (0, 0, 0), .inl (.int x1), .inr (21, 0, 0)] M (WP [2] (21, 0, 0) fI res M1) (fun _ _ => False) := by
  refine Tri.goH (own := RL) (nme := "stepsUntilBroken") (n := 1) (ls := [some (.inr (0, 0, 0)), some (.inl (.int x1)), some (.inr (21, 0, 0)), none]) (by decide) rfl rfl rfl rfl ?_
  refine z_aload_n (i := 2) dL_stepsUntilBroken_0 rfl rfl ?_
  refine z_iconst (v := (0 : Int32)) dL_stepsUntilBroken_1 (by decide) ?_
  refine z_aload_n (i := 0) dL_stepsUntilBroken_2 rfl rfl ?_
  refine z_iload_n (i := 1) dL_stepsUntilBroken_3 rfl rfl ?_
  refine z_callV (av := [.inl (.int x1)]) (ci := 9) (sX9_stepsUntilBroken M x1 h) dL_stepsUntilBroken_4 ml_L_76 cd_X9_stepsUntilBroken mk0 rfl ⟨by decide, rfl⟩ rfl ⟨by decide, by decide, by decide, by decide⟩ (by decide) rfl (fun v M9 hv => ?_) (fun E M9 hx => ?_)
  · obtain ⟨x, hr, rfl, rfl⟩ := hv
    have hr : res = .inl x := hr
    subst hr
    refine z_i2l dL_stepsUntilBroken_7 ?_
    refine z_last (j := 0) allR_nd dL_stepsUntilBroken_8 mk21 rfl (by decide) rfl ?_
    refine z_goto (tgt := 15) dL_stepsUntilBroken_9 rfl ?_
    refine z_iconst (v := (0 : Int32)) dL_stepsUntilBroken_15 (by decide) ?_
    exact z_iret dL_stepsUntilBroken_16 rfl rfl (Nat.le_of_ble_eq_true rfl) (Nat.le_of_ble_eq_true rfl) ⟨rfl, rfl⟩
  · obtain ⟨e, hr, hE, rfl⟩ := hx
    have hr : res = .inr e := hr
    subst hr
    have hm := he e rfl
    have hm := List.mem_singleton.mp hm
    subst hm
    have hE : some "java/lang/IndexOutOfBoundsException" = some E := hE
    cases hE
    refine zx_catch [] ⟨0, 9, 12, 25⟩ [] rfl (fun z hz => nomatch hz) exs_2 (by decide) (by decide) lke_2 cst_2 (fun q => ?_)
    refine z_astoreQ_n (i := 3) dL_stepsUntilBroken_12 rfl (by decide) rfl ?_
    refine z_iconst (v := (1 : Int32)) dL_stepsUntilBroken_13 (by decide) ?_
    exact z_iret dL_stepsUntilBroken_14 rfl rfl (Nat.le_of_ble_eq_true rfl) (Nat.le_of_ble_eq_true rfl) ⟨0, by decide, rfl, by decide, rfl, rfl⟩
theorem W_notesIn (M : Mm) (x1 : Int32) {res : Int32 ⊕ Nat} {M1 : Mm} (h : fX9_notesIn M x1 = some (res, M1)) (he : ∀ e, res = .inr e → e ∈ [1]) : Tri yL_notesIn (.codeWith yL_notesIn cL_notesIn 4 (some .int) [(0, 9, 12, 19)]) 8 4 24 SH (allR 2) [.inr (0, 0, 0), .inl (.int x1), .inr (21, 0, 0)] M (WP [1] (21, 0, 0) fI res M1) (fun _ _ => False) := by
  refine Tri.goH (own := RL) (nme := "notesIn") (n := 1) (ls := [some (.inr (0, 0, 0)), some (.inl (.int x1)), some (.inr (21, 0, 0)), none]) (by decide) rfl rfl rfl rfl ?_
  refine z_aload_n (i := 2) dL_notesIn_0 rfl rfl ?_
  refine z_iconst (v := (0 : Int32)) dL_notesIn_1 (by decide) ?_
  refine z_aload_n (i := 0) dL_notesIn_2 rfl rfl ?_
  refine z_iload_n (i := 1) dL_notesIn_3 rfl rfl ?_
  refine z_callV (av := [.inl (.int x1)]) (ci := 9) (sX9_notesIn M x1 h) dL_notesIn_4 ml_L_79 cd_X9_notesIn mk0 rfl ⟨by decide, rfl⟩ rfl ⟨by decide, by decide, by decide, by decide⟩ (by decide) rfl (fun v M9 hv => ?_) (fun E M9 hx => ?_)
  · obtain ⟨x, hr, rfl, rfl⟩ := hv
    have hr : res = .inl x := hr
    subst hr
    refine z_i2l dL_notesIn_7 ?_
    refine z_last (j := 0) allR_nd dL_notesIn_8 mk21 rfl (by decide) rfl ?_
    refine z_goto (tgt := 15) dL_notesIn_9 rfl ?_
    refine z_iconst (v := (0 : Int32)) dL_notesIn_15 (by decide) ?_
    exact z_iret dL_notesIn_16 rfl rfl (Nat.le_of_ble_eq_true rfl) (Nat.le_of_ble_eq_true rfl) ⟨rfl, rfl⟩
  · obtain ⟨e, hr, hE, rfl⟩ := hx
    have hr : res = .inr e := hr
    subst hr
    have hm := he e rfl
    have hm := List.mem_singleton.mp hm
    subst hm
    have hE : some "java/lang/IllegalArgumentException" = some E := hE
    cases hE
    refine zx_catch [] ⟨0, 9, 12, 19⟩ [] rfl (fun z hz => nomatch hz) exs_1 (by decide) (by decide) lke_1 cst_1 (fun q => ?_)
    refine z_astoreQ_n (i := 3) dL_notesIn_12 rfl (by decide) rfl ?_
    refine z_iconst (v := (1 : Int32)) dL_notesIn_13 (by decide) ?_
    exact z_iret dL_notesIn_14 rfl rfl (Nat.le_of_ble_eq_true rfl) (Nat.le_of_ble_eq_true rfl) ⟨0, by decide, rfl, by decide, rfl, rfl⟩
theorem W_squeaksIn (M : Mm) (x1 : Int32) {res : Int32 ⊕ Nat} {M1 : Mm} (h : fX9_squeaksIn M x1 = some (res, M1)) (he : ∀ e, res = .inr e → e ∈ [1]) : Tri yL_squeaksIn (.codeWith yL_squeaksIn cL_squeaksIn 4 (some .int) [(0, 9, 12, 19)]) 8 4 24 SH (allR 2) [.inr (0, 0, 0), .inl (.int x1), .inr (21, 0, 0)] M (WP [1] (21, 0, 0) fI res M1) (fun _ _ => False) := by
  refine Tri.goH (own := RL) (nme := "squeaksIn") (n := 1) (ls := [some (.inr (0, 0, 0)), some (.inl (.int x1)), some (.inr (21, 0, 0)), none]) (by decide) rfl rfl rfl rfl ?_
  refine z_aload_n (i := 2) dL_squeaksIn_0 rfl rfl ?_
  refine z_iconst (v := (0 : Int32)) dL_squeaksIn_1 (by decide) ?_
  refine z_aload_n (i := 0) dL_squeaksIn_2 rfl rfl ?_
  refine z_iload_n (i := 1) dL_squeaksIn_3 rfl rfl ?_
  refine z_callV (av := [.inl (.int x1)]) (ci := 9) (sX9_squeaksIn M x1 h) dL_squeaksIn_4 ml_L_82 cd_X9_squeaksIn mk0 rfl ⟨by decide, rfl⟩ rfl ⟨by decide, by decide, by decide, by decide⟩ (by decide) rfl (fun v M9 hv => ?_) (fun E M9 hx => ?_)
  · obtain ⟨x, hr, rfl, rfl⟩ := hv
    have hr : res = .inl x := hr
    subst hr
    refine z_i2l dL_squeaksIn_7 ?_
    refine z_last (j := 0) allR_nd dL_squeaksIn_8 mk21 rfl (by decide) rfl ?_
    refine z_goto (tgt := 15) dL_squeaksIn_9 rfl ?_
    refine z_iconst (v := (0 : Int32)) dL_squeaksIn_15 (by decide) ?_
    exact z_iret dL_squeaksIn_16 rfl rfl (Nat.le_of_ble_eq_true rfl) (Nat.le_of_ble_eq_true rfl) ⟨rfl, rfl⟩
  · obtain ⟨e, hr, hE, rfl⟩ := hx
    have hr : res = .inr e := hr
    subst hr
    have hm := he e rfl
    have hm := List.mem_singleton.mp hm
    subst hm
    have hE : some "java/lang/IllegalArgumentException" = some E := hE
    cases hE
    refine zx_catch [] ⟨0, 9, 12, 19⟩ [] rfl (fun z hz => nomatch hz) exs_1 (by decide) (by decide) lke_1 cst_1 (fun q => ?_)
    refine z_astoreQ_n (i := 3) dL_squeaksIn_12 rfl (by decide) rfl ?_
    refine z_iconst (v := (1 : Int32)) dL_squeaksIn_13 (by decide) ?_
    exact z_iret dL_squeaksIn_14 rfl rfl (Nat.le_of_ble_eq_true rfl) (Nat.le_of_ble_eq_true rfl) ⟨0, by decide, rfl, by decide, rfl, rfl⟩
theorem W_addPin (M : Mm) (x1 : Int32) (x2 : Int32) (x3 : Int32) {res : Int32 ⊕ Nat} {M1 : Mm} (h : fX9_addPin M x1 x2 x3 = some (res, M1)) (he : ∀ e, res = .inr e → e ∈ [2, 0]) : Tri yL_addPin (.codeWith yL_addPin cL_addPin 6 (some .int) [(0, 12, 15, 25), (0, 12, 19, 13)]) 8 4 24 SH (allR 2) [.inr (0, 0, 0), .inl (.int x1), .inl (.int x2), .inl (.int x3), .inr (21, 0, 0)] M (WP [2, 0] (21, 0, 0) fI res M1) (fun _ _ => False) := by
  refine Tri.goH (own := RL) (nme := "addPin") (n := 1) (ls := [some (.inr (0, 0, 0)), some (.inl (.int x1)), some (.inl (.int x2)), some (.inl (.int x3)), some (.inr (21, 0, 0)), none]) (by decide) rfl rfl rfl rfl ?_
  refine z_aload (i := 4) dL_addPin_0 rfl ?_
  refine z_iconst (v := (0 : Int32)) dL_addPin_2 (by decide) ?_
  refine z_aload_n (i := 0) dL_addPin_3 rfl rfl ?_
  refine z_iload_n (i := 1) dL_addPin_4 rfl rfl ?_
  refine z_iload_n (i := 2) dL_addPin_5 rfl rfl ?_
  refine z_iload_n (i := 3) dL_addPin_6 rfl rfl ?_
  refine z_callV (av := [.inl (.int x1), .inl (.int x2), .inl (.int x3)]) (ci := 9) (sX9_addPin M x1 x2 x3 h) dL_addPin_7 ml_L_85 cd_X9_addPin mk0 rfl ⟨by decide, rfl⟩ rfl ⟨by decide, by decide, by decide, by decide⟩ (by decide) rfl (fun v M9 hv => ?_) (fun E M9 hx => ?_)
  · obtain ⟨x, hr, rfl, rfl⟩ := hv
    have hr : res = .inl x := hr
    subst hr
    refine z_i2l dL_addPin_10 ?_
    refine z_last (j := 0) allR_nd dL_addPin_11 mk21 rfl (by decide) rfl ?_
    refine z_goto (tgt := 23) dL_addPin_12 rfl ?_
    refine z_iconst (v := (0 : Int32)) dL_addPin_23 (by decide) ?_
    exact z_iret dL_addPin_24 rfl rfl (Nat.le_of_ble_eq_true rfl) (Nat.le_of_ble_eq_true rfl) ⟨rfl, rfl⟩
  · obtain ⟨e, hr, hE, rfl⟩ := hx
    have hr : res = .inr e := hr
    subst hr
    have hm := he e rfl
    rcases List.mem_cons.mp hm with rfl | hm
    · have hE : some "java/lang/IndexOutOfBoundsException" = some E := hE
      cases hE
      refine zx_catch [] ⟨0, 12, 15, 25⟩ [⟨0, 12, 19, 13⟩] rfl (fun z hz => nomatch hz) exs_2 (by decide) (by decide) lke_2 cst_2 (fun q => ?_)
      refine z_astoreQ (i := 5) dL_addPin_15 (by decide) rfl ?_
      refine z_iconst (v := (1 : Int32)) dL_addPin_17 (by decide) ?_
      exact z_iret dL_addPin_18 rfl rfl (Nat.le_of_ble_eq_true rfl) (Nat.le_of_ble_eq_true rfl) ⟨0, by decide, rfl, by decide, rfl, rfl⟩
    have hm := List.mem_singleton.mp hm
    subst hm
    have hE : some "java/lang/IllegalStateException" = some E := hE
    cases hE
    refine zx_catch [⟨0, 12, 15, 25⟩] ⟨0, 12, 19, 13⟩ [] rfl (fun z hz => by rw [List.mem_singleton.mp hz]; exact ⟨by decide, _, lke_2, exs_2, by decide⟩) exs_0 (by decide) (by decide) lke_0 cst_0 (fun q => ?_)
    refine z_astoreQ (i := 5) dL_addPin_19 (by decide) rfl ?_
    refine z_iconst (v := (2 : Int32)) dL_addPin_21 (by decide) ?_
    exact z_iret dL_addPin_22 rfl rfl (Nat.le_of_ble_eq_true rfl) (Nat.le_of_ble_eq_true rfl) ⟨1, by decide, rfl, by decide, rfl, rfl⟩
theorem W_removePin (M : Mm) (x1 : Int32) (x2 : Int32) (x3 : Int32) {res : Int32 ⊕ Nat} {M1 : Mm} (h : fX9_removePin M x1 x2 x3 = some (res, M1)) (he : ∀ e, res = .inr e → e ∈ [2, 0]) : Tri yL_removePin (.codeWith yL_removePin cL_removePin 6 (some .int) [(0, 12, 15, 25), (0, 12, 19, 13)]) 8 4 24 SH (allR 2) [.inr (0, 0, 0), .inl (.int x1), .inl (.int x2), .inl (.int x3), .inr (21, 0, 0)] M (WP [2, 0] (21, 0, 0) fI res M1) (fun _ _ => False) := by
  refine Tri.goH (own := RL) (nme := "removePin") (n := 1) (ls := [some (.inr (0, 0, 0)), some (.inl (.int x1)), some (.inl (.int x2)), some (.inl (.int x3)), some (.inr (21, 0, 0)), none]) (by decide) rfl rfl rfl rfl ?_
  refine z_aload (i := 4) dL_removePin_0 rfl ?_
  refine z_iconst (v := (0 : Int32)) dL_removePin_2 (by decide) ?_
  refine z_aload_n (i := 0) dL_removePin_3 rfl rfl ?_
  refine z_iload_n (i := 1) dL_removePin_4 rfl rfl ?_
  refine z_iload_n (i := 2) dL_removePin_5 rfl rfl ?_
  refine z_iload_n (i := 3) dL_removePin_6 rfl rfl ?_
  refine z_callV (av := [.inl (.int x1), .inl (.int x2), .inl (.int x3)]) (ci := 9) (sX9_removePin M x1 x2 x3 h) dL_removePin_7 ml_L_88 cd_X9_removePin mk0 rfl ⟨by decide, rfl⟩ rfl ⟨by decide, by decide, by decide, by decide⟩ (by decide) rfl (fun v M9 hv => ?_) (fun E M9 hx => ?_)
  · obtain ⟨x, hr, rfl, rfl⟩ := hv
    have hr : res = .inl x := hr
    subst hr
    refine z_i2l dL_removePin_10 ?_
    refine z_last (j := 0) allR_nd dL_removePin_11 mk21 rfl (by decide) rfl ?_
    refine z_goto (tgt := 23) dL_removePin_12 rfl ?_
    refine z_iconst (v := (0 : Int32)) dL_removePin_23 (by decide) ?_
    exact z_iret dL_removePin_24 rfl rfl (Nat.le_of_ble_eq_true rfl) (Nat.le_of_ble_eq_true rfl) ⟨rfl, rfl⟩
  · obtain ⟨e, hr, hE, rfl⟩ := hx
    have hr : res = .inr e := hr
    subst hr
    have hm := he e rfl
    rcases List.mem_cons.mp hm with rfl | hm
    · have hE : some "java/lang/IndexOutOfBoundsException" = some E := hE
      cases hE
      refine zx_catch [] ⟨0, 12, 15, 25⟩ [⟨0, 12, 19, 13⟩] rfl (fun z hz => nomatch hz) exs_2 (by decide) (by decide) lke_2 cst_2 (fun q => ?_)
      refine z_astoreQ (i := 5) dL_removePin_15 (by decide) rfl ?_
      refine z_iconst (v := (1 : Int32)) dL_removePin_17 (by decide) ?_
      exact z_iret dL_removePin_18 rfl rfl (Nat.le_of_ble_eq_true rfl) (Nat.le_of_ble_eq_true rfl) ⟨0, by decide, rfl, by decide, rfl, rfl⟩
    have hm := List.mem_singleton.mp hm
    subst hm
    have hE : some "java/lang/IllegalStateException" = some E := hE
    cases hE
    refine zx_catch [⟨0, 12, 15, 25⟩] ⟨0, 12, 19, 13⟩ [] rfl (fun z hz => by rw [List.mem_singleton.mp hz]; exact ⟨by decide, _, lke_2, exs_2, by decide⟩) exs_0 (by decide) (by decide) lke_0 cst_0 (fun q => ?_)
    refine z_astoreQ (i := 5) dL_removePin_19 (by decide) rfl ?_
    refine z_iconst (v := (2 : Int32)) dL_removePin_21 (by decide) ?_
    exact z_iret dL_removePin_22 rfl rfl (Nat.le_of_ble_eq_true rfl) (Nat.le_of_ble_eq_true rfl) ⟨1, by decide, rfl, by decide, rfl, rfl⟩
theorem W_shift (M : Mm) (x1 : Int32) (x2 : Int32) {res : Int32 ⊕ Nat} {M1 : Mm} (h : fX9_shift M x1 x2 = some (res, M1)) (he : ∀ e, res = .inr e → e ∈ [2, 1]) : Tri yL_shift (.codeWith yL_shift cL_shift 5 (some .int) [(0, 10, 13, 25), (0, 10, 17, 19)]) 8 4 24 SH (allR 2) [.inr (0, 0, 0), .inl (.int x1), .inl (.int x2), .inr (21, 0, 0)] M (WP [2, 1] (21, 0, 0) fI res M1) (fun _ _ => False) := by
  refine Tri.goH (own := RL) (nme := "shift") (n := 1) (ls := [some (.inr (0, 0, 0)), some (.inl (.int x1)), some (.inl (.int x2)), some (.inr (21, 0, 0)), none]) (by decide) rfl rfl rfl rfl ?_
  refine z_aload_n (i := 3) dL_shift_0 rfl rfl ?_
  refine z_iconst (v := (0 : Int32)) dL_shift_1 (by decide) ?_
  refine z_aload_n (i := 0) dL_shift_2 rfl rfl ?_
  refine z_iload_n (i := 1) dL_shift_3 rfl rfl ?_
  refine z_iload_n (i := 2) dL_shift_4 rfl rfl ?_
  refine z_callV (av := [.inl (.int x1), .inl (.int x2)]) (ci := 9) (sX9_shift M x1 x2 h) dL_shift_5 ml_L_91 cd_X9_shift mk0 rfl ⟨by decide, rfl⟩ rfl ⟨by decide, by decide, by decide, by decide⟩ (by decide) rfl (fun v M9 hv => ?_) (fun E M9 hx => ?_)
  · obtain ⟨x, hr, rfl, rfl⟩ := hv
    have hr : res = .inl x := hr
    subst hr
    refine z_i2l dL_shift_8 ?_
    refine z_last (j := 0) allR_nd dL_shift_9 mk21 rfl (by decide) rfl ?_
    refine z_goto (tgt := 21) dL_shift_10 rfl ?_
    refine z_iconst (v := (0 : Int32)) dL_shift_21 (by decide) ?_
    exact z_iret dL_shift_22 rfl rfl (Nat.le_of_ble_eq_true rfl) (Nat.le_of_ble_eq_true rfl) ⟨rfl, rfl⟩
  · obtain ⟨e, hr, hE, rfl⟩ := hx
    have hr : res = .inr e := hr
    subst hr
    have hm := he e rfl
    rcases List.mem_cons.mp hm with rfl | hm
    · have hE : some "java/lang/IndexOutOfBoundsException" = some E := hE
      cases hE
      refine zx_catch [] ⟨0, 10, 13, 25⟩ [⟨0, 10, 17, 19⟩] rfl (fun z hz => nomatch hz) exs_2 (by decide) (by decide) lke_2 cst_2 (fun q => ?_)
      refine z_astoreQ (i := 4) dL_shift_13 (by decide) rfl ?_
      refine z_iconst (v := (1 : Int32)) dL_shift_15 (by decide) ?_
      exact z_iret dL_shift_16 rfl rfl (Nat.le_of_ble_eq_true rfl) (Nat.le_of_ble_eq_true rfl) ⟨0, by decide, rfl, by decide, rfl, rfl⟩
    have hm := List.mem_singleton.mp hm
    subst hm
    have hE : some "java/lang/IllegalArgumentException" = some E := hE
    cases hE
    refine zx_catch [⟨0, 10, 13, 25⟩] ⟨0, 10, 17, 19⟩ [] rfl (fun z hz => by rw [List.mem_singleton.mp hz]; exact ⟨by decide, _, lke_2, exs_2, by decide⟩) exs_1 (by decide) (by decide) lke_1 cst_1 (fun q => ?_)
    refine z_astoreQ (i := 4) dL_shift_17 (by decide) rfl ?_
    refine z_iconst (v := (2 : Int32)) dL_shift_19 (by decide) ?_
    exact z_iret dL_shift_20 rfl rfl (Nat.le_of_ble_eq_true rfl) (Nat.le_of_ble_eq_true rfl) ⟨1, by decide, rfl, by decide, rfl, rfl⟩
theorem W_transpose (M : Mm) (x1 : Int32) (x2 : Int32) {res : Int32 ⊕ Nat} {M1 : Mm} (h : fX9_transpose M x1 x2 = some (res, M1)) (he : ∀ e, res = .inr e → e ∈ [2, 1, 0]) : Tri yL_transpose (.codeWith yL_transpose cL_transpose 5 (some .int) [(0, 10, 13, 25), (0, 10, 17, 19), (0, 10, 21, 13)]) 8 4 24 SH (allR 2) [.inr (0, 0, 0), .inl (.int x1), .inl (.int x2), .inr (21, 0, 0)] M (WP [2, 1, 0] (21, 0, 0) fI res M1) (fun _ _ => False) := by
  refine Tri.goH (own := RL) (nme := "transpose") (n := 1) (ls := [some (.inr (0, 0, 0)), some (.inl (.int x1)), some (.inl (.int x2)), some (.inr (21, 0, 0)), none]) (by decide) rfl rfl rfl rfl ?_
  refine z_aload_n (i := 3) dL_transpose_0 rfl rfl ?_
  refine z_iconst (v := (0 : Int32)) dL_transpose_1 (by decide) ?_
  refine z_aload_n (i := 0) dL_transpose_2 rfl rfl ?_
  refine z_iload_n (i := 1) dL_transpose_3 rfl rfl ?_
  refine z_iload_n (i := 2) dL_transpose_4 rfl rfl ?_
  refine z_callV (av := [.inl (.int x1), .inl (.int x2)]) (ci := 9) (sX9_transpose M x1 x2 h) dL_transpose_5 ml_L_94 cd_X9_transpose mk0 rfl ⟨by decide, rfl⟩ rfl ⟨by decide, by decide, by decide, by decide⟩ (by decide) rfl (fun v M9 hv => ?_) (fun E M9 hx => ?_)
  · obtain ⟨x, hr, rfl, rfl⟩ := hv
    have hr : res = .inl x := hr
    subst hr
    refine z_i2l dL_transpose_8 ?_
    refine z_last (j := 0) allR_nd dL_transpose_9 mk21 rfl (by decide) rfl ?_
    refine z_goto (tgt := 25) dL_transpose_10 rfl ?_
    refine z_iconst (v := (0 : Int32)) dL_transpose_25 (by decide) ?_
    exact z_iret dL_transpose_26 rfl rfl (Nat.le_of_ble_eq_true rfl) (Nat.le_of_ble_eq_true rfl) ⟨rfl, rfl⟩
  · obtain ⟨e, hr, hE, rfl⟩ := hx
    have hr : res = .inr e := hr
    subst hr
    have hm := he e rfl
    rcases List.mem_cons.mp hm with rfl | hm
    · have hE : some "java/lang/IndexOutOfBoundsException" = some E := hE
      cases hE
      refine zx_catch [] ⟨0, 10, 13, 25⟩ [⟨0, 10, 17, 19⟩, ⟨0, 10, 21, 13⟩] rfl (fun z hz => nomatch hz) exs_2 (by decide) (by decide) lke_2 cst_2 (fun q => ?_)
      refine z_astoreQ (i := 4) dL_transpose_13 (by decide) rfl ?_
      refine z_iconst (v := (1 : Int32)) dL_transpose_15 (by decide) ?_
      exact z_iret dL_transpose_16 rfl rfl (Nat.le_of_ble_eq_true rfl) (Nat.le_of_ble_eq_true rfl) ⟨0, by decide, rfl, by decide, rfl, rfl⟩
    rcases List.mem_cons.mp hm with rfl | hm
    · have hE : some "java/lang/IllegalArgumentException" = some E := hE
      cases hE
      refine zx_catch [⟨0, 10, 13, 25⟩] ⟨0, 10, 17, 19⟩ [⟨0, 10, 21, 13⟩] rfl (fun z hz => by rw [List.mem_singleton.mp hz]; exact ⟨by decide, _, lke_2, exs_2, by decide⟩) exs_1 (by decide) (by decide) lke_1 cst_1 (fun q => ?_)
      refine z_astoreQ (i := 4) dL_transpose_17 (by decide) rfl ?_
      refine z_iconst (v := (2 : Int32)) dL_transpose_19 (by decide) ?_
      exact z_iret dL_transpose_20 rfl rfl (Nat.le_of_ble_eq_true rfl) (Nat.le_of_ble_eq_true rfl) ⟨1, by decide, rfl, by decide, rfl, rfl⟩
    have hm := List.mem_singleton.mp hm
    subst hm
    have hE : some "java/lang/IllegalStateException" = some E := hE
    cases hE
    refine zx_catch [⟨0, 10, 13, 25⟩, ⟨0, 10, 17, 19⟩] ⟨0, 10, 21, 13⟩ [] rfl (fun z hz => by rcases List.mem_cons.mp hz with rfl | hz; exact ⟨by decide, _, lke_2, exs_2, by decide⟩; rw [List.mem_singleton.mp hz]; exact ⟨by decide, _, lke_1, exs_1, by decide⟩) exs_0 (by decide) (by decide) lke_0 cst_0 (fun q => ?_)
    refine z_astoreQ (i := 4) dL_transpose_21 (by decide) rfl ?_
    refine z_iconst (v := (3 : Int32)) dL_transpose_23 (by decide) ?_
    exact z_iret dL_transpose_24 rfl rfl (Nat.le_of_ble_eq_true rfl) (Nat.le_of_ble_eq_true rfl) ⟨2, by decide, rfl, by decide, rfl, rfl⟩
theorem W_copyTune (M : Mm) (x1 : Int32) (x2 : Int32) {res : Int32 ⊕ Nat} {M1 : Mm} (h : fX9_copyTune M x1 x2 = some (res, M1)) (he : ∀ e, res = .inr e → e ∈ [2, 1]) : Tri yL_copyTune (.codeWith yL_copyTune cL_copyTune 5 (some .int) [(0, 10, 13, 25), (0, 10, 17, 19)]) 8 4 24 SH (allR 2) [.inr (0, 0, 0), .inl (.int x1), .inl (.int x2), .inr (21, 0, 0)] M (WP [2, 1] (21, 0, 0) fI res M1) (fun _ _ => False) := by
  refine Tri.goH (own := RL) (nme := "copyTune") (n := 1) (ls := [some (.inr (0, 0, 0)), some (.inl (.int x1)), some (.inl (.int x2)), some (.inr (21, 0, 0)), none]) (by decide) rfl rfl rfl rfl ?_
  refine z_aload_n (i := 3) dL_copyTune_0 rfl rfl ?_
  refine z_iconst (v := (0 : Int32)) dL_copyTune_1 (by decide) ?_
  refine z_aload_n (i := 0) dL_copyTune_2 rfl rfl ?_
  refine z_iload_n (i := 1) dL_copyTune_3 rfl rfl ?_
  refine z_iload_n (i := 2) dL_copyTune_4 rfl rfl ?_
  refine z_callV (av := [.inl (.int x1), .inl (.int x2)]) (ci := 9) (sX9_copyTune M x1 x2 h) dL_copyTune_5 ml_L_97 cd_X9_copyTune mk0 rfl ⟨by decide, rfl⟩ rfl ⟨by decide, by decide, by decide, by decide⟩ (by decide) rfl (fun v M9 hv => ?_) (fun E M9 hx => ?_)
  · obtain ⟨x, hr, rfl, rfl⟩ := hv
    have hr : res = .inl x := hr
    subst hr
    refine z_i2l dL_copyTune_8 ?_
    refine z_last (j := 0) allR_nd dL_copyTune_9 mk21 rfl (by decide) rfl ?_
    refine z_goto (tgt := 21) dL_copyTune_10 rfl ?_
    refine z_iconst (v := (0 : Int32)) dL_copyTune_21 (by decide) ?_
    exact z_iret dL_copyTune_22 rfl rfl (Nat.le_of_ble_eq_true rfl) (Nat.le_of_ble_eq_true rfl) ⟨rfl, rfl⟩
  · obtain ⟨e, hr, hE, rfl⟩ := hx
    have hr : res = .inr e := hr
    subst hr
    have hm := he e rfl
    rcases List.mem_cons.mp hm with rfl | hm
    · have hE : some "java/lang/IndexOutOfBoundsException" = some E := hE
      cases hE
      refine zx_catch [] ⟨0, 10, 13, 25⟩ [⟨0, 10, 17, 19⟩] rfl (fun z hz => nomatch hz) exs_2 (by decide) (by decide) lke_2 cst_2 (fun q => ?_)
      refine z_astoreQ (i := 4) dL_copyTune_13 (by decide) rfl ?_
      refine z_iconst (v := (1 : Int32)) dL_copyTune_15 (by decide) ?_
      exact z_iret dL_copyTune_16 rfl rfl (Nat.le_of_ble_eq_true rfl) (Nat.le_of_ble_eq_true rfl) ⟨0, by decide, rfl, by decide, rfl, rfl⟩
    have hm := List.mem_singleton.mp hm
    subst hm
    have hE : some "java/lang/IllegalArgumentException" = some E := hE
    cases hE
    refine zx_catch [⟨0, 10, 13, 25⟩] ⟨0, 10, 17, 19⟩ [] rfl (fun z hz => by rw [List.mem_singleton.mp hz]; exact ⟨by decide, _, lke_2, exs_2, by decide⟩) exs_1 (by decide) (by decide) lke_1 cst_1 (fun q => ?_)
    refine z_astoreQ (i := 4) dL_copyTune_17 (by decide) rfl ?_
    refine z_iconst (v := (2 : Int32)) dL_copyTune_19 (by decide) ?_
    exact z_iret dL_copyTune_20 rfl rfl (Nat.le_of_ble_eq_true rfl) (Nat.le_of_ble_eq_true rfl) ⟨1, by decide, rfl, by decide, rfl, rfl⟩
theorem W_selectTune (M : Mm) (x1 : Int32) {res : Int32 ⊕ Nat} {M1 : Mm} (h : fX9_selectTune M x1 = some (res, M1)) (he : ∀ e, res = .inr e → e ∈ [2]) : Tri yL_selectTune (.codeWith yL_selectTune cL_selectTune 4 (some .int) [(0, 9, 12, 25)]) 8 4 24 SH (allR 2) [.inr (0, 0, 0), .inl (.int x1), .inr (21, 0, 0)] M (WP [2] (21, 0, 0) fI res M1) (fun _ _ => False) := by
  refine Tri.goH (own := RL) (nme := "selectTune") (n := 1) (ls := [some (.inr (0, 0, 0)), some (.inl (.int x1)), some (.inr (21, 0, 0)), none]) (by decide) rfl rfl rfl rfl ?_
  refine z_aload_n (i := 2) dL_selectTune_0 rfl rfl ?_
  refine z_iconst (v := (0 : Int32)) dL_selectTune_1 (by decide) ?_
  refine z_aload_n (i := 0) dL_selectTune_2 rfl rfl ?_
  refine z_iload_n (i := 1) dL_selectTune_3 rfl rfl ?_
  refine z_callV (av := [.inl (.int x1)]) (ci := 9) (sX9_selectTune M x1 h) dL_selectTune_4 ml_L_100 cd_X9_selectTune mk0 rfl ⟨by decide, rfl⟩ rfl ⟨by decide, by decide, by decide, by decide⟩ (by decide) rfl (fun v M9 hv => ?_) (fun E M9 hx => ?_)
  · obtain ⟨x, hr, rfl, rfl⟩ := hv
    have hr : res = .inl x := hr
    subst hr
    refine z_i2l dL_selectTune_7 ?_
    refine z_last (j := 0) allR_nd dL_selectTune_8 mk21 rfl (by decide) rfl ?_
    refine z_goto (tgt := 15) dL_selectTune_9 rfl ?_
    refine z_iconst (v := (0 : Int32)) dL_selectTune_15 (by decide) ?_
    exact z_iret dL_selectTune_16 rfl rfl (Nat.le_of_ble_eq_true rfl) (Nat.le_of_ble_eq_true rfl) ⟨rfl, rfl⟩
  · obtain ⟨e, hr, hE, rfl⟩ := hx
    have hr : res = .inr e := hr
    subst hr
    have hm := he e rfl
    have hm := List.mem_singleton.mp hm
    subst hm
    have hE : some "java/lang/IndexOutOfBoundsException" = some E := hE
    cases hE
    refine zx_catch [] ⟨0, 9, 12, 25⟩ [] rfl (fun z hz => nomatch hz) exs_2 (by decide) (by decide) lke_2 cst_2 (fun q => ?_)
    refine z_astoreQ_n (i := 3) dL_selectTune_12 rfl (by decide) rfl ?_
    refine z_iconst (v := (1 : Int32)) dL_selectTune_13 (by decide) ?_
    exact z_iret dL_selectTune_14 rfl rfl (Nat.le_of_ble_eq_true rfl) (Nat.le_of_ble_eq_true rfl) ⟨0, by decide, rfl, by decide, rfl, rfl⟩
theorem W_setGap (M : Mm) (x1 : Int32) (x2 : Int32) {res : Int32 ⊕ Nat} {M1 : Mm} (h : fX9_setGap M x1 x2 = some (res, M1)) (he : ∀ e, res = .inr e → e ∈ [2, 1]) : Tri yL_setGap (.codeWith yL_setGap cL_setGap 5 (some .int) [(0, 10, 13, 25), (0, 10, 17, 19)]) 8 4 24 SH (allR 2) [.inr (0, 0, 0), .inl (.int x1), .inl (.int x2), .inr (21, 0, 0)] M (WP [2, 1] (21, 0, 0) fI res M1) (fun _ _ => False) := by
  refine Tri.goH (own := RL) (nme := "setGap") (n := 1) (ls := [some (.inr (0, 0, 0)), some (.inl (.int x1)), some (.inl (.int x2)), some (.inr (21, 0, 0)), none]) (by decide) rfl rfl rfl rfl ?_
  refine z_aload_n (i := 3) dL_setGap_0 rfl rfl ?_
  refine z_iconst (v := (0 : Int32)) dL_setGap_1 (by decide) ?_
  refine z_aload_n (i := 0) dL_setGap_2 rfl rfl ?_
  refine z_iload_n (i := 1) dL_setGap_3 rfl rfl ?_
  refine z_iload_n (i := 2) dL_setGap_4 rfl rfl ?_
  refine z_callV (av := [.inl (.int x1), .inl (.int x2)]) (ci := 9) (sX9_setGap M x1 x2 h) dL_setGap_5 ml_L_103 cd_X9_setGap mk0 rfl ⟨by decide, rfl⟩ rfl ⟨by decide, by decide, by decide, by decide⟩ (by decide) rfl (fun v M9 hv => ?_) (fun E M9 hx => ?_)
  · obtain ⟨x, hr, rfl, rfl⟩ := hv
    have hr : res = .inl x := hr
    subst hr
    refine z_i2l dL_setGap_8 ?_
    refine z_last (j := 0) allR_nd dL_setGap_9 mk21 rfl (by decide) rfl ?_
    refine z_goto (tgt := 21) dL_setGap_10 rfl ?_
    refine z_iconst (v := (0 : Int32)) dL_setGap_21 (by decide) ?_
    exact z_iret dL_setGap_22 rfl rfl (Nat.le_of_ble_eq_true rfl) (Nat.le_of_ble_eq_true rfl) ⟨rfl, rfl⟩
  · obtain ⟨e, hr, hE, rfl⟩ := hx
    have hr : res = .inr e := hr
    subst hr
    have hm := he e rfl
    rcases List.mem_cons.mp hm with rfl | hm
    · have hE : some "java/lang/IndexOutOfBoundsException" = some E := hE
      cases hE
      refine zx_catch [] ⟨0, 10, 13, 25⟩ [⟨0, 10, 17, 19⟩] rfl (fun z hz => nomatch hz) exs_2 (by decide) (by decide) lke_2 cst_2 (fun q => ?_)
      refine z_astoreQ (i := 4) dL_setGap_13 (by decide) rfl ?_
      refine z_iconst (v := (1 : Int32)) dL_setGap_15 (by decide) ?_
      exact z_iret dL_setGap_16 rfl rfl (Nat.le_of_ble_eq_true rfl) (Nat.le_of_ble_eq_true rfl) ⟨0, by decide, rfl, by decide, rfl, rfl⟩
    have hm := List.mem_singleton.mp hm
    subst hm
    have hE : some "java/lang/IllegalArgumentException" = some E := hE
    cases hE
    refine zx_catch [⟨0, 10, 13, 25⟩] ⟨0, 10, 17, 19⟩ [] rfl (fun z hz => by rw [List.mem_singleton.mp hz]; exact ⟨by decide, _, lke_2, exs_2, by decide⟩) exs_1 (by decide) (by decide) lke_1 cst_1 (fun q => ?_)
    refine z_astoreQ (i := 4) dL_setGap_17 (by decide) rfl ?_
    refine z_iconst (v := (2 : Int32)) dL_setGap_19 (by decide) ?_
    exact z_iret dL_setGap_20 rfl rfl (Nat.le_of_ble_eq_true rfl) (Nat.le_of_ble_eq_true rfl) ⟨1, by decide, rfl, by decide, rfl, rfl⟩
theorem W_bend (M : Mm) (x1 : Int32) (x2 : Int32) {res : Int32 ⊕ Nat} {M1 : Mm} (h : fX9_bend M x1 x2 = some (res, M1)) (he : ∀ e, res = .inr e → e ∈ [2, 1, 0]) : Tri yL_bend (.codeWith yL_bend cL_bend 5 (some .int) [(0, 10, 13, 25), (0, 10, 17, 19), (0, 10, 21, 13)]) 8 4 24 SH (allR 2) [.inr (0, 0, 0), .inl (.int x1), .inl (.int x2), .inr (21, 0, 0)] M (WP [2, 1, 0] (21, 0, 0) fI res M1) (fun _ _ => False) := by
  refine Tri.goH (own := RL) (nme := "bend") (n := 1) (ls := [some (.inr (0, 0, 0)), some (.inl (.int x1)), some (.inl (.int x2)), some (.inr (21, 0, 0)), none]) (by decide) rfl rfl rfl rfl ?_
  refine z_aload_n (i := 3) dL_bend_0 rfl rfl ?_
  refine z_iconst (v := (0 : Int32)) dL_bend_1 (by decide) ?_
  refine z_aload_n (i := 0) dL_bend_2 rfl rfl ?_
  refine z_iload_n (i := 1) dL_bend_3 rfl rfl ?_
  refine z_iload_n (i := 2) dL_bend_4 rfl rfl ?_
  refine z_callV (av := [.inl (.int x1), .inl (.int x2)]) (ci := 9) (sX9_bend M x1 x2 h) dL_bend_5 ml_L_106 cd_X9_bend mk0 rfl ⟨by decide, rfl⟩ rfl ⟨by decide, by decide, by decide, by decide⟩ (by decide) rfl (fun v M9 hv => ?_) (fun E M9 hx => ?_)
  · obtain ⟨x, hr, rfl, rfl⟩ := hv
    have hr : res = .inl x := hr
    subst hr
    refine z_i2l dL_bend_8 ?_
    refine z_last (j := 0) allR_nd dL_bend_9 mk21 rfl (by decide) rfl ?_
    refine z_goto (tgt := 25) dL_bend_10 rfl ?_
    refine z_iconst (v := (0 : Int32)) dL_bend_25 (by decide) ?_
    exact z_iret dL_bend_26 rfl rfl (Nat.le_of_ble_eq_true rfl) (Nat.le_of_ble_eq_true rfl) ⟨rfl, rfl⟩
  · obtain ⟨e, hr, hE, rfl⟩ := hx
    have hr : res = .inr e := hr
    subst hr
    have hm := he e rfl
    rcases List.mem_cons.mp hm with rfl | hm
    · have hE : some "java/lang/IndexOutOfBoundsException" = some E := hE
      cases hE
      refine zx_catch [] ⟨0, 10, 13, 25⟩ [⟨0, 10, 17, 19⟩, ⟨0, 10, 21, 13⟩] rfl (fun z hz => nomatch hz) exs_2 (by decide) (by decide) lke_2 cst_2 (fun q => ?_)
      refine z_astoreQ (i := 4) dL_bend_13 (by decide) rfl ?_
      refine z_iconst (v := (1 : Int32)) dL_bend_15 (by decide) ?_
      exact z_iret dL_bend_16 rfl rfl (Nat.le_of_ble_eq_true rfl) (Nat.le_of_ble_eq_true rfl) ⟨0, by decide, rfl, by decide, rfl, rfl⟩
    rcases List.mem_cons.mp hm with rfl | hm
    · have hE : some "java/lang/IllegalArgumentException" = some E := hE
      cases hE
      refine zx_catch [⟨0, 10, 13, 25⟩] ⟨0, 10, 17, 19⟩ [⟨0, 10, 21, 13⟩] rfl (fun z hz => by rw [List.mem_singleton.mp hz]; exact ⟨by decide, _, lke_2, exs_2, by decide⟩) exs_1 (by decide) (by decide) lke_1 cst_1 (fun q => ?_)
      refine z_astoreQ (i := 4) dL_bend_17 (by decide) rfl ?_
      refine z_iconst (v := (2 : Int32)) dL_bend_19 (by decide) ?_
      exact z_iret dL_bend_20 rfl rfl (Nat.le_of_ble_eq_true rfl) (Nat.le_of_ble_eq_true rfl) ⟨1, by decide, rfl, by decide, rfl, rfl⟩
    have hm := List.mem_singleton.mp hm
    subst hm
    have hE : some "java/lang/IllegalStateException" = some E := hE
    cases hE
    refine zx_catch [⟨0, 10, 13, 25⟩, ⟨0, 10, 17, 19⟩] ⟨0, 10, 21, 13⟩ [] rfl (fun z hz => by rcases List.mem_cons.mp hz with rfl | hz; exact ⟨by decide, _, lke_2, exs_2, by decide⟩; rw [List.mem_singleton.mp hz]; exact ⟨by decide, _, lke_1, exs_1, by decide⟩) exs_0 (by decide) (by decide) lke_0 cst_0 (fun q => ?_)
    refine z_astoreQ (i := 4) dL_bend_21 (by decide) rfl ?_
    refine z_iconst (v := (3 : Int32)) dL_bend_23 (by decide) ?_
    exact z_iret dL_bend_24 rfl rfl (Nat.le_of_ble_eq_true rfl) (Nat.le_of_ble_eq_true rfl) ⟨2, by decide, rfl, by decide, rfl, rfl⟩
theorem W_replaceTooth (M : Mm) (x1 : Int32) {res : Int32 ⊕ Nat} {M1 : Mm} (h : fX9_replaceTooth M x1 = some (res, M1)) (he : ∀ e, res = .inr e → e ∈ [2]) : Tri yL_replaceTooth (.codeWith yL_replaceTooth cL_replaceTooth 4 (some .int) [(0, 9, 12, 25)]) 8 4 24 SH (allR 2) [.inr (0, 0, 0), .inl (.int x1), .inr (21, 0, 0)] M (WP [2] (21, 0, 0) fI res M1) (fun _ _ => False) := by
  refine Tri.goH (own := RL) (nme := "replaceTooth") (n := 1) (ls := [some (.inr (0, 0, 0)), some (.inl (.int x1)), some (.inr (21, 0, 0)), none]) (by decide) rfl rfl rfl rfl ?_
  refine z_aload_n (i := 2) dL_replaceTooth_0 rfl rfl ?_
  refine z_iconst (v := (0 : Int32)) dL_replaceTooth_1 (by decide) ?_
  refine z_aload_n (i := 0) dL_replaceTooth_2 rfl rfl ?_
  refine z_iload_n (i := 1) dL_replaceTooth_3 rfl rfl ?_
  refine z_callV (av := [.inl (.int x1)]) (ci := 9) (sX9_replaceTooth M x1 h) dL_replaceTooth_4 ml_L_109 cd_X9_replaceTooth mk0 rfl ⟨by decide, rfl⟩ rfl ⟨by decide, by decide, by decide, by decide⟩ (by decide) rfl (fun v M9 hv => ?_) (fun E M9 hx => ?_)
  · obtain ⟨x, hr, rfl, rfl⟩ := hv
    have hr : res = .inl x := hr
    subst hr
    refine z_i2l dL_replaceTooth_7 ?_
    refine z_last (j := 0) allR_nd dL_replaceTooth_8 mk21 rfl (by decide) rfl ?_
    refine z_goto (tgt := 15) dL_replaceTooth_9 rfl ?_
    refine z_iconst (v := (0 : Int32)) dL_replaceTooth_15 (by decide) ?_
    exact z_iret dL_replaceTooth_16 rfl rfl (Nat.le_of_ble_eq_true rfl) (Nat.le_of_ble_eq_true rfl) ⟨rfl, rfl⟩
  · obtain ⟨e, hr, hE, rfl⟩ := hx
    have hr : res = .inr e := hr
    subst hr
    have hm := he e rfl
    have hm := List.mem_singleton.mp hm
    subst hm
    have hE : some "java/lang/IndexOutOfBoundsException" = some E := hE
    cases hE
    refine zx_catch [] ⟨0, 9, 12, 25⟩ [] rfl (fun z hz => nomatch hz) exs_2 (by decide) (by decide) lke_2 cst_2 (fun q => ?_)
    refine z_astoreQ_n (i := 3) dL_replaceTooth_12 rfl (by decide) rfl ?_
    refine z_iconst (v := (1 : Int32)) dL_replaceTooth_13 (by decide) ?_
    exact z_iret dL_replaceTooth_14 rfl rfl (Nat.le_of_ble_eq_true rfl) (Nat.le_of_ble_eq_true rfl) ⟨0, by decide, rfl, by decide, rfl, rfl⟩
theorem W_setVane (M : Mm) (x1 : Int32) {res : Int32 ⊕ Nat} {M1 : Mm} (h : fX9_setVane M x1 = some (res, M1)) (he : ∀ e, res = .inr e → e ∈ [1]) : Tri yL_setVane (.codeWith yL_setVane cL_setVane 4 (some .int) [(0, 9, 12, 19)]) 8 4 24 SH (allR 2) [.inr (0, 0, 0), .inl (.int x1), .inr (21, 0, 0)] M (WP [1] (21, 0, 0) fI res M1) (fun _ _ => False) := by
  refine Tri.goH (own := RL) (nme := "setVane") (n := 1) (ls := [some (.inr (0, 0, 0)), some (.inl (.int x1)), some (.inr (21, 0, 0)), none]) (by decide) rfl rfl rfl rfl ?_
  refine z_aload_n (i := 2) dL_setVane_0 rfl rfl ?_
  refine z_iconst (v := (0 : Int32)) dL_setVane_1 (by decide) ?_
  refine z_aload_n (i := 0) dL_setVane_2 rfl rfl ?_
  refine z_iload_n (i := 1) dL_setVane_3 rfl rfl ?_
  refine z_callV (av := [.inl (.int x1)]) (ci := 9) (sX9_setVane M x1 h) dL_setVane_4 ml_L_112 cd_X9_setVane mk0 rfl ⟨by decide, rfl⟩ rfl ⟨by decide, by decide, by decide, by decide⟩ (by decide) rfl (fun v M9 hv => ?_) (fun E M9 hx => ?_)
  · obtain ⟨x, hr, rfl, rfl⟩ := hv
    have hr : res = .inl x := hr
    subst hr
    refine z_i2l dL_setVane_7 ?_
    refine z_last (j := 0) allR_nd dL_setVane_8 mk21 rfl (by decide) rfl ?_
    refine z_goto (tgt := 15) dL_setVane_9 rfl ?_
    refine z_iconst (v := (0 : Int32)) dL_setVane_15 (by decide) ?_
    exact z_iret dL_setVane_16 rfl rfl (Nat.le_of_ble_eq_true rfl) (Nat.le_of_ble_eq_true rfl) ⟨rfl, rfl⟩
  · obtain ⟨e, hr, hE, rfl⟩ := hx
    have hr : res = .inr e := hr
    subst hr
    have hm := he e rfl
    have hm := List.mem_singleton.mp hm
    subst hm
    have hE : some "java/lang/IllegalArgumentException" = some E := hE
    cases hE
    refine zx_catch [] ⟨0, 9, 12, 19⟩ [] rfl (fun z hz => nomatch hz) exs_1 (by decide) (by decide) lke_1 cst_1 (fun q => ?_)
    refine z_astoreQ_n (i := 3) dL_setVane_12 rfl (by decide) rfl ?_
    refine z_iconst (v := (1 : Int32)) dL_setVane_13 (by decide) ?_
    exact z_iret dL_setVane_14 rfl rfl (Nat.le_of_ble_eq_true rfl) (Nat.le_of_ble_eq_true rfl) ⟨0, by decide, rfl, by decide, rfl, rfl⟩
theorem W_wind (M : Mm) (x1 : Int32) {res : Int32 ⊕ Nat} {M1 : Mm} (h : fX9_wind M x1 = some (res, M1)) (he : ∀ e, res = .inr e → e ∈ [1, 0]) : Tri yL_wind (.codeWith yL_wind cL_wind 4 (some .int) [(0, 9, 12, 19), (0, 9, 15, 13)]) 8 4 24 SH (allR 2) [.inr (0, 0, 0), .inl (.int x1), .inr (21, 0, 0)] M (WP [1, 0] (21, 0, 0) fI res M1) (fun _ _ => False) := by
  refine Tri.goH (own := RL) (nme := "wind") (n := 1) (ls := [some (.inr (0, 0, 0)), some (.inl (.int x1)), some (.inr (21, 0, 0)), none]) (by decide) rfl rfl rfl rfl ?_
  refine z_aload_n (i := 2) dL_wind_0 rfl rfl ?_
  refine z_iconst (v := (0 : Int32)) dL_wind_1 (by decide) ?_
  refine z_aload_n (i := 0) dL_wind_2 rfl rfl ?_
  refine z_iload_n (i := 1) dL_wind_3 rfl rfl ?_
  refine z_callV (av := [.inl (.int x1)]) (ci := 9) (sX9_wind M x1 h) dL_wind_4 ml_L_115 cd_X9_wind mk0 rfl ⟨by decide, rfl⟩ rfl ⟨by decide, by decide, by decide, by decide⟩ (by decide) rfl (fun v M9 hv => ?_) (fun E M9 hx => ?_)
  · obtain ⟨x, hr, rfl, rfl⟩ := hv
    have hr : res = .inl x := hr
    subst hr
    refine z_i2l dL_wind_7 ?_
    refine z_last (j := 0) allR_nd dL_wind_8 mk21 rfl (by decide) rfl ?_
    refine z_goto (tgt := 18) dL_wind_9 rfl ?_
    refine z_iconst (v := (0 : Int32)) dL_wind_18 (by decide) ?_
    exact z_iret dL_wind_19 rfl rfl (Nat.le_of_ble_eq_true rfl) (Nat.le_of_ble_eq_true rfl) ⟨rfl, rfl⟩
  · obtain ⟨e, hr, hE, rfl⟩ := hx
    have hr : res = .inr e := hr
    subst hr
    have hm := he e rfl
    rcases List.mem_cons.mp hm with rfl | hm
    · have hE : some "java/lang/IllegalArgumentException" = some E := hE
      cases hE
      refine zx_catch [] ⟨0, 9, 12, 19⟩ [⟨0, 9, 15, 13⟩] rfl (fun z hz => nomatch hz) exs_1 (by decide) (by decide) lke_1 cst_1 (fun q => ?_)
      refine z_astoreQ_n (i := 3) dL_wind_12 rfl (by decide) rfl ?_
      refine z_iconst (v := (1 : Int32)) dL_wind_13 (by decide) ?_
      exact z_iret dL_wind_14 rfl rfl (Nat.le_of_ble_eq_true rfl) (Nat.le_of_ble_eq_true rfl) ⟨0, by decide, rfl, by decide, rfl, rfl⟩
    have hm := List.mem_singleton.mp hm
    subst hm
    have hE : some "java/lang/IllegalStateException" = some E := hE
    cases hE
    refine zx_catch [⟨0, 9, 12, 19⟩] ⟨0, 9, 15, 13⟩ [] rfl (fun z hz => by rw [List.mem_singleton.mp hz]; exact ⟨by decide, _, lke_1, exs_1, by decide⟩) exs_0 (by decide) (by decide) lke_0 cst_0 (fun q => ?_)
    refine z_astoreQ_n (i := 3) dL_wind_15 rfl (by decide) rfl ?_
    refine z_iconst (v := (2 : Int32)) dL_wind_16 (by decide) ?_
    exact z_iret dL_wind_17 rfl rfl (Nat.le_of_ble_eq_true rfl) (Nat.le_of_ble_eq_true rfl) ⟨1, by decide, rfl, by decide, rfl, rfl⟩
theorem W_play (M : Mm) (x1 : Int32) {res : Int32 ⊕ Nat} {M1 : Mm} (h : fX9_play M x1 = some (res, M1)) (he : ∀ e, res = .inr e → e ∈ [1, 0]) : Tri yL_play (.codeWith yL_play cL_play 4 (some .int) [(0, 9, 12, 19), (0, 9, 15, 13)]) 8 4 24 SH (allR 2) [.inr (0, 0, 0), .inl (.int x1), .inr (21, 0, 0)] M (WP [1, 0] (21, 0, 0) fI res M1) (fun _ _ => False) := by
  refine Tri.goH (own := RL) (nme := "play") (n := 1) (ls := [some (.inr (0, 0, 0)), some (.inl (.int x1)), some (.inr (21, 0, 0)), none]) (by decide) rfl rfl rfl rfl ?_
  refine z_aload_n (i := 2) dL_play_0 rfl rfl ?_
  refine z_iconst (v := (0 : Int32)) dL_play_1 (by decide) ?_
  refine z_aload_n (i := 0) dL_play_2 rfl rfl ?_
  refine z_iload_n (i := 1) dL_play_3 rfl rfl ?_
  refine z_callV (av := [.inl (.int x1)]) (ci := 9) (sX9_play M x1 h) dL_play_4 ml_L_118 cd_X9_play mk0 rfl ⟨by decide, rfl⟩ rfl ⟨by decide, by decide, by decide, by decide⟩ (by decide) rfl (fun v M9 hv => ?_) (fun E M9 hx => ?_)
  · obtain ⟨x, hr, rfl, rfl⟩ := hv
    have hr : res = .inl x := hr
    subst hr
    refine z_i2l dL_play_7 ?_
    refine z_last (j := 0) allR_nd dL_play_8 mk21 rfl (by decide) rfl ?_
    refine z_goto (tgt := 18) dL_play_9 rfl ?_
    refine z_iconst (v := (0 : Int32)) dL_play_18 (by decide) ?_
    exact z_iret dL_play_19 rfl rfl (Nat.le_of_ble_eq_true rfl) (Nat.le_of_ble_eq_true rfl) ⟨rfl, rfl⟩
  · obtain ⟨e, hr, hE, rfl⟩ := hx
    have hr : res = .inr e := hr
    subst hr
    have hm := he e rfl
    rcases List.mem_cons.mp hm with rfl | hm
    · have hE : some "java/lang/IllegalArgumentException" = some E := hE
      cases hE
      refine zx_catch [] ⟨0, 9, 12, 19⟩ [⟨0, 9, 15, 13⟩] rfl (fun z hz => nomatch hz) exs_1 (by decide) (by decide) lke_1 cst_1 (fun q => ?_)
      refine z_astoreQ_n (i := 3) dL_play_12 rfl (by decide) rfl ?_
      refine z_iconst (v := (1 : Int32)) dL_play_13 (by decide) ?_
      exact z_iret dL_play_14 rfl rfl (Nat.le_of_ble_eq_true rfl) (Nat.le_of_ble_eq_true rfl) ⟨0, by decide, rfl, by decide, rfl, rfl⟩
    have hm := List.mem_singleton.mp hm
    subst hm
    have hE : some "java/lang/IllegalStateException" = some E := hE
    cases hE
    refine zx_catch [⟨0, 9, 12, 19⟩] ⟨0, 9, 15, 13⟩ [] rfl (fun z hz => by rw [List.mem_singleton.mp hz]; exact ⟨by decide, _, lke_1, exs_1, by decide⟩) exs_0 (by decide) (by decide) lke_0 cst_0 (fun q => ?_)
    refine z_astoreQ_n (i := 3) dL_play_15 rfl (by decide) rfl ?_
    refine z_iconst (v := (2 : Int32)) dL_play_16 (by decide) ?_
    exact z_iret dL_play_17 rfl rfl (Nat.le_of_ble_eq_true rfl) (Nat.le_of_ble_eq_true rfl) ⟨1, by decide, rfl, by decide, rfl, rfl⟩
theorem W_writePins (M : Mm) (x1 : Int32) (x2 : Int32) {res : Int32 ⊕ Nat} {M1 : Mm} (h : fX9_writePins M x1 x2 = some (res, M1)) (he : ∀ e, res = .inr e → e ∈ [2]) : Tri yL_writePins (.codeWith yL_writePins cL_writePins 5 (some .int) [(0, 10, 13, 25)]) 8 4 24 SH (allR 2) [.inr (0, 0, 0), .inl (.int x1), .inl (.int x2), .inr (21, 0, 0)] M (WP [2] (21, 0, 0) fI res M1) (fun _ _ => False) := by
  refine Tri.goH (own := RL) (nme := "writePins") (n := 1) (ls := [some (.inr (0, 0, 0)), some (.inl (.int x1)), some (.inl (.int x2)), some (.inr (21, 0, 0)), none]) (by decide) rfl rfl rfl rfl ?_
  refine z_aload_n (i := 3) dL_writePins_0 rfl rfl ?_
  refine z_iconst (v := (0 : Int32)) dL_writePins_1 (by decide) ?_
  refine z_aload_n (i := 0) dL_writePins_2 rfl rfl ?_
  refine z_iload_n (i := 1) dL_writePins_3 rfl rfl ?_
  refine z_iload_n (i := 2) dL_writePins_4 rfl rfl ?_
  refine z_callV (av := [.inl (.int x1), .inl (.int x2)]) (ci := 9) (sX9_writePins M x1 x2 h) dL_writePins_5 ml_L_121 cd_X9_writePins mk0 rfl ⟨by decide, rfl⟩ rfl ⟨by decide, by decide, by decide, by decide⟩ (by decide) rfl (fun v M9 hv => ?_) (fun E M9 hx => ?_)
  · obtain ⟨x, hr, rfl, rfl⟩ := hv
    have hr : res = .inl x := hr
    subst hr
    refine z_i2l dL_writePins_8 ?_
    refine z_last (j := 0) allR_nd dL_writePins_9 mk21 rfl (by decide) rfl ?_
    refine z_goto (tgt := 17) dL_writePins_10 rfl ?_
    refine z_iconst (v := (0 : Int32)) dL_writePins_17 (by decide) ?_
    exact z_iret dL_writePins_18 rfl rfl (Nat.le_of_ble_eq_true rfl) (Nat.le_of_ble_eq_true rfl) ⟨rfl, rfl⟩
  · obtain ⟨e, hr, hE, rfl⟩ := hx
    have hr : res = .inr e := hr
    subst hr
    have hm := he e rfl
    have hm := List.mem_singleton.mp hm
    subst hm
    have hE : some "java/lang/IndexOutOfBoundsException" = some E := hE
    cases hE
    refine zx_catch [] ⟨0, 10, 13, 25⟩ [] rfl (fun z hz => nomatch hz) exs_2 (by decide) (by decide) lke_2 cst_2 (fun q => ?_)
    refine z_astoreQ (i := 4) dL_writePins_13 (by decide) rfl ?_
    refine z_iconst (v := (1 : Int32)) dL_writePins_15 (by decide) ?_
    exact z_iret dL_writePins_16 rfl rfl (Nat.le_of_ble_eq_true rfl) (Nat.le_of_ble_eq_true rfl) ⟨0, by decide, rfl, by decide, rfl, rfl⟩
theorem W_undo (M : Mm) {res : Int32 ⊕ Nat} {M1 : Mm} (h : fX9_undo M = some (res, M1)) (he : ∀ e, res = .inr e → e ∈ [0]) : Tri yL_undo (.codeWith yL_undo cL_undo 3 (some .int) [(0, 8, 11, 13)]) 8 4 24 SH (allR 2) [.inr (0, 0, 0), .inr (21, 0, 0)] M (WP [0] (21, 0, 0) fI res M1) (fun _ _ => False) := by
  refine Tri.goH (own := RL) (nme := "undo") (n := 1) (ls := [some (.inr (0, 0, 0)), some (.inr (21, 0, 0)), none]) (by decide) rfl rfl rfl rfl ?_
  refine z_aload_n (i := 1) dL_undo_0 rfl rfl ?_
  refine z_iconst (v := (0 : Int32)) dL_undo_1 (by decide) ?_
  refine z_aload_n (i := 0) dL_undo_2 rfl rfl ?_
  refine z_callV (av := []) (ci := 9) (sX9_undo M h) dL_undo_3 ml_L_124 cd_X9_undo mk0 rfl ⟨by decide, rfl⟩ rfl ⟨by decide, by decide, by decide, by decide⟩ (by decide) rfl (fun v M9 hv => ?_) (fun E M9 hx => ?_)
  · obtain ⟨x, hr, rfl, rfl⟩ := hv
    have hr : res = .inl x := hr
    subst hr
    refine z_i2l dL_undo_6 ?_
    refine z_last (j := 0) allR_nd dL_undo_7 mk21 rfl (by decide) rfl ?_
    refine z_goto (tgt := 14) dL_undo_8 rfl ?_
    refine z_iconst (v := (0 : Int32)) dL_undo_14 (by decide) ?_
    exact z_iret dL_undo_15 rfl rfl (Nat.le_of_ble_eq_true rfl) (Nat.le_of_ble_eq_true rfl) ⟨rfl, rfl⟩
  · obtain ⟨e, hr, hE, rfl⟩ := hx
    have hr : res = .inr e := hr
    subst hr
    have hm := he e rfl
    have hm := List.mem_singleton.mp hm
    subst hm
    have hE : some "java/lang/IllegalStateException" = some E := hE
    cases hE
    refine zx_catch [] ⟨0, 8, 11, 13⟩ [] rfl (fun z hz => nomatch hz) exs_0 (by decide) (by decide) lke_0 cst_0 (fun q => ?_)
    refine z_astoreQ_n (i := 2) dL_undo_11 rfl (by decide) rfl ?_
    refine z_iconst (v := (1 : Int32)) dL_undo_12 (by decide) ?_
    exact z_iret dL_undo_13 rfl rfl (Nat.le_of_ble_eq_true rfl) (Nat.le_of_ble_eq_true rfl) ⟨0, by decide, rfl, by decide, rfl, rfl⟩
theorem W_save (M : Mm) (x1 : Int32) {res : Int32 ⊕ Nat} {M1 : Mm} (h : fX9_save M x1 = some (res, M1)) (he : ∀ e, res = .inr e → e ∈ [2]) : Tri yL_save (.codeWith yL_save cL_save 4 (some .int) [(0, 9, 12, 25)]) 8 4 24 SH (allR 2) [.inr (0, 0, 0), .inl (.int x1), .inr (21, 0, 0)] M (WP [2] (21, 0, 0) fI res M1) (fun _ _ => False) := by
  refine Tri.goH (own := RL) (nme := "save") (n := 1) (ls := [some (.inr (0, 0, 0)), some (.inl (.int x1)), some (.inr (21, 0, 0)), none]) (by decide) rfl rfl rfl rfl ?_
  refine z_aload_n (i := 2) dL_save_0 rfl rfl ?_
  refine z_iconst (v := (0 : Int32)) dL_save_1 (by decide) ?_
  refine z_aload_n (i := 0) dL_save_2 rfl rfl ?_
  refine z_iload_n (i := 1) dL_save_3 rfl rfl ?_
  refine z_callV (av := [.inl (.int x1)]) (ci := 9) (sX9_save M x1 h) dL_save_4 ml_L_128 cd_X9_save mk0 rfl ⟨by decide, rfl⟩ rfl ⟨by decide, by decide, by decide, by decide⟩ (by decide) rfl (fun v M9 hv => ?_) (fun E M9 hx => ?_)
  · obtain ⟨x, hr, rfl, rfl⟩ := hv
    have hr : res = .inl x := hr
    subst hr
    refine z_i2l dL_save_7 ?_
    refine z_last (j := 0) allR_nd dL_save_8 mk21 rfl (by decide) rfl ?_
    refine z_goto (tgt := 15) dL_save_9 rfl ?_
    refine z_iconst (v := (0 : Int32)) dL_save_15 (by decide) ?_
    exact z_iret dL_save_16 rfl rfl (Nat.le_of_ble_eq_true rfl) (Nat.le_of_ble_eq_true rfl) ⟨rfl, rfl⟩
  · obtain ⟨e, hr, hE, rfl⟩ := hx
    have hr : res = .inr e := hr
    subst hr
    have hm := he e rfl
    have hm := List.mem_singleton.mp hm
    subst hm
    have hE : some "java/lang/IndexOutOfBoundsException" = some E := hE
    cases hE
    refine zx_catch [] ⟨0, 9, 12, 25⟩ [] rfl (fun z hz => nomatch hz) exs_2 (by decide) (by decide) lke_2 cst_2 (fun q => ?_)
    refine z_astoreQ_n (i := 3) dL_save_12 rfl (by decide) rfl ?_
    refine z_iconst (v := (1 : Int32)) dL_save_13 (by decide) ?_
    exact z_iret dL_save_14 rfl rfl (Nat.le_of_ble_eq_true rfl) (Nat.le_of_ble_eq_true rfl) ⟨0, by decide, rfl, by decide, rfl, rfl⟩
theorem W_restore (M : Mm) (x1 : Int32) {res : Int32 ⊕ Nat} {M1 : Mm} (h : fX9_restore M x1 = some (res, M1)) (he : ∀ e, res = .inr e → e ∈ [2, 3]) : Tri yL_restore (.codeWith yL_restore cL_restore 4 (some .int) [(0, 9, 12, 25), (0, 9, 15, 38)]) 8 4 24 SH (allR 2) [.inr (0, 0, 0), .inl (.int x1), .inr (21, 0, 0)] M (WP [2, 3] (21, 0, 0) fI res M1) (fun _ _ => False) := by
  refine Tri.goH (own := RL) (nme := "restore") (n := 1) (ls := [some (.inr (0, 0, 0)), some (.inl (.int x1)), some (.inr (21, 0, 0)), none]) (by decide) rfl rfl rfl rfl ?_
  refine z_aload_n (i := 2) dL_restore_0 rfl rfl ?_
  refine z_iconst (v := (0 : Int32)) dL_restore_1 (by decide) ?_
  refine z_aload_n (i := 0) dL_restore_2 rfl rfl ?_
  refine z_iload_n (i := 1) dL_restore_3 rfl rfl ?_
  refine z_callV (av := [.inl (.int x1)]) (ci := 9) (sX9_restore M x1 h) dL_restore_4 ml_L_131 cd_X9_restore mk0 rfl ⟨by decide, rfl⟩ rfl ⟨by decide, by decide, by decide, by decide⟩ (by decide) rfl (fun v M9 hv => ?_) (fun E M9 hx => ?_)
  · obtain ⟨x, hr, rfl, rfl⟩ := hv
    have hr : res = .inl x := hr
    subst hr
    refine z_i2l dL_restore_7 ?_
    refine z_last (j := 0) allR_nd dL_restore_8 mk21 rfl (by decide) rfl ?_
    refine z_goto (tgt := 18) dL_restore_9 rfl ?_
    refine z_iconst (v := (0 : Int32)) dL_restore_18 (by decide) ?_
    exact z_iret dL_restore_19 rfl rfl (Nat.le_of_ble_eq_true rfl) (Nat.le_of_ble_eq_true rfl) ⟨rfl, rfl⟩
  · obtain ⟨e, hr, hE, rfl⟩ := hx
    have hr : res = .inr e := hr
    subst hr
    have hm := he e rfl
    rcases List.mem_cons.mp hm with rfl | hm
    · have hE : some "java/lang/IndexOutOfBoundsException" = some E := hE
      cases hE
      refine zx_catch [] ⟨0, 9, 12, 25⟩ [⟨0, 9, 15, 38⟩] rfl (fun z hz => nomatch hz) exs_2 (by decide) (by decide) lke_2 cst_2 (fun q => ?_)
      refine z_astoreQ_n (i := 3) dL_restore_12 rfl (by decide) rfl ?_
      refine z_iconst (v := (1 : Int32)) dL_restore_13 (by decide) ?_
      exact z_iret dL_restore_14 rfl rfl (Nat.le_of_ble_eq_true rfl) (Nat.le_of_ble_eq_true rfl) ⟨0, by decide, rfl, by decide, rfl, rfl⟩
    have hm := List.mem_singleton.mp hm
    subst hm
    have hE : some "java/util/NoSuchElementException" = some E := hE
    cases hE
    refine zx_catch [⟨0, 9, 12, 25⟩] ⟨0, 9, 15, 38⟩ [] rfl (fun z hz => by rw [List.mem_singleton.mp hz]; exact ⟨by decide, _, lke_2, exs_2, by decide⟩) exs_3 (by decide) (by decide) lke_3 cst_3 (fun q => ?_)
    refine z_astoreQ_n (i := 3) dL_restore_15 rfl (by decide) rfl ?_
    refine z_iconst (v := (2 : Int32)) dL_restore_16 (by decide) ?_
    exact z_iret dL_restore_17 rfl rfl (Nat.le_of_ble_eq_true rfl) (Nat.le_of_ble_eq_true rfl) ⟨1, by decide, rfl, by decide, rfl, rfl⟩
