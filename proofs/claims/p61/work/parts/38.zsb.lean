/-! builders and Strings are made -/
section Z38
variable {own : String} {cc : ByteArray} {nL : Nat} {rt : Option FieldType} {xt : List ExceptionTableEntry} {nme : String} {R : Room} {Q : QF} {rs rs' : List Rf} {sh sh' : Sh} {cells slots pc : Nat} {ls : List (Option MV)} {st stk : List MV} {M M' : Mm}
theorem z_anull (hd : decode cc pc = .ok (.aconst_null, 1)) (k : Z own cc nL rt xt nme R Q rs sh cells slots (pc + 1) ls (.inl .null :: st) M) : Z own cc nL rt xt nme R Q rs sh cells slots pc ls st M := fun p l e s m args below meth c D tc ad A H locs lsA C hP hS hl => lv_null C.1 C.2.1 hd (k p l e s m args below meth c D tc ad A H locs lsA C hP hS hl)
theorem z_newBG {n : Int32} {B : Nat} {r : Rf} (hn : rs.Nodup) (hrr : r ∉ rs) (hnr : nrf sh rs r) (hk : kd r = .inr (3, 0)) (hd : decode cc pc = .ok (.newarray .byte, 2)) (h30 : r.1 < 30) (hn0 : ¬ n < 0) (hN : n.toNatClampNeg ≤ B) (hB : B ≤ LG) (hQ : QI [r] Q) (hls : noC [r] ls = true) (hst : noS [r] st = true) (hcells : cells + 1 ≤ R.cells) (hslots : slots + B ≤ R.slots)
    (k : Z own cc nL rt xt nme R Q (rs ++ [r]) (shN sh r) (cells + 1) (slots + B) (pc + 2) ls (.inr r :: st) (nB M r n)) : Z own cc nL rt xt nme R Q rs sh cells slots pc ls (.inl (.int n) :: st) M := by
  refine z_wid (c1 := cells) (s1 := slots + (B - n.toNatClampNeg)) (Nat.le_refl _) (by omega) ?_
  intro p l e s m args below meth c D tc ad A H locs lsA C hP hS hl
  have hLG : LG = 1000000 := rfl
  refine va_newa (N' := n.toNatClampNeg) (a0 := (n.toNatClampNeg, .inl ((nB M r n).1 r))) C.1 C.2.1 (C.2.2.2.2.1 _ arr_b) rfl C.2.2.2.2.2.2.2.2.2.1 hP (Wd.D hn C sh M) hS C.2.2.2.2.2.2.2.2.2.2.1 (fun cA => vp_nB (Nat.le_trans hN hB) cA) hn0 rfl (by show n.toNatClampNeg * 1 ≤ 536870912; omega) hcells (by omega) hd (fun q cA H1 hK1 hP1 hD1 hS1 => ?_)
  have e1 := tc_is (t := 3) C.2.2.2.2.2.2.2.2.2.1 rfl hK1
  rw [e1] at hP1 hD1
  rw [show slots + (B - n.toNatClampNeg) + n.toNatClampNeg = slots + B by omega]
  exact z_newGM C hl nB_o hrr h30 hnr (qa_I hQ (by simp)) (noC_f (by simp) hls) (noS_f (by simp) hst) hP1 hD1 hS1 (by rw [ent_b hk, nB_L]) k
theorem z_putRv {ci j idx : Nat} {r y : Rf} (hn : rs.Nodup) (hd : decode cc pc = .ok (.putfield idx, 3)) (hw : lkF own idx ci j) (hr : r ∈ rs) (hk : okF true r ci j = true) (hf : (Tc ci j).2.2.2 = false) (hfit : ∀ a : Nat, fits (tyc ci j) (.ref a) = true) (hnar : ∀ a : Nat, narrow (tyc ci j) (.ref a) = .ref a)
    (k : Z own cc nL rt xt nme R Q rs (shP sh r j (some y)) cells slots (pc + 3) ls st M) : Z own cc nL rt xt nme R Q rs sh cells slots pc ls (.inr y :: .inr r :: st) M := by
  intro p l e s m args below meth c D tc ad A H locs lsA C hP hS hl
  obtain ⟨ks, h1, h2, h3, h4⟩ := okF_spec hk
  obtain ⟨q, hq0, hq⟩ := wl_at (tc := tc) (ad := ad) (sh := sh) (M := M) hr
  have hvs := fv_P (ad := ad) (sh := sh) (M := M) (r := r) (y := y) ks 0 j (Nat.zero_add j) h2
  rw [ent_o h1] at hq
  refine va_put (C := Rc ci) (T := Tc ci) (N := Nc ci) (ty := tyc ci j) C.1 C.2.1 C.2.2.2.2.1 (inC ci h3) (tyc ci) (tyC ci h3) (nmC ci h3) C.2.2.2.1 C.2.2.2.2.2.2.2.2.2.1 hP (Wd.D hn C sh M) hS q hq (clC ci h3) j h4 (C.2.2.2.2.1 _ hw) (fun _ h => h) hf (tyC ci h3 j h4) (hnar _) (hfit _) (by rw [fv_len]; exact (List.getElem?_eq_some_iff.mp h2).1) hd (fun H1 locs1 hP1 _ hS1 => ?_)
  have hP1 : va_P D vwCl (List.set (wl tc ad sh M rs) q (ad r, .inr (ci, (fv ad sh M r 0 ks).set j (.ref (ad y))))) H1 := hP1
  rw [hvs] at hP1
  rw [wl_setS (sh' := shP sh r j (some y)) hn hq0 (ent_o h1) (fun r' h => ent_P h)] at hP1
  exact k p l e s m args below meth c D tc ad A H1 locs1 lsA C hP1 hS1 hl
theorem z_putXF {ci j idx : Nat} {r : Rf} {v : Int32} (hn : rs.Nodup) (hd : decode cc pc = .ok (.putfield idx, 3)) (hw : lkF own idx ci j) (hr : r ∈ rs) (hk : okF false r ci j = true) (hf : (Tc ci j).2.2.2 = true) (hnm : nme = "<init>") (hdc : (Tc ci j).1 = own) (hv1 : narrow (tyc ci j) (.int v) = .int v) (hv2 : fits (tyc ci j) (.int v) = true)
    (k : Z own cc nL rt xt nme R Q rs sh cells slots (pc + 3) ls st (putI M r j v)) : Z own cc nL rt xt nme R Q rs sh cells slots pc ls (.inl (.int v) :: .inr r :: st) M := by
  intro p l e s m args below meth c D tc ad A H locs lsA C hP hS hl
  obtain ⟨ks, h1, h2, h3, h4⟩ := okF_spec hk
  obtain ⟨q, hq0, hq⟩ := wl_at (tc := tc) (ad := ad) (sh := sh) (M := M) hr
  have hvs := fv_put (ad := ad) (sh := sh) (M := M) (r := r) (v := v) ks 0 j (Nat.zero_add j) h2
  rw [ent_o h1] at hq
  refine va_putF (C := Rc ci) (T := Tc ci) (N := Nc ci) (ty := tyc ci j) C.1 C.2.1 C.2.2.2.2.1 (inC ci h3) (tyc ci) (tyC ci h3) (nmC ci h3) C.2.2.2.1 C.2.2.2.2.2.2.2.2.2.1 hP (Wd.D hn C sh M) hS q hq (clC ci h3) j h4 (C.2.2.2.2.1 _ hw) (fun _ h => h) hf (C.2.2.2.2.2.2.2.2.1.trans hnm) hdc (tyC ci h3 j h4) hv1 hv2 (by rw [fv_len]; exact (List.getElem?_eq_some_iff.mp h2).1) hd (fun H1 locs1 hP1 _ hS1 => ?_)
  have hP1 : va_P D vwCl (List.set (wl tc ad sh M rs) q (ad r, .inr (ci, (fv ad sh M r 0 ks).set j (.int v)))) H1 := hP1
  rw [hvs] at hP1
  rw [wl_set (M := M) (M' := putI M r j v) hn hq0 (ent_o h1) (fun r' h => ent_other (putI_ne h) rfl)] at hP1
  exact k p l e s m args below meth c D tc ad A H1 locs1 lsA C hP1 hS1 hl
end Z38
theorem nd2 {wv : Wv} {a b : Rf} (h : (wv.1 ++ [a, b]).Nodup) : (allR wv ++ [a]).Nodup ∧ b ∉ allR wv ++ [a] ∧ ((allR wv ++ [a]) ++ [b]).Nodup ∧ a ∉ allR wv ∧ b ∉ allR wv ∧ a ≠ b := by
  have e : wv.1 ++ [a, b] = (allR wv ++ [a]) ++ [b] := by simp [allR]
  rw [e] at h
  have h1 := List.nodup_append.mp h
  have h2 := List.nodup_append.mp h1.1
  have hb : b ∉ allR wv ++ [a] := fun hm => h1.2.2 b hm b (List.mem_singleton.mpr rfl) rfl
  exact ⟨h1.1, hb, h, fun hm => h2.2.2 a hm a (List.mem_singleton.mpr rfl) rfl, fun hm => hb (List.mem_append_left _ hm), fun e2 => hb (e2 ▸ List.mem_append_right _ List.mem_cons_self)⟩
theorem rfj_o {r : Rf} {ci j : Nat} (hk : kd r = .inl (ci, [true, false, false, false])) (h : refj r j = true) : j = 0 := by
  unfold refj at h
  rw [hk] at h
  match j, h with
  | 0, _ => rfl
  | 1, h => cases h
  | 2, h => cases h
  | 3, h => cases h
  | j + 4, h => simp at h
theorem rfj_b {r : Rf} {j : Nat} (hk : kd r = .inr (3, 0)) (h : refj r j = true) : False := by
  unfold refj at h
  rw [hk] at h
  simp at h
/-- the picture of a builder, or a String, and its row, is as it shall be -/
theorem sh_mk {a b x : Rf} {ci j : Nat} {sh : Sh} (ha : kd a = .inl (ci, [true, false, false, false])) (hb : kd b = .inr (3, 0)) (hs : SH a 0 = some b) (h0 : ∀ x, x ≠ a → x ≠ b → ∀ j, sh x j = SH x j) (h : refj x j = true) : shP sh a 0 (some b) x j = SH x j := by
  by_cases h1 : x = a
  · subst h1
    have := rfj_o ha h
    subst this
    rw [hs]
    exact if_pos ⟨rfl, rfl⟩
  · by_cases h2 : x = b
    · subst h2
      exact (rfj_b hb h).elim
    · rw [show shP sh a 0 (some b) x j = sh x j from if_neg (fun c => h1 c.1)]
      exact h0 x h1 h2 j
theorem m2i {wv : Wv} {a b x : Rf} {hA : (wv.1 ++ [a, b]).Nodup ∧ clo [a, b]} (h : x ∈ allR (wvA wv [a, b] hA)) : x ∈ (allR wv ++ [a]) ++ [b] := by
  have : x ∈ wv.1 ++ [a, b] := h
  simpa [allR] using this
theorem m2o {wv : Wv} {a b x : Rf} {hA : (wv.1 ++ [a, b]).Nodup ∧ clo [a, b]} : x ∈ allR (wvA wv [a, b] hA) ↔ x ∈ (allR wv ++ [a]) ++ [b] := by
  show x ∈ wv.1 ++ [a, b] ↔ _
  simp [allR]

theorem dJ5_init_d00df_0 : decode cJ5_init_d00df 0 = .ok (.aload_n 0, 1) := by decide +kernel
theorem dJ5_init_d00df_1 : decode cJ5_init_d00df 1 = .ok (.invokespecial 3, 3) := by decide +kernel
theorem dJ5_init_d00df_4 : decode cJ5_init_d00df 4 = .ok (.getstatic 18, 3) := by decide +kernel
theorem dJ5_init_d00df_7 : decode cJ5_init_d00df 7 = .ok (.ifCond .eq 18, 3) := by decide +kernel
theorem dJ5_init_d00df_10 : decode cJ5_init_d00df 10 = .ok (.aload_n 0, 1) := by decide +kernel
theorem dJ5_init_d00df_11 : decode cJ5_init_d00df 11 = .ok (.iload_n 1, 1) := by decide +kernel
theorem dJ5_init_d00df_12 : decode cJ5_init_d00df 12 = .ok (.newarray .byte, 2) := by decide +kernel
theorem dJ5_init_d00df_14 : decode cJ5_init_d00df 14 = .ok (.putfield 15, 3) := by decide +kernel
theorem dJ5_init_d00df_17 : decode cJ5_init_d00df 17 = .ok (.aload_n 0, 1) := by decide +kernel
theorem dJ5_init_d00df_18 : decode cJ5_init_d00df 18 = .ok (.iconst 0, 1) := by decide +kernel
theorem dJ5_init_d00df_19 : decode cJ5_init_d00df 19 = .ok (.putfield 22, 3) := by decide +kernel
theorem dJ5_init_d00df_22 : decode cJ5_init_d00df 22 = .ok (.goto 16, 3) := by decide +kernel
theorem dJ5_init_d00df_25 : decode cJ5_init_d00df 25 = .ok (.aload_n 0, 1) := by decide +kernel
theorem dJ5_init_d00df_26 : decode cJ5_init_d00df 26 = .ok (.iload_n 1, 1) := by decide +kernel
theorem dJ5_init_d00df_27 : decode cJ5_init_d00df 27 = .ok (.invokestatic 26, 3) := by decide +kernel
theorem dJ5_init_d00df_30 : decode cJ5_init_d00df 30 = .ok (.putfield 15, 3) := by decide +kernel
theorem dJ5_init_d00df_33 : decode cJ5_init_d00df 33 = .ok (.aload_n 0, 1) := by decide +kernel
theorem dJ5_init_d00df_34 : decode cJ5_init_d00df 34 = .ok (.iconst 1, 1) := by decide +kernel
theorem dJ5_init_d00df_35 : decode cJ5_init_d00df 35 = .ok (.putfield 22, 3) := by decide +kernel
theorem dJ5_init_d00df_38 : decode cJ5_init_d00df 38 = .ok (.return_, 1) := by decide +kernel
theorem dJ4_init_da8c8_0 : decode cJ4_init_da8c8 0 = .ok (.aload_n 0, 1) := by decide +kernel
theorem dJ4_init_da8c8_1 : decode cJ4_init_da8c8 1 = .ok (.bipush 16, 2) := by decide +kernel
theorem dJ4_init_da8c8_3 : decode cJ4_init_da8c8 3 = .ok (.invokespecial 1, 3) := by decide +kernel
theorem dJ4_init_da8c8_6 : decode cJ4_init_da8c8 6 = .ok (.return_, 1) := by decide +kernel
theorem dJ5_init_a7421_0 : decode cJ5_init_a7421 0 = .ok (.aload_n 0, 1) := by decide +kernel
theorem dJ5_init_a7421_1 : decode cJ5_init_a7421 1 = .ok (.invokespecial 3, 3) := by decide +kernel
theorem dJ5_init_a7421_4 : decode cJ5_init_a7421 4 = .ok (.aload_n 1, 1) := by decide +kernel
theorem dJ5_init_a7421_5 : decode cJ5_init_a7421 5 = .ok (.invokevirtual 32, 3) := by decide +kernel
theorem dJ5_init_a7421_8 : decode cJ5_init_a7421 8 = .ok (.istore_n 2, 1) := by decide +kernel
theorem dJ5_init_a7421_9 : decode cJ5_init_a7421 9 = .ok (.iload_n 2, 1) := by decide +kernel
theorem dJ5_init_a7421_10 : decode cJ5_init_a7421 10 = .ok (.ldc 38, 2) := by decide +kernel
theorem dJ5_init_a7421_12 : decode cJ5_init_a7421 12 = .ok (.if_icmp .ge 10, 3) := by decide +kernel
theorem dJ5_init_a7421_15 : decode cJ5_init_a7421 15 = .ok (.iload_n 2, 1) := by decide +kernel
theorem dJ5_init_a7421_16 : decode cJ5_init_a7421 16 = .ok (.bipush 16, 2) := by decide +kernel
theorem dJ5_init_a7421_18 : decode cJ5_init_a7421 18 = .ok (.iadd, 1) := by decide +kernel
theorem dJ5_init_a7421_19 : decode cJ5_init_a7421 19 = .ok (.goto 5, 3) := by decide +kernel
theorem dJ5_init_a7421_22 : decode cJ5_init_a7421 22 = .ok (.ldc 39, 2) := by decide +kernel
theorem dJ5_init_a7421_24 : decode cJ5_init_a7421 24 = .ok (.istore_n 3, 1) := by decide +kernel
theorem dJ5_init_a7421_25 : decode cJ5_init_a7421 25 = .ok (.aload_n 1, 1) := by decide +kernel
theorem dJ5_init_a7421_26 : decode cJ5_init_a7421 26 = .ok (.invokevirtual 40, 3) := by decide +kernel
theorem dJ5_init_a7421_29 : decode cJ5_init_a7421 29 = .ok (.istore 4, 2) := by decide +kernel
theorem dJ5_init_a7421_31 : decode cJ5_init_a7421 31 = .ok (.aload_n 0, 1) := by decide +kernel
theorem dJ5_init_a7421_32 : decode cJ5_init_a7421 32 = .ok (.iload 4, 2) := by decide +kernel
theorem dJ5_init_a7421_34 : decode cJ5_init_a7421 34 = .ok (.putfield 22, 3) := by decide +kernel
theorem dJ5_init_a7421_37 : decode cJ5_init_a7421 37 = .ok (.aload_n 0, 1) := by decide +kernel
theorem dJ5_init_a7421_38 : decode cJ5_init_a7421 38 = .ok (.iload 4, 2) := by decide +kernel
theorem dJ5_init_a7421_40 : decode cJ5_init_a7421 40 = .ok (.ifCond .ne 9, 3) := by decide +kernel
theorem dJ5_init_a7421_43 : decode cJ5_init_a7421 43 = .ok (.iload_n 3, 1) := by decide +kernel
theorem dJ5_init_a7421_44 : decode cJ5_init_a7421 44 = .ok (.newarray .byte, 2) := by decide +kernel
theorem dJ5_init_a7421_46 : decode cJ5_init_a7421 46 = .ok (.goto 7, 3) := by decide +kernel
theorem dJ5_init_a7421_49 : decode cJ5_init_a7421 49 = .ok (.iload_n 3, 1) := by decide +kernel
theorem dJ5_init_a7421_50 : decode cJ5_init_a7421 50 = .ok (.invokestatic 26, 3) := by decide +kernel
theorem dJ5_init_a7421_53 : decode cJ5_init_a7421 53 = .ok (.putfield 15, 3) := by decide +kernel
theorem dJ5_init_a7421_56 : decode cJ5_init_a7421 56 = .ok (.aload_n 0, 1) := by decide +kernel
theorem dJ5_init_a7421_57 : decode cJ5_init_a7421 57 = .ok (.aload_n 1, 1) := by decide +kernel
theorem dJ5_init_a7421_58 : decode cJ5_init_a7421 58 = .ok (.invokevirtual 43, 3) := by decide +kernel
theorem dJ5_init_a7421_61 : decode cJ5_init_a7421 61 = .ok (.pop, 1) := by decide +kernel
theorem dJ5_init_a7421_62 : decode cJ5_init_a7421 62 = .ok (.return_, 1) := by decide +kernel
theorem dJ4_init_a7421_0 : decode cJ4_init_a7421 0 = .ok (.aload_n 0, 1) := by decide +kernel
theorem dJ4_init_a7421_1 : decode cJ4_init_a7421 1 = .ok (.aload_n 1, 1) := by decide +kernel
theorem dJ4_init_a7421_2 : decode cJ4_init_a7421 2 = .ok (.invokespecial 7, 3) := by decide +kernel
theorem dJ4_init_a7421_5 : decode cJ4_init_a7421 5 = .ok (.return_, 1) := by decide +kernel
theorem dJ0_init_db425_0 : decode cJ0_init_db425 0 = .ok (.aload_n 0, 1) := by decide +kernel
theorem dJ0_init_db425_1 : decode cJ0_init_db425 1 = .ok (.invokespecial 1, 3) := by decide +kernel
theorem dJ0_init_db425_4 : decode cJ0_init_db425 4 = .ok (.aload_n 1, 1) := by decide +kernel
theorem dJ0_init_db425_5 : decode cJ0_init_db425 5 = .ok (.invokevirtual 552, 3) := by decide +kernel
theorem dJ0_init_db425_8 : decode cJ0_init_db425 8 = .ok (.astore_n 3, 1) := by decide +kernel
theorem dJ0_init_db425_9 : decode cJ0_init_db425 9 = .ok (.aload_n 1, 1) := by decide +kernel
theorem dJ0_init_db425_10 : decode cJ0_init_db425 10 = .ok (.invokevirtual 549, 3) := by decide +kernel
theorem dJ0_init_db425_13 : decode cJ0_init_db425 13 = .ok (.istore 4, 2) := by decide +kernel
theorem dJ0_init_db425_15 : decode cJ0_init_db425 15 = .ok (.aload_n 1, 1) := by decide +kernel
theorem dJ0_init_db425_16 : decode cJ0_init_db425 16 = .ok (.invokevirtual 1047, 3) := by decide +kernel
theorem dJ0_init_db425_19 : decode cJ0_init_db425 19 = .ok (.ifCond .eq 22, 3) := by decide +kernel
theorem dJ0_init_db425_22 : decode cJ0_init_db425 22 = .ok (.aload_n 0, 1) := by decide +kernel
theorem dJ0_init_db425_23 : decode cJ0_init_db425 23 = .ok (.iconst 0, 1) := by decide +kernel
theorem dJ0_init_db425_24 : decode cJ0_init_db425 24 = .ok (.putfield 15, 3) := by decide +kernel
theorem dJ0_init_db425_27 : decode cJ0_init_db425 27 = .ok (.aload_n 0, 1) := by decide +kernel
theorem dJ0_init_db425_28 : decode cJ0_init_db425 28 = .ok (.aload_n 3, 1) := by decide +kernel
theorem dJ0_init_db425_29 : decode cJ0_init_db425 29 = .ok (.iconst 0, 1) := by decide +kernel
theorem dJ0_init_db425_30 : decode cJ0_init_db425 30 = .ok (.iload 4, 2) := by decide +kernel
theorem dJ0_init_db425_32 : decode cJ0_init_db425 32 = .ok (.invokestatic 54, 3) := by decide +kernel
theorem dJ0_init_db425_35 : decode cJ0_init_db425 35 = .ok (.putfield 9, 3) := by decide +kernel
theorem dJ0_init_db425_38 : decode cJ0_init_db425 38 = .ok (.goto 59, 3) := by decide +kernel
theorem dJ0_init_db425_41 : decode cJ0_init_db425 41 = .ok (.getstatic 38, 3) := by decide +kernel
theorem dJ0_init_db425_44 : decode cJ0_init_db425 44 = .ok (.ifCond .eq 35, 3) := by decide +kernel
theorem dJ0_init_db425_47 : decode cJ0_init_db425 47 = .ok (.aload_n 1, 1) := by decide +kernel
theorem dJ0_init_db425_48 : decode cJ0_init_db425 48 = .ok (.getfield 1048, 3) := by decide +kernel
theorem dJ0_init_db425_51 : decode cJ0_init_db425 51 = .ok (.ifCond .eq 28, 3) := by decide +kernel
theorem dJ0_init_db425_54 : decode cJ0_init_db425 54 = .ok (.aload_n 0, 1) := by decide +kernel
theorem dJ0_init_db425_55 : decode cJ0_init_db425 55 = .ok (.aload_n 3, 1) := by decide +kernel
theorem dJ0_init_db425_56 : decode cJ0_init_db425 56 = .ok (.iconst 0, 1) := by decide +kernel
theorem dJ0_init_db425_57 : decode cJ0_init_db425 57 = .ok (.iload 4, 2) := by decide +kernel
theorem dJ0_init_db425_59 : decode cJ0_init_db425 59 = .ok (.invokestatic 1051, 3) := by decide +kernel
theorem dJ0_init_db425_62 : decode cJ0_init_db425 62 = .ok (.putfield 9, 3) := by decide +kernel
theorem dJ0_init_db425_65 : decode cJ0_init_db425 65 = .ok (.aload_n 0, 1) := by decide +kernel
theorem dJ0_init_db425_66 : decode cJ0_init_db425 66 = .ok (.aload_n 0, 1) := by decide +kernel
theorem dJ0_init_db425_67 : decode cJ0_init_db425 67 = .ok (.getfield 9, 3) := by decide +kernel
theorem dJ0_init_db425_70 : decode cJ0_init_db425 70 = .ok (.iload 4, 2) := by decide +kernel
theorem dJ0_init_db425_72 : decode cJ0_init_db425 72 = .ok (.invokestatic 47, 3) := by decide +kernel
theorem dJ0_init_db425_75 : decode cJ0_init_db425 75 = .ok (.putfield 15, 3) := by decide +kernel
theorem dJ0_init_db425_78 : decode cJ0_init_db425 78 = .ok (.return_, 1) := by decide +kernel
theorem dJ0_init_db425_79 : decode cJ0_init_db425 79 = .ok (.aload_n 0, 1) := by decide +kernel
theorem dJ0_init_db425_80 : decode cJ0_init_db425 80 = .ok (.iconst 1, 1) := by decide +kernel
theorem dJ0_init_db425_81 : decode cJ0_init_db425 81 = .ok (.putfield 15, 3) := by decide +kernel
theorem dJ0_init_db425_84 : decode cJ0_init_db425 84 = .ok (.aload_n 0, 1) := by decide +kernel
theorem dJ0_init_db425_85 : decode cJ0_init_db425 85 = .ok (.aload_n 3, 1) := by decide +kernel
theorem dJ0_init_db425_86 : decode cJ0_init_db425 86 = .ok (.iconst 0, 1) := by decide +kernel
theorem dJ0_init_db425_87 : decode cJ0_init_db425 87 = .ok (.iload 4, 2) := by decide +kernel
theorem dJ0_init_db425_89 : decode cJ0_init_db425 89 = .ok (.iconst 1, 1) := by decide +kernel
theorem dJ0_init_db425_90 : decode cJ0_init_db425 90 = .ok (.ishl, 1) := by decide +kernel
theorem dJ0_init_db425_91 : decode cJ0_init_db425 91 = .ok (.invokestatic 54, 3) := by decide +kernel
theorem dJ0_init_db425_94 : decode cJ0_init_db425 94 = .ok (.putfield 9, 3) := by decide +kernel
theorem dJ0_init_db425_97 : decode cJ0_init_db425 97 = .ok (.return_, 1) := by decide +kernel
theorem dJ0_init_81219_0 : decode cJ0_init_81219 0 = .ok (.aload_n 0, 1) := by decide +kernel
theorem dJ0_init_81219_1 : decode cJ0_init_81219 1 = .ok (.aload_n 1, 1) := by decide +kernel
theorem dJ0_init_81219_2 : decode cJ0_init_81219 2 = .ok (.aconst_null, 1) := by decide +kernel
theorem dJ0_init_81219_3 : decode cJ0_init_81219 3 = .ok (.invokespecial 489, 3) := by decide +kernel
theorem dJ0_init_81219_6 : decode cJ0_init_81219 6 = .ok (.return_, 1) := by decide +kernel
theorem dJ4_toString_0e30d_0 : decode cJ4_toString_0e30d 0 = .ok (.new 18, 3) := by decide +kernel
theorem dJ4_toString_0e30d_3 : decode cJ4_toString_0e30d 3 = .ok (.dup, 1) := by decide +kernel
theorem dJ4_toString_0e30d_4 : decode cJ4_toString_0e30d 4 = .ok (.aload_n 0, 1) := by decide +kernel
theorem dJ4_toString_0e30d_5 : decode cJ4_toString_0e30d 5 = .ok (.invokespecial 137, 3) := by decide +kernel
theorem dJ4_toString_0e30d_8 : decode cJ4_toString_0e30d 8 = .ok (.areturn, 1) := by decide +kernel
set_option maxRecDepth 20000 in
theorem li_J4_1 : Cond.methodLink RJ4 1 yJ5_init_d00df ∈ AL ∧ Cond.instanceMethod yJ5_init_d00df ∈ AL ∧ Cond.initialized "java/lang/AbstractStringBuilder" ∈ AL := ⟨al_mc al_c4 14 rfl (by decide +kernel), al_mc al_c4 15 rfl (by decide +kernel), al_mc al_c1 19 rfl (by decide +kernel)⟩
set_option maxRecDepth 20000 in
theorem li_J4_7 : Cond.methodLink RJ4 7 yJ5_init_a7421 ∈ AL ∧ Cond.instanceMethod yJ5_init_a7421 ∈ AL ∧ Cond.initialized "java/lang/AbstractStringBuilder" ∈ AL := ⟨al_mc al_c7 31 rfl (by decide +kernel), al_mc al_c7 32 rfl (by decide +kernel), al_mc al_c1 19 rfl (by decide +kernel)⟩
set_option maxRecDepth 20000 in
theorem li_J4_137 : Cond.methodLink RJ4 137 yJ0_init_81219 ∈ AL ∧ Cond.instanceMethod yJ0_init_81219 ∈ AL ∧ Cond.initialized "java/lang/String" ∈ AL := ⟨al_mc al_c4 172 rfl (by decide +kernel), al_mc al_c4 173 rfl (by decide +kernel), al_mc al_c1 12 rfl (by decide +kernel)⟩
set_option maxRecDepth 20000 in
theorem li_J0_489 : Cond.methodLink RJ0 489 yJ0_init_db425 ∈ AL ∧ Cond.instanceMethod yJ0_init_db425 ∈ AL ∧ Cond.initialized "java/lang/String" ∈ AL := ⟨al_mc al_c4 175 rfl (by decide +kernel), al_mc al_c4 176 rfl (by decide +kernel), al_mc al_c1 12 rfl (by decide +kernel)⟩
set_option maxRecDepth 20000 in
theorem lo_J5_3 : Cond.methodLink RJ5 3 Lib.objectInit ∈ AL ∧ Cond.instanceMethod Lib.objectInit ∈ AL ∧ Cond.code Lib.objectInit ⟨#[0xb1]⟩ 1 none ∈ AL := ⟨al_mc al_c4 17 rfl (by decide +kernel), al_mc al_c1 40 rfl (by decide +kernel), al_mc al_c1 41 rfl (by decide +kernel)⟩
set_option maxRecDepth 20000 in
theorem lo_J0_1 : Cond.methodLink RJ0 1 Lib.objectInit ∈ AL ∧ Cond.instanceMethod Lib.objectInit ∈ AL ∧ Cond.code Lib.objectInit ⟨#[0xb1]⟩ 1 none ∈ AL := ⟨al_mc al_c4 178 rfl (by decide +kernel), al_mc al_c1 40 rfl (by decide +kernel), al_mc al_c1 41 rfl (by decide +kernel)⟩
set_option maxRecDepth 20000 in
theorem gs_J5_18x : Cond.fieldLink RJ5 18 "java/lang/String" "COMPACT_STRINGS" "Z" ∈ AL := al_mc al_c4 18 rfl (by decide +kernel)
set_option maxRecDepth 20000 in
theorem lO_J5_43 : lkO RJ5 43 yJ5_append_cf1ce yJ4_append_cf1ce := ⟨al_mc al_c7 35 rfl (by decide +kernel), al_mc al_c7 70 rfl (by decide +kernel), al_mc al_c4 50 rfl (by decide +kernel), al_mc al_c7 79 rfl (by decide +kernel), al_mc al_c7 36 rfl (by decide +kernel), al_mc al_c1 20 rfl (by decide +kernel)⟩
set_option maxRecDepth 20000 in
theorem lO_J0_549 : lkO RJ0 549 yJ5_length_8abf5 yJ4_length_8abf5 := ⟨al_mc al_c4 184 rfl (by decide +kernel), al_mc al_c4 186 rfl (by decide +kernel), al_mc al_c4 185 rfl (by decide +kernel), al_mc al_c4 187 rfl (by decide +kernel), al_mc al_c4 188 rfl (by decide +kernel), al_mc al_c1 20 rfl (by decide +kernel)⟩
set_option maxRecDepth 20000 in
theorem nw_J4_18 : Cond.classLink RJ4 18 (Rc 11) ∈ AL ∧ Cond.instantiable (Rc 11) (Nc 11) ∈ AL ∧ Cond.initialized (Rc 11) ∈ AL := ⟨al_mc al_c4 170 rfl (by decide +kernel), al_mc al_c4 171 rfl (by decide +kernel), al_mc al_c1 12 rfl (by decide +kernel)⟩
set_option maxRecDepth 20000 in
theorem lu_J0_1047 : lkU RJ0 1047 yJ5_isLatin1_aae02 := ⟨al_mc al_c4 192 rfl (by decide +kernel), al_mc al_c4 87 rfl (by decide +kernel), al_mc al_c4 88 rfl (by decide +kernel), al_mc al_c4 86 rfl (by decide +kernel), al_mc al_c1 19 rfl (by decide +kernel), rfl⟩
set_option maxRecDepth 20000 in
theorem lu_J0_552 : lkU RJ0 552 yJ5_getValue_6d5f1 := ⟨al_mc al_c4 179 rfl (by decide +kernel), al_mc al_c4 181 rfl (by decide +kernel), al_mc al_c4 182 rfl (by decide +kernel), al_mc al_c4 180 rfl (by decide +kernel), al_mc al_c1 19 rfl (by decide +kernel), rfl⟩
theorem nrf_b {wv : Wv} {z : Nat} : nrf (shN SH (24, z, 0)) (allR wv ++ [(24, z, 0)]) (25, z, 0) := by
  intro x hx j hj h
  by_cases e : x = (24, z, 0)
  · rw [show shN SH (24, z, 0) x j = none from if_pos e] at h; cases h
  · rw [show shN SH (24, z, 0) x j = SH x j from if_neg e] at h
    exact e (sh_25 h).1
def fJ5_init_d00df (M : Mm) (z : Nat) (x : Int32) (B : Nat) : Option Mm := if ¬ x < 0 ∧ x.toNatClampNeg ≤ B then some (putI (nB M (25, z, 0) x) (24, z, 0) 1 0) else none
set_option maxRecDepth 20000 in
set_option maxHeartbeats 2000000 in
theorem sJ5_init_d00df {wv : Wv} (M : Mm) (z : Nat) (x : Int32) (B : Nat) (hB : B ≤ LG) (hA : (wv.1 ++ [(24, z, 0), (25, z, 0)]).Nodup ∧ clo [(24, z, 0), (25, z, 0)]) {res : Mm} (h : fJ5_init_d00df M z x B = some res) :
    TG yJ5_init_d00df cJ5_init_d00df 2 none 1 1 B [(25, z, 0)] (allR wv ++ [(24, z, 0)]) (shN SH (24, z, 0)) [.inr (24, z, 0), .inl (.int x)] M none (allR (wvA wv [(24, z, 0), (25, z, 0)] hA)) SH res := by
  rw [fJ5_init_d00df] at h
  obtain ⟨hc, h⟩ := chk2 h
  obtain rfl := Option.some.inj h
  obtain ⟨n1, n2, n3, -⟩ := nd2 hA.1
  refine TG.go (n := 0) (ls := [some (.inr (24, z, 0)), some (.inl (.int x))]) (by decide +kernel) rfl rfl rfl rfl ?_
  refine z_aload_n (i := 0) dJ5_init_d00df_0 rfl rfl ?_
  refine z_objI dJ5_init_d00df_1 lo_J5_3 (Nat.le_of_ble_eq_true rfl) (Nat.le_of_ble_eq_true rfl) ?_
  refine z_scom dJ5_init_d00df_4 gs_J5_18x ?_
  refine z_if_eq (tgt := 25) dJ5_init_d00df_7 rfl (fun hc => absurd hc (by decide)) (fun _ => ?_)
  refine z_aload_n (i := 0) dJ5_init_d00df_10 rfl rfl ?_
  refine z_iload_n (i := 1) dJ5_init_d00df_11 rfl rfl ?_
  refine z_newBG (B := B) (r := (25, z, 0)) n1 n2 nrf_b rfl dJ5_init_d00df_12 (by show 25 < 30; decide) hc.1 hc.2 hB (qi_G (by simp)) rfl rfl (by show _ ≤ 1; omega) (by show _ ≤ B; omega) ?_
  refine z_putRv n3 dJ5_init_d00df_14 fl_J5_15 (by simp) rfl rfl (fun _ => rfl) (fun _ => rfl) ?_
  refine z_aload_n (i := 0) dJ5_init_d00df_17 rfl rfl ?_
  refine z_iconst (v := (0 : Int32)) dJ5_init_d00df_18 kc_0 ?_
  refine z_putX n3 dJ5_init_d00df_19 fl_J5_22 (by simp) rfl rfl rfl rfl ?_
  refine z_goto (tgt := 38) dJ5_init_d00df_22 rfl ?_
  refine z_gvret dJ5_init_d00df_38 rfl (by omega) (by omega) ⟨fun x hx => m2i hx, fun x hx => ⟨fun j hj => ?_, fun _ => rfl, fun _ => rfl⟩⟩
  exact (sh_mk rfl rfl rfl (fun x h1 h2 j => by rw [show shN (shN SH (24, z, 0)) (25, z, 0) x j = shN SH (24, z, 0) x j from if_neg h2]; exact if_neg h1) hj).symm
def fJ4_init (M : Mm) (z : Nat) : Mm := putI (nB M (25, z, 0) 16) (24, z, 0) 1 0
set_option maxRecDepth 20000 in
set_option maxHeartbeats 2000000 in
theorem sJ4_init_da8c8 {wv : Wv} (M : Mm) (z : Nat) (hA : (wv.1 ++ [(24, z, 0), (25, z, 0)]).Nodup ∧ clo [(24, z, 0), (25, z, 0)]) :
    TG yJ4_init_da8c8 cJ4_init_da8c8 1 none 2 1 16 [(25, z, 0)] (allR wv ++ [(24, z, 0)]) (shN SH (24, z, 0)) [.inr (24, z, 0)] M none (allR (wvA wv [(24, z, 0), (25, z, 0)] hA)) SH (fJ4_init M z) := by
  refine TG.go (n := 0) (ls := [some (.inr (24, z, 0))]) (by decide +kernel) rfl rfl rfl rfl ?_
  refine z_aload_n (i := 0) dJ4_init_da8c8_0 rfl rfl ?_
  refine z_bipush (v := (16 : Int32)) dJ4_init_da8c8_1 kb_16 ?_
  refine z_cGI (sJ5_init_d00df M z 16 16 (by decide) hA (if_pos (by decide))) dJ4_init_da8c8_3 li_J4_1 cd_J5_init_d00df rfl rfl rfl (rq_o (by decide) (by decide) (by decide) (by decide)) rfl rfl (qi_G (by simp)) rfl rfl rfl ?_
  exact z_gvret dJ4_init_da8c8_6 rfl (by decide) (by decide) same_rf
/-- a builder that begins with a constant -/
def fJ5_init_K (M : Mm) (z j B : Nat) : Option Mm := if ¬ (slen j + 16) < 0 ∧ (slen j + 16).toNatClampNeg ≤ B then fJ4_append_cf1ceK (nB (putI M (24, z, 0) 1 0) (25, z, 0) (slen j + 16)) z j B else none
theorem sl_b : ∀ j, j < 15 → ¬ (2147483631 : Int32) ≤ slen j := by decide +kernel
theorem frm_1 {wv : Wv} {a : Rf} (ha : a ∉ allR wv) (M : Mm) : Frm [] (allR wv) (allR wv) [a] (allR wv ++ [a]) SH SH (shN SH a) (shN SH a) M M := by
  have hne : ∀ x ∈ allR wv, x ≠ a := fun x hx e => ha (e ▸ hx)
  exact ⟨fun x hx => List.mem_append_left _ hx, fun y hy => ⟨List.mem_append_right _ hy, fun h => ha (List.mem_singleton.mp hy ▸ h), List.not_mem_nil⟩, fun x hx j _ => (if_neg (hne x hx)).symm, fun x hx j _ => if_neg (hne x hx), fun y hy j _ => ⟨rfl, fun z _ => List.not_mem_nil⟩, fun y hy => ⟨fun _ => rfl, fun _ => rfl⟩⟩
set_option maxRecDepth 20000 in
set_option maxHeartbeats 2000000 in
theorem sJ5_init_K {wv : Wv} (M : Mm) (z j B : Nat) (hj : j < 15) (hB : B ≤ LG) (hA : (wv.1 ++ [(24, z, 0), (25, z, 0)]).Nodup ∧ clo [(24, z, 0), (25, z, 0)]) (hf : FrI wv [(27, 0, 0)]) {res : Mm} (h : fJ5_init_K M z j B = some res) :
    TG yJ5_init_a7421 cJ5_init_a7421 5 none 10 2 (2 * B) [(25, z, 0), (27, 0, 0)] (allR wv ++ [(24, z, 0)]) (shN SH (24, z, 0)) [.inr (24, z, 0), .inr (30, j, 0)] M none (allR (wvA wv [(24, z, 0), (25, z, 0)] hA)) SH res := by
  rw [fJ5_init_K] at h
  obtain ⟨hc, h⟩ := chk2 h
  obtain ⟨n1, n2, n3, n4, -⟩ := nd2 hA.1
  refine TG.go (n := 3) (ls := [some (.inr (24, z, 0)), some (.inr (30, j, 0)), none, none, none]) (by decide +kernel) rfl rfl rfl rfl ?_
  refine z_aload_n (i := 0) dJ5_init_a7421_0 rfl rfl ?_
  refine z_objI dJ5_init_a7421_1 lo_J5_3 (Nat.le_of_ble_eq_true rfl) (Nat.le_of_ble_eq_true rfl) ?_
  refine z_aload_n (i := 1) dJ5_init_a7421_4 rfl rfl ?_
  refine z_fGT (tg_of (S_length M j hj)) (frm_1 n4 M) dJ5_init_a7421_5 ml_J5_32 cd_J0_length_8abf5 hj rfl rfl (rq_o (by decide) (by decide) (by omega) (by omega)) rfl rfl qi_nil rfl rfl rfl ?_
  refine z_istore_n (i := 2) dJ5_init_a7421_8 rfl (Nat.le_of_ble_eq_true rfl) rfl ?_
  refine z_iload_n (i := 2) dJ5_init_a7421_9 rfl rfl ?_
  refine z_ldc (v := (2147483631 : Int32)) dJ5_init_a7421_10 (al_mem 1477 (by decide +kernel) rfl) ?_
  refine z_icmp_ge (tgt := 22) dJ5_init_a7421_12 rfl (fun h => absurd h (sl_b j hj)) (fun _ => ?_)
  refine z_iload_n (i := 2) dJ5_init_a7421_15 rfl rfl ?_
  refine z_bipush (v := (16 : Int32)) dJ5_init_a7421_16 kb_16 ?_
  refine z_iadd dJ5_init_a7421_18 ?_
  refine z_goto (tgt := 24) dJ5_init_a7421_19 rfl ?_
  refine z_istore_n (i := 3) dJ5_init_a7421_24 rfl (Nat.le_of_ble_eq_true rfl) rfl ?_
  refine z_aload_n (i := 1) dJ5_init_a7421_25 rfl rfl ?_
  refine z_fGT (tg_of (S_coder M j hj)) (frm_1 n4 M) dJ5_init_a7421_26 ml_J5_40 cd_J0_coder_7d493 hj rfl rfl (rq_o (by decide) (by decide) (by omega) (by omega)) rfl rfl qi_nil rfl rfl rfl ?_
  refine z_istore (i := 4) dJ5_init_a7421_29 (Nat.le_of_ble_eq_true rfl) rfl ?_
  refine z_aload_n (i := 0) dJ5_init_a7421_31 rfl rfl ?_
  refine z_iload (i := 4) dJ5_init_a7421_32 rfl ?_
  refine z_putX n1 dJ5_init_a7421_34 fl_J5_22 (by simp) rfl rfl rfl rfl ?_
  refine z_aload_n (i := 0) dJ5_init_a7421_37 rfl rfl ?_
  refine z_iload (i := 4) dJ5_init_a7421_38 rfl ?_
  refine z_if_ne (tgt := 49) dJ5_init_a7421_40 rfl (fun h => absurd rfl h) (fun _ => ?_)
  refine z_iload_n (i := 3) dJ5_init_a7421_43 rfl rfl ?_
  refine z_newBG (B := B) (r := (25, z, 0)) n1 n2 nrf_b rfl dJ5_init_a7421_44 (by show 25 < 30; decide) hc.1 hc.2 hB (qi_G (by simp)) rfl rfl (by show _ ≤ 2; omega) (by show _ ≤ 2 * B; omega) ?_
  refine z_goto (tgt := 53) dJ5_init_a7421_46 rfl ?_
  refine z_putRv n3 dJ5_init_a7421_53 fl_J5_15 (by simp) rfl rfl (fun _ => rfl) (fun _ => rfl) ?_
  refine z_cv (sh' := SH) (M' := nB (putI M (24, z, 0) 1 0) (25, z, 0) (slen j + 16)) (fun x hx => ⟨fun j hj => ?_, fun _ => rfl, fun _ => rfl⟩) ?_
  · exact (sh_mk rfl rfl rfl (fun x h1 h2 j => by rw [show shN (shN SH (24, z, 0)) (25, z, 0) x j = shN SH (24, z, 0) x j from if_neg h2]; exact if_neg h1) hj).symm
  refine z_perm (rs' := allR (wvA wv [(24, z, 0), (25, z, 0)] hA)) (fun r => m2o) ?_
  have hf2 : FrI (wvA wv [(24, z, 0), (25, z, 0)] hA) [(27, 0, 0)] := frU hf (by simp)
  refine z_aload_n (i := 0) dJ5_init_a7421_56 rfl rfl ?_
  refine z_aload_n (i := 1) dJ5_init_a7421_57 rfl rfl ?_
  refine z_cGO (sJ4_append_cf1ceK _ z j B tb0 hj hB hf2 h) dJ5_init_a7421_58 lO_J5_43 cd_J4_append_cf1ce tb0.1 rfl cd_J5_append_cf1ce rfl (rq_o (by decide) (by decide) (by omega) (by omega)) rfl rfl (qi_G (by simp)) rfl rfl rfl ?_
  refine z_pop dJ5_init_a7421_61 rfl ?_
  exact z_gvret dJ5_init_a7421_62 rfl (by omega) (by omega) same_rf
set_option maxRecDepth 20000 in
set_option maxHeartbeats 2000000 in
theorem sJ4_init_K {wv : Wv} (M : Mm) (z j B : Nat) (hj : j < 15) (hB : B ≤ LG) (hA : (wv.1 ++ [(24, z, 0), (25, z, 0)]).Nodup ∧ clo [(24, z, 0), (25, z, 0)]) (hf : FrI wv [(27, 0, 0)]) {res : Mm} (h : fJ5_init_K M z j B = some res) :
    TG yJ4_init_a7421 cJ4_init_a7421 2 none 11 2 (2 * B) [(25, z, 0), (27, 0, 0)] (allR wv ++ [(24, z, 0)]) (shN SH (24, z, 0)) [.inr (24, z, 0), .inr (30, j, 0)] M none (allR (wvA wv [(24, z, 0), (25, z, 0)] hA)) SH res := by
  refine TG.go (n := 0) (ls := [some (.inr (24, z, 0)), some (.inr (30, j, 0))]) (by decide +kernel) rfl rfl rfl rfl ?_
  refine z_aload_n (i := 0) dJ4_init_a7421_0 rfl rfl ?_
  refine z_aload_n (i := 1) dJ4_init_a7421_1 rfl rfl ?_
  refine z_cGI (sJ5_init_K M z j B hj hB hA hf h) dJ4_init_a7421_2 li_J4_7 cd_J5_init_a7421 rfl rfl rfl (rq_o (by decide) (by decide) (by omega) (by omega)) rfl rfl (qi_G (by simp)) rfl rfl rfl ?_
  exact z_gvret dJ4_init_a7421_5 rfl (by omega) (by omega) same_rf
/-! a String out of a builder -/
theorem cor_o {M : Mm} {z B y : Nat} {x : Int32} {res : Mm} (h : fJ7_copyOfRange_39247 M z x B y = some res) : ∀ r, r ≠ (29, y, 0) → (∀ j, res.1 r j = M.1 r j) ∧ ∀ j, res.2 r j = M.2 r j := by
  intro r hr
  rw [fJ7_copyOfRange_39247] at h
  obtain ⟨-, h⟩ := chk2 h
  by_cases hx : x = M.1 (25, z, 0) LG
  · rw [if_pos hx] at h
    obtain ⟨-, h⟩ := chk2 h
    obtain rfl := Option.some.inj h
    exact ⟨fun j => if_neg hr, fun j => if_neg hr⟩
  · rw [if_neg hx] at h
    obtain ⟨q, g1, g2⟩ := bnd h
    have g3 : q = res := Option.some.inj g2
    rw [g3, fJ7_copyOfRangeByte_39247] at g1
    obtain ⟨q1, -, g4⟩ := bnd g1
    obtain ⟨-, g5⟩ := chk2 g4
    obtain ⟨-, g6⟩ := chk2 g5
    obtain ⟨-, g7⟩ := chk2 g6
    rw [← Option.some.inj g7]
    have h3 := nB_o (M := M) (n := x - 0) r hr
    exact ⟨fun j => (if_neg (fun c => hr c.1)).trans (congrFun h3.1 j), fun j => congrFun h3.2 j⟩
def fJ0_init (M : Mm) (z y B : Nat) : Option Mm := (fJ4_length_8abf5 M z).bind fun q1 => (fJ5_isLatin1_aae02 M z).bind fun q2 => if q2 = 0 then none else fJ7_copyOfRange_39247 (putI M (28, y, 0) 1 0) z q1 B y
theorem m2s {wv : Wv} {a b x : Rf} {hA : (wv.1 ++ [a, b]).Nodup ∧ clo [a, b]} {hB : (wv.1 ++ [b]).Nodup ∧ clo [b]} (h : x ∈ allR (wvA wv [a, b] hA)) : x ∈ allR (wvA wv [b] hB) ++ [a] := by
  have : x ∈ wv.1 ++ [a, b] := h
  show x ∈ (wv.1 ++ [b]) ++ [a]
  simp at this ⊢
  rcases this with h | h | h
  · exact Or.inl h
  · exact Or.inr (Or.inr h)
  · exact Or.inr (Or.inl h)
set_option maxRecDepth 20000 in
set_option maxHeartbeats 2000000 in
theorem sJ0_init_db425 {wv : Wv} (M : Mm) (z y B : Nat) (hz : TbI wv z) (hB : B ≤ LG) (hA : (wv.1 ++ [(28, y, 0), (29, y, 0)]).Nodup ∧ clo [(28, y, 0), (29, y, 0)]) {res : Mm} (h : fJ0_init M z y B = some res) :
    TG yJ0_init_db425 cJ0_init_db425 5 none 4 1 B [(29, y, 0)] (allR wv ++ [(28, y, 0)]) (shN SH (28, y, 0)) [.inr (28, y, 0), .inr (24, z, 0), .inl .null] M none (allR (wvA wv [(28, y, 0), (29, y, 0)] hA)) SH res := by
  rw [fJ0_init] at h
  obtain ⟨q1, hq1, h⟩ := bnd h
  obtain ⟨q2, hq2, h⟩ := bnd h
  obtain ⟨hq, h⟩ := chk h
  obtain ⟨n1, n2, n3, n4, n5, n6⟩ := nd2 hA.1
  have hz1 : ((24, z, 0) : Rf) ∈ allR wv ++ [((28, y, 0) : Rf)] := List.mem_append_left _ hz.1
  have hf29 : FrI wv [(29, y, 0)] := fun r hr => by rw [List.mem_singleton.mp hr]; exact n5
  have hA2 : (wv.1 ++ [((29, y, 0) : Rf)]).Nodup ∧ clo [(29, y, 0)] := nd_clo hf29 rfl
  refine TG.go (n := 2) (ls := [some (.inr (28, y, 0)), some (.inr (24, z, 0)), some (.inl .null), none, none]) (by decide +kernel) rfl rfl rfl rfl ?_
  refine z_aload_n (i := 0) dJ0_init_db425_0 rfl rfl ?_
  refine z_objI dJ0_init_db425_1 lo_J0_1 (Nat.le_of_ble_eq_true rfl) (Nat.le_of_ble_eq_true rfl) ?_
  refine z_aload_n (i := 1) dJ0_init_db425_4 rfl rfl ?_
  refine z_fGU (sJ5_getValue_6d5f1 M z hz rfl) (frm_1 n4 M) dJ0_init_db425_5 lu_J0_552 cd_J5_getValue_6d5f1 hz1 rfl rfl (rq_o (by decide) (by decide) (by omega) (by omega)) rfl rfl qi_nil rfl rfl rfl ?_
  refine z_astore_n (i := 3) dJ0_init_db425_8 rfl (Nat.le_of_ble_eq_true rfl) rfl ?_
  refine z_aload_n (i := 1) dJ0_init_db425_9 rfl rfl ?_
  refine z_fGO (tg_of (sJ4_length_8abf5 M z hz hq1)) (frm_1 n4 M) dJ0_init_db425_10 lO_J0_549 cd_J4_length_8abf5 hz1 rfl cd_J5_length_8abf5 rfl (rq_o (by decide) (by decide) (by omega) (by omega)) rfl rfl qi_nil rfl rfl rfl ?_
  refine z_istore (i := 4) dJ0_init_db425_13 (Nat.le_of_ble_eq_true rfl) rfl ?_
  refine z_aload_n (i := 1) dJ0_init_db425_15 rfl rfl ?_
  refine z_fGU (tg_of (sJ5_isLatin1_aae02 M z hz hq2)) (frm_1 n4 M) dJ0_init_db425_16 lu_J0_1047 cd_J5_isLatin1_aae02 hz1 rfl rfl (rq_o (by decide) (by decide) (by omega) (by omega)) rfl rfl qi_nil rfl rfl rfl ?_
  refine z_if_eq (tgt := 41) dJ0_init_db425_19 rfl (fun hc => absurd hc hq) (fun _ => ?_)
  refine z_aload_n (i := 0) dJ0_init_db425_22 rfl rfl ?_
  refine z_iconst (v := (0 : Int32)) dJ0_init_db425_23 kc_0 ?_
  refine z_putXF n1 dJ0_init_db425_24 fl_J0_15 (by simp) rfl rfl rfl rfl rfl rfl ?_
  refine z_aload_n (i := 0) dJ0_init_db425_27 rfl rfl ?_
  refine z_aload_n (i := 3) dJ0_init_db425_28 rfl rfl ?_
  refine z_iconst (v := (0 : Int32)) dJ0_init_db425_29 kc_0 ?_
  refine z_iload (i := 4) dJ0_init_db425_30 rfl ?_
  have hne : ∀ x ∈ allR wv, x ≠ (28, y, 0) := fun x hx e => n4 (e ▸ hx)
  have hFr : Frm [(29, y, 0)] (allR wv) (allR (wvA wv [(29, y, 0)] hA2)) [(28, y, 0)] (allR wv ++ [(28, y, 0)]) SH SH (shN SH (28, y, 0)) (shN SH (28, y, 0)) (putI M (28, y, 0) 1 0) res := by
    refine ⟨fun x hx => List.mem_append_left _ hx, fun w hw => ?_, fun x hx j _ => (if_neg (hne x hx)).symm, fun x hx j _ => ?_, fun w hw j _ => ⟨rfl, fun z hz => ?_⟩, fun w hw => ?_⟩
    · rw [List.mem_singleton.mp hw]
      exact ⟨List.mem_append_right _ List.mem_cons_self, n4, by simp⟩
    · refine if_neg (fun e => ?_)
      rcases List.mem_append.mp (show x ∈ wv.1 ++ [(29, y, 0)] from hx) with h | h
      · exact hne x h e
      · rw [List.mem_singleton.mp h] at e; simp at e
    · rw [List.mem_singleton.mp hw, show shN SH (28, y, 0) (28, y, 0) j = none from if_pos rfl] at hz
      cases hz
    · rw [List.mem_singleton.mp hw]
      exact cor_o h _ (by simp)
  refine z_fGS (sJ7_copyOfRange_39247 (putI M (28, y, 0) 1 0) z q1 B y hz hB hA2 hf29 h) hFr dJ0_init_db425_32 ml_J0_54 cd_J7_copyOfRange_39247 rfl rfl (rq_o (by decide) (by decide) (by omega) (by omega)) rfl rfl (qi_G (by simp)) rfl rfl rfl ?_
  have n7 : (allR (wvA wv [(29, y, 0)] hA2) ++ [((28, y, 0) : Rf)]).Nodup := by
    show ((wv.1 ++ [((29, y, 0) : Rf)]) ++ [(28, y, 0)]).Nodup
    refine List.nodup_append.mpr ⟨hA2.1, by simp, fun a ha b hb e => ?_⟩
    rw [List.mem_singleton.mp hb] at e
    rcases List.mem_append.mp ha with h | h
    · exact hne a h e
    · rw [List.mem_singleton.mp h] at e; simp at e
  refine z_putR n7 dJ0_init_db425_35 fl_J0_9 (by simp) rfl rfl rfl rfl (fun _ => rfl) (fun _ => rfl) ?_
  refine z_goto (tgt := 97) dJ0_init_db425_38 rfl ?_
  refine z_gvret dJ0_init_db425_97 rfl (by omega) (by omega) ⟨fun x hx => m2s hx, fun x hx => ⟨fun j hj => ?_, fun _ => rfl, fun _ => rfl⟩⟩
  exact (sh_mk rfl rfl rfl (fun x h1 h2 j => if_neg h1) hj).symm
set_option maxRecDepth 20000 in
set_option maxHeartbeats 2000000 in
theorem sJ0_init_81219 {wv : Wv} (M : Mm) (z y B : Nat) (hz : TbI wv z) (hB : B ≤ LG) (hA : (wv.1 ++ [(28, y, 0), (29, y, 0)]).Nodup ∧ clo [(28, y, 0), (29, y, 0)]) {res : Mm} (h : fJ0_init M z y B = some res) :
    TG yJ0_init_81219 cJ0_init_81219 2 none 5 1 B [(29, y, 0)] (allR wv ++ [(28, y, 0)]) (shN SH (28, y, 0)) [.inr (28, y, 0), .inr (24, z, 0)] M none (allR (wvA wv [(28, y, 0), (29, y, 0)] hA)) SH res := by
  refine TG.go (n := 0) (ls := [some (.inr (28, y, 0)), some (.inr (24, z, 0))]) (by decide +kernel) rfl rfl rfl rfl ?_
  refine z_aload_n (i := 0) dJ0_init_81219_0 rfl rfl ?_
  refine z_aload_n (i := 1) dJ0_init_81219_1 rfl rfl ?_
  refine z_anull dJ0_init_81219_2 ?_
  refine z_cGI (sJ0_init_db425 M z y B hz hB hA h) dJ0_init_81219_3 li_J0_489 cd_J0_init_db425 rfl rfl rfl (rq_o (by decide) (by decide) (by omega) (by omega)) rfl rfl (qi_G (by simp)) rfl rfl rfl ?_
  exact z_gvret dJ0_init_81219_6 rfl (by omega) (by omega) same_rf
def fJ4_toString (M : Mm) (z y B : Nat) : Option Mm := fJ0_init (mN M (28, y, 0)) z y B
theorem df_11 : ∀ j, j < Nc 11 → defaultValue (tyc 11 j) = vp_V (([true, false, false, false] : List Bool).map fun b => if b = true then .null else .int 0) j := by
  intro j hj
  match j, hj with
  | 0, _ => rfl
  | 1, _ => rfl
  | 2, _ => rfl
  | 3, _ => rfl
theorem df_12 : ∀ j, j < Nc 12 → defaultValue (tyc 12 j) = vp_V (([true, false, false, false] : List Bool).map fun b => if b = true then .null else .int 0) j := by
  intro j hj
  match j, hj with
  | 0, _ => rfl
  | 1, _ => rfl
  | 2, _ => rfl
  | 3, _ => rfl
set_option maxRecDepth 20000 in
set_option maxHeartbeats 2000000 in
theorem sJ4_toString {wv : Wv} (M : Mm) (z y B : Nat) (hz : TbI wv z) (hB : B ≤ LG) (hA : (wv.1 ++ [(28, y, 0), (29, y, 0)]).Nodup ∧ clo [(28, y, 0), (29, y, 0)]) {res : Mm} (h : fJ4_toString M z y B = some res) :
    TG yJ4_toString_0e30d cJ4_toString_0e30d 1 (some (.object "java/lang/String")) 6 2 (4 + B) [(28, y, 0), (29, y, 0)] (allR wv) SH [.inr (24, z, 0)] M (some (.inr (28, y, 0))) (allR (wvA wv [(28, y, 0), (29, y, 0)] hA)) SH res := by
  obtain ⟨n1, n2, n3, n4, n5, n6⟩ := nd2 hA.1
  refine TG.go (n := 0) (ls := [some (.inr (24, z, 0))]) (by decide +kernel) rfl rfl rfl rfl ?_
  refine z_newF (ci := 11) (r := (28, y, 0)) allR_nd n4 (by show 28 < 30; decide) dJ4_toString_0e30d_0 nw_J4_18 rfl (by decide) df_11 (nrf_of wv.2.2.2 n4) (qa_I (qi_G (S := [(28, y, 0)]) (by simp)) (by simp)) (noC_f (chg := [(28, y, 0)]) (by simp) rfl) (noS_f (chg := [(28, y, 0)]) (by simp) rfl) (by show _ ≤ 2; omega) (by show _ ≤ 4 + B; show 0 + 4 ≤ 4 + B; omega) ?_
  refine z_dup dJ4_toString_0e30d_3 rfl ?_
  refine z_aload_n (i := 0) dJ4_toString_0e30d_4 rfl rfl ?_
  refine z_cGI (sJ0_init_81219 _ z y B hz hB hA h) dJ4_toString_0e30d_5 li_J4_137 cd_J0_init_81219 rfl rfl rfl (rq_o (by decide) (by decide) (by show 0 + 1 + 1 ≤ 2; omega) (by show 0 + 4 + B ≤ 4 + B; omega)) rfl rfl (qi_G (by simp)) rfl rfl rfl ?_
  exact z_garet dJ4_toString_0e30d_8 rfl (Or.inl ⟨_, rfl⟩) (by show 0 + 1 + 1 ≤ 2; omega) (by show 0 + 4 + B ≤ 4 + B; omega) same_rf

