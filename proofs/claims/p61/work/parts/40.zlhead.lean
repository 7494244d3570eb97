theorem kb_m99 : (Int8.ofInt (-99)).toInt32 = (-99 : Int32) := by decide
theorem kb_13 : (Int8.ofInt (13)).toInt32 = (13 : Int32) := by decide
theorem kb_21 : (Int8.ofInt (21)).toInt32 = (21 : Int32) := by decide
theorem kb_28 : (Int8.ofInt (28)).toInt32 = (28 : Int32) := by decide
theorem kb_30 : (Int8.ofInt (30)).toInt32 = (30 : Int32) := by decide
theorem kb_40 : (Int8.ofInt (40)).toInt32 = (40 : Int32) := by decide
theorem kb_41 : (Int8.ofInt (41)).toInt32 = (41 : Int32) := by decide
theorem kb_42 : (Int8.ofInt (42)).toInt32 = (42 : Int32) := by decide
theorem kb_6 : (Int8.ofInt (6)).toInt32 = (6 : Int32) := by decide
theorem kb_61 : (Int8.ofInt (61)).toInt32 = (61 : Int32) := by decide
theorem kb_91 : (Int8.ofInt (91)).toInt32 = (91 : Int32) := by decide
theorem kc_20 : Int32.ofInt (20) = (20 : Int32) := by decide
theorem ks_10000 : (Int16.ofInt (10000)).toInt32 = (10000 : Int32) := by decide
theorem ks_990 : (Int16.ofInt (990)).toInt32 = (990 : Int32) := by decide
theorem sw_RL_132 : (RL, 132, " ", 7) ∈ stt := by decide +kernel
theorem sw_RL_134 : (RL, 134, "", 8) ∈ stt := by decide +kernel
theorem sw_RL_139 : (RL, 139, "x", 9) ∈ stt := by decide +kernel
theorem sw_RL_336 : (RL, 336, "box ", 11) ∈ stt := by decide +kernel
theorem sw_RL_344 : (RL, 344, "tooth ", 12) ∈ stt := by decide +kernel
theorem sw_RL_346 : (RL, 346, "pin ", 13) ∈ stt := by decide +kernel
set_option maxRecDepth 20000 in
theorem nw_L_48 : Cond.classLink RL 48 (Rc 12) ∈ AL ∧ Cond.instantiable (Rc 12) (Nc 12) ∈ AL ∧ Cond.initialized (Rc 12) ∈ AL := ⟨al_mc al_c4 9 rfl (by decide +kernel), al_mc al_c4 10 rfl (by decide +kernel), al_mc al_c1 20 rfl (by decide +kernel)⟩
set_option maxRecDepth 20000 in
theorem li_L_50 : Cond.methodLink RL 50 yJ4_init_da8c8 ∈ AL ∧ Cond.instanceMethod yJ4_init_da8c8 ∈ AL ∧ Cond.initialized yJ4_init_da8c8.cls ∈ AL := ⟨al_mc al_c4 11 rfl (by decide +kernel), al_mc al_c4 12 rfl (by decide +kernel), al_mc al_c1 20 rfl (by decide +kernel)⟩
set_option maxRecDepth 20000 in
theorem li_L_338 : Cond.methodLink RL 338 yJ4_init_a7421 ∈ AL ∧ Cond.instanceMethod yJ4_init_a7421 ∈ AL ∧ Cond.initialized yJ4_init_a7421.cls ∈ AL := ⟨al_mc al_c7 28 rfl (by decide +kernel), al_mc al_c7 29 rfl (by decide +kernel), al_mc al_c1 20 rfl (by decide +kernel)⟩
/-! builders in the law's methods -/
def nSB (M : Mm) (z : Nat) : Mm := fJ4_init (mN M (24, z, 0)) z
theorem noC_m {chg c2 : List Rf} {ls : List (Option MV)} (h : (c2.all fun r => chg.contains r) = true) (hls : noC chg ls = true) : noC c2 ls = true := by
  unfold noC at *
  rw [List.all_eq_true] at *
  intro o ho
  have h1 := hls o ho
  match o, h1 with
  | none, _ => rfl
  | some (.inl _), _ => rfl
  | some (.inr r), h1 =>
    have h1 : (!chg.contains r) = true := h1
    show (!c2.contains r) = true
    cases hc : c2.contains r with
    | false => rfl
    | true =>
      have := h r (by simpa using hc)
      rw [this] at h1
      cases h1
theorem noS_m {chg c2 : List Rf} {st : List MV} (h : (c2.all fun r => chg.contains r) = true) (hst : noS chg st = true) : noS c2 st = true := by
  unfold noS at *
  rw [List.all_eq_true] at *
  intro o ho
  have h1 := hst o ho
  match o, h1 with
  | .inl _, _ => rfl
  | .inr r, h1 =>
    have h1 : (!chg.contains r) = true := h1
    show (!c2.contains r) = true
    cases hc : c2.contains r with
    | false => rfl
    | true =>
      have := h r (by simpa using hc)
      rw [this] at h1
      cases h1
section Z40
variable {own : String} {cc : ByteArray} {nL : Nat} {rt : Option FieldType} {xt : List ExceptionTableEntry} {nme : String} {R : Room} {Q : QF} {cells slots pc : Nat} {ls : List (Option MV)} {st stk : List MV} {M M2 : Mm}
theorem z_nSB {wv : Wv} {z b i1 i2 : Nat} (hd1 : decode cc pc = .ok (.new i1, 3)) (hd2 : decode cc (pc + 3) = .ok (.dup, 1)) (hd3 : decode cc (pc + 4) = .ok (.invokespecial i2, 3)) (hw1 : Cond.classLink own i1 (Rc 12) ∈ AL ∧ Cond.instantiable (Rc 12) (Nc 12) ∈ AL ∧ Cond.initialized (Rc 12) ∈ AL) (hw2 : Cond.methodLink own i2 yJ4_init_da8c8 ∈ AL ∧ Cond.instanceMethod yJ4_init_da8c8 ∈ AL ∧ Cond.initialized yJ4_init_da8c8.cls ∈ AL)
    (hv : [((24, z, 0) : Rf), (25, z, 0)].all (vol b) = true) (hf : FrI wv [(24, z, 0), (25, z, 0)]) (hQ : QN b Q) (hls : noC [(24, z, 0), (25, z, 0)] ls = true) (hst : noS [(24, z, 0), (25, z, 0)] st = true) (hms : (mcs (.inr (24, z, 0) :: st)).ble 8 = true) (hrm : rq 2 1 2 20 R cells slots)
    (k : Z own cc nL rt xt nme R Q (allR (wvA wv [(24, z, 0), (25, z, 0)] (nd_tb hf))) SH (cells + 2) (slots + 20) (pc + 7) ls (.inr (24, z, 0) :: st) (nSB M z)) : Z own cc nL rt xt nme R Q (allR wv) SH cells slots pc ls st M := by
  have hr : ((24, z, 0) : Rf) ∉ allR wv := hf _ (by simp)
  have hQI : QI [(24, z, 0), (25, z, 0)] Q := qi_N hQ hv
  refine z_newF (ci := 12) (r := (24, z, 0)) allR_nd hr (by show 24 < 30; decide) hd1 hw1 rfl (by decide) df_12 (nrf_of wv.2.2.2 hr) (qa_I hQI (by simp)) (noC_f (by simp) hls) (noS_f (by simp) hst) (by have := hrm.2.2.1; omega) (by have := hrm.2.2.2; show slots + 4 ≤ _; omega) ?_
  refine z_dup hd2 rfl ?_
  have hls2 : noC [(25, z, 0)] ls = true := noC_m (by simp) hls
  have hst2 : noS [(25, z, 0)] st = true := noS_m (by simp) hst
  refine z_cGI (st := .inr (24, z, 0) :: st) (sJ4_init_da8c8 (mN M (24, z, 0)) z (nd_tb hf)) hd3 hw2 cd_J4_init_da8c8 rfl rfl rfl ⟨hrm.1, hrm.2.1, by have := hrm.2.2.1; omega, by have := hrm.2.2.2; show slots + 4 + 16 ≤ _; omega⟩ hms rfl (qi_s hQI (by simp)) rfl hls2 (by simp only [noS, List.all_cons, Bool.and_eq_true]; exact ⟨by simp, hst2⟩) ?_
  exact k
theorem z_nSBs {wv : Wv} {z b j B i1 i2 i3 : Nat} {tx : String} {q : Mm} (hq : fJ5_init_K (mN M (24, z, 0)) z j B = some q) (hd1 : decode cc pc = .ok (.new i1, 3)) (hd2 : decode cc (pc + 3) = .ok (.dup, 1)) (hd3 : decode cc (pc + 4) = .ok (.ldc_w i3, 3)) (hd4 : decode cc (pc + 4 + 3) = .ok (.invokespecial i2, 3)) (hw1 : Cond.classLink own i1 (Rc 12) ∈ AL ∧ Cond.instantiable (Rc 12) (Nc 12) ∈ AL ∧ Cond.initialized (Rc 12) ∈ AL) (hsw : (own, i3, tx, j) ∈ stt) (hj : j < 15) (hw2 : Cond.methodLink own i2 yJ4_init_a7421 ∈ AL ∧ Cond.instanceMethod yJ4_init_a7421 ∈ AL ∧ Cond.initialized yJ4_init_a7421.cls ∈ AL)
    (hv : [((24, z, 0) : Rf), (25, z, 0), (27, 0, 0)].all (vol b) = true) (hf : FrI wv [(24, z, 0), (25, z, 0)]) (hf27 : FrI wv [(27, 0, 0)]) (hB : B ≤ LG) (hQ : QN b Q) (hls : noC [(24, z, 0), (25, z, 0), (27, 0, 0)] ls = true) (hst : noS [(24, z, 0), (25, z, 0), (27, 0, 0)] st = true) (hms : (mcs (.inr (24, z, 0) :: st)).ble 8 = true) (hrm : rq 11 2 3 (4 + 2 * B) R cells slots)
    (k : Z own cc nL rt xt nme R Q (allR (wvA wv [(24, z, 0), (25, z, 0)] (nd_tb hf))) SH (cells + 3) (slots + (4 + 2 * B)) (pc + 4 + 3 + 3) ls (.inr (24, z, 0) :: st) q) : Z own cc nL rt xt nme R Q (allR wv) SH cells slots pc ls st M := by
  have hr : ((24, z, 0) : Rf) ∉ allR wv := hf _ (by simp)
  have hQI : QI [(24, z, 0), (25, z, 0), (27, 0, 0)] Q := qi_N hQ hv
  refine z_newF (ci := 12) (r := (24, z, 0)) allR_nd hr (by show 24 < 30; decide) hd1 hw1 rfl (by decide) df_12 (nrf_of wv.2.2.2 hr) (qa_I hQI (by simp)) (noC_f (by simp) hls) (noS_f (by simp) hst) (by have := hrm.2.2.1; omega) (by have := hrm.2.2.2; show slots + 4 ≤ _; omega) ?_
  refine z_dup hd2 rfl ?_
  refine z_ldcwS (j := j) hd3 hsw ?_
  have hls2 : noC [(25, z, 0), (27, 0, 0)] ls = true := noC_m (by simp) hls
  have hst2 : noS [(25, z, 0), (27, 0, 0)] st = true := noS_m (by simp) hst
  refine z_cGI (st := .inr (24, z, 0) :: st) (sJ4_init_K (mN M (24, z, 0)) z j B hj hB (nd_tb hf) hf27 hq) hd4 hw2 cd_J4_init_a7421 rfl rfl rfl ⟨hrm.1, hrm.2.1, by have := hrm.2.2.1; omega, by have := hrm.2.2.2; show slots + 4 + 2 * B ≤ _; omega⟩ hms rfl (qi_s hQI (by simp)) rfl hls2 (by simp only [noS, List.all_cons, Bool.and_eq_true]; exact ⟨by simp, hst2⟩) ?_
  rw [show slots + (4 + 2 * B) = slots + 4 + 2 * B by omega] at k
  exact k
end Z40

