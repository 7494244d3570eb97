/-! the class: its constructor, things made -/
theorem dX9_init_0 : decode cX9_init 0 = .ok (.aload_n 0, 1) := by decide +kernel
theorem dX9_init_1 : decode cX9_init 1 = .ok (.invokespecial 1, 3) := by decide +kernel
theorem dX9_init_4 : decode cX9_init 4 = .ok (.aload_n 0, 1) := by decide +kernel
theorem dX9_init_5 : decode cX9_init 5 = .ok (.new 7, 3) := by decide +kernel
theorem dX9_init_8 : decode cX9_init 8 = .ok (.dup, 1) := by decide +kernel
theorem dX9_init_9 : decode cX9_init 9 = .ok (.sipush 800, 3) := by decide +kernel
theorem dX9_init_12 : decode cX9_init 12 = .ok (.invokespecial 11, 3) := by decide +kernel
theorem dX9_init_15 : decode cX9_init 15 = .ok (.putfield 14, 3) := by decide +kernel
theorem dX9_init_18 : decode cX9_init 18 = .ok (.aload_n 0, 1) := by decide +kernel
theorem dX9_init_19 : decode cX9_init 19 = .ok (.new 7, 3) := by decide +kernel
theorem dX9_init_22 : decode cX9_init 22 = .ok (.dup, 1) := by decide +kernel
theorem dX9_init_23 : decode cX9_init 23 = .ok (.bipush 64, 2) := by decide +kernel
theorem dX9_init_25 : decode cX9_init 25 = .ok (.invokespecial 11, 3) := by decide +kernel
theorem dX9_init_28 : decode cX9_init 28 = .ok (.putfield 18, 3) := by decide +kernel
theorem dX9_init_31 : decode cX9_init 31 = .ok (.aload_n 0, 1) := by decide +kernel
theorem dX9_init_32 : decode cX9_init 32 = .ok (.new 21, 3) := by decide +kernel
theorem dX9_init_35 : decode cX9_init 35 = .ok (.dup, 1) := by decide +kernel
theorem dX9_init_36 : decode cX9_init 36 = .ok (.aload_n 0, 1) := by decide +kernel
theorem dX9_init_37 : decode cX9_init 37 = .ok (.getfield 14, 3) := by decide +kernel
theorem dX9_init_40 : decode cX9_init 40 = .ok (.invokespecial 23, 3) := by decide +kernel
theorem dX9_init_43 : decode cX9_init 43 = .ok (.putfield 26, 3) := by decide +kernel
theorem dX9_init_46 : decode cX9_init 46 = .ok (.aload_n 0, 1) := by decide +kernel
theorem dX9_init_47 : decode cX9_init 47 = .ok (.new 30, 3) := by decide +kernel
theorem dX9_init_50 : decode cX9_init 50 = .ok (.dup, 1) := by decide +kernel
theorem dX9_init_51 : decode cX9_init 51 = .ok (.invokespecial 32, 3) := by decide +kernel
theorem dX9_init_54 : decode cX9_init 54 = .ok (.putfield 33, 3) := by decide +kernel
theorem dX9_init_57 : decode cX9_init 57 = .ok (.aload_n 0, 1) := by decide +kernel
theorem dX9_init_58 : decode cX9_init 58 = .ok (.new 37, 3) := by decide +kernel
theorem dX9_init_61 : decode cX9_init 61 = .ok (.dup, 1) := by decide +kernel
theorem dX9_init_62 : decode cX9_init 62 = .ok (.invokespecial 39, 3) := by decide +kernel
theorem dX9_init_65 : decode cX9_init 65 = .ok (.putfield 40, 3) := by decide +kernel
theorem dX9_init_68 : decode cX9_init 68 = .ok (.aload_n 0, 1) := by decide +kernel
theorem dX9_init_69 : decode cX9_init 69 = .ok (.new 37, 3) := by decide +kernel
theorem dX9_init_72 : decode cX9_init 72 = .ok (.dup, 1) := by decide +kernel
theorem dX9_init_73 : decode cX9_init 73 = .ok (.invokespecial 39, 3) := by decide +kernel
theorem dX9_init_76 : decode cX9_init 76 = .ok (.putfield 44, 3) := by decide +kernel
theorem dX9_init_79 : decode cX9_init 79 = .ok (.aload_n 0, 1) := by decide +kernel
theorem dX9_init_80 : decode cX9_init 80 = .ok (.new 47, 3) := by decide +kernel
theorem dX9_init_83 : decode cX9_init 83 = .ok (.dup, 1) := by decide +kernel
theorem dX9_init_84 : decode cX9_init 84 = .ok (.aload_n 0, 1) := by decide +kernel
theorem dX9_init_85 : decode cX9_init 85 = .ok (.getfield 26, 3) := by decide +kernel
theorem dX9_init_88 : decode cX9_init 88 = .ok (.aload_n 0, 1) := by decide +kernel
theorem dX9_init_89 : decode cX9_init 89 = .ok (.getfield 44, 3) := by decide +kernel
theorem dX9_init_92 : decode cX9_init 92 = .ok (.invokespecial 49, 3) := by decide +kernel
theorem dX9_init_95 : decode cX9_init 95 = .ok (.putfield 52, 3) := by decide +kernel
theorem dX9_init_98 : decode cX9_init 98 = .ok (.aload_n 0, 1) := by decide +kernel
theorem dX9_init_99 : decode cX9_init 99 = .ok (.new 56, 3) := by decide +kernel
theorem dX9_init_102 : decode cX9_init 102 = .ok (.dup, 1) := by decide +kernel
theorem dX9_init_103 : decode cX9_init 103 = .ok (.aload_n 0, 1) := by decide +kernel
theorem dX9_init_104 : decode cX9_init 104 = .ok (.getfield 26, 3) := by decide +kernel
theorem dX9_init_107 : decode cX9_init 107 = .ok (.aload_n 0, 1) := by decide +kernel
theorem dX9_init_108 : decode cX9_init 108 = .ok (.getfield 33, 3) := by decide +kernel
theorem dX9_init_111 : decode cX9_init 111 = .ok (.invokespecial 58, 3) := by decide +kernel
theorem dX9_init_114 : decode cX9_init 114 = .ok (.putfield 61, 3) := by decide +kernel
theorem dX9_init_117 : decode cX9_init 117 = .ok (.aload_n 0, 1) := by decide +kernel
theorem dX9_init_118 : decode cX9_init 118 = .ok (.new 65, 3) := by decide +kernel
theorem dX9_init_121 : decode cX9_init 121 = .ok (.dup, 1) := by decide +kernel
theorem dX9_init_122 : decode cX9_init 122 = .ok (.invokespecial 67, 3) := by decide +kernel
theorem dX9_init_125 : decode cX9_init 125 = .ok (.putfield 68, 3) := by decide +kernel
theorem dX9_init_128 : decode cX9_init 128 = .ok (.aload_n 0, 1) := by decide +kernel
theorem dX9_init_129 : decode cX9_init 129 = .ok (.iconst 2, 1) := by decide +kernel
theorem dX9_init_130 : decode cX9_init 130 = .ok (.anewarray 37, 3) := by decide +kernel
theorem dX9_init_133 : decode cX9_init 133 = .ok (.putfield 72, 3) := by decide +kernel
theorem dX9_init_136 : decode cX9_init 136 = .ok (.iconst 0, 1) := by decide +kernel
theorem dX9_init_137 : decode cX9_init 137 = .ok (.istore_n 1, 1) := by decide +kernel
theorem dX9_init_138 : decode cX9_init 138 = .ok (.iload_n 1, 1) := by decide +kernel
theorem dX9_init_139 : decode cX9_init 139 = .ok (.iconst 2, 1) := by decide +kernel
theorem dX9_init_140 : decode cX9_init 140 = .ok (.if_icmp .ge 22, 3) := by decide +kernel
theorem dX9_init_143 : decode cX9_init 143 = .ok (.aload_n 0, 1) := by decide +kernel
theorem dX9_init_144 : decode cX9_init 144 = .ok (.getfield 72, 3) := by decide +kernel
theorem dX9_init_147 : decode cX9_init 147 = .ok (.iload_n 1, 1) := by decide +kernel
theorem dX9_init_148 : decode cX9_init 148 = .ok (.new 37, 3) := by decide +kernel
theorem dX9_init_151 : decode cX9_init 151 = .ok (.dup, 1) := by decide +kernel
theorem dX9_init_152 : decode cX9_init 152 = .ok (.invokespecial 39, 3) := by decide +kernel
theorem dX9_init_155 : decode cX9_init 155 = .ok (.aastore, 1) := by decide +kernel
theorem dX9_init_156 : decode cX9_init 156 = .ok (.iinc 1 1, 3) := by decide +kernel
theorem dX9_init_159 : decode cX9_init 159 = .ok (.goto (-21), 3) := by decide +kernel
theorem dX9_init_162 : decode cX9_init 162 = .ok (.aload_n 0, 1) := by decide +kernel
theorem dX9_init_163 : decode cX9_init 163 = .ok (.iconst 2, 1) := by decide +kernel
theorem dX9_init_164 : decode cX9_init 164 = .ok (.newarray .boolean, 2) := by decide +kernel
theorem dX9_init_166 : decode cX9_init 166 = .ok (.putfield 76, 3) := by decide +kernel
theorem dX9_init_169 : decode cX9_init 169 = .ok (.iconst 0, 1) := by decide +kernel
theorem dX9_init_170 : decode cX9_init 170 = .ok (.istore_n 1, 1) := by decide +kernel
theorem dX9_init_171 : decode cX9_init 171 = .ok (.iload_n 1, 1) := by decide +kernel
theorem dX9_init_172 : decode cX9_init 172 = .ok (.ldc 80, 2) := by decide +kernel
theorem dX9_init_174 : decode cX9_init 174 = .ok (.invokevirtual 82, 3) := by decide +kernel
theorem dX9_init_177 : decode cX9_init 177 = .ok (.if_icmp .ge 22, 3) := by decide +kernel
theorem dX9_init_180 : decode cX9_init 180 = .ok (.aload_n 0, 1) := by decide +kernel
theorem dX9_init_181 : decode cX9_init 181 = .ok (.getfield 14, 3) := by decide +kernel
theorem dX9_init_184 : decode cX9_init 184 = .ok (.ldc 80, 2) := by decide +kernel
theorem dX9_init_186 : decode cX9_init 186 = .ok (.iload_n 1, 1) := by decide +kernel
theorem dX9_init_187 : decode cX9_init 187 = .ok (.invokevirtual 88, 3) := by decide +kernel
theorem dX9_init_190 : decode cX9_init 190 = .ok (.invokevirtual 92, 3) := by decide +kernel
theorem dX9_init_193 : decode cX9_init 193 = .ok (.iinc 1 1, 3) := by decide +kernel
theorem dX9_init_196 : decode cX9_init 196 = .ok (.goto (-25), 3) := by decide +kernel
theorem dX9_init_199 : decode cX9_init 199 = .ok (.aload_n 0, 1) := by decide +kernel
theorem dX9_init_200 : decode cX9_init 200 = .ok (.invokevirtual 95, 3) := by decide +kernel
theorem dX9_init_203 : decode cX9_init 203 = .ok (.return_, 1) := by decide +kernel
section ZWD
variable {own : String} {cc : ByteArray} {nL : Nat} {rt : Option FieldType} {xt : List ExceptionTableEntry} {nme : String} {R : Room} {Q : QF} {rs : List Rf} {sh : Sh} {cells slots pc : Nat} {ls : List (Option MV)} {st : List MV} {M : Mm}
end ZWD
theorem ow_9 : Cond.methodLink RX9 1 Lib.objectInit ∈ AL := al_mc al_c1 39 rfl (by decide +kernel)
theorem cw_9_7 : Cond.classLink RX9 7 (Rc 1) ∈ AL ∧ Cond.instantiable (Rc 1) (Nc 1) ∈ AL ∧ Cond.initialized (Rc 1) ∈ AL := ⟨al_mc al_c1 42 rfl (by decide +kernel), al_mc al_c1 43 rfl (by decide +kernel), al_mc al_c1 2 rfl (by decide +kernel)⟩
theorem cw_9_21 : Cond.classLink RX9 21 (Rc 7) ∈ AL ∧ Cond.instantiable (Rc 7) (Nc 7) ∈ AL ∧ Cond.initialized (Rc 7) ∈ AL := ⟨al_mc al_c1 61 rfl (by decide +kernel), al_mc al_c1 62 rfl (by decide +kernel), al_mc al_c1 4 rfl (by decide +kernel)⟩
theorem cw_9_30 : Cond.classLink RX9 30 (Rc 4) ∈ AL ∧ Cond.instantiable (Rc 4) (Nc 4) ∈ AL ∧ Cond.initialized (Rc 4) ∈ AL := ⟨al_mc al_c1 97 rfl (by decide +kernel), al_mc al_c1 98 rfl (by decide +kernel), al_mc al_c1 5 rfl (by decide +kernel)⟩
theorem cw_9_37 : Cond.classLink RX9 37 (Rc 0) ∈ AL ∧ Cond.instantiable (Rc 0) (Nc 0) ∈ AL ∧ Cond.initialized (Rc 0) ∈ AL := ⟨al_mc al_c1 122 rfl (by decide +kernel), al_mc al_c1 123 rfl (by decide +kernel), al_mc al_c1 6 rfl (by decide +kernel)⟩
theorem cw_9_47 : Cond.classLink RX9 47 (Rc 6) ∈ AL ∧ Cond.instantiable (Rc 6) (Nc 6) ∈ AL ∧ Cond.initialized (Rc 6) ∈ AL := ⟨al_mc al_c1 230 rfl (by decide +kernel), al_mc al_c1 231 rfl (by decide +kernel), al_mc al_c1 9 rfl (by decide +kernel)⟩
theorem cw_9_56 : Cond.classLink RX9 56 (Rc 5) ∈ AL ∧ Cond.instantiable (Rc 5) (Nc 5) ∈ AL ∧ Cond.initialized (Rc 5) ∈ AL := ⟨al_mc al_c2 3 rfl (by decide +kernel), al_mc al_c2 4 rfl (by decide +kernel), al_mc al_c1 10 rfl (by decide +kernel)⟩
theorem cw_9_65 : Cond.classLink RX9 65 (Rc 2) ∈ AL ∧ Cond.instantiable (Rc 2) (Nc 2) ∈ AL ∧ Cond.initialized (Rc 2) ∈ AL := ⟨al_mc al_c2 16 rfl (by decide +kernel), al_mc al_c2 17 rfl (by decide +kernel), al_mc al_c1 11 rfl (by decide +kernel)⟩
theorem cq_9_37 : Cond.classLink RX9 37 RX0 ∈ AL ∧ Cond.arrayOver (.object RX0) ∈ nsw := ⟨al_mc al_c1 122 rfl (by decide +kernel), by decide +kernel⟩
theorem df_1 : ∀ j, j < Nc 1 → defaultValue (tyc 1 j) = vp_V (([true, false] : List Bool).map fun b => if b = true then .null else .int 0) j := by
  intro j hj
  match j, hj with
  | 0, _ => rfl
  | 1, _ => rfl
theorem df_7 : ∀ j, j < Nc 7 → defaultValue (tyc 7 j) = vp_V (([true, true, true, true, true, false, false, false, false] : List Bool).map fun b => if b = true then .null else .int 0) j := by
  intro j hj
  match j, hj with
  | 0, _ => rfl
  | 1, _ => rfl
  | 2, _ => rfl
  | 3, _ => rfl
  | 4, _ => rfl
  | 5, _ => rfl
  | 6, _ => rfl
  | 7, _ => rfl
  | 8, _ => rfl
theorem df_4 : ∀ j, j < Nc 4 → defaultValue (tyc 4 j) = vp_V (([true, true, true, true, false, false, false] : List Bool).map fun b => if b = true then .null else .int 0) j := by
  intro j hj
  match j, hj with
  | 0, _ => rfl
  | 1, _ => rfl
  | 2, _ => rfl
  | 3, _ => rfl
  | 4, _ => rfl
  | 5, _ => rfl
  | 6, _ => rfl
theorem df_6 : ∀ j, j < Nc 6 → defaultValue (tyc 6 j) = vp_V (([true, true] : List Bool).map fun b => if b = true then .null else .int 0) j := by
  intro j hj
  match j, hj with
  | 0, _ => rfl
  | 1, _ => rfl
theorem df_5 : ∀ j, j < Nc 5 → defaultValue (tyc 5 j) = vp_V (([true, true] : List Bool).map fun b => if b = true then .null else .int 0) j := by
  intro j hj
  match j, hj with
  | 0, _ => rfl
  | 1, _ => rfl
theorem df_2 : ∀ j, j < Nc 2 → defaultValue (tyc 2 j) = vp_V (([true, false, false] : List Bool).map fun b => if b = true then .null else .int 0) j := by
  intro j hj
  match j, hj with
  | 0, _ => rfl
  | 1, _ => rfl
  | 2, _ => rfl
def KS (t : Nat) : List Rf := (KH 8 ++ [(16, 0, 0)]) ++ bxs 10 t
def K11 : List Rf := KS 2 ++ [(17, 0, 0)]
theorem KS_s (t : Nat) : KS (t + 1) = (KS t ++ [(9, 10 + t, 0)]) ++ bx (10 + t) := by
  unfold KS
  rw [bxs_s]
  simp only [List.append_assoc]
theorem KS_nd : ∀ t, t < 2 → ((KS t ++ [(9, 10 + t, 0)]) ++ bx (10 + t)).Nodup := by decide +kernel
def shS (t : Nat) : Sh := shP (shG (g9 (10 + t)) (shN (shM (KS t)) (9, 10 + t, 0))) (16, 0, 0) t (some (9, 10 + t, 0))
theorem KS_ag : ∀ t, t < 2 → agB ((KS t ++ [(9, 10 + t, 0)]) ++ bx (10 + t)) (shS t) (shM (KS (t + 1))) = true := by decide +kernel
theorem KS_16 {t : Nat} : (16, 0, 0) ∈ KS t := List.mem_append_left _ m_r
theorem KH_0 {t : Nat} : (0, 0, 0) ∈ KH t := KH_8 _ (by decide +kernel)
theorem KS_0 {t : Nat} : (0, 0, 0) ∈ KS t := List.mem_append_left _ (m_l KH_0)
theorem k0s {K : List Rf} (h : (0, 0, 0) ∈ K) : ∀ x ∈ K0, x ∈ K := fun x hx => by rw [List.mem_singleton.mp hx]; exact h
theorem KS_r {t : Nat} : shM (KS t) (0, 0, 0) 9 = some (16, 0, 0) := by
  show (match SH (0, 0, 0) 9 with | some y => if y ∈ KS t then some y else none | none => none) = _
  exact if_pos KS_16
theorem KS_last : (KS 2).Nodup ∧ (17, 0, 0) ∉ KS 2 ∧ K11.Nodup := by decide +kernel
theorem K11_in : (∀ x ∈ allR wvC, x ∈ K11) ∧ (∀ x ∈ K11, x ∈ allR wvC) := by decide +kernel
theorem K11_ag : agB K11 (shP (shN (shM (KS 2)) (17, 0, 0)) (0, 0, 0) 10 (some (17, 0, 0))) SH = true := by decide +kernel
def LX (x : Int32) : List (Option MV) := [some (.inr (0, 0, 0)), some (.inl (.int x))]
set_option maxRecDepth 20000 in
set_option maxHeartbeats 2000000 in
theorem x9_loop {rt : Option FieldType} {rs' : List Rf} {sh' : Sh} {M' : Mm} (kk : Z RX9 cX9_init 2 rt [] "<init>" (rmD 12 212 5895) (QMN K0 rs' sh' M' 212 5895) (KS 2) (shM (KS 2)) 211 5893 162 (LX (nI 2)) [] MI) : ∀ n t, t + n = 2 →
    Z RX9 cX9_init 2 rt [] "<init>" (rmD 12 212 5895) (QMN K0 rs' sh' M' 212 5895) (KS t) (shM (KS t)) (179 + 16 * t) (5625 + 134 * t) 138 (LX (nI t)) [] MI := by
  intro n
  induction n with
  | zero =>
    intro t ht
    have e : t = 2 := by omega
    subst e
    refine z_iload_n (i := 1) dX9_init_138 rfl rfl ?_
    refine z_iconst (v := (2 : Int32)) dX9_init_139 (by decide) ?_
    refine z_icmp_ge (tgt := 162) dX9_init_140 rfl (fun _ => ?_) (fun h => absurd (by decide) h)
    exact kk
  | succ n ih =>
    intro t ht
    have ht2 : t < 2 := by omega
    have hN := KS_nd t ht2
    have hna : (KS t ++ [(9, 10 + t, 0)]).Nodup := (List.nodup_append.mp hN).1
    have hnb : (KS t).Nodup := (List.nodup_append.mp hna).1
    have hnm : (9, 10 + t, 0) ∉ KS t := fun h => (List.nodup_append.mp hna).2.2 _ h _ (List.mem_singleton.mpr rfl) rfl
    refine z_iload_n (i := 1) dX9_init_138 rfl rfl ?_
    refine z_iconst (v := (2 : Int32)) dX9_init_139 (by decide) ?_
    refine z_icmp_ge (tgt := 162) dX9_init_140 rfl (fun h => absurd h (nI_ge (b := 2) ht2 (by decide))) (fun _ => ?_)
    refine z_aload_n (i := 0) dX9_init_143 rfl rfl ?_
    refine z_getR (r := (0, 0, 0)) (r' := (16, 0, 0)) (ci := 9) (j := 9) dX9_init_144 fl_X9_72 KS_0 rfl KS_r ?_
    refine z_iload_n (i := 1) dX9_init_147 rfl rfl ?_
    refine z_new (ci := 0) (r := (9, 10 + t, 0)) (ks := [true, true, false, false, false, false, false, false, false, false]) hnb hnm (by show 9 < 30; decide) dX9_init_148 cw_9_37 rfl (by decide) df_0 shC_M (qmn_G (k0s KS_0)) (ls_2 (P := fun v => v ≠ .inr (9, 10 + t, 0)) (inr_ne (by show (0 : Nat) ≠ 9; decide)) inl_ne) (st_2 (P := fun v => v ≠ .inr (9, 10 + t, 0)) inl_ne (inr_ne (by show (16 : Nat) ≠ 9; decide))) (by show 179 + 16 * t + 1 ≤ 212; omega) (by show 5625 + 134 * t + 10 ≤ 5895; omega) ?_
    refine z_dup dX9_init_151 rfl ?_
    refine z_callI (av := []) (nY0 hN m_r (shC_N shC_M) zr_N) dX9_init_152 ml_X9_39 cd_X0_init rfl rfl ⟨by decide, by decide, by show 179 + 16 * t + 1 + 15 ≤ 212; omega, by show 5625 + 134 * t + 10 + 124 ≤ 5895; omega⟩ (Nat.le_of_ble_eq_true rfl) rfl (qmn_G (k0s (m_l KS_0))) (ls_2 (P := inR _) (Or.inl (m_l KS_0)) trivial) (st_3 (P := inR _) (Or.inl m_r) trivial (Or.inl (m_l KS_16))) ?_
    rw [mGN (g9_t (Or.inl rfl))]
    refine z_aast (t := 1) (n := 2) (ci := 0) (j := t) hN dX9_init_155 (List.mem_append_left _ (m_l KS_16)) (List.mem_append_left _ m_r) rfl rfl (by decide) (fun _ => rfl) (nI_in ht2 (by decide)) (nI_clamp (by omega)) ?_
    refine z_iinc (i := 1) (v := nI (t + 1)) dX9_init_156 rfl (nI_succ t).symm (by decide) rfl ?_
    refine z_goto (tgt := 138) dX9_init_159 rfl ?_
    have ihx := ih (t + 1) (by omega)
    rw [show 179 + 16 * (t + 1) = 179 + 16 * t + 1 + 15 by omega, show 5625 + 134 * (t + 1) = 5625 + 134 * t + 10 + 124 by omega] at ihx
    exact z_pic (agB_spec (KS_ag t ht2)) (fun x => by rw [KS_s]) ihx
theorem K_ag0 : agB (K1) (shP (shG (fun x => x == (1, 0, 0) || x == (2, 0, 0)) (shN (shM K0) (1, 0, 0))) (0, 0, 0) 0 (some (1, 0, 0))) (shM (K1)) = true := by decide +kernel
theorem K_nd0 : (K0).Nodup ∧ (1, 0, 0) ∉ K0 ∧ (K0 ++ [(1, 0, 0)]).Nodup ∧ (K1).Nodup ∧ (0, 0, 0) ∈ K0 ∧ (0, 0, 0) ∈ K1 := by decide +kernel
theorem K_ag1 : agB (K2) (shP (shG (fun x => x == (1, 1, 0) || x == (2, 1, 0)) (shN (shM K1) (1, 1, 0))) (0, 0, 0) 1 (some (1, 1, 0))) (shM (K2)) = true := by decide +kernel
theorem K_nd1 : (K1).Nodup ∧ (1, 1, 0) ∉ K1 ∧ (K1 ++ [(1, 1, 0)]).Nodup ∧ (K2).Nodup ∧ (0, 0, 0) ∈ K1 ∧ (0, 0, 0) ∈ K2 := by decide +kernel
theorem K_ag2 : agB (K3) (shP (shG (fun x => x == (3, 0, 0) || x == (4, 0, 0) || x == (4, 1, 0) || x == (4, 2, 0) || x == (4, 3, 0)) (shN (shM K2) (3, 0, 0))) (0, 0, 0) 2 (some (3, 0, 0))) (shM (K3)) = true := by decide +kernel
theorem K_nd2 : (K2).Nodup ∧ (3, 0, 0) ∉ K2 ∧ (K2 ++ [(3, 0, 0)]).Nodup ∧ (K3).Nodup ∧ (0, 0, 0) ∈ K2 ∧ (0, 0, 0) ∈ K3 := by decide +kernel
theorem K_ag3 : agB (K4) (shP (shG (fun x => x == (7, 0, 0) || x == (8, 0, 0) || x == (8, 1, 0) || x == (8, 2, 0) || x == (8, 3, 0)) (shN (shM K3) (7, 0, 0))) (0, 0, 0) 5 (some (7, 0, 0))) (shM (K4)) = true := by decide +kernel
theorem K_nd3 : (K3).Nodup ∧ (7, 0, 0) ∉ K3 ∧ (K3 ++ [(7, 0, 0)]).Nodup ∧ (K4).Nodup ∧ (0, 0, 0) ∈ K3 ∧ (0, 0, 0) ∈ K4 := by decide +kernel
theorem K_ag4 : agB (K5) (shP (shG (g9 0) (shN (shM K4) (9, 0, 0))) (0, 0, 0) 6 (some (9, 0, 0))) (shM (K5)) = true := by decide +kernel
theorem K_nd4 : (K4).Nodup ∧ (9, 0, 0) ∉ K4 ∧ (K4 ++ [(9, 0, 0)]).Nodup ∧ (K5).Nodup ∧ (0, 0, 0) ∈ K4 ∧ (0, 0, 0) ∈ K5 := by decide +kernel
theorem K_ag5 : agB (K6) (shP (shG (g9 1) (shN (shM K5) (9, 1, 0))) (0, 0, 0) 7 (some (9, 1, 0))) (shM (K6)) = true := by decide +kernel
theorem K_nd5 : (K5).Nodup ∧ (9, 1, 0) ∉ K5 ∧ (K5 ++ [(9, 1, 0)]).Nodup ∧ (K6).Nodup ∧ (0, 0, 0) ∈ K5 ∧ (0, 0, 0) ∈ K6 := by decide +kernel
theorem K_ag6 : agB (K7) (shP (shG (fun x => x == (5, 0, 0)) (shN (shM K6) (5, 0, 0))) (0, 0, 0) 3 (some (5, 0, 0))) (shM (K7)) = true := by decide +kernel
theorem K_nd6 : (K6).Nodup ∧ (5, 0, 0) ∉ K6 ∧ (K6 ++ [(5, 0, 0)]).Nodup ∧ (K7).Nodup ∧ (0, 0, 0) ∈ K6 ∧ (0, 0, 0) ∈ K7 := by decide +kernel
theorem K_ag7 : agB (K8) (shP (shG (fun x => x == (6, 0, 0)) (shN (shM K7) (6, 0, 0))) (0, 0, 0) 4 (some (6, 0, 0))) (shM (K8)) = true := by decide +kernel
theorem K_nd7 : (K7).Nodup ∧ (6, 0, 0) ∉ K7 ∧ (K7 ++ [(6, 0, 0)]).Nodup ∧ (K8).Nodup ∧ (0, 0, 0) ∈ K7 ∧ (0, 0, 0) ∈ K8 := by decide +kernel
theorem K_ag8 : agB (KH 8) (shP (shU (KH 8) K8) (0, 0, 0) 8 (some (14, 0, 0))) (shM (KH 8)) = true := by decide +kernel
theorem K_nd8 : (K8).Nodup ∧ (14, 0, 0) ∉ K8 ∧ (K8 ++ [(14, 0, 0)]).Nodup ∧ (KH 8).Nodup ∧ (0, 0, 0) ∈ K8 ∧ (0, 0, 0) ∈ KH 8 := by decide +kernel
theorem K16_nd : (KH 8).Nodup ∧ (16, 0, 0) ∉ KH 8 ∧ (KH 8 ++ [(16, 0, 0)]).Nodup := by decide +kernel
theorem K16_ag : agB (KH 8 ++ [(16, 0, 0)]) (shP (shN (shM (KH 8)) (16, 0, 0)) (0, 0, 0) 9 (some (16, 0, 0))) (shM (KS 0)) = true := by decide +kernel
theorem KS_00 : KS 0 = KH 8 ++ [(16, 0, 0)] := by decide +kernel
set_option maxRecDepth 20000 in
set_option maxHeartbeats 4000000 in
theorem x9_made {rs' : List Rf} {sh' : Sh} {M' : Mm} (kk : Z RX9 cX9_init 2 none [] "<init>" (rmD 12 212 5895) (QMN K0 rs' sh' M' 212 5895) (allR wvC) SH 212 5895 171 (LX 0) [] MI) :
    Z RX9 cX9_init 2 none [] "<init>" (rmD 12 212 5895) (QMN K0 rs' sh' M' 212 5895) K0 (shM K0) 0 0 0 [some (.inr (0, 0, 0)), none] [] MI := by
  refine z_aload_n (i := 0) dX9_init_0 rfl rfl ?_
  refine z_objI dX9_init_1 ⟨ow_9, ow_i, ow_c⟩ (by decide) (Nat.le_of_ble_eq_true rfl) ?_
  refine z_aload_n (i := 0) dX9_init_4 rfl rfl ?_
  refine z_new (ci := 1) (r := (1, 0, 0)) (ks := [true, false]) K_nd0.1 K_nd0.2.1 (by decide) dX9_init_5 cw_9_7 rfl (by decide) df_1 shC_M (qmn_G (k0s K_nd0.2.2.2.2.1)) (ls_1n (P := fun v => v ≠ .inr (1, 0, 0)) (inr_ne (by decide))) (st_1 (P := fun v => v ≠ .inr (1, 0, 0)) (inr_ne (by decide))) (by decide) (by decide) ?_
  refine z_dup dX9_init_8 rfl ?_
  refine z_sipush (v := (800 : Int32)) dX9_init_9 (by decide) ?_
  refine z_callI (av := [.inl (.int 800)]) (nY1_0 K_nd0.2.2.1 (shC_N shC_M) m_r (by decide +kernel) zr_N) dX9_init_12 ml_X9_11 cd_X1_init rfl rfl ⟨by decide, by decide, by decide, by decide⟩ (Nat.le_of_ble_eq_true rfl) rfl (qmn_G (k0s (m_l K_nd0.2.2.2.2.1))) (ls_1n (P := inR _) (Or.inl (m_l K_nd0.2.2.2.2.1))) (st_2 (P := inR _) (Or.inl m_r) (Or.inl (m_l K_nd0.2.2.2.2.1))) ?_
  rw [mGN (by decide)]
  refine z_putR (ci := 9) (j := 0) (r := (0, 0, 0)) (y := (1, 0, 0)) K_nd0.2.2.2.1 dX9_init_15 fl_X9_14 K_nd0.2.2.2.2.2 rfl rfl rfl rfl (fun _ => rfl) (fun _ => rfl) ?_
  refine z_pic (agB_spec K_ag0) (fun x => Iff.rfl) (z_wid (c1 := 2) (s1 := 802) (by decide) (by decide) ?_)
  refine z_aload_n (i := 0) dX9_init_18 rfl rfl ?_
  refine z_new (ci := 1) (r := (1, 1, 0)) (ks := [true, false]) K_nd1.1 K_nd1.2.1 (by decide) dX9_init_19 cw_9_7 rfl (by decide) df_1 shC_M (qmn_G (k0s K_nd1.2.2.2.2.1)) (ls_1n (P := fun v => v ≠ .inr (1, 1, 0)) (inr_ne (by decide))) (st_1 (P := fun v => v ≠ .inr (1, 1, 0)) (inr_ne (by decide))) (by decide) (by decide) ?_
  refine z_dup dX9_init_22 rfl ?_
  refine z_bipush (v := (64 : Int32)) dX9_init_23 (by decide) ?_
  refine z_callI (av := [.inl (.int 64)]) (nY1_1 K_nd1.2.2.1 (shC_N shC_M) m_r (by decide +kernel) zr_N) dX9_init_25 ml_X9_11 cd_X1_init rfl rfl ⟨by decide, by decide, by decide, by decide⟩ (Nat.le_of_ble_eq_true rfl) rfl (qmn_G (k0s (m_l K_nd1.2.2.2.2.1))) (ls_1n (P := inR _) (Or.inl (m_l K_nd1.2.2.2.2.1))) (st_2 (P := inR _) (Or.inl m_r) (Or.inl (m_l K_nd1.2.2.2.2.1))) ?_
  rw [mGN (by decide)]
  refine z_putR (ci := 9) (j := 1) (r := (0, 0, 0)) (y := (1, 1, 0)) K_nd1.2.2.2.1 dX9_init_28 fl_X9_18 K_nd1.2.2.2.2.2 rfl rfl rfl rfl (fun _ => rfl) (fun _ => rfl) ?_
  refine z_pic (agB_spec K_ag1) (fun x => Iff.rfl) (z_wid (c1 := 4) (s1 := 868) (by decide) (by decide) ?_)
  refine z_aload_n (i := 0) dX9_init_31 rfl rfl ?_
  refine z_new (ci := 7) (r := (3, 0, 0)) (ks := [true, true, true, true, true, false, false, false, false]) K_nd2.1 K_nd2.2.1 (by decide) dX9_init_32 cw_9_21 rfl (by decide) df_7 shC_M (qmn_G (k0s K_nd2.2.2.2.2.1)) (ls_1n (P := fun v => v ≠ .inr (3, 0, 0)) (inr_ne (by decide))) (st_1 (P := fun v => v ≠ .inr (3, 0, 0)) (inr_ne (by decide))) (by decide) (by decide) ?_
  refine z_dup dX9_init_35 rfl ?_
  refine z_aload_n (i := 0) dX9_init_36 rfl rfl ?_
  refine z_getR (r := (0, 0, 0)) (r' := (1, 0, 0)) (ci := 9) (j := 0) dX9_init_37 fl_X9_14 (m_l K_nd2.2.2.2.2.1) rfl (by decide +kernel) ?_
  refine z_callI (av := [.inr (1, 0, 0)]) (nY7 K_nd2.2.2.1 (shC_N shC_M) m_r (by decide +kernel) (by decide +kernel) (by decide +kernel) (by decide +kernel) (by decide +kernel) zr_N) dX9_init_40 ml_X9_23 cd_X7_init rfl rfl ⟨by decide, by decide, by decide, by decide⟩ (Nat.le_of_ble_eq_true rfl) rfl (qmn_G (k0s (m_l K_nd2.2.2.2.2.1))) (ls_1n (P := inR _) (Or.inl (m_l K_nd2.2.2.2.2.1))) (st_2 (P := inR _) (Or.inl m_r) (Or.inl (m_l K_nd2.2.2.2.2.1))) ?_
  rw [mGN (by decide)]
  refine z_putR (ci := 9) (j := 2) (r := (0, 0, 0)) (y := (3, 0, 0)) K_nd2.2.2.2.1 dX9_init_43 fl_X9_26 K_nd2.2.2.2.2.2 rfl rfl rfl rfl (fun _ => rfl) (fun _ => rfl) ?_
  refine z_pic (agB_spec K_ag2) (fun x => Iff.rfl) (z_wid (c1 := 9) (s1 := 4081) (by decide) (by decide) ?_)
  refine z_aload_n (i := 0) dX9_init_46 rfl rfl ?_
  refine z_new (ci := 4) (r := (7, 0, 0)) (ks := [true, true, true, true, false, false, false]) K_nd3.1 K_nd3.2.1 (by decide) dX9_init_47 cw_9_30 rfl (by decide) df_4 shC_M (qmn_G (k0s K_nd3.2.2.2.2.1)) (ls_1n (P := fun v => v ≠ .inr (7, 0, 0)) (inr_ne (by decide))) (st_1 (P := fun v => v ≠ .inr (7, 0, 0)) (inr_ne (by decide))) (by decide) (by decide) ?_
  refine z_dup dX9_init_50 rfl ?_
  refine z_callIN (av := []) (nY4 K_nd3.2.2.1 (shC_N shC_M) m_r (by decide +kernel) (by decide +kernel) (by decide +kernel) (by decide +kernel) zr_N) dX9_init_51 ml_X9_32 cd_X4_init rfl rfl ⟨by decide, by decide, by decide, by decide⟩ (Nat.le_of_ble_eq_true rfl) rfl (qmn_G (k0s (m_l K_nd3.2.2.2.2.1))) (ls_1n (P := inR _) (Or.inl (m_l K_nd3.2.2.2.2.1))) (st_2 (P := inR _) (Or.inl m_r) (Or.inl (m_l K_nd3.2.2.2.2.1))) ?_
  rw [mGN (by decide)]
  refine z_putR (ci := 9) (j := 5) (r := (0, 0, 0)) (y := (7, 0, 0)) K_nd3.2.2.2.1 dX9_init_54 fl_X9_33 K_nd3.2.2.2.2.2 rfl rfl rfl rfl (fun _ => rfl) (fun _ => rfl) ?_
  refine z_pic (agB_spec K_ag3) (fun x => Iff.rfl) (z_wid (c1 := 14) (s1 := 4268) (by decide) (by decide) ?_)
  refine z_aload_n (i := 0) dX9_init_57 rfl rfl ?_
  refine z_new (ci := 0) (r := (9, 0, 0)) (ks := [true, true, false, false, false, false, false, false, false, false]) K_nd4.1 K_nd4.2.1 (by decide) dX9_init_58 cw_9_37 rfl (by decide) df_0 shC_M (qmn_G (k0s K_nd4.2.2.2.2.1)) (ls_1n (P := fun v => v ≠ .inr (9, 0, 0)) (inr_ne (by decide))) (st_1 (P := fun v => v ≠ .inr (9, 0, 0)) (inr_ne (by decide))) (by decide) (by decide) ?_
  refine z_dup dX9_init_61 rfl ?_
  refine z_callI (av := []) (nY0 (i := 0) K_nd4.2.2.2.1 m_r (shC_N shC_M) zr_N) dX9_init_62 ml_X9_39 cd_X0_init rfl rfl ⟨by decide, by decide, by decide, by decide⟩ (Nat.le_of_ble_eq_true rfl) rfl (qmn_G (k0s (m_l K_nd4.2.2.2.2.1))) (ls_1n (P := inR _) (Or.inl (m_l K_nd4.2.2.2.2.1))) (st_2 (P := inR _) (Or.inl m_r) (Or.inl (m_l K_nd4.2.2.2.2.1))) ?_
  rw [mGN (g9_t (Or.inl rfl))]
  refine z_putR (ci := 9) (j := 6) (r := (0, 0, 0)) (y := (9, 0, 0)) K_nd4.2.2.2.1 dX9_init_65 fl_X9_40 K_nd4.2.2.2.2.2 rfl rfl rfl rfl (fun _ => rfl) (fun _ => rfl) ?_
  refine z_pic (agB_spec K_ag4) (fun x => Iff.rfl) (z_wid (c1 := 30) (s1 := 4402) (by decide) (by decide) ?_)
  refine z_aload_n (i := 0) dX9_init_68 rfl rfl ?_
  refine z_new (ci := 0) (r := (9, 1, 0)) (ks := [true, true, false, false, false, false, false, false, false, false]) K_nd5.1 K_nd5.2.1 (by decide) dX9_init_69 cw_9_37 rfl (by decide) df_0 shC_M (qmn_G (k0s K_nd5.2.2.2.2.1)) (ls_1n (P := fun v => v ≠ .inr (9, 1, 0)) (inr_ne (by decide))) (st_1 (P := fun v => v ≠ .inr (9, 1, 0)) (inr_ne (by decide))) (by decide) (by decide) ?_
  refine z_dup dX9_init_72 rfl ?_
  refine z_callI (av := []) (nY0 (i := 1) K_nd5.2.2.2.1 m_r (shC_N shC_M) zr_N) dX9_init_73 ml_X9_39 cd_X0_init rfl rfl ⟨by decide, by decide, by decide, by decide⟩ (Nat.le_of_ble_eq_true rfl) rfl (qmn_G (k0s (m_l K_nd5.2.2.2.2.1))) (ls_1n (P := inR _) (Or.inl (m_l K_nd5.2.2.2.2.1))) (st_2 (P := inR _) (Or.inl m_r) (Or.inl (m_l K_nd5.2.2.2.2.1))) ?_
  rw [mGN (g9_t (Or.inl rfl))]
  refine z_putR (ci := 9) (j := 7) (r := (0, 0, 0)) (y := (9, 1, 0)) K_nd5.2.2.2.1 dX9_init_76 fl_X9_44 K_nd5.2.2.2.2.2 rfl rfl rfl rfl (fun _ => rfl) (fun _ => rfl) ?_
  refine z_pic (agB_spec K_ag5) (fun x => Iff.rfl) (z_wid (c1 := 46) (s1 := 4536) (by decide) (by decide) ?_)
  refine z_aload_n (i := 0) dX9_init_79 rfl rfl ?_
  refine z_new (ci := 6) (r := (5, 0, 0)) (ks := [true, true]) K_nd6.1 K_nd6.2.1 (by decide) dX9_init_80 cw_9_47 rfl (by decide) df_6 shC_M (qmn_G (k0s K_nd6.2.2.2.2.1)) (ls_1n (P := fun v => v ≠ .inr (5, 0, 0)) (inr_ne (by decide))) (st_1 (P := fun v => v ≠ .inr (5, 0, 0)) (inr_ne (by decide))) (by decide) (by decide) ?_
  refine z_dup dX9_init_83 rfl ?_
  refine z_aload_n (i := 0) dX9_init_84 rfl rfl ?_
  refine z_getR (r := (0, 0, 0)) (r' := (3, 0, 0)) (ci := 9) (j := 2) dX9_init_85 fl_X9_26 (m_l K_nd6.2.2.2.2.1) rfl (by decide +kernel) ?_
  refine z_aload_n (i := 0) dX9_init_88 rfl rfl ?_
  refine z_getR (r := (0, 0, 0)) (r' := (9, 1, 0)) (ci := 9) (j := 7) dX9_init_89 fl_X9_44 (m_l K_nd6.2.2.2.2.1) rfl (by decide +kernel) ?_
  refine z_callI (av := [.inr (3, 0, 0), .inr (9, 1, 0)]) (nY6 K_nd6.2.2.1 m_r zr_N) dX9_init_92 ml_X9_49 cd_X6_init rfl rfl ⟨by decide, by decide, by decide, by decide⟩ (Nat.le_of_ble_eq_true rfl) rfl (qmn_G (k0s (m_l K_nd6.2.2.2.2.1))) (ls_1n (P := inR _) (Or.inl (m_l K_nd6.2.2.2.2.1))) (st_2 (P := inR _) (Or.inl m_r) (Or.inl (m_l K_nd6.2.2.2.2.1))) ?_
  rw [mGN (by decide)]
  refine z_putR (ci := 9) (j := 3) (r := (0, 0, 0)) (y := (5, 0, 0)) K_nd6.2.2.2.1 dX9_init_95 fl_X9_52 K_nd6.2.2.2.2.2 rfl rfl rfl rfl (fun _ => rfl) (fun _ => rfl) ?_
  refine z_pic (agB_spec K_ag6) (fun x => Iff.rfl) (z_wid (c1 := 47) (s1 := 4538) (by decide) (by decide) ?_)
  refine z_aload_n (i := 0) dX9_init_98 rfl rfl ?_
  refine z_new (ci := 5) (r := (6, 0, 0)) (ks := [true, true]) K_nd7.1 K_nd7.2.1 (by decide) dX9_init_99 cw_9_56 rfl (by decide) df_5 shC_M (qmn_G (k0s K_nd7.2.2.2.2.1)) (ls_1n (P := fun v => v ≠ .inr (6, 0, 0)) (inr_ne (by decide))) (st_1 (P := fun v => v ≠ .inr (6, 0, 0)) (inr_ne (by decide))) (by decide) (by decide) ?_
  refine z_dup dX9_init_102 rfl ?_
  refine z_aload_n (i := 0) dX9_init_103 rfl rfl ?_
  refine z_getR (r := (0, 0, 0)) (r' := (3, 0, 0)) (ci := 9) (j := 2) dX9_init_104 fl_X9_26 (m_l K_nd7.2.2.2.2.1) rfl (by decide +kernel) ?_
  refine z_aload_n (i := 0) dX9_init_107 rfl rfl ?_
  refine z_getR (r := (0, 0, 0)) (r' := (7, 0, 0)) (ci := 9) (j := 5) dX9_init_108 fl_X9_33 (m_l K_nd7.2.2.2.2.1) rfl (by decide +kernel) ?_
  refine z_callI (av := [.inr (3, 0, 0), .inr (7, 0, 0)]) (nY5 K_nd7.2.2.1 m_r zr_N) dX9_init_111 ml_X9_58 cd_X5_init rfl rfl ⟨by decide, by decide, by decide, by decide⟩ (Nat.le_of_ble_eq_true rfl) rfl (qmn_G (k0s (m_l K_nd7.2.2.2.2.1))) (ls_1n (P := inR _) (Or.inl (m_l K_nd7.2.2.2.2.1))) (st_2 (P := inR _) (Or.inl m_r) (Or.inl (m_l K_nd7.2.2.2.2.1))) ?_
  rw [mGN (by decide)]
  refine z_putR (ci := 9) (j := 4) (r := (0, 0, 0)) (y := (6, 0, 0)) K_nd7.2.2.2.1 dX9_init_114 fl_X9_61 K_nd7.2.2.2.2.2 rfl rfl rfl rfl (fun _ => rfl) (fun _ => rfl) ?_
  refine z_pic (agB_spec K_ag7) (fun x => Iff.rfl) (z_wid (c1 := 48) (s1 := 4540) (by decide) (by decide) ?_)
  refine z_aload_n (i := 0) dX9_init_117 rfl rfl ?_
  refine z_new (ci := 2) (r := (14, 0, 0)) (ks := [true, false, false]) K_nd8.1 K_nd8.2.1 (by decide) dX9_init_118 cw_9_65 rfl (by decide) df_2 shC_M (qmn_G (k0s K_nd8.2.2.2.2.1)) (ls_1n (P := fun v => v ≠ .inr (14, 0, 0)) (inr_ne (by decide))) (st_1 (P := fun v => v ≠ .inr (14, 0, 0)) (inr_ne (by decide))) (by decide) (by decide) ?_
  refine z_dup dX9_init_121 rfl ?_
  rw [mNI (by decide)]
  refine z_callI (av := []) (nY2) dX9_init_122 ml_X9_67 cd_X2_init rfl rfl ⟨by decide, by decide, by decide, by decide⟩ (Nat.le_of_ble_eq_true rfl) rfl (qmn_G (k0s (m_l K_nd8.2.2.2.2.1))) (ls_1n (P := inR _) (Or.inl (m_l K_nd8.2.2.2.2.1))) (st_2 (P := inR _) (Or.inl m_r) (Or.inl (m_l K_nd8.2.2.2.2.1))) ?_
  refine z_putR (ci := 9) (j := 8) (r := (0, 0, 0)) (y := (14, 0, 0)) K_nd8.2.2.2.1 dX9_init_125 fl_X9_68 K_nd8.2.2.2.2.2 rfl rfl rfl rfl (fun _ => rfl) (fun _ => rfl) ?_
  refine z_pic (agB_spec K_ag8) (fun x => Iff.rfl) (z_wid (c1 := 178) (s1 := 5623) (by decide) (by decide) ?_)
  refine z_aload_n (i := 0) dX9_init_128 rfl rfl ?_
  refine z_iconst (v := (2 : Int32)) dX9_init_129 (by decide) ?_
  refine z_newq (t := 5) (N := 2) (r := (16, 0, 0)) K16_nd.1 K16_nd.2.1 (by decide) dX9_init_130 cq_9_37 (fun _ => rfl) (fun tc ad => he_Q (t := 1) rfl) (by decide) (by decide) (by decide) shC_M (qmn_G (k0s KH_0)) (ls_1n (P := fun v => v ≠ .inr (16, 0, 0)) (inr_ne (by decide))) (st_1 (P := fun v => v ≠ .inr (16, 0, 0)) (inr_ne (by decide))) (by decide) (by decide) ?_
  rw [mNI (by decide)]
  refine z_putR (ci := 9) (j := 9) (r := (0, 0, 0)) (y := (16, 0, 0)) K16_nd.2.2 dX9_init_133 fl_X9_72 (m_l KH_0) rfl rfl rfl rfl (fun _ => rfl) (fun _ => rfl) ?_
  refine z_iconst (v := (0 : Int32)) dX9_init_136 (by decide) ?_
  refine z_istore_n (i := 1) dX9_init_137 rfl (by decide) rfl ?_
  refine z_pic (agB_spec K16_ag) (fun x => by rw [KS_00]) (z_wid (c1 := 179) (s1 := 5625) (by decide) (by decide) (x9_loop ?_ 2 0 rfl))
  refine z_aload_n (i := 0) dX9_init_162 rfl rfl ?_
  refine z_iconst (v := (2 : Int32)) dX9_init_163 (by decide) ?_
  refine z_newa (atype := .boolean) (ty := .boolean) (t := 1) (N := 2) (a0 := (2, .inl fun _ => 0)) (r := (17, 0, 0)) KS_last.1 KS_last.2.1 (by decide) dX9_init_164 ac_z rfl (fun _ => rfl) (fun _ => rfl) (fun tc ad => he_Z rfl) (by decide) (by decide) (Nat.le_of_ble_eq_true rfl) shC_M (qmn_G (k0s KS_0)) (ls_2 (P := fun v => v ≠ .inr (17, 0, 0)) (inr_ne (by decide)) inl_ne) (st_1 (P := fun v => v ≠ .inr (17, 0, 0)) (inr_ne (by decide))) (by decide) (by decide) ?_
  rw [mNI (by decide)]
  refine z_putR (ci := 9) (j := 10) (r := (0, 0, 0)) (y := (17, 0, 0)) KS_last.2.2 dX9_init_166 fl_X9_76 (m_l KS_0) rfl rfl rfl rfl (fun _ => rfl) (fun _ => rfl) ?_
  refine z_iconst (v := (0 : Int32)) dX9_init_169 (by decide) ?_
  refine z_istore_n (i := 1) dX9_init_170 rfl (by decide) rfl ?_
  exact z_pic (agB_spec K11_ag) (fun x => ⟨K11_in.1 x, K11_in.2 x⟩) (z_wid (c1 := 212) (s1 := 5895) (by decide) (by decide) kk)

