/-! the law's cases, 1 -/
set_option maxRecDepth 20000 in
set_option maxHeartbeats 2000000 in
theorem case_15 {b L : Nat} {xs : Nat → Int32} {xt : List ExceptionTableEntry} {nme : String} {x : Int32} {cells slots : Nat} {M : Mm} (G : GL M) (hs : ∀ d : Int32, 0 ≤ d → d < 6 → ¬ (x + d < 0 ∨ L ≤ (x + d).toNatClampNeg)) (hc : cells + 4 ≤ 601024) (hsl : slots + 24 ≤ 7293034) (kk : ∀ M2, GL M2 → Z RL code 10 ret xt nme room_1 (lwQ b L xs) (allR 2) SH (cells + 4) (slots + 24) 2908 (ls0 b x) [] M2) : Z RL code 10 ret xt nme room_1 (lwQ b L xs) (allR 2) SH cells slots 946 (ls0 b x) [] M := by
  obtain ⟨v, M1, M2, e1, f1, e2, G2, f2⟩ := api_toothCount G
  cases e1
  refine z_aload_n (i := 1) dW_946 rfl rfl ?_
  refine z_fVi (wv := 2) (n := 0) (sX9_toothCount (wv := 2) M) dW_947 ml_L_199 cd_X9_toothCount mk0 rfl rfl rfl (rmk_r (by decide) (by decide) (by omega) (by omega)) rfl rfl ?_
  refine z_aload_n (i := 2) dW_950 rfl rfl ?_
  refine z_fVi (wv := 2) (n := 0) (sX10_toothCount (wv := 1) M e2) dW_951 ml_L_202 cd_X10_toothCount mk18 rfl rfl rfl (rmk_r (by decide) (by decide) (by omega) (by omega)) rfl rfl ?_
  exact z_icmp_eq (tgt := 2908) dW_954 rfl (fun _ => z_wid (by omega) (by omega) (kk M2 G2)) (fun hne => absurd rfl hne)
set_option maxRecDepth 20000 in
set_option maxHeartbeats 2000000 in
theorem case_16 {b L : Nat} {xs : Nat → Int32} {xt : List ExceptionTableEntry} {nme : String} {x : Int32} {cells slots : Nat} {M : Mm} (G : GL M) (hs : ∀ d : Int32, 0 ≤ d → d < 6 → ¬ (x + d < 0 ∨ L ≤ (x + d).toNatClampNeg)) (hc : cells + 4 ≤ 601024) (hsl : slots + 24 ≤ 7293034) (kk : ∀ M2, GL M2 → Z RL code 10 ret xt nme room_1 (lwQ b L xs) (allR 2) SH (cells + 4) (slots + 24) 2908 (ls0 b x) [] M2) : Z RL code 10 ret xt nme room_1 (lwQ b L xs) (allR 2) SH cells slots 959 (ls0 b x) [] M := by
  obtain ⟨res, M1, e1, f1, hN⟩ := api_soundingPitch G (xs (x + 1).toNatClampNeg)
  have he : ∀ e, res = .inr e → e ∈ [2] := by
    obtain ⟨r0, N0, -, -, -, ag0⟩ := hN M1 fr_rf
    exact ag_in (ag_T ag0)
  refine z_aload_n (i := 1) dW_959 rfl rfl ?_
  refine z_arg (d := 1) dW_960 dW_961 dW_963 dW_964 dW_965 rfl rfl rfl (hs 1 (by decide) (by decide)) ?_
  refine z_aload_n (i := 3) dW_966 rfl rfl ?_
  refine z_callSX (av := [.inr (0, 0, 0), .inl (.int (xs (x + 1).toNatClampNeg)), .inr (21, 0, 0)]) (W_soundingPitch M (xs (x + 1).toNatClampNeg) e1 he) dW_967 ml_L_203 cw_L_soundingPitch rfl ⟨by decide, by decide, hc, hsl⟩ (by decide) rfl (fun v M9 hw => ?_) (fun E M9 h => h.elim)
  obtain ⟨k, hv, hF, hw⟩ := wp_k (by decide) hw
  subst hv
  obtain ⟨r, M2, e2, G2, f2, ag⟩ := hN M9 hF
  have hth := wp_th hw (ag_T ag)
  refine z_istore (i := 6) dW_970 (by decide) rfl ?_
  refine z_aload_n (i := 2) dW_972 rfl rfl ?_
  refine z_arg (d := 1) dW_973 dW_974 dW_976 dW_977 dW_978 rfl rfl rfl (hs 1 (by decide) (by decide)) ?_
  refine z_fVi (wv := 2) (n := 1) (sX10_soundingPitch (wv := 1) M9 (xs (x + 1).toNatClampNeg) e2) dW_979 ml_L_205 cd_X10_soundingPitch mk18 rfl rfl rfl (rmk_r (by decide) (by decide) hc hsl) rfl rfl ?_
  refine z_istore (i := 7) dW_982 (by decide) rfl ?_
  refine z_aload_n (i := 2) dW_984 rfl rfl ?_
  refine z_fVi (wv := 2) (n := 0) (sX10_thrown (wv := 1) M2) dW_985 ml_L_144 cd_X10_thrown mk18 rfl rfl rfl (rmk_r (by decide) (by decide) hc hsl) rfl rfl ?_
  refine z_iload (i := 6) dW_988 rfl ?_
  refine z_icmp_eq (tgt := 995) dW_990 rfl (fun _ => ?_) (fun hne => absurd hth hne)
  refine z_iload (i := 6) dW_995 rfl ?_
  refine z_if_ne (tgt := 1012) dW_997 rfl (fun _ => z_goto (tgt := 2908) dW_1012 rfl (z_fgt (i := 6) (z_fgt (i := 7) (kk M2 G2)))) (fun h0 => ?_)
  obtain ⟨hval, hres⟩ := wp_val hw (ag_T ag) h0 rfl f2
  refine z_aload_n (i := 3) dW_1000 rfl rfl ?_
  refine z_iconst (v := (0 : Int32)) dW_1001 (by decide) ?_
  refine z_lald dW_1002 mk21 rfl (by decide) hval ?_
  refine z_iload (i := 7) dW_1003 rfl ?_
  refine z_i2l dW_1005 ?_
  refine z_lcmp dW_1006 ?_
  exact z_if_eq (tgt := 1012) dW_1007 rfl (fun _ => z_goto (tgt := 2908) dW_1012 rfl (z_fgt (i := 6) (z_fgt (i := 7) (kk M2 G2)))) (fun hne => absurd lcmp_0 hne)
set_option maxRecDepth 20000 in
set_option maxHeartbeats 2000000 in
theorem case_17 {b L : Nat} {xs : Nat → Int32} {xt : List ExceptionTableEntry} {nme : String} {x : Int32} {cells slots : Nat} {M : Mm} (G : GL M) (hs : ∀ d : Int32, 0 ≤ d → d < 6 → ¬ (x + d < 0 ∨ L ≤ (x + d).toNatClampNeg)) (hc : cells + 4 ≤ 601024) (hsl : slots + 24 ≤ 7293034) (kk : ∀ M2, GL M2 → Z RL code 10 ret xt nme room_1 (lwQ b L xs) (allR 2) SH (cells + 4) (slots + 24) 2908 (ls0 b x) [] M2) : Z RL code 10 ret xt nme room_1 (lwQ b L xs) (allR 2) SH cells slots 1015 (ls0 b x) [] M := by
  obtain ⟨res, M1, e1, f1, hN⟩ := api_bendOf G (xs (x + 1).toNatClampNeg)
  have he : ∀ e, res = .inr e → e ∈ [2] := by
    obtain ⟨r0, N0, -, -, -, ag0⟩ := hN M1 fr_rf
    exact ag_in (ag_T ag0)
  refine z_aload_n (i := 1) dW_1015 rfl rfl ?_
  refine z_arg (d := 1) dW_1016 dW_1017 dW_1019 dW_1020 dW_1021 rfl rfl rfl (hs 1 (by decide) (by decide)) ?_
  refine z_aload_n (i := 3) dW_1022 rfl rfl ?_
  refine z_callSX (av := [.inr (0, 0, 0), .inl (.int (xs (x + 1).toNatClampNeg)), .inr (21, 0, 0)]) (W_bendOf M (xs (x + 1).toNatClampNeg) e1 he) dW_1023 ml_L_206 cw_L_bendOf rfl ⟨by decide, by decide, hc, hsl⟩ (by decide) rfl (fun v M9 hw => ?_) (fun E M9 h => h.elim)
  obtain ⟨k, hv, hF, hw⟩ := wp_k (by decide) hw
  subst hv
  obtain ⟨r, M2, e2, G2, f2, ag⟩ := hN M9 hF
  have hth := wp_th hw (ag_T ag)
  refine z_istore (i := 6) dW_1026 (by decide) rfl ?_
  refine z_aload_n (i := 2) dW_1028 rfl rfl ?_
  refine z_arg (d := 1) dW_1029 dW_1030 dW_1032 dW_1033 dW_1034 rfl rfl rfl (hs 1 (by decide) (by decide)) ?_
  refine z_fVi (wv := 2) (n := 1) (sX10_bendOf (wv := 1) M9 (xs (x + 1).toNatClampNeg) e2) dW_1035 ml_L_208 cd_X10_bendOf mk18 rfl rfl rfl (rmk_r (by decide) (by decide) hc hsl) rfl rfl ?_
  refine z_istore (i := 7) dW_1038 (by decide) rfl ?_
  refine z_aload_n (i := 2) dW_1040 rfl rfl ?_
  refine z_fVi (wv := 2) (n := 0) (sX10_thrown (wv := 1) M2) dW_1041 ml_L_144 cd_X10_thrown mk18 rfl rfl rfl (rmk_r (by decide) (by decide) hc hsl) rfl rfl ?_
  refine z_iload (i := 6) dW_1044 rfl ?_
  refine z_icmp_eq (tgt := 1051) dW_1046 rfl (fun _ => ?_) (fun hne => absurd hth hne)
  refine z_iload (i := 6) dW_1051 rfl ?_
  refine z_if_ne (tgt := 1068) dW_1053 rfl (fun _ => z_goto (tgt := 2908) dW_1068 rfl (z_fgt (i := 6) (z_fgt (i := 7) (kk M2 G2)))) (fun h0 => ?_)
  obtain ⟨hval, hres⟩ := wp_val hw (ag_T ag) h0 rfl f2
  refine z_aload_n (i := 3) dW_1056 rfl rfl ?_
  refine z_iconst (v := (0 : Int32)) dW_1057 (by decide) ?_
  refine z_lald dW_1058 mk21 rfl (by decide) hval ?_
  refine z_iload (i := 7) dW_1059 rfl ?_
  refine z_i2l dW_1061 ?_
  refine z_lcmp dW_1062 ?_
  exact z_if_eq (tgt := 1068) dW_1063 rfl (fun _ => z_goto (tgt := 2908) dW_1068 rfl (z_fgt (i := 6) (z_fgt (i := 7) (kk M2 G2)))) (fun hne => absurd lcmp_0 hne)
set_option maxRecDepth 20000 in
set_option maxHeartbeats 2000000 in
theorem case_18 {b L : Nat} {xs : Nat → Int32} {xt : List ExceptionTableEntry} {nme : String} {x : Int32} {cells slots : Nat} {M : Mm} (G : GL M) (hs : ∀ d : Int32, 0 ≤ d → d < 6 → ¬ (x + d < 0 ∨ L ≤ (x + d).toNatClampNeg)) (hc : cells + 4 ≤ 601024) (hsl : slots + 24 ≤ 7293034) (kk : ∀ M2, GL M2 → Z RL code 10 ret xt nme room_1 (lwQ b L xs) (allR 2) SH (cells + 4) (slots + 24) 2908 (ls0 b x) [] M2) : Z RL code 10 ret xt nme room_1 (lwQ b L xs) (allR 2) SH cells slots 1071 (ls0 b x) [] M := by
  obtain ⟨res, M1, e1, f1, hN⟩ := api_gap G (xs (x + 1).toNatClampNeg)
  have he : ∀ e, res = .inr e → e ∈ [2] := by
    obtain ⟨r0, N0, -, -, -, ag0⟩ := hN M1 fr_rf
    exact ag_in (ag_T ag0)
  refine z_aload_n (i := 1) dW_1071 rfl rfl ?_
  refine z_arg (d := 1) dW_1072 dW_1073 dW_1075 dW_1076 dW_1077 rfl rfl rfl (hs 1 (by decide) (by decide)) ?_
  refine z_aload_n (i := 3) dW_1078 rfl rfl ?_
  refine z_callSX (av := [.inr (0, 0, 0), .inl (.int (xs (x + 1).toNatClampNeg)), .inr (21, 0, 0)]) (W_gap M (xs (x + 1).toNatClampNeg) e1 he) dW_1079 ml_L_209 cw_L_gap rfl ⟨by decide, by decide, hc, hsl⟩ (by decide) rfl (fun v M9 hw => ?_) (fun E M9 h => h.elim)
  obtain ⟨k, hv, hF, hw⟩ := wp_k (by decide) hw
  subst hv
  obtain ⟨r, M2, e2, G2, f2, ag⟩ := hN M9 hF
  have hth := wp_th hw (ag_T ag)
  refine z_istore (i := 6) dW_1082 (by decide) rfl ?_
  refine z_aload_n (i := 2) dW_1084 rfl rfl ?_
  refine z_arg (d := 1) dW_1085 dW_1086 dW_1088 dW_1089 dW_1090 rfl rfl rfl (hs 1 (by decide) (by decide)) ?_
  refine z_fVi (wv := 2) (n := 1) (sX10_gap (wv := 1) M9 (xs (x + 1).toNatClampNeg) e2) dW_1091 ml_L_211 cd_X10_gap mk18 rfl rfl rfl (rmk_r (by decide) (by decide) hc hsl) rfl rfl ?_
  refine z_istore (i := 7) dW_1094 (by decide) rfl ?_
  refine z_aload_n (i := 2) dW_1096 rfl rfl ?_
  refine z_fVi (wv := 2) (n := 0) (sX10_thrown (wv := 1) M2) dW_1097 ml_L_144 cd_X10_thrown mk18 rfl rfl rfl (rmk_r (by decide) (by decide) hc hsl) rfl rfl ?_
  refine z_iload (i := 6) dW_1100 rfl ?_
  refine z_icmp_eq (tgt := 1107) dW_1102 rfl (fun _ => ?_) (fun hne => absurd hth hne)
  refine z_iload (i := 6) dW_1107 rfl ?_
  refine z_if_ne (tgt := 1124) dW_1109 rfl (fun _ => z_goto (tgt := 2908) dW_1124 rfl (z_fgt (i := 6) (z_fgt (i := 7) (kk M2 G2)))) (fun h0 => ?_)
  obtain ⟨hval, hres⟩ := wp_val hw (ag_T ag) h0 rfl f2
  refine z_aload_n (i := 3) dW_1112 rfl rfl ?_
  refine z_iconst (v := (0 : Int32)) dW_1113 (by decide) ?_
  refine z_lald dW_1114 mk21 rfl (by decide) hval ?_
  refine z_iload (i := 7) dW_1115 rfl ?_
  refine z_i2l dW_1117 ?_
  refine z_lcmp dW_1118 ?_
  exact z_if_eq (tgt := 1124) dW_1119 rfl (fun _ => z_goto (tgt := 2908) dW_1124 rfl (z_fgt (i := 6) (z_fgt (i := 7) (kk M2 G2)))) (fun hne => absurd lcmp_0 hne)
set_option maxRecDepth 20000 in
set_option maxHeartbeats 2000000 in
theorem case_19 {b L : Nat} {xs : Nat → Int32} {xt : List ExceptionTableEntry} {nme : String} {x : Int32} {cells slots : Nat} {M : Mm} (G : GL M) (hs : ∀ d : Int32, 0 ≤ d → d < 6 → ¬ (x + d < 0 ∨ L ≤ (x + d).toNatClampNeg)) (hc : cells + 4 ≤ 601024) (hsl : slots + 24 ≤ 7293034) (kk : ∀ M2, GL M2 → Z RL code 10 ret xt nme room_1 (lwQ b L xs) (allR 2) SH (cells + 4) (slots + 24) 2908 (ls0 b x) [] M2) : Z RL code 10 ret xt nme room_1 (lwQ b L xs) (allR 2) SH cells slots 1127 (ls0 b x) [] M := by
  obtain ⟨res, M1, e1, f1, hN⟩ := api_wear G (xs (x + 1).toNatClampNeg)
  have he : ∀ e, res = .inr e → e ∈ [2] := by
    obtain ⟨r0, N0, -, -, -, ag0⟩ := hN M1 fr_rf
    exact ag_in (ag_T ag0)
  refine z_aload_n (i := 1) dW_1127 rfl rfl ?_
  refine z_arg (d := 1) dW_1128 dW_1129 dW_1131 dW_1132 dW_1133 rfl rfl rfl (hs 1 (by decide) (by decide)) ?_
  refine z_aload_n (i := 3) dW_1134 rfl rfl ?_
  refine z_callSX (av := [.inr (0, 0, 0), .inl (.int (xs (x + 1).toNatClampNeg)), .inr (21, 0, 0)]) (W_wear M (xs (x + 1).toNatClampNeg) e1 he) dW_1135 ml_L_212 cw_L_wear rfl ⟨by decide, by decide, hc, hsl⟩ (by decide) rfl (fun v M9 hw => ?_) (fun E M9 h => h.elim)
  obtain ⟨k, hv, hF, hw⟩ := wp_k (by decide) hw
  subst hv
  obtain ⟨r, M2, e2, G2, f2, ag⟩ := hN M9 hF
  have hth := wp_th hw (ag_T ag)
  refine z_istore (i := 6) dW_1138 (by decide) rfl ?_
  refine z_aload_n (i := 2) dW_1140 rfl rfl ?_
  refine z_arg (d := 1) dW_1141 dW_1142 dW_1144 dW_1145 dW_1146 rfl rfl rfl (hs 1 (by decide) (by decide)) ?_
  refine z_fVi (wv := 2) (n := 1) (sX10_wear (wv := 1) M9 (xs (x + 1).toNatClampNeg) e2) dW_1147 ml_L_214 cd_X10_wear mk18 rfl rfl rfl (rmk_r (by decide) (by decide) hc hsl) rfl rfl ?_
  refine z_istore (i := 7) dW_1150 (by decide) rfl ?_
  refine z_aload_n (i := 2) dW_1152 rfl rfl ?_
  refine z_fVi (wv := 2) (n := 0) (sX10_thrown (wv := 1) M2) dW_1153 ml_L_144 cd_X10_thrown mk18 rfl rfl rfl (rmk_r (by decide) (by decide) hc hsl) rfl rfl ?_
  refine z_iload (i := 6) dW_1156 rfl ?_
  refine z_icmp_eq (tgt := 1163) dW_1158 rfl (fun _ => ?_) (fun hne => absurd hth hne)
  refine z_iload (i := 6) dW_1163 rfl ?_
  refine z_if_ne (tgt := 1180) dW_1165 rfl (fun _ => z_goto (tgt := 2908) dW_1180 rfl (z_fgt (i := 6) (z_fgt (i := 7) (kk M2 G2)))) (fun h0 => ?_)
  obtain ⟨hval, hres⟩ := wp_val hw (ag_T ag) h0 rfl f2
  refine z_aload_n (i := 3) dW_1168 rfl rfl ?_
  refine z_iconst (v := (0 : Int32)) dW_1169 (by decide) ?_
  refine z_lald dW_1170 mk21 rfl (by decide) hval ?_
  refine z_iload (i := 7) dW_1171 rfl ?_
  refine z_i2l dW_1173 ?_
  refine z_lcmp dW_1174 ?_
  exact z_if_eq (tgt := 1180) dW_1175 rfl (fun _ => z_goto (tgt := 2908) dW_1180 rfl (z_fgt (i := 6) (z_fgt (i := 7) (kk M2 G2)))) (fun hne => absurd lcmp_0 hne)
set_option maxRecDepth 20000 in
set_option maxHeartbeats 2000000 in
theorem case_20 {b L : Nat} {xs : Nat → Int32} {xt : List ExceptionTableEntry} {nme : String} {x : Int32} {cells slots : Nat} {M : Mm} (G : GL M) (hs : ∀ d : Int32, 0 ≤ d → d < 6 → ¬ (x + d < 0 ∨ L ≤ (x + d).toNatClampNeg)) (hc : cells + 4 ≤ 601024) (hsl : slots + 24 ≤ 7293034) (kk : ∀ M2, GL M2 → Z RL code 10 ret xt nme room_1 (lwQ b L xs) (allR 2) SH (cells + 4) (slots + 24) 2908 (ls0 b x) [] M2) : Z RL code 10 ret xt nme room_1 (lwQ b L xs) (allR 2) SH cells slots 1183 (ls0 b x) [] M := by
  obtain ⟨res, M1, e1, f1, hN⟩ := api_silence G (xs (x + 1).toNatClampNeg)
  have he : ∀ e, res = .inr e → e ∈ [2] := by
    obtain ⟨r0, N0, -, -, -, ag0⟩ := hN M1 fr_rf
    exact ag_in (ag_T ag0)
  refine z_aload_n (i := 1) dW_1183 rfl rfl ?_
  refine z_arg (d := 1) dW_1184 dW_1185 dW_1187 dW_1188 dW_1189 rfl rfl rfl (hs 1 (by decide) (by decide)) ?_
  refine z_aload_n (i := 3) dW_1190 rfl rfl ?_
  refine z_callSX (av := [.inr (0, 0, 0), .inl (.int (xs (x + 1).toNatClampNeg)), .inr (21, 0, 0)]) (W_silence M (xs (x + 1).toNatClampNeg) e1 he) dW_1191 ml_L_215 cw_L_silence rfl ⟨by decide, by decide, hc, hsl⟩ (by decide) rfl (fun v M9 hw => ?_) (fun E M9 h => h.elim)
  obtain ⟨k, hv, hF, hw⟩ := wp_k (by decide) hw
  subst hv
  obtain ⟨r, M2, e2, G2, f2, ag⟩ := hN M9 hF
  have hth := wp_th hw (ag_T ag)
  refine z_istore (i := 6) dW_1194 (by decide) rfl ?_
  refine z_aload_n (i := 2) dW_1196 rfl rfl ?_
  refine z_arg (d := 1) dW_1197 dW_1198 dW_1200 dW_1201 dW_1202 rfl rfl rfl (hs 1 (by decide) (by decide)) ?_
  refine z_fVi (wv := 2) (n := 1) (sX10_silence (wv := 1) M9 (xs (x + 1).toNatClampNeg) e2) dW_1203 ml_L_217 cd_X10_silence mk18 rfl rfl rfl (rmk_r (by decide) (by decide) hc hsl) rfl rfl ?_
  refine z_istore (i := 7) dW_1206 (by decide) rfl ?_
  refine z_aload_n (i := 2) dW_1208 rfl rfl ?_
  refine z_fVi (wv := 2) (n := 0) (sX10_thrown (wv := 1) M2) dW_1209 ml_L_144 cd_X10_thrown mk18 rfl rfl rfl (rmk_r (by decide) (by decide) hc hsl) rfl rfl ?_
  refine z_iload (i := 6) dW_1212 rfl ?_
  refine z_icmp_eq (tgt := 1219) dW_1214 rfl (fun _ => ?_) (fun hne => absurd hth hne)
  refine z_iload (i := 6) dW_1219 rfl ?_
  refine z_if_ne (tgt := 1236) dW_1221 rfl (fun _ => z_goto (tgt := 2908) dW_1236 rfl (z_fgt (i := 6) (z_fgt (i := 7) (kk M2 G2)))) (fun h0 => ?_)
  obtain ⟨hval, hres⟩ := wp_val hw (ag_T ag) h0 rfl f2
  refine z_aload_n (i := 3) dW_1224 rfl rfl ?_
  refine z_iconst (v := (0 : Int32)) dW_1225 (by decide) ?_
  refine z_lald dW_1226 mk21 rfl (by decide) hval ?_
  refine z_iload (i := 7) dW_1227 rfl ?_
  refine z_i2l dW_1229 ?_
  refine z_lcmp dW_1230 ?_
  exact z_if_eq (tgt := 1236) dW_1231 rfl (fun _ => z_goto (tgt := 2908) dW_1236 rfl (z_fgt (i := 6) (z_fgt (i := 7) (kk M2 G2)))) (fun hne => absurd lcmp_0 hne)
set_option maxRecDepth 20000 in
set_option maxHeartbeats 2000000 in
theorem case_21 {b L : Nat} {xs : Nat → Int32} {xt : List ExceptionTableEntry} {nme : String} {x : Int32} {cells slots : Nat} {M : Mm} (G : GL M) (hs : ∀ d : Int32, 0 ≤ d → d < 6 → ¬ (x + d < 0 ∨ L ≤ (x + d).toNatClampNeg)) (hc : cells + 4 ≤ 601024) (hsl : slots + 24 ≤ 7293034) (kk : ∀ M2, GL M2 → Z RL code 10 ret xt nme room_1 (lwQ b L xs) (allR 2) SH (cells + 4) (slots + 24) 2908 (ls0 b x) [] M2) : Z RL code 10 ret xt nme room_1 (lwQ b L xs) (allR 2) SH cells slots 1239 (ls0 b x) [] M := by
  obtain ⟨res, M1, e1, f1, hN⟩ := api_isBroken G (xs (x + 1).toNatClampNeg)
  have he : ∀ e, res = .inr e → e ∈ [2] := by
    obtain ⟨r0, N0, -, -, -, ag0⟩ := hN M1 fr_rf
    exact ag_in (ag_T ag0)
  refine z_aload_n (i := 1) dW_1239 rfl rfl ?_
  refine z_arg (d := 1) dW_1240 dW_1241 dW_1243 dW_1244 dW_1245 rfl rfl rfl (hs 1 (by decide) (by decide)) ?_
  refine z_aload_n (i := 3) dW_1246 rfl rfl ?_
  refine z_callSX (av := [.inr (0, 0, 0), .inl (.int (xs (x + 1).toNatClampNeg)), .inr (21, 0, 0)]) (W_isBroken M (xs (x + 1).toNatClampNeg) e1 he) dW_1247 ml_L_218 cw_L_isBroken rfl ⟨by decide, by decide, hc, hsl⟩ (by decide) rfl (fun v M9 hw => ?_) (fun E M9 h => h.elim)
  obtain ⟨k, hv, hF, hw⟩ := wp_k (by decide) hw
  subst hv
  obtain ⟨r, M2, e2, G2, f2, ag⟩ := hN M9 hF
  have hth := wp_th hw (ag_T ag)
  refine z_istore (i := 6) dW_1250 (by decide) rfl ?_
  refine z_aload_n (i := 2) dW_1252 rfl rfl ?_
  refine z_arg (d := 1) dW_1253 dW_1254 dW_1256 dW_1257 dW_1258 rfl rfl rfl (hs 1 (by decide) (by decide)) ?_
  refine z_fVi (wv := 2) (n := 1) (sX10_isBroken (wv := 1) M9 (xs (x + 1).toNatClampNeg) e2) dW_1259 ml_L_220 cd_X10_isBroken mk18 rfl rfl rfl (rmk_r (by decide) (by decide) hc hsl) rfl rfl ?_
  refine z_istore (i := 7) dW_1262 (by decide) rfl ?_
  refine z_aload_n (i := 2) dW_1264 rfl rfl ?_
  refine z_fVi (wv := 2) (n := 0) (sX10_thrown (wv := 1) M2) dW_1265 ml_L_144 cd_X10_thrown mk18 rfl rfl rfl (rmk_r (by decide) (by decide) hc hsl) rfl rfl ?_
  refine z_iload (i := 6) dW_1268 rfl ?_
  refine z_icmp_eq (tgt := 1275) dW_1270 rfl (fun _ => ?_) (fun hne => absurd hth hne)
  refine z_iload (i := 6) dW_1275 rfl ?_
  refine z_if_ne (tgt := 1299) dW_1277 rfl (fun _ => z_goto (tgt := 2908) dW_1299 rfl (z_fgt (i := 6) (z_fgt (i := 7) (kk M2 G2)))) (fun h0 => ?_)
  obtain ⟨hval, hres⟩ := wp_val hw (ag_T ag) h0 rfl f2
  refine z_aload_n (i := 3) dW_1280 rfl rfl ?_
  refine z_iconst (v := (0 : Int32)) dW_1281 (by decide) ?_
  refine z_lald dW_1282 mk21 rfl (by decide) hval ?_
  refine z_iload (i := 7) dW_1283 rfl ?_
  refine z_if_eq (tgt := 1292) dW_1285 rfl (fun hb => ?_) (fun hb => ?_)
  · refine z_lconst (v := 0) dW_1292 rfl ?_
    refine z_lcmp dW_1293 ?_
    exact z_if_eq (tgt := 1299) dW_1294 rfl (fun _ => z_goto (tgt := 2908) dW_1299 rfl (z_fgt (i := 6) (z_fgt (i := 7) (kk M2 G2)))) (fun hne => absurd (by unfold fB; rw [if_pos hb]; exact lcmp_0) hne)
  · refine z_lconst (v := 1) dW_1288 rfl ?_
    refine z_goto (tgt := 1293) dW_1289 rfl ?_
    refine z_lcmp dW_1293 ?_
    exact z_if_eq (tgt := 1299) dW_1294 rfl (fun _ => z_goto (tgt := 2908) dW_1299 rfl (z_fgt (i := 6) (z_fgt (i := 7) (kk M2 G2)))) (fun hne => absurd (by unfold fB; rw [if_neg hb]; exact lcmp_0) hne)
set_option maxRecDepth 20000 in
set_option maxHeartbeats 2000000 in
theorem case_22 {b L : Nat} {xs : Nat → Int32} {xt : List ExceptionTableEntry} {nme : String} {x : Int32} {cells slots : Nat} {M : Mm} (G : GL M) (hs : ∀ d : Int32, 0 ≤ d → d < 6 → ¬ (x + d < 0 ∨ L ≤ (x + d).toNatClampNeg)) (hc : cells + 4 ≤ 601024) (hsl : slots + 24 ≤ 7293034) (kk : ∀ M2, GL M2 → Z RL code 10 ret xt nme room_1 (lwQ b L xs) (allR 2) SH (cells + 4) (slots + 24) 2908 (ls0 b x) [] M2) : Z RL code 10 ret xt nme room_1 (lwQ b L xs) (allR 2) SH cells slots 1302 (ls0 b x) [] M := by
  obtain ⟨res, M1, e1, f1, hN⟩ := api_nextSound G (xs (x + 1).toNatClampNeg)
  have he : ∀ e, res = .inr e → e ∈ [2] := by
    obtain ⟨r0, N0, -, -, -, ag0⟩ := hN M1 fr_rf
    exact ag_in (ag_T ag0)
  refine z_aload_n (i := 1) dW_1302 rfl rfl ?_
  refine z_arg (d := 1) dW_1303 dW_1304 dW_1306 dW_1307 dW_1308 rfl rfl rfl (hs 1 (by decide) (by decide)) ?_
  refine z_aload_n (i := 3) dW_1309 rfl rfl ?_
  refine z_callSX (av := [.inr (0, 0, 0), .inl (.int (xs (x + 1).toNatClampNeg)), .inr (21, 0, 0)]) (W_nextSound M (xs (x + 1).toNatClampNeg) e1 he) dW_1310 ml_L_221 cw_L_nextSound rfl ⟨by decide, by decide, hc, hsl⟩ (by decide) rfl (fun v M9 hw => ?_) (fun E M9 h => h.elim)
  obtain ⟨k, hv, hF, hw⟩ := wp_k (by decide) hw
  subst hv
  obtain ⟨r, M2, e2, G2, f2, ag⟩ := hN M9 hF
  have hth := wp_th hw (ag_T ag)
  refine z_istore (i := 6) dW_1313 (by decide) rfl ?_
  refine z_aload_n (i := 2) dW_1315 rfl rfl ?_
  refine z_arg (d := 1) dW_1316 dW_1317 dW_1319 dW_1320 dW_1321 rfl rfl rfl (hs 1 (by decide) (by decide)) ?_
  refine z_fVi (wv := 2) (n := 1) (sX10_nextSound (wv := 1) M9 (xs (x + 1).toNatClampNeg) e2) dW_1322 ml_L_223 cd_X10_nextSound mk18 rfl rfl rfl (rmk_r (by decide) (by decide) hc hsl) rfl rfl ?_
  refine z_istore (i := 7) dW_1325 (by decide) rfl ?_
  refine z_aload_n (i := 2) dW_1327 rfl rfl ?_
  refine z_fVi (wv := 2) (n := 0) (sX10_thrown (wv := 1) M2) dW_1328 ml_L_144 cd_X10_thrown mk18 rfl rfl rfl (rmk_r (by decide) (by decide) hc hsl) rfl rfl ?_
  refine z_iload (i := 6) dW_1331 rfl ?_
  refine z_icmp_eq (tgt := 1338) dW_1333 rfl (fun _ => ?_) (fun hne => absurd hth hne)
  refine z_iload (i := 6) dW_1338 rfl ?_
  refine z_if_ne (tgt := 1355) dW_1340 rfl (fun _ => z_goto (tgt := 2908) dW_1355 rfl (z_fgt (i := 6) (z_fgt (i := 7) (kk M2 G2)))) (fun h0 => ?_)
  obtain ⟨hval, hres⟩ := wp_val hw (ag_T ag) h0 rfl f2
  refine z_aload_n (i := 3) dW_1343 rfl rfl ?_
  refine z_iconst (v := (0 : Int32)) dW_1344 (by decide) ?_
  refine z_lald dW_1345 mk21 rfl (by decide) hval ?_
  refine z_iload (i := 7) dW_1346 rfl ?_
  refine z_i2l dW_1348 ?_
  refine z_lcmp dW_1349 ?_
  exact z_if_eq (tgt := 1355) dW_1350 rfl (fun _ => z_goto (tgt := 2908) dW_1355 rfl (z_fgt (i := 6) (z_fgt (i := 7) (kk M2 G2)))) (fun hne => absurd lcmp_0 hne)
set_option maxRecDepth 20000 in
set_option maxHeartbeats 2000000 in
theorem case_23 {b L : Nat} {xs : Nat → Int32} {xt : List ExceptionTableEntry} {nme : String} {x : Int32} {cells slots : Nat} {M : Mm} (G : GL M) (hs : ∀ d : Int32, 0 ≤ d → d < 6 → ¬ (x + d < 0 ∨ L ≤ (x + d).toNatClampNeg)) (hc : cells + 4 ≤ 601024) (hsl : slots + 24 ≤ 7293034) (kk : ∀ M2, GL M2 → Z RL code 10 ret xt nme room_1 (lwQ b L xs) (allR 2) SH (cells + 4) (slots + 24) 2908 (ls0 b x) [] M2) : Z RL code 10 ret xt nme room_1 (lwQ b L xs) (allR 2) SH cells slots 1358 (ls0 b x) [] M := by
  obtain ⟨v, M1, M2, e1, f1, e2, G2, f2⟩ := api_turnsLeft G
  cases e1
  refine z_aload_n (i := 1) dW_1358 rfl rfl ?_
  refine z_fVi (wv := 2) (n := 0) (sX9_turnsLeft (wv := 2) M) dW_1359 ml_L_224 cd_X9_turnsLeft mk0 rfl rfl rfl (rmk_r (by decide) (by decide) (by omega) (by omega)) rfl rfl ?_
  refine z_aload_n (i := 2) dW_1362 rfl rfl ?_
  refine z_fVi (wv := 2) (n := 0) (sX10_turnsLeft (wv := 1) M e2) dW_1363 ml_L_227 cd_X10_turnsLeft mk18 rfl rfl rfl (rmk_r (by decide) (by decide) (by omega) (by omega)) rfl rfl ?_
  exact z_icmp_eq (tgt := 2908) dW_1366 rfl (fun _ => z_wid (by omega) (by omega) (kk M2 G2)) (fun hne => absurd rfl hne)
set_option maxRecDepth 20000 in
set_option maxHeartbeats 2000000 in
theorem case_24 {b L : Nat} {xs : Nat → Int32} {xt : List ExceptionTableEntry} {nme : String} {x : Int32} {cells slots : Nat} {M : Mm} (G : GL M) (hs : ∀ d : Int32, 0 ≤ d → d < 6 → ¬ (x + d < 0 ∨ L ≤ (x + d).toNatClampNeg)) (hc : cells + 4 ≤ 601024) (hsl : slots + 24 ≤ 7293034) (kk : ∀ M2, GL M2 → Z RL code 10 ret xt nme room_1 (lwQ b L xs) (allR 2) SH (cells + 4) (slots + 24) 2908 (ls0 b x) [] M2) : Z RL code 10 ret xt nme room_1 (lwQ b L xs) (allR 2) SH cells slots 1371 (ls0 b x) [] M := by
  obtain ⟨v, M1, M2, e1, f1, e2, G2, f2⟩ := api_vane G
  cases e1
  refine z_aload_n (i := 1) dW_1371 rfl rfl ?_
  refine z_fVi (wv := 2) (n := 0) (sX9_vane (wv := 2) M) dW_1372 ml_L_228 cd_X9_vane mk0 rfl rfl rfl (rmk_r (by decide) (by decide) (by omega) (by omega)) rfl rfl ?_
  refine z_aload_n (i := 2) dW_1375 rfl rfl ?_
  refine z_fVi (wv := 2) (n := 0) (sX10_vane (wv := 1) M e2) dW_1376 ml_L_231 cd_X10_vane mk18 rfl rfl rfl (rmk_r (by decide) (by decide) (by omega) (by omega)) rfl rfl ?_
  exact z_icmp_eq (tgt := 2908) dW_1379 rfl (fun _ => z_wid (by omega) (by omega) (kk M2 G2)) (fun hne => absurd rfl hne)
set_option maxRecDepth 20000 in
set_option maxHeartbeats 2000000 in
theorem case_25 {b L : Nat} {xs : Nat → Int32} {xt : List ExceptionTableEntry} {nme : String} {x : Int32} {cells slots : Nat} {M : Mm} (G : GL M) (hs : ∀ d : Int32, 0 ≤ d → d < 6 → ¬ (x + d < 0 ∨ L ≤ (x + d).toNatClampNeg)) (hc : cells + 4 ≤ 601024) (hsl : slots + 24 ≤ 7293034) (kk : ∀ M2, GL M2 → Z RL code 10 ret xt nme room_1 (lwQ b L xs) (allR 2) SH (cells + 4) (slots + 24) 2908 (ls0 b x) [] M2) : Z RL code 10 ret xt nme room_1 (lwQ b L xs) (allR 2) SH cells slots 1384 (ls0 b x) [] M := by
  obtain ⟨v, M1, M2, e1, f1, e2, G2, f2⟩ := api_tempo G
  cases e1
  refine z_aload_n (i := 1) dW_1384 rfl rfl ?_
  refine z_fVi (wv := 2) (n := 0) (sX9_tempo (wv := 2) M) dW_1385 ml_L_232 cd_X9_tempo mk0 rfl rfl rfl (rmk_r (by decide) (by decide) (by omega) (by omega)) rfl rfl ?_
  refine z_aload_n (i := 2) dW_1388 rfl rfl ?_
  refine z_fVi (wv := 2) (n := 0) (sX10_tempo (wv := 1) M e2) dW_1389 ml_L_235 cd_X10_tempo mk18 rfl rfl rfl (rmk_r (by decide) (by decide) (by omega) (by omega)) rfl rfl ?_
  exact z_icmp_eq (tgt := 2908) dW_1392 rfl (fun _ => z_wid (by omega) (by omega) (kk M2 G2)) (fun hne => absurd rfl hne)
set_option maxRecDepth 20000 in
set_option maxHeartbeats 2000000 in
theorem case_26 {b L : Nat} {xs : Nat → Int32} {xt : List ExceptionTableEntry} {nme : String} {x : Int32} {cells slots : Nat} {M : Mm} (G : GL M) (hs : ∀ d : Int32, 0 ≤ d → d < 6 → ¬ (x + d < 0 ∨ L ≤ (x + d).toNatClampNeg)) (hc : cells + 4 ≤ 601024) (hsl : slots + 24 ≤ 7293034) (kk : ∀ M2, GL M2 → Z RL code 10 ret xt nme room_1 (lwQ b L xs) (allR 2) SH (cells + 4) (slots + 24) 2908 (ls0 b x) [] M2) : Z RL code 10 ret xt nme room_1 (lwQ b L xs) (allR 2) SH cells slots 1397 (ls0 b x) [] M := by
  obtain ⟨v, M1, M2, e1, hok, f1, e2, G2, f2⟩ := api_secondsPerStep G
  obtain ⟨q, hq, e⟩ := mp_some e1
  cases e
  refine z_aload_n (i := 1) dW_1397 rfl rfl ?_
  refine z_fVd (wv := 2) (n := 0) (sX9_secondsPerStep (wv := 2) M hq) dW_1398 ml_L_236 cd_X9_secondsPerStep mk0 rfl rfl rfl (rmk_r (by decide) (by decide) (by omega) (by omega)) rfl rfl ?_
  refine z_dstore (i := 6) dW_1401 (by decide) rfl ?_
  refine z_aload_n (i := 2) dW_1403 rfl rfl ?_
  refine z_fVd (wv := 2) (n := 0) (sX10_secondsPerStep (wv := 1) M e2) dW_1404 ml_L_240 cd_X10_secondsPerStep mk18 rfl rfl rfl (rmk_r (by decide) (by decide) (by omega) (by omega)) rfl rfl ?_
  refine z_dstore (i := 8) dW_1407 (by decide) rfl ?_
  refine z_dload (i := 6) dW_1409 rfl ?_
  refine z_dload (i := 8) dW_1411 rfl ?_
  refine z_dcmp dW_1413 ?_
  exact z_if_eq (tgt := 1435) dW_1414 rfl (fun _ => z_goto (tgt := 2908) dW_1435 rfl (z_fgt (i := 6) (z_fgt (i := 8) (z_wid (by omega) (by omega) (kk M2 G2))))) (fun hne => absurd (dcmp_0 hok) hne)
set_option maxRecDepth 20000 in
set_option maxHeartbeats 2000000 in
theorem case_27 {b L : Nat} {xs : Nat → Int32} {xt : List ExceptionTableEntry} {nme : String} {x : Int32} {cells slots : Nat} {M : Mm} (G : GL M) (hs : ∀ d : Int32, 0 ≤ d → d < 6 → ¬ (x + d < 0 ∨ L ≤ (x + d).toNatClampNeg)) (hc : cells + 4 ≤ 601024) (hsl : slots + 24 ≤ 7293034) (kk : ∀ M2, GL M2 → Z RL code 10 ret xt nme room_1 (lwQ b L xs) (allR 2) SH (cells + 4) (slots + 24) 2908 (ls0 b x) [] M2) : Z RL code 10 ret xt nme room_1 (lwQ b L xs) (allR 2) SH cells slots 1438 (ls0 b x) [] M := by
  obtain ⟨v, M1, M2, e1, hok, f1, e2, G2, f2⟩ := api_secondsPerStepBits G
  obtain ⟨q, hq, e⟩ := mp_some e1
  cases e
  refine z_aload_n (i := 1) dW_1438 rfl rfl ?_
  refine z_fVl (wv := 2) (n := 0) (sX9_secondsPerStepBits (wv := 2) M hq) dW_1439 ml_L_241 cd_X9_secondsPerStepBits mk0 rfl rfl rfl (rmk_r (by decide) (by decide) (by omega) (by omega)) rfl rfl ?_
  refine z_aload_n (i := 2) dW_1442 rfl rfl ?_
  refine z_fVl (wv := 2) (n := 0) (sX10_secondsPerStepBits (wv := 1) M e2) dW_1443 ml_L_245 cd_X10_secondsPerStepBits mk18 rfl rfl rfl (rmk_r (by decide) (by decide) (by omega) (by omega)) rfl rfl ?_
  refine z_lcmp dW_1446 ?_
  exact z_if_eq (tgt := 2908) dW_1447 rfl (fun _ => z_wid (by omega) (by omega) (kk M2 G2)) (fun hne => absurd lcmp_0 hne)
set_option maxRecDepth 20000 in
set_option maxHeartbeats 2000000 in
theorem case_28 {b L : Nat} {xs : Nat → Int32} {xt : List ExceptionTableEntry} {nme : String} {x : Int32} {cells slots : Nat} {M : Mm} (G : GL M) (hs : ∀ d : Int32, 0 ≤ d → d < 6 → ¬ (x + d < 0 ∨ L ≤ (x + d).toNatClampNeg)) (hc : cells + 4 ≤ 601024) (hsl : slots + 24 ≤ 7293034) (kk : ∀ M2, GL M2 → Z RL code 10 ret xt nme room_1 (lwQ b L xs) (allR 2) SH (cells + 4) (slots + 24) 2908 (ls0 b x) [] M2) : Z RL code 10 ret xt nme room_1 (lwQ b L xs) (allR 2) SH cells slots 1452 (ls0 b x) [] M := by
  obtain ⟨v, M1, M2, e1, f1, e2, G2, f2⟩ := api_noteCount G
  cases e1
  refine z_aload_n (i := 1) dW_1452 rfl rfl ?_
  refine z_fVi (wv := 2) (n := 0) (sX9_noteCount (wv := 2) M) dW_1453 ml_L_246 cd_X9_noteCount mk0 rfl rfl rfl (rmk_r (by decide) (by decide) (by omega) (by omega)) rfl rfl ?_
  refine z_aload_n (i := 2) dW_1456 rfl rfl ?_
  refine z_fVi (wv := 2) (n := 0) (sX10_noteCount (wv := 1) M e2) dW_1457 ml_L_249 cd_X10_noteCount mk18 rfl rfl rfl (rmk_r (by decide) (by decide) (by omega) (by omega)) rfl rfl ?_
  exact z_icmp_eq (tgt := 2908) dW_1460 rfl (fun _ => z_wid (by omega) (by omega) (kk M2 G2)) (fun hne => absurd rfl hne)
set_option maxRecDepth 20000 in
set_option maxHeartbeats 2000000 in
theorem case_29 {b L : Nat} {xs : Nat → Int32} {xt : List ExceptionTableEntry} {nme : String} {x : Int32} {cells slots : Nat} {M : Mm} (G : GL M) (hs : ∀ d : Int32, 0 ≤ d → d < 6 → ¬ (x + d < 0 ∨ L ≤ (x + d).toNatClampNeg)) (hc : cells + 4 ≤ 601024) (hsl : slots + 24 ≤ 7293034) (kk : ∀ M2, GL M2 → Z RL code 10 ret xt nme room_1 (lwQ b L xs) (allR 2) SH (cells + 4) (slots + 24) 2908 (ls0 b x) [] M2) : Z RL code 10 ret xt nme room_1 (lwQ b L xs) (allR 2) SH cells slots 1465 (ls0 b x) [] M := by
  obtain ⟨v, M1, M2, e1, f1, e2, G2, f2⟩ := api_squeakCount G
  cases e1
  refine z_aload_n (i := 1) dW_1465 rfl rfl ?_
  refine z_fVi (wv := 2) (n := 0) (sX9_squeakCount (wv := 2) M) dW_1466 ml_L_250 cd_X9_squeakCount mk0 rfl rfl rfl (rmk_r (by decide) (by decide) (by omega) (by omega)) rfl rfl ?_
  refine z_aload_n (i := 2) dW_1469 rfl rfl ?_
  refine z_fVi (wv := 2) (n := 0) (sX10_squeakCount (wv := 1) M e2) dW_1470 ml_L_253 cd_X10_squeakCount mk18 rfl rfl rfl (rmk_r (by decide) (by decide) (by omega) (by omega)) rfl rfl ?_
  exact z_icmp_eq (tgt := 2908) dW_1473 rfl (fun _ => z_wid (by omega) (by omega) (kk M2 G2)) (fun hne => absurd rfl hne)
