theorem dL_acts_0 : decode cL_acts 0 = .ok (.aload_n 2, 1) := by decide +kernel
theorem dL_acts_1 : decode cL_acts 1 = .ok (.iload_n 3, 1) := by decide +kernel
theorem dL_acts_2 : decode cL_acts 2 = .ok (.bipush 20, 2) := by decide +kernel
theorem dL_acts_4 : decode cL_acts 4 = .ok (.invokestatic 316, 3) := by decide +kernel
theorem dL_acts_7 : decode cL_acts 7 = .ok (.istore 4, 2) := by decide +kernel
theorem dL_acts_9 : decode cL_acts 9 = .ok (.aload_n 2, 1) := by decide +kernel
theorem dL_acts_10 : decode cL_acts 10 = .ok (.iload_n 3, 1) := by decide +kernel
theorem dL_acts_11 : decode cL_acts 11 = .ok (.iconst 1, 1) := by decide +kernel
theorem dL_acts_12 : decode cL_acts 12 = .ok (.iadd, 1) := by decide +kernel
theorem dL_acts_13 : decode cL_acts 13 = .ok (.sipush 10000, 3) := by decide +kernel
theorem dL_acts_16 : decode cL_acts 16 = .ok (.invokestatic 316, 3) := by decide +kernel
theorem dL_acts_19 : decode cL_acts 19 = .ok (.istore 5, 2) := by decide +kernel
theorem dL_acts_21 : decode cL_acts 21 = .ok (.iload 4, 2) := by decide +kernel
theorem dL_acts_23 : decode cL_acts 23 = .ok (.bipush 9, 2) := by decide +kernel
theorem dL_acts_25 : decode cL_acts 25 = .ok (.if_icmp .ge 21, 3) := by decide +kernel
theorem dL_acts_28 : decode cL_acts 28 = .ok (.aload_n 0, 1) := by decide +kernel
theorem dL_acts_29 : decode cL_acts 29 = .ok (.aload_n 1, 1) := by decide +kernel
theorem dL_acts_30 : decode cL_acts 30 = .ok (.iload 4, 2) := by decide +kernel
theorem dL_acts_32 : decode cL_acts 32 = .ok (.aload_n 2, 1) := by decide +kernel
theorem dL_acts_33 : decode cL_acts 33 = .ok (.iload_n 3, 1) := by decide +kernel
theorem dL_acts_34 : decode cL_acts 34 = .ok (.iconst 2, 1) := by decide +kernel
theorem dL_acts_35 : decode cL_acts 35 = .ok (.iadd, 1) := by decide +kernel
theorem dL_acts_36 : decode cL_acts 36 = .ok (.iconst 3, 1) := by decide +kernel
theorem dL_acts_37 : decode cL_acts 37 = .ok (.invokestatic 316, 3) := by decide +kernel
theorem dL_acts_40 : decode cL_acts 40 = .ok (.iload 5, 2) := by decide +kernel
theorem dL_acts_42 : decode cL_acts 42 = .ok (.invokestatic 320, 3) := by decide +kernel
theorem dL_acts_45 : decode cL_acts 45 = .ok (.ireturn, 1) := by decide +kernel
theorem dL_acts_46 : decode cL_acts 46 = .ok (.iload 4, 2) := by decide +kernel
theorem dL_acts_48 : decode cL_acts 48 = .ok (.bipush 13, 2) := by decide +kernel
theorem dL_acts_50 : decode cL_acts 50 = .ok (.if_icmp .ge 24, 3) := by decide +kernel
theorem dL_acts_53 : decode cL_acts 53 = .ok (.aload_n 0, 1) := by decide +kernel
theorem dL_acts_54 : decode cL_acts 54 = .ok (.aload_n 1, 1) := by decide +kernel
theorem dL_acts_55 : decode cL_acts 55 = .ok (.iload 4, 2) := by decide +kernel
theorem dL_acts_57 : decode cL_acts 57 = .ok (.aload_n 2, 1) := by decide +kernel
theorem dL_acts_58 : decode cL_acts 58 = .ok (.iload_n 3, 1) := by decide +kernel
theorem dL_acts_59 : decode cL_acts 59 = .ok (.iconst 2, 1) := by decide +kernel
theorem dL_acts_60 : decode cL_acts 60 = .ok (.iadd, 1) := by decide +kernel
theorem dL_acts_61 : decode cL_acts 61 = .ok (.aload_n 1, 1) := by decide +kernel
theorem dL_acts_62 : decode cL_acts 62 = .ok (.getfield 44, 3) := by decide +kernel
theorem dL_acts_65 : decode cL_acts 65 = .ok (.invokestatic 316, 3) := by decide +kernel
theorem dL_acts_68 : decode cL_acts 68 = .ok (.iload 5, 2) := by decide +kernel
theorem dL_acts_70 : decode cL_acts 70 = .ok (.invokestatic 324, 3) := by decide +kernel
theorem dL_acts_73 : decode cL_acts 73 = .ok (.ireturn, 1) := by decide +kernel
theorem dL_acts_74 : decode cL_acts 74 = .ok (.iload 4, 2) := by decide +kernel
theorem dL_acts_76 : decode cL_acts 76 = .ok (.bipush 13, 2) := by decide +kernel
theorem dL_acts_78 : decode cL_acts 78 = .ok (.if_icmp .ne 38, 3) := by decide +kernel
theorem dL_acts_81 : decode cL_acts 81 = .ok (.aload_n 1, 1) := by decide +kernel
theorem dL_acts_82 : decode cL_acts 82 = .ok (.getfield 125, 3) := by decide +kernel
theorem dL_acts_85 : decode cL_acts 85 = .ok (.istore 6, 2) := by decide +kernel
theorem dL_acts_87 : decode cL_acts 87 = .ok (.aload_n 1, 1) := by decide +kernel
theorem dL_acts_88 : decode cL_acts 88 = .ok (.iload 5, 2) := by decide +kernel
theorem dL_acts_90 : decode cL_acts 90 = .ok (.bipush 91, 2) := by decide +kernel
theorem dL_acts_92 : decode cL_acts 92 = .ok (.irem, 1) := by decide +kernel
theorem dL_acts_93 : decode cL_acts 93 = .ok (.putfield 125, 3) := by decide +kernel
theorem dL_acts_96 : decode cL_acts 96 = .ok (.aload_n 0, 1) := by decide +kernel
theorem dL_acts_97 : decode cL_acts 97 = .ok (.iload 5, 2) := by decide +kernel
theorem dL_acts_99 : decode cL_acts 99 = .ok (.bipush 91, 2) := by decide +kernel
theorem dL_acts_101 : decode cL_acts 101 = .ok (.irem, 1) := by decide +kernel
theorem dL_acts_102 : decode cL_acts 102 = .ok (.invokevirtual 327, 3) := by decide +kernel
theorem dL_acts_105 : decode cL_acts 105 = .ok (.iload 6, 2) := by decide +kernel
theorem dL_acts_107 : decode cL_acts 107 = .ok (.if_icmp .ne 7, 3) := by decide +kernel
theorem dL_acts_110 : decode cL_acts 110 = .ok (.iconst 1, 1) := by decide +kernel
theorem dL_acts_111 : decode cL_acts 111 = .ok (.goto 4, 3) := by decide +kernel
theorem dL_acts_114 : decode cL_acts 114 = .ok (.iconst 0, 1) := by decide +kernel
theorem dL_acts_115 : decode cL_acts 115 = .ok (.ireturn, 1) := by decide +kernel
theorem dL_acts_116 : decode cL_acts 116 = .ok (.iload 4, 2) := by decide +kernel
theorem dL_acts_118 : decode cL_acts 118 = .ok (.bipush 16, 2) := by decide +kernel
theorem dL_acts_120 : decode cL_acts 120 = .ok (.if_icmp .ge 56, 3) := by decide +kernel
theorem dL_acts_123 : decode cL_acts 123 = .ok (.iconst 1, 1) := by decide +kernel
theorem dL_acts_124 : decode cL_acts 124 = .ok (.iload 5, 2) := by decide +kernel
theorem dL_acts_126 : decode cL_acts 126 = .ok (.bipush 6, 2) := by decide +kernel
theorem dL_acts_128 : decode cL_acts 128 = .ok (.irem, 1) := by decide +kernel
theorem dL_acts_129 : decode cL_acts 129 = .ok (.iadd, 1) := by decide +kernel
theorem dL_acts_130 : decode cL_acts 130 = .ok (.istore 6, 2) := by decide +kernel
theorem dL_acts_132 : decode cL_acts 132 = .ok (.aload_n 1, 1) := by decide +kernel
theorem dL_acts_133 : decode cL_acts 133 = .ok (.getfield 122, 3) := by decide +kernel
theorem dL_acts_136 : decode cL_acts 136 = .ok (.iload 6, 2) := by decide +kernel
theorem dL_acts_138 : decode cL_acts 138 = .ok (.iadd, 1) := by decide +kernel
theorem dL_acts_139 : decode cL_acts 139 = .ok (.bipush 20, 2) := by decide +kernel
theorem dL_acts_141 : decode cL_acts 141 = .ok (.if_icmp .le 5, 3) := by decide +kernel
theorem dL_acts_144 : decode cL_acts 144 = .ok (.iconst (-1), 1) := by decide +kernel
theorem dL_acts_145 : decode cL_acts 145 = .ok (.ireturn, 1) := by decide +kernel
theorem dL_acts_146 : decode cL_acts 146 = .ok (.aload_n 1, 1) := by decide +kernel
theorem dL_acts_147 : decode cL_acts 147 = .ok (.dup, 1) := by decide +kernel
theorem dL_acts_148 : decode cL_acts 148 = .ok (.getfield 122, 3) := by decide +kernel
theorem dL_acts_151 : decode cL_acts 151 = .ok (.iload 6, 2) := by decide +kernel
theorem dL_acts_153 : decode cL_acts 153 = .ok (.iadd, 1) := by decide +kernel
theorem dL_acts_154 : decode cL_acts 154 = .ok (.putfield 122, 3) := by decide +kernel
theorem dL_acts_157 : decode cL_acts 157 = .ok (.aload_n 0, 1) := by decide +kernel
theorem dL_acts_158 : decode cL_acts 158 = .ok (.iload 6, 2) := by decide +kernel
theorem dL_acts_160 : decode cL_acts 160 = .ok (.invokevirtual 330, 3) := by decide +kernel
theorem dL_acts_163 : decode cL_acts 163 = .ok (.aload_n 1, 1) := by decide +kernel
theorem dL_acts_164 : decode cL_acts 164 = .ok (.getfield 122, 3) := by decide +kernel
theorem dL_acts_167 : decode cL_acts 167 = .ok (.if_icmp .ne 7, 3) := by decide +kernel
theorem dL_acts_170 : decode cL_acts 170 = .ok (.iconst 1, 1) := by decide +kernel
theorem dL_acts_171 : decode cL_acts 171 = .ok (.goto 4, 3) := by decide +kernel
theorem dL_acts_174 : decode cL_acts 174 = .ok (.iconst 0, 1) := by decide +kernel
theorem dL_acts_175 : decode cL_acts 175 = .ok (.ireturn, 1) := by decide +kernel
theorem dL_acts_176 : decode cL_acts 176 = .ok (.aload_n 1, 1) := by decide +kernel
theorem dL_acts_177 : decode cL_acts 177 = .ok (.getfield 122, 3) := by decide +kernel
theorem dL_acts_180 : decode cL_acts 180 = .ok (.ifCond .ne 5, 3) := by decide +kernel
theorem dL_acts_183 : decode cL_acts 183 = .ok (.iconst (-1), 1) := by decide +kernel
theorem dL_acts_184 : decode cL_acts 184 = .ok (.ireturn, 1) := by decide +kernel
theorem dL_acts_185 : decode cL_acts 185 = .ok (.iload 4, 2) := by decide +kernel
theorem dL_acts_187 : decode cL_acts 187 = .ok (.bipush 16, 2) := by decide +kernel
theorem dL_acts_189 : decode cL_acts 189 = .ok (.if_icmp .ne 14, 3) := by decide +kernel
theorem dL_acts_192 : decode cL_acts 192 = .ok (.iconst 1, 1) := by decide +kernel
theorem dL_acts_193 : decode cL_acts 193 = .ok (.iload 5, 2) := by decide +kernel
theorem dL_acts_195 : decode cL_acts 195 = .ok (.sipush 300, 3) := by decide +kernel
theorem dL_acts_198 : decode cL_acts 198 = .ok (.irem, 1) := by decide +kernel
theorem dL_acts_199 : decode cL_acts 199 = .ok (.iadd, 1) := by decide +kernel
theorem dL_acts_200 : decode cL_acts 200 = .ok (.goto 10, 3) := by decide +kernel
theorem dL_acts_203 : decode cL_acts 203 = .ok (.iconst 1, 1) := by decide +kernel
theorem dL_acts_204 : decode cL_acts 204 = .ok (.iload 5, 2) := by decide +kernel
theorem dL_acts_206 : decode cL_acts 206 = .ok (.bipush 30, 2) := by decide +kernel
theorem dL_acts_208 : decode cL_acts 208 = .ok (.irem, 1) := by decide +kernel
theorem dL_acts_209 : decode cL_acts 209 = .ok (.iadd, 1) := by decide +kernel
theorem dL_acts_210 : decode cL_acts 210 = .ok (.istore 6, 2) := by decide +kernel
theorem dL_acts_212 : decode cL_acts 212 = .ok (.aload_n 0, 1) := by decide +kernel
theorem dL_acts_213 : decode cL_acts 213 = .ok (.iload 6, 2) := by decide +kernel
theorem dL_acts_215 : decode cL_acts 215 = .ok (.invokevirtual 333, 3) := by decide +kernel
theorem dL_acts_218 : decode cL_acts 218 = .ok (.aload_n 1, 1) := by decide +kernel
theorem dL_acts_219 : decode cL_acts 219 = .ok (.iload 6, 2) := by decide +kernel
theorem dL_acts_221 : decode cL_acts 221 = .ok (.invokevirtual 258, 3) := by decide +kernel
theorem dL_acts_224 : decode cL_acts 224 = .ok (.if_icmp .ne 7, 3) := by decide +kernel
theorem dL_acts_227 : decode cL_acts 227 = .ok (.iconst 1, 1) := by decide +kernel
theorem dL_acts_228 : decode cL_acts 228 = .ok (.goto 4, 3) := by decide +kernel
theorem dL_acts_231 : decode cL_acts 231 = .ok (.iconst 0, 1) := by decide +kernel
theorem dL_acts_232 : decode cL_acts 232 = .ok (.ireturn, 1) := by decide +kernel
def fL_acts (M : Mm) (k : Nat) (L : Nat) (xs : Nat → Int32) (x4 : Int32) : Option (Int32 × Mm) := (pickF L xs x4 (20 : Int32)).bind fun q1 => (pickF L xs (x4 + (1 : Int32)) (10000 : Int32)).bind fun q3 => if (9 : Int32) ≤ q1 then (if (13 : Int32) ≤ q1 then (if q1 = (13 : Int32) then ((fX9_setVane (putI M (18, k, 0) 2 (q3 - q3 / (91 : Int32) * (91 : Int32))) (q3 - q3 / (91 : Int32) * (91 : Int32))).bind fun q25 => if q25.1 = (M.1 (18, k, 0) 2) then some ((1 : Int32), q25.2) else some ((0 : Int32), q25.2)) else if (16 : Int32) ≤ q1 then (if (M.1 (18, k, 0) 1) = 0 then some ((-1 : Int32), M) else if q1 = (16 : Int32) then ((fX9_play M ((1 : Int32) + (q3 - q3 / (300 : Int32) * (300 : Int32)))).bind fun q16 => (fX10_plays q16.2 k ((1 : Int32) + (q3 - q3 / (300 : Int32) * (300 : Int32)))).bind fun q18 => if q16.1 = q18.1 then some ((1 : Int32), q18.2) else some ((0 : Int32), q18.2)) else (fX9_play M ((1 : Int32) + (q3 - q3 / (30 : Int32) * (30 : Int32)))).bind fun q11 => (fX10_plays q11.2 k ((1 : Int32) + (q3 - q3 / (30 : Int32) * (30 : Int32)))).bind fun q13 => if q11.1 = q13.1 then some ((1 : Int32), q13.2) else some ((0 : Int32), q13.2)) else if ((M.1 (18, k, 0) 1) + ((1 : Int32) + (q3 - q3 / (6 : Int32) * (6 : Int32)))) ≤ (20 : Int32) then ((fX9_wind (putI M (18, k, 0) 1 ((M.1 (18, k, 0) 1) + ((1 : Int32) + (q3 - q3 / (6 : Int32) * (6 : Int32))))) ((1 : Int32) + (q3 - q3 / (6 : Int32) * (6 : Int32)))).bind fun q22 => if q22.1 = (q22.2.1 (18, k, 0) 1) then some ((1 : Int32), q22.2) else some ((0 : Int32), q22.2)) else some ((-1 : Int32), M)) else (pickF L xs (x4 + (2 : Int32)) (M.1 (18, k, 0) 3)).bind fun q28 => (fL_combs M k q1 q28 q3).bind fun q30 => some (q30.1, q30.2)) else (pickF L xs (x4 + (2 : Int32)) (3 : Int32)).bind fun q32 => (fL_rolls M k q1 q32 q3).bind fun q34 => some (q34.1, q34.2)
set_option maxRecDepth 20000 in
set_option maxHeartbeats 4000000 in
theorem sL_acts {wv : Wv} (b : Nat) (M : Mm) (k : Nat) (L : Nat) (xs : Nat → Int32) (x4 : Int32) (hk : OwI wv k) (hV : NoV wv 0) {res : (Int32 × Mm)} (h : fL_acts M k L xs x4 = some res) : TS wv b L xs yL_acts cL_acts 7 (some .int) 6 8 2394 [.inr (0, 0, 0), .inr (18, k, 0), .inl (.ref b), .inl (.int x4)] M (some (.int res.1)) res.2 := by
  have qv := qs_N (b := b) (L := L) (xs := xs) (qm_N (mc := 8) (ms := 2394) (sh := SH) (PR := fun v M9 => v = some (.int res.1) ∧ M9 = res.2) (PX := fun _ _ => False) hV)
  rw [fL_acts] at h
  refine TS.go (n := 3) (ls := [some (.inr (0, 0, 0)), some (.inr (18, k, 0)), some (.inl (.ref b)), some (.inl (.int x4)), none, none, none]) (by decide +kernel) rfl rfl rfl rfl ?_
  refine z_aloadQ_n (i := 2) dL_acts_0 rfl rfl ?_
  refine z_iload_n (i := 3) dL_acts_1 rfl rfl ?_
  refine z_bipush (v := (20 : Int32)) dL_acts_2 kb_20 ?_
  obtain ⟨q1, hq2, h⟩ := bnd h
  refine z_gSix qv_S (sL_pick b M L xs x4 (20 : Int32) hq2) dL_acts_4 ml_L_316 cd_L_pick rfl rfl (rq_o (by decide) (by decide) (by omega) (by omega)) rfl rfl ?_
  refine z_istore (i := 4) dL_acts_7 (Nat.le_of_ble_eq_true rfl) rfl ?_
  refine z_aloadQ_n (i := 2) dL_acts_9 rfl rfl ?_
  refine z_iload_n (i := 3) dL_acts_10 rfl rfl ?_
  refine z_iconst (v := (1 : Int32)) dL_acts_11 kc_1 ?_
  refine z_iadd dL_acts_12 ?_
  refine z_sipush (v := (10000 : Int32)) dL_acts_13 ks_10000 ?_
  obtain ⟨q3, hq4, h⟩ := bnd h
  refine z_gSix qv_S (sL_pick b M L xs (x4 + (1 : Int32)) (10000 : Int32) hq4) dL_acts_16 ml_L_316 cd_L_pick rfl rfl (rq_o (by decide) (by decide) (by omega) (by omega)) rfl rfl ?_
  refine z_istore (i := 5) dL_acts_19 (Nat.le_of_ble_eq_true rfl) rfl ?_
  refine z_iload (i := 4) dL_acts_21 rfl ?_
  refine z_bipush (v := (9 : Int32)) dL_acts_23 kb_9 ?_
  refine z_icmp_ge (tgt := 46) dL_acts_25 rfl (fun hc5 => ?_) (fun hc5 => ?_)
  · have h := it_t h hc5
    refine z_iload (i := 4) dL_acts_46 rfl ?_
    refine z_bipush (v := (13 : Int32)) dL_acts_48 kb_13 ?_
    refine z_icmp_ge (tgt := 74) dL_acts_50 rfl (fun hc6 => ?_) (fun hc6 => ?_)
    · have h := it_t h hc6
      refine z_iload (i := 4) dL_acts_74 rfl ?_
      refine z_bipush (v := (13 : Int32)) dL_acts_76 kb_13 ?_
      refine z_icmp_ne (tgt := 116) dL_acts_78 rfl (fun hc7 => ?_) (fun hc7 => ?_)
      · have h := it_f h hc7
        refine z_iload (i := 4) dL_acts_116 rfl ?_
        refine z_bipush (v := (16 : Int32)) dL_acts_118 kb_16 ?_
        refine z_icmp_ge (tgt := 176) dL_acts_120 rfl (fun hc8 => ?_) (fun hc8 => ?_)
        · have h := it_t h hc8
          refine z_aload_n (i := 1) dL_acts_176 rfl rfl ?_
          refine z_getIG (x := (M.1 (18, k, 0) 1)) dL_acts_177 fg_L_122 hk.1 rfl rfl ?_
          refine z_if_ne (tgt := 185) dL_acts_180 rfl (fun hc9 => ?_) (fun hc9 => ?_)
          · have h := it_f h hc9
            refine z_iload (i := 4) dL_acts_185 rfl ?_
            refine z_bipush (v := (16 : Int32)) dL_acts_187 kb_16 ?_
            refine z_icmp_ne (tgt := 203) dL_acts_189 rfl (fun hc10 => ?_) (fun hc10 => ?_)
            · have h := it_f h hc10
              refine z_iconst (v := (1 : Int32)) dL_acts_203 kc_1 ?_
              refine z_iload (i := 5) dL_acts_204 rfl ?_
              refine z_bipush (v := (30 : Int32)) dL_acts_206 kb_30 ?_
              refine z_irem dL_acts_208 (by decide) ?_
              refine z_iadd dL_acts_209 ?_
              refine z_istore (i := 6) dL_acts_210 (Nat.le_of_ble_eq_true rfl) rfl ?_
              refine z_aload_n (i := 0) dL_acts_212 rfl rfl ?_
              refine z_iload (i := 6) dL_acts_213 rfl ?_
              obtain ⟨q11, hq12, h⟩ := bnd h
              refine z_fVi (sX9_play M ((1 : Int32) + (q3 - q3 / (30 : Int32) * (30 : Int32))) hq12) dL_acts_215 ml_L_333 cd_X9_play mk0 rfl rfl rfl (rmk_r (by decide) (by decide) (by omega) (by omega)) rfl rfl ?_
              refine z_aload_n (i := 1) dL_acts_218 rfl rfl ?_
              refine z_iload (i := 6) dL_acts_219 rfl ?_
              obtain ⟨q13, hq14, h⟩ := bnd h
              refine z_fVi (sX10_plays q11.2 k ((1 : Int32) + (q3 - q3 / (30 : Int32) * (30 : Int32))) hk hq14) dL_acts_221 ml_L_258 cd_X10_plays hk.1 rfl rfl rfl (rmk_r (by decide) (by decide) (by omega) (by omega)) rfl rfl ?_
              refine z_icmp_ne (tgt := 231) dL_acts_224 rfl (fun hc15 => ?_) (fun hc15 => ?_)
              · have h := it_f h hc15
                refine z_iconst (v := (0 : Int32)) dL_acts_231 kc_0 ?_
                cases h
                refine z_QS ?_
                exact z_iret dL_acts_232 rfl rfl (by omega) (by omega) ⟨rfl, rfl⟩
              · have h := it_t h hc15
                refine z_iconst (v := (1 : Int32)) dL_acts_227 kc_1 ?_
                refine z_goto (tgt := 232) dL_acts_228 rfl ?_
                cases h
                refine z_QS ?_
                exact z_iret dL_acts_232 rfl rfl (by omega) (by omega) ⟨rfl, rfl⟩
            · have h := it_t h hc10
              refine z_iconst (v := (1 : Int32)) dL_acts_192 kc_1 ?_
              refine z_iload (i := 5) dL_acts_193 rfl ?_
              refine z_sipush (v := (300 : Int32)) dL_acts_195 ks_300 ?_
              refine z_irem dL_acts_198 (by decide) ?_
              refine z_iadd dL_acts_199 ?_
              refine z_goto (tgt := 210) dL_acts_200 rfl ?_
              refine z_istore (i := 6) dL_acts_210 (Nat.le_of_ble_eq_true rfl) rfl ?_
              refine z_aload_n (i := 0) dL_acts_212 rfl rfl ?_
              refine z_iload (i := 6) dL_acts_213 rfl ?_
              obtain ⟨q16, hq17, h⟩ := bnd h
              refine z_fVi (sX9_play M ((1 : Int32) + (q3 - q3 / (300 : Int32) * (300 : Int32))) hq17) dL_acts_215 ml_L_333 cd_X9_play mk0 rfl rfl rfl (rmk_r (by decide) (by decide) (by omega) (by omega)) rfl rfl ?_
              refine z_aload_n (i := 1) dL_acts_218 rfl rfl ?_
              refine z_iload (i := 6) dL_acts_219 rfl ?_
              obtain ⟨q18, hq19, h⟩ := bnd h
              refine z_fVi (sX10_plays q16.2 k ((1 : Int32) + (q3 - q3 / (300 : Int32) * (300 : Int32))) hk hq19) dL_acts_221 ml_L_258 cd_X10_plays hk.1 rfl rfl rfl (rmk_r (by decide) (by decide) (by omega) (by omega)) rfl rfl ?_
              refine z_icmp_ne (tgt := 231) dL_acts_224 rfl (fun hc20 => ?_) (fun hc20 => ?_)
              · have h := it_f h hc20
                refine z_iconst (v := (0 : Int32)) dL_acts_231 kc_0 ?_
                cases h
                refine z_QS ?_
                exact z_iret dL_acts_232 rfl rfl (by omega) (by omega) ⟨rfl, rfl⟩
              · have h := it_t h hc20
                refine z_iconst (v := (1 : Int32)) dL_acts_227 kc_1 ?_
                refine z_goto (tgt := 232) dL_acts_228 rfl ?_
                cases h
                refine z_QS ?_
                exact z_iret dL_acts_232 rfl rfl (by omega) (by omega) ⟨rfl, rfl⟩
          · have h := it_t h hc9
            refine z_iconst (v := (-1 : Int32)) dL_acts_183 kc_m1 ?_
            cases h
            refine z_QS ?_
            exact z_iret dL_acts_184 rfl rfl (by omega) (by omega) ⟨rfl, rfl⟩
        · have h := it_f h hc8
          refine z_iconst (v := (1 : Int32)) dL_acts_123 kc_1 ?_
          refine z_iload (i := 5) dL_acts_124 rfl ?_
          refine z_bipush (v := (6 : Int32)) dL_acts_126 kb_6 ?_
          refine z_irem dL_acts_128 (by decide) ?_
          refine z_iadd dL_acts_129 ?_
          refine z_istore (i := 6) dL_acts_130 (Nat.le_of_ble_eq_true rfl) rfl ?_
          refine z_aload_n (i := 1) dL_acts_132 rfl rfl ?_
          refine z_getIG (x := (M.1 (18, k, 0) 1)) dL_acts_133 fg_L_122 hk.1 rfl rfl ?_
          refine z_iload (i := 6) dL_acts_136 rfl ?_
          refine z_iadd dL_acts_138 ?_
          refine z_bipush (v := (20 : Int32)) dL_acts_139 kb_20 ?_
          refine z_icmp_le (tgt := 146) dL_acts_141 rfl (fun hc21 => ?_) (fun hc21 => ?_)
          · have h := it_t h hc21
            refine z_aload_n (i := 1) dL_acts_146 rfl rfl ?_
            refine z_dup dL_acts_147 rfl ?_
            refine z_getIG (x := (M.1 (18, k, 0) 1)) dL_acts_148 fg_L_122 hk.1 rfl rfl ?_
            refine z_iload (i := 6) dL_acts_151 rfl ?_
            refine z_iadd dL_acts_153 ?_
            refine z_putIG allR_nd dL_acts_154 fg_L_122 hk.1 rfl rfl ?_
            refine z_aload_n (i := 0) dL_acts_157 rfl rfl ?_
            refine z_iload (i := 6) dL_acts_158 rfl ?_
            obtain ⟨q22, hq23, h⟩ := bnd h
            refine z_fVi (sX9_wind (putI M (18, k, 0) 1 ((M.1 (18, k, 0) 1) + ((1 : Int32) + (q3 - q3 / (6 : Int32) * (6 : Int32))))) ((1 : Int32) + (q3 - q3 / (6 : Int32) * (6 : Int32))) hq23) dL_acts_160 ml_L_330 cd_X9_wind mk0 rfl rfl rfl (rmk_r (by decide) (by decide) (by omega) (by omega)) rfl rfl ?_
            refine z_aload_n (i := 1) dL_acts_163 rfl rfl ?_
            refine z_getIG (x := (q22.2.1 (18, k, 0) 1)) dL_acts_164 fg_L_122 hk.1 rfl rfl ?_
            refine z_icmp_ne (tgt := 174) dL_acts_167 rfl (fun hc24 => ?_) (fun hc24 => ?_)
            · have h := it_f h hc24
              refine z_iconst (v := (0 : Int32)) dL_acts_174 kc_0 ?_
              cases h
              refine z_QS ?_
              exact z_iret dL_acts_175 rfl rfl (by omega) (by omega) ⟨rfl, rfl⟩
            · have h := it_t h hc24
              refine z_iconst (v := (1 : Int32)) dL_acts_170 kc_1 ?_
              refine z_goto (tgt := 175) dL_acts_171 rfl ?_
              cases h
              refine z_QS ?_
              exact z_iret dL_acts_175 rfl rfl (by omega) (by omega) ⟨rfl, rfl⟩
          · have h := it_f h hc21
            refine z_iconst (v := (-1 : Int32)) dL_acts_144 kc_m1 ?_
            cases h
            refine z_QS ?_
            exact z_iret dL_acts_145 rfl rfl (by omega) (by omega) ⟨rfl, rfl⟩
      · have h := it_t h hc7
        refine z_aload_n (i := 1) dL_acts_81 rfl rfl ?_
        refine z_getIG (x := (M.1 (18, k, 0) 2)) dL_acts_82 fg_L_125 hk.1 rfl rfl ?_
        refine z_istore (i := 6) dL_acts_85 (Nat.le_of_ble_eq_true rfl) rfl ?_
        refine z_aload_n (i := 1) dL_acts_87 rfl rfl ?_
        refine z_iload (i := 5) dL_acts_88 rfl ?_
        refine z_bipush (v := (91 : Int32)) dL_acts_90 kb_91 ?_
        refine z_irem dL_acts_92 (by decide) ?_
        refine z_putIG allR_nd dL_acts_93 fg_L_125 hk.1 rfl rfl ?_
        refine z_aload_n (i := 0) dL_acts_96 rfl rfl ?_
        refine z_iload (i := 5) dL_acts_97 rfl ?_
        refine z_bipush (v := (91 : Int32)) dL_acts_99 kb_91 ?_
        refine z_irem dL_acts_101 (by decide) ?_
        obtain ⟨q25, hq26, h⟩ := bnd h
        refine z_fVi (sX9_setVane (putI M (18, k, 0) 2 (q3 - q3 / (91 : Int32) * (91 : Int32))) (q3 - q3 / (91 : Int32) * (91 : Int32)) hq26) dL_acts_102 ml_L_327 cd_X9_setVane mk0 rfl rfl rfl (rmk_r (by decide) (by decide) (by omega) (by omega)) rfl rfl ?_
        refine z_iload (i := 6) dL_acts_105 rfl ?_
        refine z_icmp_ne (tgt := 114) dL_acts_107 rfl (fun hc27 => ?_) (fun hc27 => ?_)
        · have h := it_f h hc27
          refine z_iconst (v := (0 : Int32)) dL_acts_114 kc_0 ?_
          cases h
          refine z_QS ?_
          exact z_iret dL_acts_115 rfl rfl (by omega) (by omega) ⟨rfl, rfl⟩
        · have h := it_t h hc27
          refine z_iconst (v := (1 : Int32)) dL_acts_110 kc_1 ?_
          refine z_goto (tgt := 115) dL_acts_111 rfl ?_
          cases h
          refine z_QS ?_
          exact z_iret dL_acts_115 rfl rfl (by omega) (by omega) ⟨rfl, rfl⟩
    · have h := it_f h hc6
      refine z_aload_n (i := 0) dL_acts_53 rfl rfl ?_
      refine z_aload_n (i := 1) dL_acts_54 rfl rfl ?_
      refine z_iload (i := 4) dL_acts_55 rfl ?_
      refine z_aloadQ_n (i := 2) dL_acts_57 rfl rfl ?_
      refine z_iload_n (i := 3) dL_acts_58 rfl rfl ?_
      refine z_iconst (v := (2 : Int32)) dL_acts_59 kc_2 ?_
      refine z_iadd dL_acts_60 ?_
      refine z_aload_n (i := 1) dL_acts_61 rfl rfl ?_
      refine z_getIG (x := (M.1 (18, k, 0) 3)) dL_acts_62 fg_L_44 hk.1 rfl rfl ?_
      obtain ⟨q28, hq29, h⟩ := bnd h
      refine z_gSix qv_S (sL_pick b M L xs (x4 + (2 : Int32)) (M.1 (18, k, 0) 3) hq29) dL_acts_65 ml_L_316 cd_L_pick rfl rfl (rq_o (by decide) (by decide) (by omega) (by omega)) rfl rfl ?_
      refine z_iload (i := 5) dL_acts_68 rfl ?_
      obtain ⟨q30, hq31, h⟩ := bnd h
      refine z_gSi (sL_combs  M k q1 q28 q3 hk hq31) dL_acts_70 ml_L_324 cd_L_combs rfl rfl (rq_o (by decide) (by decide) (by omega) (by omega)) rfl rfl ?_
      cases h
      refine z_QS ?_
      exact z_iret dL_acts_73 rfl rfl (by omega) (by omega) ⟨rfl, rfl⟩
  · have h := it_f h hc5
    refine z_aload_n (i := 0) dL_acts_28 rfl rfl ?_
    refine z_aload_n (i := 1) dL_acts_29 rfl rfl ?_
    refine z_iload (i := 4) dL_acts_30 rfl ?_
    refine z_aloadQ_n (i := 2) dL_acts_32 rfl rfl ?_
    refine z_iload_n (i := 3) dL_acts_33 rfl rfl ?_
    refine z_iconst (v := (2 : Int32)) dL_acts_34 kc_2 ?_
    refine z_iadd dL_acts_35 ?_
    refine z_iconst (v := (3 : Int32)) dL_acts_36 kc_3 ?_
    obtain ⟨q32, hq33, h⟩ := bnd h
    refine z_gSix qv_S (sL_pick b M L xs (x4 + (2 : Int32)) (3 : Int32) hq33) dL_acts_37 ml_L_316 cd_L_pick rfl rfl (rq_o (by decide) (by decide) (by omega) (by omega)) rfl rfl ?_
    refine z_iload (i := 5) dL_acts_40 rfl ?_
    obtain ⟨q34, hq35, h⟩ := bnd h
    refine z_gSi (sL_rolls  M k q1 q32 q3 hk (nvS hV) hq35) dL_acts_42 ml_L_320 cd_L_rolls rfl rfl (rq_o (by decide) (by decide) (by omega) (by omega)) rfl rfl ?_
    cases h
    refine z_QS ?_
    exact z_iret dL_acts_45 rfl rfl (by omega) (by omega) ⟨rfl, rfl⟩
