theorem ks_2304 : (Int16.ofInt (2304)).toInt32 = (2304 : Int32) := by decide
set_option maxRecDepth 20000 in
theorem lo_X10_1 : Cond.methodLink RX10 1 Lib.objectInit ∈ AL ∧ Cond.instanceMethod Lib.objectInit ∈ AL ∧ Cond.code Lib.objectInit ⟨#[0xb1]⟩ 1 none ∈ AL := ⟨al_mc al_c3 158 rfl (by decide +kernel), al_mc al_c1 40 rfl (by decide +kernel), al_mc al_c1 41 rfl (by decide +kernel)⟩
theorem ac_i : Cond.arrayClass (newarray.typeOf .int) ∈ AL := al_mc al_c1 60 rfl (by decide +kernel)
theorem ac_z : Cond.arrayClass (newarray.typeOf .boolean) ∈ AL := al_mc al_c3 35 rfl (by decide +kernel)
set_option maxRecDepth 20000 in
theorem nw_X10_8 : Cond.classLink RX10 8 (Rc 10) ∈ AL ∧ Cond.instantiable (Rc 10) (Nc 10) ∈ AL ∧ Cond.initialized (Rc 10) ∈ AL := ⟨al_mc al_c3 236 rfl (by decide +kernel), al_mc al_c3 154 rfl (by decide +kernel), al_mc al_c1 18 rfl (by decide +kernel)⟩
set_option maxRecDepth 20000 in
theorem li_X10_32 : Cond.methodLink RX10 32 yX10_init ∈ AL ∧ Cond.instanceMethod yX10_init ∈ AL ∧ Cond.initialized yX10_init.cls ∈ AL := ⟨al_mc al_c3 237 rfl (by decide +kernel), al_mc al_c3 156 rfl (by decide +kernel), al_mc al_c1 18 rfl (by decide +kernel)⟩
theorem nm_snoc {rs : List Rf} {a r : Rf} (h : r ∉ rs) (hne : r ≠ a) : r ∉ rs ++ [a] := fun c => (List.mem_append.mp c).elim h (fun c => hne (List.mem_singleton.mp c))
theorem nd_snoc {rs : List Rf} {r : Rf} (hn : rs.Nodup) (h : r ∉ rs) : (rs ++ [r]).Nodup := List.nodup_append.mpr ⟨hn, List.nodup_cons.mpr ⟨List.not_mem_nil, List.nodup_nil⟩, fun a ha b hb e => h (by rw [List.mem_singleton.mp hb] at e; rw [← e]; exact ha)⟩
theorem m_l {rs : List Rf} {r x : Rf} (h : x ∈ rs) : x ∈ rs ++ [r] := List.mem_append_left _ h
theorem m_r {rs : List Rf} {r : Rf} : r ∈ rs ++ [r] := List.mem_append_right _ (List.mem_singleton.mpr rfl)
theorem shC_N {rs : List Rf} {sh : Sh} {r : Rf} (hc : shC sh rs) : shC (shN sh r) (rs ++ [r]) := by
  intro x hx j hj y hy
  unfold shN at hy
  by_cases e : x = r
  · rw [if_pos e] at hy; cases hy
  · rw [if_neg e] at hy
    rcases List.mem_append.mp hx with h | h
    · exact m_l (hc x h j hj y hy)
    · exact absurd (List.mem_singleton.mp h) e
theorem shC_P {rs : List Rf} {sh : Sh} {r y : Rf} {j : Nat} (hc : shC sh rs) (hy : y ∈ rs) : shC (shP sh r j (some y)) rs := by
  intro x hx i hi z hz
  unfold shP at hz
  by_cases e : x = r ∧ i = j
  · rw [if_pos e] at hz; cases hz; exact hy
  · rw [if_neg e] at hz; exact hc x hx i hi z hz
theorem he_I {tc : Nat → ClassId} {ad : Rf → Nat} {sh : Sh} {M : Mm} {r : Rf} {n : Nat} (hk : kd r = .inr (0, n)) : ent tc ad (shN sh r) (mN M r) r = .inl (tc 0, n, .inl fun _ => 0) := by
  unfold ent
  rw [hk]
  show Sum.inl (tc 0, n, Sum.inl ((mN M r).1 r)) = _
  rw [show (mN M r).1 r = fun _ => 0 from funext fun j => if_pos rfl]
theorem he_Z {tc : Nat → ClassId} {ad : Rf → Nat} {sh : Sh} {M : Mm} {r : Rf} {n : Nat} (hk : kd r = .inr (1, n)) : ent tc ad (shN sh r) (mN M r) r = .inl (tc 1, n, .inl fun _ => 0) := by
  unfold ent
  rw [hk]
  show Sum.inl (tc 1, n, Sum.inl ((mN M r).1 r)) = _
  rw [show (mN M r).1 r = fun _ => 0 from funext fun j => if_pos rfl]
theorem sh_P1 {sh : Sh} {x r : Rf} {i j : Nat} {y : Option Rf} (h : x ≠ r) : shP sh r i y x j = sh x j := if_neg (fun c => h c.1)
theorem sh_N1 {sh : Sh} {x r : Rf} {j : Nat} (h : x ≠ r) : shN sh r x j = sh x j := if_neg h
def owT (k : Nat) : List Rf := [(20, k, 0), (19, k, 0), (19, k, 1), (19, k, 2), (19, k, 3), (19, k, 4), (19, k, 5)]

theorem dX10_init_0 : decode cX10_init 0 = .ok (.aload_n 0, 1) := by decide +kernel
theorem dX10_init_1 : decode cX10_init 1 = .ok (.invokespecial 1, 3) := by decide +kernel
theorem dX10_init_4 : decode cX10_init 4 = .ok (.aload_n 0, 1) := by decide +kernel
theorem dX10_init_5 : decode cX10_init 5 = .ok (.bipush 12, 2) := by decide +kernel
theorem dX10_init_7 : decode cX10_init 7 = .ok (.newarray .int, 2) := by decide +kernel
theorem dX10_init_9 : decode cX10_init 9 = .ok (.putfield 7, 3) := by decide +kernel
theorem dX10_init_12 : decode cX10_init 12 = .ok (.aload_n 0, 1) := by decide +kernel
theorem dX10_init_13 : decode cX10_init 13 = .ok (.bipush 12, 2) := by decide +kernel
theorem dX10_init_15 : decode cX10_init 15 = .ok (.newarray .int, 2) := by decide +kernel
theorem dX10_init_17 : decode cX10_init 17 = .ok (.putfield 13, 3) := by decide +kernel
theorem dX10_init_20 : decode cX10_init 20 = .ok (.aload_n 0, 1) := by decide +kernel
theorem dX10_init_21 : decode cX10_init 21 = .ok (.bipush 12, 2) := by decide +kernel
theorem dX10_init_23 : decode cX10_init 23 = .ok (.newarray .int, 2) := by decide +kernel
theorem dX10_init_25 : decode cX10_init 25 = .ok (.putfield 16, 3) := by decide +kernel
theorem dX10_init_28 : decode cX10_init 28 = .ok (.aload_n 0, 1) := by decide +kernel
theorem dX10_init_29 : decode cX10_init 29 = .ok (.bipush 12, 2) := by decide +kernel
theorem dX10_init_31 : decode cX10_init 31 = .ok (.newarray .int, 2) := by decide +kernel
theorem dX10_init_33 : decode cX10_init 33 = .ok (.putfield 19, 3) := by decide +kernel
theorem dX10_init_36 : decode cX10_init 36 = .ok (.aload_n 0, 1) := by decide +kernel
theorem dX10_init_37 : decode cX10_init 37 = .ok (.bipush 12, 2) := by decide +kernel
theorem dX10_init_39 : decode cX10_init 39 = .ok (.newarray .int, 2) := by decide +kernel
theorem dX10_init_41 : decode cX10_init 41 = .ok (.putfield 22, 3) := by decide +kernel
theorem dX10_init_44 : decode cX10_init 44 = .ok (.aload_n 0, 1) := by decide +kernel
theorem dX10_init_45 : decode cX10_init 45 = .ok (.bipush 12, 2) := by decide +kernel
theorem dX10_init_47 : decode cX10_init 47 = .ok (.newarray .int, 2) := by decide +kernel
theorem dX10_init_49 : decode cX10_init 49 = .ok (.putfield 25, 3) := by decide +kernel
theorem dX10_init_52 : decode cX10_init 52 = .ok (.aload_n 0, 1) := by decide +kernel
theorem dX10_init_53 : decode cX10_init 53 = .ok (.sipush 2304, 3) := by decide +kernel
theorem dX10_init_56 : decode cX10_init 56 = .ok (.newarray .boolean, 2) := by decide +kernel
theorem dX10_init_58 : decode cX10_init 58 = .ok (.putfield 28, 3) := by decide +kernel
theorem dX10_init_61 : decode cX10_init 61 = .ok (.return_, 1) := by decide +kernel
theorem dX10_copy_0 : decode cX10_copy 0 = .ok (.new 8, 3) := by decide +kernel
theorem dX10_copy_3 : decode cX10_copy 3 = .ok (.dup, 1) := by decide +kernel
theorem dX10_copy_4 : decode cX10_copy 4 = .ok (.invokespecial 32, 3) := by decide +kernel
theorem dX10_copy_7 : decode cX10_copy 7 = .ok (.astore_n 1, 1) := by decide +kernel
theorem dX10_copy_8 : decode cX10_copy 8 = .ok (.aload_n 1, 1) := by decide +kernel
theorem dX10_copy_9 : decode cX10_copy 9 = .ok (.aload_n 0, 1) := by decide +kernel
theorem dX10_copy_10 : decode cX10_copy 10 = .ok (.getfield 33, 3) := by decide +kernel
theorem dX10_copy_13 : decode cX10_copy 13 = .ok (.putfield 33, 3) := by decide +kernel
theorem dX10_copy_16 : decode cX10_copy 16 = .ok (.aload_n 1, 1) := by decide +kernel
theorem dX10_copy_17 : decode cX10_copy 17 = .ok (.aload_n 0, 1) := by decide +kernel
theorem dX10_copy_18 : decode cX10_copy 18 = .ok (.getfield 37, 3) := by decide +kernel
theorem dX10_copy_21 : decode cX10_copy 21 = .ok (.putfield 37, 3) := by decide +kernel
theorem dX10_copy_24 : decode cX10_copy 24 = .ok (.aload_n 1, 1) := by decide +kernel
theorem dX10_copy_25 : decode cX10_copy 25 = .ok (.aload_n 0, 1) := by decide +kernel
theorem dX10_copy_26 : decode cX10_copy 26 = .ok (.getfield 40, 3) := by decide +kernel
theorem dX10_copy_29 : decode cX10_copy 29 = .ok (.putfield 40, 3) := by decide +kernel
theorem dX10_copy_32 : decode cX10_copy 32 = .ok (.aload_n 1, 1) := by decide +kernel
theorem dX10_copy_33 : decode cX10_copy 33 = .ok (.aload_n 0, 1) := by decide +kernel
theorem dX10_copy_34 : decode cX10_copy 34 = .ok (.getfield 43, 3) := by decide +kernel
theorem dX10_copy_37 : decode cX10_copy 37 = .ok (.putfield 43, 3) := by decide +kernel
theorem dX10_copy_40 : decode cX10_copy 40 = .ok (.aload_n 1, 1) := by decide +kernel
theorem dX10_copy_41 : decode cX10_copy 41 = .ok (.aload_n 0, 1) := by decide +kernel
theorem dX10_copy_42 : decode cX10_copy 42 = .ok (.getfield 46, 3) := by decide +kernel
theorem dX10_copy_45 : decode cX10_copy 45 = .ok (.putfield 46, 3) := by decide +kernel
theorem dX10_copy_48 : decode cX10_copy 48 = .ok (.aload_n 1, 1) := by decide +kernel
theorem dX10_copy_49 : decode cX10_copy 49 = .ok (.aload_n 0, 1) := by decide +kernel
theorem dX10_copy_50 : decode cX10_copy 50 = .ok (.getfield 49, 3) := by decide +kernel
theorem dX10_copy_53 : decode cX10_copy 53 = .ok (.putfield 49, 3) := by decide +kernel
theorem dX10_copy_56 : decode cX10_copy 56 = .ok (.aload_n 1, 1) := by decide +kernel
theorem dX10_copy_57 : decode cX10_copy 57 = .ok (.aload_n 0, 1) := by decide +kernel
theorem dX10_copy_58 : decode cX10_copy 58 = .ok (.getfield 52, 3) := by decide +kernel
theorem dX10_copy_61 : decode cX10_copy 61 = .ok (.putfield 52, 3) := by decide +kernel
theorem dX10_copy_64 : decode cX10_copy 64 = .ok (.aload_n 1, 1) := by decide +kernel
theorem dX10_copy_65 : decode cX10_copy 65 = .ok (.aload_n 0, 1) := by decide +kernel
theorem dX10_copy_66 : decode cX10_copy 66 = .ok (.getfield 55, 3) := by decide +kernel
theorem dX10_copy_69 : decode cX10_copy 69 = .ok (.putfield 55, 3) := by decide +kernel
theorem dX10_copy_72 : decode cX10_copy 72 = .ok (.aload_n 1, 1) := by decide +kernel
theorem dX10_copy_73 : decode cX10_copy 73 = .ok (.aload_n 0, 1) := by decide +kernel
theorem dX10_copy_74 : decode cX10_copy 74 = .ok (.getfield 58, 3) := by decide +kernel
theorem dX10_copy_77 : decode cX10_copy 77 = .ok (.putfield 58, 3) := by decide +kernel
theorem dX10_copy_80 : decode cX10_copy 80 = .ok (.aload_n 1, 1) := by decide +kernel
theorem dX10_copy_81 : decode cX10_copy 81 = .ok (.aload_n 0, 1) := by decide +kernel
theorem dX10_copy_82 : decode cX10_copy 82 = .ok (.getfield 61, 3) := by decide +kernel
theorem dX10_copy_85 : decode cX10_copy 85 = .ok (.putfield 61, 3) := by decide +kernel
theorem dX10_copy_88 : decode cX10_copy 88 = .ok (.aload_n 1, 1) := by decide +kernel
theorem dX10_copy_89 : decode cX10_copy 89 = .ok (.aload_n 0, 1) := by decide +kernel
theorem dX10_copy_90 : decode cX10_copy 90 = .ok (.getfield 64, 3) := by decide +kernel
theorem dX10_copy_93 : decode cX10_copy 93 = .ok (.putfield 64, 3) := by decide +kernel
theorem dX10_copy_96 : decode cX10_copy 96 = .ok (.iconst 0, 1) := by decide +kernel
theorem dX10_copy_97 : decode cX10_copy 97 = .ok (.istore_n 2, 1) := by decide +kernel
theorem dX10_copy_98 : decode cX10_copy 98 = .ok (.iload_n 2, 1) := by decide +kernel
theorem dX10_copy_99 : decode cX10_copy 99 = .ok (.bipush 12, 2) := by decide +kernel
theorem dX10_copy_101 : decode cX10_copy 101 = .ok (.if_icmp .ge 81, 3) := by decide +kernel
theorem dX10_copy_104 : decode cX10_copy 104 = .ok (.aload_n 1, 1) := by decide +kernel
theorem dX10_copy_105 : decode cX10_copy 105 = .ok (.getfield 7, 3) := by decide +kernel
theorem dX10_copy_108 : decode cX10_copy 108 = .ok (.iload_n 2, 1) := by decide +kernel
theorem dX10_copy_109 : decode cX10_copy 109 = .ok (.aload_n 0, 1) := by decide +kernel
theorem dX10_copy_110 : decode cX10_copy 110 = .ok (.getfield 7, 3) := by decide +kernel
theorem dX10_copy_113 : decode cX10_copy 113 = .ok (.iload_n 2, 1) := by decide +kernel
theorem dX10_copy_114 : decode cX10_copy 114 = .ok (.iaload, 1) := by decide +kernel
theorem dX10_copy_115 : decode cX10_copy 115 = .ok (.iastore, 1) := by decide +kernel
theorem dX10_copy_116 : decode cX10_copy 116 = .ok (.aload_n 1, 1) := by decide +kernel
theorem dX10_copy_117 : decode cX10_copy 117 = .ok (.getfield 13, 3) := by decide +kernel
theorem dX10_copy_120 : decode cX10_copy 120 = .ok (.iload_n 2, 1) := by decide +kernel
theorem dX10_copy_121 : decode cX10_copy 121 = .ok (.aload_n 0, 1) := by decide +kernel
theorem dX10_copy_122 : decode cX10_copy 122 = .ok (.getfield 13, 3) := by decide +kernel
theorem dX10_copy_125 : decode cX10_copy 125 = .ok (.iload_n 2, 1) := by decide +kernel
theorem dX10_copy_126 : decode cX10_copy 126 = .ok (.iaload, 1) := by decide +kernel
theorem dX10_copy_127 : decode cX10_copy 127 = .ok (.iastore, 1) := by decide +kernel
theorem dX10_copy_128 : decode cX10_copy 128 = .ok (.aload_n 1, 1) := by decide +kernel
theorem dX10_copy_129 : decode cX10_copy 129 = .ok (.getfield 16, 3) := by decide +kernel
theorem dX10_copy_132 : decode cX10_copy 132 = .ok (.iload_n 2, 1) := by decide +kernel
theorem dX10_copy_133 : decode cX10_copy 133 = .ok (.aload_n 0, 1) := by decide +kernel
theorem dX10_copy_134 : decode cX10_copy 134 = .ok (.getfield 16, 3) := by decide +kernel
theorem dX10_copy_137 : decode cX10_copy 137 = .ok (.iload_n 2, 1) := by decide +kernel
theorem dX10_copy_138 : decode cX10_copy 138 = .ok (.iaload, 1) := by decide +kernel
theorem dX10_copy_139 : decode cX10_copy 139 = .ok (.iastore, 1) := by decide +kernel
theorem dX10_copy_140 : decode cX10_copy 140 = .ok (.aload_n 1, 1) := by decide +kernel
theorem dX10_copy_141 : decode cX10_copy 141 = .ok (.getfield 19, 3) := by decide +kernel
theorem dX10_copy_144 : decode cX10_copy 144 = .ok (.iload_n 2, 1) := by decide +kernel
theorem dX10_copy_145 : decode cX10_copy 145 = .ok (.aload_n 0, 1) := by decide +kernel
theorem dX10_copy_146 : decode cX10_copy 146 = .ok (.getfield 19, 3) := by decide +kernel
theorem dX10_copy_149 : decode cX10_copy 149 = .ok (.iload_n 2, 1) := by decide +kernel
theorem dX10_copy_150 : decode cX10_copy 150 = .ok (.iaload, 1) := by decide +kernel
theorem dX10_copy_151 : decode cX10_copy 151 = .ok (.iastore, 1) := by decide +kernel
theorem dX10_copy_152 : decode cX10_copy 152 = .ok (.aload_n 1, 1) := by decide +kernel
theorem dX10_copy_153 : decode cX10_copy 153 = .ok (.getfield 22, 3) := by decide +kernel
theorem dX10_copy_156 : decode cX10_copy 156 = .ok (.iload_n 2, 1) := by decide +kernel
theorem dX10_copy_157 : decode cX10_copy 157 = .ok (.aload_n 0, 1) := by decide +kernel
theorem dX10_copy_158 : decode cX10_copy 158 = .ok (.getfield 22, 3) := by decide +kernel
theorem dX10_copy_161 : decode cX10_copy 161 = .ok (.iload_n 2, 1) := by decide +kernel
theorem dX10_copy_162 : decode cX10_copy 162 = .ok (.iaload, 1) := by decide +kernel
theorem dX10_copy_163 : decode cX10_copy 163 = .ok (.iastore, 1) := by decide +kernel
theorem dX10_copy_164 : decode cX10_copy 164 = .ok (.aload_n 1, 1) := by decide +kernel
theorem dX10_copy_165 : decode cX10_copy 165 = .ok (.getfield 25, 3) := by decide +kernel
theorem dX10_copy_168 : decode cX10_copy 168 = .ok (.iload_n 2, 1) := by decide +kernel
theorem dX10_copy_169 : decode cX10_copy 169 = .ok (.aload_n 0, 1) := by decide +kernel
theorem dX10_copy_170 : decode cX10_copy 170 = .ok (.getfield 25, 3) := by decide +kernel
theorem dX10_copy_173 : decode cX10_copy 173 = .ok (.iload_n 2, 1) := by decide +kernel
theorem dX10_copy_174 : decode cX10_copy 174 = .ok (.iaload, 1) := by decide +kernel
theorem dX10_copy_175 : decode cX10_copy 175 = .ok (.iastore, 1) := by decide +kernel
theorem dX10_copy_176 : decode cX10_copy 176 = .ok (.iinc 2 1, 3) := by decide +kernel
theorem dX10_copy_179 : decode cX10_copy 179 = .ok (.goto (-81), 3) := by decide +kernel
theorem dX10_copy_182 : decode cX10_copy 182 = .ok (.iconst 0, 1) := by decide +kernel
theorem dX10_copy_183 : decode cX10_copy 183 = .ok (.istore_n 2, 1) := by decide +kernel
theorem dX10_copy_184 : decode cX10_copy 184 = .ok (.iload_n 2, 1) := by decide +kernel
theorem dX10_copy_185 : decode cX10_copy 185 = .ok (.sipush 2304, 3) := by decide +kernel
theorem dX10_copy_188 : decode cX10_copy 188 = .ok (.if_icmp .ge 21, 3) := by decide +kernel
theorem dX10_copy_191 : decode cX10_copy 191 = .ok (.aload_n 1, 1) := by decide +kernel
theorem dX10_copy_192 : decode cX10_copy 192 = .ok (.getfield 28, 3) := by decide +kernel
theorem dX10_copy_195 : decode cX10_copy 195 = .ok (.iload_n 2, 1) := by decide +kernel
theorem dX10_copy_196 : decode cX10_copy 196 = .ok (.aload_n 0, 1) := by decide +kernel
theorem dX10_copy_197 : decode cX10_copy 197 = .ok (.getfield 28, 3) := by decide +kernel
theorem dX10_copy_200 : decode cX10_copy 200 = .ok (.iload_n 2, 1) := by decide +kernel
theorem dX10_copy_201 : decode cX10_copy 201 = .ok (.baload, 1) := by decide +kernel
theorem dX10_copy_202 : decode cX10_copy 202 = .ok (.bastore, 1) := by decide +kernel
theorem dX10_copy_203 : decode cX10_copy 203 = .ok (.iinc 2 1, 3) := by decide +kernel
theorem dX10_copy_206 : decode cX10_copy 206 = .ok (.goto (-22), 3) := by decide +kernel
theorem dX10_copy_209 : decode cX10_copy 209 = .ok (.aload_n 1, 1) := by decide +kernel
theorem dX10_copy_210 : decode cX10_copy 210 = .ok (.areturn, 1) := by decide +kernel
def ow0M (M : Mm) (k : Nat) : Mm := (mN (mN (mN (mN (mN (mN (mN M (19, k, 0)) (19, k, 1)) (19, k, 2)) (19, k, 3)) (19, k, 4)) (19, k, 5)) (20, k, 0))
theorem rfj_0 {r : Rf} {n j : Nat} (hk : kd r = .inr (0, n)) (h : refj r j = true) : False := by
  unfold refj at h
  rw [hk] at h
  simp at h
theorem rfj_1 {r : Rf} {n j : Nat} (hk : kd r = .inr (1, n)) (h : refj r j = true) : False := by
  unfold refj at h
  rw [hk] at h
  simp at h
set_option maxHeartbeats 2000000 in
theorem sh_ow {k : Nat} {x : Rf} {j : Nat} (hj : refj x j = true) : (shP (shN (shP (shN (shP (shN (shP (shN (shP (shN (shP (shN (shP (shN (shN SH (18, k, 0)) (19, k, 0)) (18, k, 0) 11 (some (19, k, 0))) (19, k, 1)) (18, k, 0) 12 (some (19, k, 1))) (19, k, 2)) (18, k, 0) 13 (some (19, k, 2))) (19, k, 3)) (18, k, 0) 14 (some (19, k, 3))) (19, k, 4)) (18, k, 0) 15 (some (19, k, 4))) (19, k, 5)) (18, k, 0) 16 (some (19, k, 5))) (20, k, 0)) (18, k, 0) 17 (some (20, k, 0))) x j = SH x j := by
  by_cases h0 : x = (18, k, 0)
  · subst h0
    unfold refj at hj
    simp only [kd] at hj
    match j, hj with
    | 0, h => cases h
    | 1, h => cases h
    | 2, h => cases h
    | 3, h => cases h
    | 4, h => cases h
    | 5, h => cases h
    | 6, h => cases h
    | 7, h => cases h
    | 8, h => cases h
    | 9, h => cases h
    | 10, h => cases h
    | 11, _ => simp [shP, shN, SH]
    | 12, _ => simp [shP, shN, SH]
    | 13, _ => simp [shP, shN, SH]
    | 14, _ => simp [shP, shN, SH]
    | 15, _ => simp [shP, shN, SH]
    | 16, _ => simp [shP, shN, SH]
    | 17, _ => simp [shP, shN, SH]
    | j + 18, h => simp at h
  · have q0 : x ≠ (19, k, 0) := fun e => by subst e; exact rfj_0 rfl hj
    have q1 : x ≠ (19, k, 1) := fun e => by subst e; exact rfj_0 rfl hj
    have q2 : x ≠ (19, k, 2) := fun e => by subst e; exact rfj_0 rfl hj
    have q3 : x ≠ (19, k, 3) := fun e => by subst e; exact rfj_0 rfl hj
    have q4 : x ≠ (19, k, 4) := fun e => by subst e; exact rfj_0 rfl hj
    have q5 : x ≠ (19, k, 5) := fun e => by subst e; exact rfj_0 rfl hj
    have q6 : x ≠ (20, k, 0) := fun e => by subst e; exact rfj_1 rfl hj
    rw [sh_P1 h0, sh_N1 q6, sh_P1 h0, sh_N1 q5, sh_P1 h0, sh_N1 q4, sh_P1 h0, sh_N1 q3, sh_P1 h0, sh_N1 q2, sh_P1 h0, sh_N1 q1, sh_P1 h0, sh_N1 q0, sh_N1 h0]

set_option maxRecDepth 20000 in
set_option maxHeartbeats 2000000 in
theorem sX10_init {wv : Wv} (M : Mm) (k : Nat) (hf : FrI wv (owR k)) (hA : (wv.1 ++ owR k).Nodup ∧ clo (owR k)) : TG yX10_init cX10_init 1 none 1 7 2376 (owT k) (allR wv ++ [(18, k, 0)]) (shN SH (18, k, 0)) [.inr (18, k, 0)] M none (allR (wvA wv (owR k) hA)) SH (ow0M M k) := by
  have hc0 : shC (shN SH (18, k, 0)) (allR wv ++ [(18, k, 0)]) := shC_N wv.2.2.2
  have n0 : (allR wv ++ [((18, k, 0) : Rf)]).Nodup := nd_A (ys := [(18, k, 0)]) (frS hf (by simp [owR])) (by simp)
  have g0 : ((19, k, 0) : Rf) ∉ allR wv ++ [((18, k, 0) : Rf)] := nm_snoc (hf _ (by simp [owR])) (by simp)
  have g1 : ((19, k, 1) : Rf) ∉ allR wv ++ [((18, k, 0) : Rf)] := nm_snoc (hf _ (by simp [owR])) (by simp)
  have g2 : ((19, k, 2) : Rf) ∉ allR wv ++ [((18, k, 0) : Rf)] := nm_snoc (hf _ (by simp [owR])) (by simp)
  have g3 : ((19, k, 3) : Rf) ∉ allR wv ++ [((18, k, 0) : Rf)] := nm_snoc (hf _ (by simp [owR])) (by simp)
  have g4 : ((19, k, 4) : Rf) ∉ allR wv ++ [((18, k, 0) : Rf)] := nm_snoc (hf _ (by simp [owR])) (by simp)
  have g5 : ((19, k, 5) : Rf) ∉ allR wv ++ [((18, k, 0) : Rf)] := nm_snoc (hf _ (by simp [owR])) (by simp)
  have g6 : ((20, k, 0) : Rf) ∉ allR wv ++ [((18, k, 0) : Rf)] := nm_snoc (hf _ (by simp [owR])) (by simp)
  refine TG.go (n := 0) (ls := [some (.inr (18, k, 0))]) (by decide +kernel) rfl rfl rfl rfl ?_
  refine z_aload_n (i := 0) dX10_init_0 rfl rfl ?_
  refine z_objI dX10_init_1 lo_X10_1 (Nat.le_of_ble_eq_true rfl) (Nat.le_of_ble_eq_true rfl) ?_
  refine z_aload_n (i := 0) dX10_init_4 rfl rfl ?_
  refine z_bipush (v := (12 : Int32)) dX10_init_5 kb_12 ?_
  refine z_newaF (atype := .int) (ty := .int) (t := 0) (N := 12) (a0 := (12, .inl fun _ => 0)) (r := (19, k, 0)) n0 g0 (by show 19 < 30; decide) dX10_init_7 ac_i rfl (fun _ => rfl) (fun _ => rfl) (fun tc ad => he_I rfl) (by decide) (by decide) (Nat.le_of_ble_eq_true rfl) (nrf_of hc0 g0) (qa_I (qi_G (S := [(19, k, 0)]) (by simp [owT])) (by simp)) (noC_f (chg := [(19, k, 0)]) (by simp) (by simp [noC])) (noS_f (chg := [(19, k, 0)]) (by simp) (by simp [noS])) (Nat.le_of_ble_eq_true rfl) (Nat.le_of_ble_eq_true rfl) ?_
  have n1 := nd_snoc n0 g0
  refine z_putR (ci := 10) (j := 11) (r := (18, k, 0)) (y := (19, k, 0)) n1 dX10_init_9 fl_X10_7 (m_l m_r) rfl rfl rfl rfl (fun _ => rfl) (fun _ => rfl) ?_
  have hc1 := shC_P (r := (18, k, 0)) (j := 11) (shC_N (r := (19, k, 0)) hc0) m_r
  refine z_aload_n (i := 0) dX10_init_12 rfl rfl ?_
  refine z_bipush (v := (12 : Int32)) dX10_init_13 kb_12 ?_
  refine z_newaF (atype := .int) (ty := .int) (t := 0) (N := 12) (a0 := (12, .inl fun _ => 0)) (r := (19, k, 1)) n1 (nm_snoc g1 (by simp)) (by show 19 < 30; decide) dX10_init_15 ac_i rfl (fun _ => rfl) (fun _ => rfl) (fun tc ad => he_I rfl) (by decide) (by decide) (Nat.le_of_ble_eq_true rfl) (nrf_of hc1 (nm_snoc g1 (by simp))) (qa_I (qi_G (S := [(19, k, 1)]) (by simp [owT])) (by simp)) (noC_f (chg := [(19, k, 1)]) (by simp) (by simp [noC])) (noS_f (chg := [(19, k, 1)]) (by simp) (by simp [noS])) (Nat.le_of_ble_eq_true rfl) (Nat.le_of_ble_eq_true rfl) ?_
  have n2 := nd_snoc n1 (nm_snoc g1 (by simp))
  refine z_putR (ci := 10) (j := 12) (r := (18, k, 0)) (y := (19, k, 1)) n2 dX10_init_17 fl_X10_13 (m_l (m_l m_r)) rfl rfl rfl rfl (fun _ => rfl) (fun _ => rfl) ?_
  have hc2 := shC_P (r := (18, k, 0)) (j := 12) (shC_N (r := (19, k, 1)) hc1) m_r
  refine z_aload_n (i := 0) dX10_init_20 rfl rfl ?_
  refine z_bipush (v := (12 : Int32)) dX10_init_21 kb_12 ?_
  refine z_newaF (atype := .int) (ty := .int) (t := 0) (N := 12) (a0 := (12, .inl fun _ => 0)) (r := (19, k, 2)) n2 (nm_snoc (nm_snoc g2 (by simp)) (by simp)) (by show 19 < 30; decide) dX10_init_23 ac_i rfl (fun _ => rfl) (fun _ => rfl) (fun tc ad => he_I rfl) (by decide) (by decide) (Nat.le_of_ble_eq_true rfl) (nrf_of hc2 (nm_snoc (nm_snoc g2 (by simp)) (by simp))) (qa_I (qi_G (S := [(19, k, 2)]) (by simp [owT])) (by simp)) (noC_f (chg := [(19, k, 2)]) (by simp) (by simp [noC])) (noS_f (chg := [(19, k, 2)]) (by simp) (by simp [noS])) (Nat.le_of_ble_eq_true rfl) (Nat.le_of_ble_eq_true rfl) ?_
  have n3 := nd_snoc n2 (nm_snoc (nm_snoc g2 (by simp)) (by simp))
  refine z_putR (ci := 10) (j := 13) (r := (18, k, 0)) (y := (19, k, 2)) n3 dX10_init_25 fl_X10_16 (m_l (m_l (m_l m_r))) rfl rfl rfl rfl (fun _ => rfl) (fun _ => rfl) ?_
  have hc3 := shC_P (r := (18, k, 0)) (j := 13) (shC_N (r := (19, k, 2)) hc2) m_r
  refine z_aload_n (i := 0) dX10_init_28 rfl rfl ?_
  refine z_bipush (v := (12 : Int32)) dX10_init_29 kb_12 ?_
  refine z_newaF (atype := .int) (ty := .int) (t := 0) (N := 12) (a0 := (12, .inl fun _ => 0)) (r := (19, k, 3)) n3 (nm_snoc (nm_snoc (nm_snoc g3 (by simp)) (by simp)) (by simp)) (by show 19 < 30; decide) dX10_init_31 ac_i rfl (fun _ => rfl) (fun _ => rfl) (fun tc ad => he_I rfl) (by decide) (by decide) (Nat.le_of_ble_eq_true rfl) (nrf_of hc3 (nm_snoc (nm_snoc (nm_snoc g3 (by simp)) (by simp)) (by simp))) (qa_I (qi_G (S := [(19, k, 3)]) (by simp [owT])) (by simp)) (noC_f (chg := [(19, k, 3)]) (by simp) (by simp [noC])) (noS_f (chg := [(19, k, 3)]) (by simp) (by simp [noS])) (Nat.le_of_ble_eq_true rfl) (Nat.le_of_ble_eq_true rfl) ?_
  have n4 := nd_snoc n3 (nm_snoc (nm_snoc (nm_snoc g3 (by simp)) (by simp)) (by simp))
  refine z_putR (ci := 10) (j := 14) (r := (18, k, 0)) (y := (19, k, 3)) n4 dX10_init_33 fl_X10_19 (m_l (m_l (m_l (m_l m_r)))) rfl rfl rfl rfl (fun _ => rfl) (fun _ => rfl) ?_
  have hc4 := shC_P (r := (18, k, 0)) (j := 14) (shC_N (r := (19, k, 3)) hc3) m_r
  refine z_aload_n (i := 0) dX10_init_36 rfl rfl ?_
  refine z_bipush (v := (12 : Int32)) dX10_init_37 kb_12 ?_
  refine z_newaF (atype := .int) (ty := .int) (t := 0) (N := 12) (a0 := (12, .inl fun _ => 0)) (r := (19, k, 4)) n4 (nm_snoc (nm_snoc (nm_snoc (nm_snoc g4 (by simp)) (by simp)) (by simp)) (by simp)) (by show 19 < 30; decide) dX10_init_39 ac_i rfl (fun _ => rfl) (fun _ => rfl) (fun tc ad => he_I rfl) (by decide) (by decide) (Nat.le_of_ble_eq_true rfl) (nrf_of hc4 (nm_snoc (nm_snoc (nm_snoc (nm_snoc g4 (by simp)) (by simp)) (by simp)) (by simp))) (qa_I (qi_G (S := [(19, k, 4)]) (by simp [owT])) (by simp)) (noC_f (chg := [(19, k, 4)]) (by simp) (by simp [noC])) (noS_f (chg := [(19, k, 4)]) (by simp) (by simp [noS])) (Nat.le_of_ble_eq_true rfl) (Nat.le_of_ble_eq_true rfl) ?_
  have n5 := nd_snoc n4 (nm_snoc (nm_snoc (nm_snoc (nm_snoc g4 (by simp)) (by simp)) (by simp)) (by simp))
  refine z_putR (ci := 10) (j := 15) (r := (18, k, 0)) (y := (19, k, 4)) n5 dX10_init_41 fl_X10_22 (m_l (m_l (m_l (m_l (m_l m_r))))) rfl rfl rfl rfl (fun _ => rfl) (fun _ => rfl) ?_
  have hc5 := shC_P (r := (18, k, 0)) (j := 15) (shC_N (r := (19, k, 4)) hc4) m_r
  refine z_aload_n (i := 0) dX10_init_44 rfl rfl ?_
  refine z_bipush (v := (12 : Int32)) dX10_init_45 kb_12 ?_
  refine z_newaF (atype := .int) (ty := .int) (t := 0) (N := 12) (a0 := (12, .inl fun _ => 0)) (r := (19, k, 5)) n5 (nm_snoc (nm_snoc (nm_snoc (nm_snoc (nm_snoc g5 (by simp)) (by simp)) (by simp)) (by simp)) (by simp)) (by show 19 < 30; decide) dX10_init_47 ac_i rfl (fun _ => rfl) (fun _ => rfl) (fun tc ad => he_I rfl) (by decide) (by decide) (Nat.le_of_ble_eq_true rfl) (nrf_of hc5 (nm_snoc (nm_snoc (nm_snoc (nm_snoc (nm_snoc g5 (by simp)) (by simp)) (by simp)) (by simp)) (by simp))) (qa_I (qi_G (S := [(19, k, 5)]) (by simp [owT])) (by simp)) (noC_f (chg := [(19, k, 5)]) (by simp) (by simp [noC])) (noS_f (chg := [(19, k, 5)]) (by simp) (by simp [noS])) (Nat.le_of_ble_eq_true rfl) (Nat.le_of_ble_eq_true rfl) ?_
  have n6 := nd_snoc n5 (nm_snoc (nm_snoc (nm_snoc (nm_snoc (nm_snoc g5 (by simp)) (by simp)) (by simp)) (by simp)) (by simp))
  refine z_putR (ci := 10) (j := 16) (r := (18, k, 0)) (y := (19, k, 5)) n6 dX10_init_49 fl_X10_25 (m_l (m_l (m_l (m_l (m_l (m_l m_r)))))) rfl rfl rfl rfl (fun _ => rfl) (fun _ => rfl) ?_
  have hc6 := shC_P (r := (18, k, 0)) (j := 16) (shC_N (r := (19, k, 5)) hc5) m_r
  refine z_aload_n (i := 0) dX10_init_52 rfl rfl ?_
  refine z_sipush (v := (2304 : Int32)) dX10_init_53 ks_2304 ?_
  refine z_newaF (atype := .boolean) (ty := .boolean) (t := 1) (N := 2304) (a0 := (2304, .inl fun _ => 0)) (r := (20, k, 0)) n6 (nm_snoc (nm_snoc (nm_snoc (nm_snoc (nm_snoc (nm_snoc g6 (by simp)) (by simp)) (by simp)) (by simp)) (by simp)) (by simp)) (by show 20 < 30; decide) dX10_init_56 ac_z rfl (fun _ => rfl) (fun _ => rfl) (fun tc ad => he_Z rfl) (by decide) (by decide) (Nat.le_of_ble_eq_true rfl) (nrf_of hc6 (nm_snoc (nm_snoc (nm_snoc (nm_snoc (nm_snoc (nm_snoc g6 (by simp)) (by simp)) (by simp)) (by simp)) (by simp)) (by simp))) (qa_I (qi_G (S := [(20, k, 0)]) (by simp [owT])) (by simp)) (noC_f (chg := [(20, k, 0)]) (by simp) (by simp [noC])) (noS_f (chg := [(20, k, 0)]) (by simp) (by simp [noS])) (Nat.le_of_ble_eq_true rfl) (Nat.le_of_ble_eq_true rfl) ?_
  have n7 := nd_snoc n6 (nm_snoc (nm_snoc (nm_snoc (nm_snoc (nm_snoc (nm_snoc g6 (by simp)) (by simp)) (by simp)) (by simp)) (by simp)) (by simp))
  refine z_putR (ci := 10) (j := 17) (r := (18, k, 0)) (y := (20, k, 0)) n7 dX10_init_58 fl_X10_28 (m_l (m_l (m_l (m_l (m_l (m_l (m_l m_r))))))) rfl rfl rfl rfl (fun _ => rfl) (fun _ => rfl) ?_
  have hc7 := shC_P (r := (18, k, 0)) (j := 17) (shC_N (r := (20, k, 0)) hc6) m_r
  refine z_gvret dX10_init_61 rfl (by decide) (by decide) ⟨fun x hx => by have h8 : x ∈ wv.1 ++ owR k := hx; simp [owR] at h8; simp [allR]; grind, fun x hx => ⟨fun j hj => ?_, fun _ => rfl, fun _ => rfl⟩⟩
  exact (sh_ow hj).symm
def fX10_copy_L98 (k : Nat) (q : Nat) (K : Int32 → Mm → Option Mm) : Nat → Int32 → Mm → Option Mm
  | 0, _, _ => none
  | n + 1, v2, M => if (12 : Int32) ≤ v2 then K v2 M else if v2 < 0 ∨ 12 ≤ v2.toNatClampNeg then none else if v2 < 0 ∨ 12 ≤ v2.toNatClampNeg then none else if v2 < 0 ∨ 12 ≤ v2.toNatClampNeg then none else if v2 < 0 ∨ 12 ≤ v2.toNatClampNeg then none else if v2 < 0 ∨ 12 ≤ v2.toNatClampNeg then none else if v2 < 0 ∨ 12 ≤ v2.toNatClampNeg then none else if v2 < 0 ∨ 12 ≤ v2.toNatClampNeg then none else if v2 < 0 ∨ 12 ≤ v2.toNatClampNeg then none else if v2 < 0 ∨ 12 ≤ v2.toNatClampNeg then none else if v2 < 0 ∨ 12 ≤ v2.toNatClampNeg then none else if v2 < 0 ∨ 12 ≤ v2.toNatClampNeg then none else if v2 < 0 ∨ 12 ≤ v2.toNatClampNeg then none else fX10_copy_L98 k q K n (v2 + (1 : Int32)) (putI (putI (putI (putI (putI (putI M (19, q, 0) v2.toNatClampNeg (M.1 (19, k, 0) v2.toNatClampNeg)) (19, q, 1) v2.toNatClampNeg ((putI M (19, q, 0) v2.toNatClampNeg (M.1 (19, k, 0) v2.toNatClampNeg)).1 (19, k, 1) v2.toNatClampNeg)) (19, q, 2) v2.toNatClampNeg ((putI (putI M (19, q, 0) v2.toNatClampNeg (M.1 (19, k, 0) v2.toNatClampNeg)) (19, q, 1) v2.toNatClampNeg ((putI M (19, q, 0) v2.toNatClampNeg (M.1 (19, k, 0) v2.toNatClampNeg)).1 (19, k, 1) v2.toNatClampNeg)).1 (19, k, 2) v2.toNatClampNeg)) (19, q, 3) v2.toNatClampNeg ((putI (putI (putI M (19, q, 0) v2.toNatClampNeg (M.1 (19, k, 0) v2.toNatClampNeg)) (19, q, 1) v2.toNatClampNeg ((putI M (19, q, 0) v2.toNatClampNeg (M.1 (19, k, 0) v2.toNatClampNeg)).1 (19, k, 1) v2.toNatClampNeg)) (19, q, 2) v2.toNatClampNeg ((putI (putI M (19, q, 0) v2.toNatClampNeg (M.1 (19, k, 0) v2.toNatClampNeg)) (19, q, 1) v2.toNatClampNeg ((putI M (19, q, 0) v2.toNatClampNeg (M.1 (19, k, 0) v2.toNatClampNeg)).1 (19, k, 1) v2.toNatClampNeg)).1 (19, k, 2) v2.toNatClampNeg)).1 (19, k, 3) v2.toNatClampNeg)) (19, q, 4) v2.toNatClampNeg ((putI (putI (putI (putI M (19, q, 0) v2.toNatClampNeg (M.1 (19, k, 0) v2.toNatClampNeg)) (19, q, 1) v2.toNatClampNeg ((putI M (19, q, 0) v2.toNatClampNeg (M.1 (19, k, 0) v2.toNatClampNeg)).1 (19, k, 1) v2.toNatClampNeg)) (19, q, 2) v2.toNatClampNeg ((putI (putI M (19, q, 0) v2.toNatClampNeg (M.1 (19, k, 0) v2.toNatClampNeg)) (19, q, 1) v2.toNatClampNeg ((putI M (19, q, 0) v2.toNatClampNeg (M.1 (19, k, 0) v2.toNatClampNeg)).1 (19, k, 1) v2.toNatClampNeg)).1 (19, k, 2) v2.toNatClampNeg)) (19, q, 3) v2.toNatClampNeg ((putI (putI (putI M (19, q, 0) v2.toNatClampNeg (M.1 (19, k, 0) v2.toNatClampNeg)) (19, q, 1) v2.toNatClampNeg ((putI M (19, q, 0) v2.toNatClampNeg (M.1 (19, k, 0) v2.toNatClampNeg)).1 (19, k, 1) v2.toNatClampNeg)) (19, q, 2) v2.toNatClampNeg ((putI (putI M (19, q, 0) v2.toNatClampNeg (M.1 (19, k, 0) v2.toNatClampNeg)) (19, q, 1) v2.toNatClampNeg ((putI M (19, q, 0) v2.toNatClampNeg (M.1 (19, k, 0) v2.toNatClampNeg)).1 (19, k, 1) v2.toNatClampNeg)).1 (19, k, 2) v2.toNatClampNeg)).1 (19, k, 3) v2.toNatClampNeg)).1 (19, k, 4) v2.toNatClampNeg)) (19, q, 5) v2.toNatClampNeg ((putI (putI (putI (putI (putI M (19, q, 0) v2.toNatClampNeg (M.1 (19, k, 0) v2.toNatClampNeg)) (19, q, 1) v2.toNatClampNeg ((putI M (19, q, 0) v2.toNatClampNeg (M.1 (19, k, 0) v2.toNatClampNeg)).1 (19, k, 1) v2.toNatClampNeg)) (19, q, 2) v2.toNatClampNeg ((putI (putI M (19, q, 0) v2.toNatClampNeg (M.1 (19, k, 0) v2.toNatClampNeg)) (19, q, 1) v2.toNatClampNeg ((putI M (19, q, 0) v2.toNatClampNeg (M.1 (19, k, 0) v2.toNatClampNeg)).1 (19, k, 1) v2.toNatClampNeg)).1 (19, k, 2) v2.toNatClampNeg)) (19, q, 3) v2.toNatClampNeg ((putI (putI (putI M (19, q, 0) v2.toNatClampNeg (M.1 (19, k, 0) v2.toNatClampNeg)) (19, q, 1) v2.toNatClampNeg ((putI M (19, q, 0) v2.toNatClampNeg (M.1 (19, k, 0) v2.toNatClampNeg)).1 (19, k, 1) v2.toNatClampNeg)) (19, q, 2) v2.toNatClampNeg ((putI (putI M (19, q, 0) v2.toNatClampNeg (M.1 (19, k, 0) v2.toNatClampNeg)) (19, q, 1) v2.toNatClampNeg ((putI M (19, q, 0) v2.toNatClampNeg (M.1 (19, k, 0) v2.toNatClampNeg)).1 (19, k, 1) v2.toNatClampNeg)).1 (19, k, 2) v2.toNatClampNeg)).1 (19, k, 3) v2.toNatClampNeg)) (19, q, 4) v2.toNatClampNeg ((putI (putI (putI (putI M (19, q, 0) v2.toNatClampNeg (M.1 (19, k, 0) v2.toNatClampNeg)) (19, q, 1) v2.toNatClampNeg ((putI M (19, q, 0) v2.toNatClampNeg (M.1 (19, k, 0) v2.toNatClampNeg)).1 (19, k, 1) v2.toNatClampNeg)) (19, q, 2) v2.toNatClampNeg ((putI (putI M (19, q, 0) v2.toNatClampNeg (M.1 (19, k, 0) v2.toNatClampNeg)) (19, q, 1) v2.toNatClampNeg ((putI M (19, q, 0) v2.toNatClampNeg (M.1 (19, k, 0) v2.toNatClampNeg)).1 (19, k, 1) v2.toNatClampNeg)).1 (19, k, 2) v2.toNatClampNeg)) (19, q, 3) v2.toNatClampNeg ((putI (putI (putI M (19, q, 0) v2.toNatClampNeg (M.1 (19, k, 0) v2.toNatClampNeg)) (19, q, 1) v2.toNatClampNeg ((putI M (19, q, 0) v2.toNatClampNeg (M.1 (19, k, 0) v2.toNatClampNeg)).1 (19, k, 1) v2.toNatClampNeg)) (19, q, 2) v2.toNatClampNeg ((putI (putI M (19, q, 0) v2.toNatClampNeg (M.1 (19, k, 0) v2.toNatClampNeg)) (19, q, 1) v2.toNatClampNeg ((putI M (19, q, 0) v2.toNatClampNeg (M.1 (19, k, 0) v2.toNatClampNeg)).1 (19, k, 1) v2.toNatClampNeg)).1 (19, k, 2) v2.toNatClampNeg)).1 (19, k, 3) v2.toNatClampNeg)).1 (19, k, 4) v2.toNatClampNeg)).1 (19, k, 5) v2.toNatClampNeg))
def fX10_copy_L184 (k : Nat) (q : Nat) (K : Int32 → Mm → Option Mm) : Nat → Int32 → Mm → Option Mm
  | 0, _, _ => none
  | n + 1, v2, M => if (2304 : Int32) ≤ v2 then K v2 M else if v2 < 0 ∨ 2304 ≤ v2.toNatClampNeg then none else if v2 < 0 ∨ 2304 ≤ v2.toNatClampNeg then none else fX10_copy_L184 k q K n (v2 + (1 : Int32)) (putI M (20, q, 0) v2.toNatClampNeg (bz (M.1 (20, k, 0) v2.toNatClampNeg)))
def fX10_copy (M : Mm) (k q : Nat) : Option Mm := fX10_copy_L98 k q (fun w14 M15 => fX10_copy_L184 k q (fun w19 M20 => some M20) NF (0 : Int32) M15) NF (0 : Int32) (putI (putI (putI (putI (putI (putI (putI (putI (putI (putI (putI M (18, q, 0) 0 (M.1 (18, k, 0) 0)) (18, q, 0) 1 (M.1 (18, k, 0) 1)) (18, q, 0) 2 (M.1 (18, k, 0) 2)) (18, q, 0) 3 (M.1 (18, k, 0) 3)) (18, q, 0) 4 (M.1 (18, k, 0) 4)) (18, q, 0) 5 (M.1 (18, k, 0) 5)) (18, q, 0) 6 (M.1 (18, k, 0) 6)) (18, q, 0) 7 (M.1 (18, k, 0) 7)) (18, q, 0) 8 (M.1 (18, k, 0) 8)) (18, q, 0) 9 (M.1 (18, k, 0) 9)) (18, q, 0) 10 (M.1 (18, k, 0) 10))
set_option maxRecDepth 20000 in
set_option maxHeartbeats 2000000 in
theorem sX10_copy_L98 {wv : Wv} (k : Nat) (q : Nat) (hk : OwI wv k) (hq : OwI wv q) {res : Mm} {K : Int32 → Mm → Option Mm} : ∀ (n : Nat) (v2 : Int32) (M : Mm), fX10_copy_L98 k q K n v2 M = some res →
    (∀ (v2 : Int32) (M : Mm), K v2 M = some res → Z RX10 cX10_copy 3 (some (.object "MusicBoxEditorLaw$Own")) [] "copy" (rmD 2 8 2394) (QMG (owR q) (allR wv) SH res (some (.inr (18, q, 0))) 8 2394) (allR wv) SH 8 2394 182 [some (.inr (18, k, 0)), some (.inr (18, q, 0)), some (.inl (.int v2))] [] M) → Z RX10 cX10_copy 3 (some (.object "MusicBoxEditorLaw$Own")) [] "copy" (rmD 2 8 2394) (QMG (owR q) (allR wv) SH res (some (.inr (18, q, 0))) 8 2394) (allR wv) SH 8 2394 98 [some (.inr (18, k, 0)), some (.inr (18, q, 0)), some (.inl (.int v2))] [] M := by
  intro n
  induction n with
  | zero => intro v2 M h; cases h
  | succ n ih =>
    intro v2 M h hK
    rw [fX10_copy_L98] at h
    refine z_iload_n (i := 2) dX10_copy_98 rfl rfl ?_
    refine z_bipush (v := (12 : Int32)) dX10_copy_99 kb_12 ?_
    refine z_icmp_ge (tgt := 182) dX10_copy_101 rfl (fun hc1 => ?_) (fun hc1 => ?_)
    · have h := it_t h hc1
      exact hK _ _ h
    · have h := it_f h hc1
      refine z_aload_n (i := 1) dX10_copy_104 rfl rfl ?_
      refine z_getR (r' := (19, q, 0)) dX10_copy_105 fl_X10_7 hq.1 rfl rfl ?_
      refine z_iload_n (i := 2) dX10_copy_108 rfl rfl ?_
      refine z_aload_n (i := 0) dX10_copy_109 rfl rfl ?_
      refine z_getR (r' := (19, k, 0)) dX10_copy_110 fl_X10_7 hk.1 rfl rfl ?_
      refine z_iload_n (i := 2) dX10_copy_113 rfl rfl ?_
      obtain ⟨hc2, h⟩ := chk h
      refine z_iald (x := (M.1 (19, k, 0) v2.toNatClampNeg)) dX10_copy_114 (hk.2.2 0 (Nat.le_of_ble_eq_true rfl)) rfl hc2 rfl ?_
      obtain ⟨hc3, h⟩ := chk h
      refine z_iast (j := v2.toNatClampNeg) allR_nd dX10_copy_115 (hq.2.2 0 (Nat.le_of_ble_eq_true rfl)) rfl hc3 rfl ?_
      refine z_aload_n (i := 1) dX10_copy_116 rfl rfl ?_
      refine z_getR (r' := (19, q, 1)) dX10_copy_117 fl_X10_13 hq.1 rfl rfl ?_
      refine z_iload_n (i := 2) dX10_copy_120 rfl rfl ?_
      refine z_aload_n (i := 0) dX10_copy_121 rfl rfl ?_
      refine z_getR (r' := (19, k, 1)) dX10_copy_122 fl_X10_13 hk.1 rfl rfl ?_
      refine z_iload_n (i := 2) dX10_copy_125 rfl rfl ?_
      obtain ⟨hc4, h⟩ := chk h
      refine z_iald (x := ((putI M (19, q, 0) v2.toNatClampNeg (M.1 (19, k, 0) v2.toNatClampNeg)).1 (19, k, 1) v2.toNatClampNeg)) dX10_copy_126 (hk.2.2 1 (Nat.le_of_ble_eq_true rfl)) rfl hc4 rfl ?_
      obtain ⟨hc5, h⟩ := chk h
      refine z_iast (j := v2.toNatClampNeg) allR_nd dX10_copy_127 (hq.2.2 1 (Nat.le_of_ble_eq_true rfl)) rfl hc5 rfl ?_
      refine z_aload_n (i := 1) dX10_copy_128 rfl rfl ?_
      refine z_getR (r' := (19, q, 2)) dX10_copy_129 fl_X10_16 hq.1 rfl rfl ?_
      refine z_iload_n (i := 2) dX10_copy_132 rfl rfl ?_
      refine z_aload_n (i := 0) dX10_copy_133 rfl rfl ?_
      refine z_getR (r' := (19, k, 2)) dX10_copy_134 fl_X10_16 hk.1 rfl rfl ?_
      refine z_iload_n (i := 2) dX10_copy_137 rfl rfl ?_
      obtain ⟨hc6, h⟩ := chk h
      refine z_iald (x := ((putI (putI M (19, q, 0) v2.toNatClampNeg (M.1 (19, k, 0) v2.toNatClampNeg)) (19, q, 1) v2.toNatClampNeg ((putI M (19, q, 0) v2.toNatClampNeg (M.1 (19, k, 0) v2.toNatClampNeg)).1 (19, k, 1) v2.toNatClampNeg)).1 (19, k, 2) v2.toNatClampNeg)) dX10_copy_138 (hk.2.2 2 (Nat.le_of_ble_eq_true rfl)) rfl hc6 rfl ?_
      obtain ⟨hc7, h⟩ := chk h
      refine z_iast (j := v2.toNatClampNeg) allR_nd dX10_copy_139 (hq.2.2 2 (Nat.le_of_ble_eq_true rfl)) rfl hc7 rfl ?_
      refine z_aload_n (i := 1) dX10_copy_140 rfl rfl ?_
      refine z_getR (r' := (19, q, 3)) dX10_copy_141 fl_X10_19 hq.1 rfl rfl ?_
      refine z_iload_n (i := 2) dX10_copy_144 rfl rfl ?_
      refine z_aload_n (i := 0) dX10_copy_145 rfl rfl ?_
      refine z_getR (r' := (19, k, 3)) dX10_copy_146 fl_X10_19 hk.1 rfl rfl ?_
      refine z_iload_n (i := 2) dX10_copy_149 rfl rfl ?_
      obtain ⟨hc8, h⟩ := chk h
      refine z_iald (x := ((putI (putI (putI M (19, q, 0) v2.toNatClampNeg (M.1 (19, k, 0) v2.toNatClampNeg)) (19, q, 1) v2.toNatClampNeg ((putI M (19, q, 0) v2.toNatClampNeg (M.1 (19, k, 0) v2.toNatClampNeg)).1 (19, k, 1) v2.toNatClampNeg)) (19, q, 2) v2.toNatClampNeg ((putI (putI M (19, q, 0) v2.toNatClampNeg (M.1 (19, k, 0) v2.toNatClampNeg)) (19, q, 1) v2.toNatClampNeg ((putI M (19, q, 0) v2.toNatClampNeg (M.1 (19, k, 0) v2.toNatClampNeg)).1 (19, k, 1) v2.toNatClampNeg)).1 (19, k, 2) v2.toNatClampNeg)).1 (19, k, 3) v2.toNatClampNeg)) dX10_copy_150 (hk.2.2 3 (Nat.le_of_ble_eq_true rfl)) rfl hc8 rfl ?_
      obtain ⟨hc9, h⟩ := chk h
      refine z_iast (j := v2.toNatClampNeg) allR_nd dX10_copy_151 (hq.2.2 3 (Nat.le_of_ble_eq_true rfl)) rfl hc9 rfl ?_
      refine z_aload_n (i := 1) dX10_copy_152 rfl rfl ?_
      refine z_getR (r' := (19, q, 4)) dX10_copy_153 fl_X10_22 hq.1 rfl rfl ?_
      refine z_iload_n (i := 2) dX10_copy_156 rfl rfl ?_
      refine z_aload_n (i := 0) dX10_copy_157 rfl rfl ?_
      refine z_getR (r' := (19, k, 4)) dX10_copy_158 fl_X10_22 hk.1 rfl rfl ?_
      refine z_iload_n (i := 2) dX10_copy_161 rfl rfl ?_
      obtain ⟨hc10, h⟩ := chk h
      refine z_iald (x := ((putI (putI (putI (putI M (19, q, 0) v2.toNatClampNeg (M.1 (19, k, 0) v2.toNatClampNeg)) (19, q, 1) v2.toNatClampNeg ((putI M (19, q, 0) v2.toNatClampNeg (M.1 (19, k, 0) v2.toNatClampNeg)).1 (19, k, 1) v2.toNatClampNeg)) (19, q, 2) v2.toNatClampNeg ((putI (putI M (19, q, 0) v2.toNatClampNeg (M.1 (19, k, 0) v2.toNatClampNeg)) (19, q, 1) v2.toNatClampNeg ((putI M (19, q, 0) v2.toNatClampNeg (M.1 (19, k, 0) v2.toNatClampNeg)).1 (19, k, 1) v2.toNatClampNeg)).1 (19, k, 2) v2.toNatClampNeg)) (19, q, 3) v2.toNatClampNeg ((putI (putI (putI M (19, q, 0) v2.toNatClampNeg (M.1 (19, k, 0) v2.toNatClampNeg)) (19, q, 1) v2.toNatClampNeg ((putI M (19, q, 0) v2.toNatClampNeg (M.1 (19, k, 0) v2.toNatClampNeg)).1 (19, k, 1) v2.toNatClampNeg)) (19, q, 2) v2.toNatClampNeg ((putI (putI M (19, q, 0) v2.toNatClampNeg (M.1 (19, k, 0) v2.toNatClampNeg)) (19, q, 1) v2.toNatClampNeg ((putI M (19, q, 0) v2.toNatClampNeg (M.1 (19, k, 0) v2.toNatClampNeg)).1 (19, k, 1) v2.toNatClampNeg)).1 (19, k, 2) v2.toNatClampNeg)).1 (19, k, 3) v2.toNatClampNeg)).1 (19, k, 4) v2.toNatClampNeg)) dX10_copy_162 (hk.2.2 4 (Nat.le_of_ble_eq_true rfl)) rfl hc10 rfl ?_
      obtain ⟨hc11, h⟩ := chk h
      refine z_iast (j := v2.toNatClampNeg) allR_nd dX10_copy_163 (hq.2.2 4 (Nat.le_of_ble_eq_true rfl)) rfl hc11 rfl ?_
      refine z_aload_n (i := 1) dX10_copy_164 rfl rfl ?_
      refine z_getR (r' := (19, q, 5)) dX10_copy_165 fl_X10_25 hq.1 rfl rfl ?_
      refine z_iload_n (i := 2) dX10_copy_168 rfl rfl ?_
      refine z_aload_n (i := 0) dX10_copy_169 rfl rfl ?_
      refine z_getR (r' := (19, k, 5)) dX10_copy_170 fl_X10_25 hk.1 rfl rfl ?_
      refine z_iload_n (i := 2) dX10_copy_173 rfl rfl ?_
      obtain ⟨hc12, h⟩ := chk h
      refine z_iald (x := ((putI (putI (putI (putI (putI M (19, q, 0) v2.toNatClampNeg (M.1 (19, k, 0) v2.toNatClampNeg)) (19, q, 1) v2.toNatClampNeg ((putI M (19, q, 0) v2.toNatClampNeg (M.1 (19, k, 0) v2.toNatClampNeg)).1 (19, k, 1) v2.toNatClampNeg)) (19, q, 2) v2.toNatClampNeg ((putI (putI M (19, q, 0) v2.toNatClampNeg (M.1 (19, k, 0) v2.toNatClampNeg)) (19, q, 1) v2.toNatClampNeg ((putI M (19, q, 0) v2.toNatClampNeg (M.1 (19, k, 0) v2.toNatClampNeg)).1 (19, k, 1) v2.toNatClampNeg)).1 (19, k, 2) v2.toNatClampNeg)) (19, q, 3) v2.toNatClampNeg ((putI (putI (putI M (19, q, 0) v2.toNatClampNeg (M.1 (19, k, 0) v2.toNatClampNeg)) (19, q, 1) v2.toNatClampNeg ((putI M (19, q, 0) v2.toNatClampNeg (M.1 (19, k, 0) v2.toNatClampNeg)).1 (19, k, 1) v2.toNatClampNeg)) (19, q, 2) v2.toNatClampNeg ((putI (putI M (19, q, 0) v2.toNatClampNeg (M.1 (19, k, 0) v2.toNatClampNeg)) (19, q, 1) v2.toNatClampNeg ((putI M (19, q, 0) v2.toNatClampNeg (M.1 (19, k, 0) v2.toNatClampNeg)).1 (19, k, 1) v2.toNatClampNeg)).1 (19, k, 2) v2.toNatClampNeg)).1 (19, k, 3) v2.toNatClampNeg)) (19, q, 4) v2.toNatClampNeg ((putI (putI (putI (putI M (19, q, 0) v2.toNatClampNeg (M.1 (19, k, 0) v2.toNatClampNeg)) (19, q, 1) v2.toNatClampNeg ((putI M (19, q, 0) v2.toNatClampNeg (M.1 (19, k, 0) v2.toNatClampNeg)).1 (19, k, 1) v2.toNatClampNeg)) (19, q, 2) v2.toNatClampNeg ((putI (putI M (19, q, 0) v2.toNatClampNeg (M.1 (19, k, 0) v2.toNatClampNeg)) (19, q, 1) v2.toNatClampNeg ((putI M (19, q, 0) v2.toNatClampNeg (M.1 (19, k, 0) v2.toNatClampNeg)).1 (19, k, 1) v2.toNatClampNeg)).1 (19, k, 2) v2.toNatClampNeg)) (19, q, 3) v2.toNatClampNeg ((putI (putI (putI M (19, q, 0) v2.toNatClampNeg (M.1 (19, k, 0) v2.toNatClampNeg)) (19, q, 1) v2.toNatClampNeg ((putI M (19, q, 0) v2.toNatClampNeg (M.1 (19, k, 0) v2.toNatClampNeg)).1 (19, k, 1) v2.toNatClampNeg)) (19, q, 2) v2.toNatClampNeg ((putI (putI M (19, q, 0) v2.toNatClampNeg (M.1 (19, k, 0) v2.toNatClampNeg)) (19, q, 1) v2.toNatClampNeg ((putI M (19, q, 0) v2.toNatClampNeg (M.1 (19, k, 0) v2.toNatClampNeg)).1 (19, k, 1) v2.toNatClampNeg)).1 (19, k, 2) v2.toNatClampNeg)).1 (19, k, 3) v2.toNatClampNeg)).1 (19, k, 4) v2.toNatClampNeg)).1 (19, k, 5) v2.toNatClampNeg)) dX10_copy_174 (hk.2.2 5 (Nat.le_of_ble_eq_true rfl)) rfl hc12 rfl ?_
      obtain ⟨hc13, h⟩ := chk h
      refine z_iast (j := v2.toNatClampNeg) allR_nd dX10_copy_175 (hq.2.2 5 (Nat.le_of_ble_eq_true rfl)) rfl hc13 rfl ?_
      refine z_iinc (i := 2) (v := (v2 + (1 : Int32))) dX10_copy_176 rfl (iinc_k kc_1) (Nat.le_of_ble_eq_true rfl) rfl ?_
      refine z_goto (tgt := 98) dX10_copy_179 rfl ?_
      exact ih _ _ h hK
set_option maxRecDepth 20000 in
set_option maxHeartbeats 2000000 in
theorem sX10_copy_L184 {wv : Wv} (k : Nat) (q : Nat) (hk : OwI wv k) (hq : OwI wv q) {res : Mm} {K : Int32 → Mm → Option Mm} : ∀ (n : Nat) (v2 : Int32) (M : Mm), fX10_copy_L184 k q K n v2 M = some res →
    (∀ (v2 : Int32) (M : Mm), K v2 M = some res → Z RX10 cX10_copy 3 (some (.object "MusicBoxEditorLaw$Own")) [] "copy" (rmD 2 8 2394) (QMG (owR q) (allR wv) SH res (some (.inr (18, q, 0))) 8 2394) (allR wv) SH 8 2394 209 [some (.inr (18, k, 0)), some (.inr (18, q, 0)), some (.inl (.int v2))] [] M) → Z RX10 cX10_copy 3 (some (.object "MusicBoxEditorLaw$Own")) [] "copy" (rmD 2 8 2394) (QMG (owR q) (allR wv) SH res (some (.inr (18, q, 0))) 8 2394) (allR wv) SH 8 2394 184 [some (.inr (18, k, 0)), some (.inr (18, q, 0)), some (.inl (.int v2))] [] M := by
  intro n
  induction n with
  | zero => intro v2 M h; cases h
  | succ n ih =>
    intro v2 M h hK
    rw [fX10_copy_L184] at h
    refine z_iload_n (i := 2) dX10_copy_184 rfl rfl ?_
    refine z_sipush (v := (2304 : Int32)) dX10_copy_185 ks_2304 ?_
    refine z_icmp_ge (tgt := 209) dX10_copy_188 rfl (fun hc16 => ?_) (fun hc16 => ?_)
    · have h := it_t h hc16
      exact hK _ _ h
    · have h := it_f h hc16
      refine z_aload_n (i := 1) dX10_copy_191 rfl rfl ?_
      refine z_getR (r' := (20, q, 0)) dX10_copy_192 fl_X10_28 hq.1 rfl rfl ?_
      refine z_iload_n (i := 2) dX10_copy_195 rfl rfl ?_
      refine z_aload_n (i := 0) dX10_copy_196 rfl rfl ?_
      refine z_getR (r' := (20, k, 0)) dX10_copy_197 fl_X10_28 hk.1 rfl rfl ?_
      refine z_iload_n (i := 2) dX10_copy_200 rfl rfl ?_
      obtain ⟨hc17, h⟩ := chk h
      refine z_zald (x := (M.1 (20, k, 0) v2.toNatClampNeg)) dX10_copy_201 hk.2.1 rfl hc17 rfl ?_
      obtain ⟨hc18, h⟩ := chk h
      refine z_zastB (j := v2.toNatClampNeg) allR_nd dX10_copy_202 hq.2.1 rfl hc18 rfl ?_
      refine z_iinc (i := 2) (v := (v2 + (1 : Int32))) dX10_copy_203 rfl (iinc_k kc_1) (Nat.le_of_ble_eq_true rfl) rfl ?_
      refine z_goto (tgt := 184) dX10_copy_206 rfl ?_
      exact ih _ _ h hK
set_option maxRecDepth 20000 in
set_option maxHeartbeats 2000000 in
theorem sX10_copyB {wv : Wv} (M : Mm) (k q : Nat) (hk : OwI wv k) (hq : OwI wv q) {res : Mm} (h : fX10_copy M k q = some res) : Z RX10 cX10_copy 3 (some (.object "MusicBoxEditorLaw$Own")) [] "copy" (rmD 2 8 2394) (QMG (owR q) (allR wv) SH res (some (.inr (18, q, 0))) 8 2394) (allR wv) SH 8 2394 7 [some (.inr (18, k, 0)), none, none] [.inr (18, q, 0)] M := by
  rw [fX10_copy] at h
  refine z_astore_n (i := 1) dX10_copy_7 rfl (Nat.le_of_ble_eq_true rfl) rfl ?_
  refine z_aload_n (i := 1) dX10_copy_8 rfl rfl ?_
  refine z_aload_n (i := 0) dX10_copy_9 rfl rfl ?_
  refine z_getI (x := (M.1 (18, k, 0) 0)) dX10_copy_10 fl_X10_33 hk.1 rfl rfl ?_
  refine z_putI allR_nd dX10_copy_13 fl_X10_33 hq.1 rfl rfl ?_
  refine z_aload_n (i := 1) dX10_copy_16 rfl rfl ?_
  refine z_aload_n (i := 0) dX10_copy_17 rfl rfl ?_
  refine z_getI (x := (M.1 (18, k, 0) 1)) dX10_copy_18 fl_X10_37 hk.1 rfl rfl ?_
  refine z_putI allR_nd dX10_copy_21 fl_X10_37 hq.1 rfl rfl ?_
  refine z_aload_n (i := 1) dX10_copy_24 rfl rfl ?_
  refine z_aload_n (i := 0) dX10_copy_25 rfl rfl ?_
  refine z_getI (x := (M.1 (18, k, 0) 2)) dX10_copy_26 fl_X10_40 hk.1 rfl rfl ?_
  refine z_putI allR_nd dX10_copy_29 fl_X10_40 hq.1 rfl rfl ?_
  refine z_aload_n (i := 1) dX10_copy_32 rfl rfl ?_
  refine z_aload_n (i := 0) dX10_copy_33 rfl rfl ?_
  refine z_getI (x := (M.1 (18, k, 0) 3)) dX10_copy_34 fl_X10_43 hk.1 rfl rfl ?_
  refine z_putI allR_nd dX10_copy_37 fl_X10_43 hq.1 rfl rfl ?_
  refine z_aload_n (i := 1) dX10_copy_40 rfl rfl ?_
  refine z_aload_n (i := 0) dX10_copy_41 rfl rfl ?_
  refine z_getI (x := (M.1 (18, k, 0) 4)) dX10_copy_42 fl_X10_46 hk.1 rfl rfl ?_
  refine z_putI allR_nd dX10_copy_45 fl_X10_46 hq.1 rfl rfl ?_
  refine z_aload_n (i := 1) dX10_copy_48 rfl rfl ?_
  refine z_aload_n (i := 0) dX10_copy_49 rfl rfl ?_
  refine z_getI (x := (M.1 (18, k, 0) 5)) dX10_copy_50 fl_X10_49 hk.1 rfl rfl ?_
  refine z_putI allR_nd dX10_copy_53 fl_X10_49 hq.1 rfl rfl ?_
  refine z_aload_n (i := 1) dX10_copy_56 rfl rfl ?_
  refine z_aload_n (i := 0) dX10_copy_57 rfl rfl ?_
  refine z_getI (x := (M.1 (18, k, 0) 6)) dX10_copy_58 fl_X10_52 hk.1 rfl rfl ?_
  refine z_putI allR_nd dX10_copy_61 fl_X10_52 hq.1 rfl rfl ?_
  refine z_aload_n (i := 1) dX10_copy_64 rfl rfl ?_
  refine z_aload_n (i := 0) dX10_copy_65 rfl rfl ?_
  refine z_getI (x := (M.1 (18, k, 0) 7)) dX10_copy_66 fl_X10_55 hk.1 rfl rfl ?_
  refine z_putI allR_nd dX10_copy_69 fl_X10_55 hq.1 rfl rfl ?_
  refine z_aload_n (i := 1) dX10_copy_72 rfl rfl ?_
  refine z_aload_n (i := 0) dX10_copy_73 rfl rfl ?_
  refine z_getI (x := (M.1 (18, k, 0) 8)) dX10_copy_74 fl_X10_58 hk.1 rfl rfl ?_
  refine z_putI allR_nd dX10_copy_77 fl_X10_58 hq.1 rfl rfl ?_
  refine z_aload_n (i := 1) dX10_copy_80 rfl rfl ?_
  refine z_aload_n (i := 0) dX10_copy_81 rfl rfl ?_
  refine z_getI (x := (M.1 (18, k, 0) 9)) dX10_copy_82 fl_X10_61 hk.1 rfl rfl ?_
  refine z_putI allR_nd dX10_copy_85 fl_X10_61 hq.1 rfl rfl ?_
  refine z_aload_n (i := 1) dX10_copy_88 rfl rfl ?_
  refine z_aload_n (i := 0) dX10_copy_89 rfl rfl ?_
  refine z_getI (x := (M.1 (18, k, 0) 10)) dX10_copy_90 fl_X10_64 hk.1 rfl rfl ?_
  refine z_putI allR_nd dX10_copy_93 fl_X10_64 hq.1 rfl rfl ?_
  refine z_iconst (v := (0 : Int32)) dX10_copy_96 kc_0 ?_
  refine z_istore_n (i := 2) dX10_copy_97 rfl (Nat.le_of_ble_eq_true rfl) rfl ?_
  refine sX10_copy_L98 k q hk hq NF _ _ h (fun w14 M15 h => ?_)
  refine z_iconst (v := (0 : Int32)) dX10_copy_182 kc_0 ?_
  refine z_istore_n (i := 2) dX10_copy_183 rfl (Nat.le_of_ble_eq_true rfl) rfl ?_
  refine sX10_copy_L184 k q hk hq NF _ _ h (fun w19 M20 h => ?_)
  refine z_aload_n (i := 1) dX10_copy_209 rfl rfl ?_
  obtain rfl := Option.some.inj h
  exact z_garet dX10_copy_210 rfl (Or.inl ⟨_, rfl⟩) (by omega) (by omega) same_rf
theorem df_10 : ∀ j, j < Nc 10 → defaultValue (tyc 10 j) = vp_V (([false, false, false, false, false, false, false, false, false, false, false, true, true, true, true, true, true, true] : List Bool).map fun b => if b = true then .null else .int 0) j := by
  intro j hj
  match j, hj with
  | 0, _ => rfl
  | 1, _ => rfl
  | 2, _ => rfl
  | 3, _ => rfl
  | 4, _ => rfl
  | 5, _ => rfl
  | 6, _ => rfl
  | 7, _ => rfl
  | 8, _ => rfl
  | 9, _ => rfl
  | 10, _ => rfl
  | 11, _ => rfl
  | 12, _ => rfl
  | 13, _ => rfl
  | 14, _ => rfl
  | 15, _ => rfl
  | 16, _ => rfl
  | 17, _ => rfl
  | j + 18, h => exact absurd h (by show ¬ (j + 18 < 18); omega)
set_option maxRecDepth 20000 in
set_option maxHeartbeats 2000000 in
theorem sX10_copy {wv : Wv} (M : Mm) (k q : Nat) (hk : OwI wv k) (hf : FrI wv (owR q)) (hA : (wv.1 ++ owR q).Nodup ∧ clo (owR q)) {res : Mm} (h : fX10_copy (ow0M (mN M (18, q, 0)) q) k q = some res) :
    TG yX10_copy cX10_copy 3 (some (.object "MusicBoxEditorLaw$Own")) 2 8 2394 (owR q) (allR wv) SH [.inr (18, k, 0)] M (some (.inr (18, q, 0))) (allR (wvA wv (owR q) hA)) SH res := by
  refine TG.go (n := 2) (ls := [some (.inr (18, k, 0)), none, none]) (by decide +kernel) rfl rfl rfl rfl ?_
  have hq : ((18, q, 0) : Rf) ∉ allR wv := hf _ (by simp [owR])
  have hne : (.inr (18, k, 0) : MV) ≠ .inr (18, q, 0) := fun e => hq (Sum.inr.inj e ▸ hk.1)
  refine z_newF (ci := 10) (r := (18, q, 0)) allR_nd hq (by show 18 < 30; decide) dX10_copy_0 nw_X10_8 rfl (by decide) df_10 (nrf_of wv.2.2.2 hq) (qa_I (qi_G (S := [(18, q, 0)]) (by simp [owR])) (by simp)) (fun i v hi => ?_) (fun v hv => by cases hv) (by show 0 + 1 ≤ 8; omega) (by show 0 + 18 ≤ 2394; omega) ?_
  · match i, hi with
    | 0, hi => cases hi; exact hne
    | 1, hi => cases hi
    | 2, hi => cases hi
    | i + 3, hi => simp at hi
  refine z_dup dX10_copy_3 rfl ?_
  refine z_cGI (sX10_init (mN M (18, q, 0)) q hf hA) dX10_copy_4 li_X10_32 cd_X10_init rfl rfl rfl (rq_o (by decide) (by decide) (by show 0 + 1 + 7 ≤ 8; omega) (by show 0 + 18 + 2376 ≤ 2394; omega)) rfl rfl (qi_G (by simp [owR, owT])) rfl rfl rfl ?_
  exact sX10_copyB (wv := wvA wv (owR q) hA) _ k q (owU hk) ow0 h

