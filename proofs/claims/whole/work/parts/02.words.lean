/-- the good words of the claim's tables -/
def AL : List Cond := lw_tbl.filter goodWord
theorem al_mem {w : Cond} (n : Nat) (h : lw_tbl[n]? = some w) (g : goodWord w = true) : w ∈ AL := List.mem_filter.mpr ⟨List.mem_of_getElem? h, g⟩
theorem al_good {ws : List Cond} (h : ∀ w ∈ ws, w ∈ AL) : GoodIn AL ws := fun w hw => ⟨h w hw, good_of_word (List.mem_filter.mp (h w hw)).2⟩
def Rc : Nat → String := fun k => match k with
  | 0 => RX0
  | 1 => RX1
  | 2 => RX2
  | 3 => RX3
  | 4 => RX4
  | 5 => RX5
  | 6 => RX6
  | 7 => RX7
  | 8 => RX8
  | 9 => RX9
  | _ => RX10
def Tc : Nat → u_T := fun k => match k with
  | 0 => TX0
  | 1 => TX1
  | 2 => TX2
  | 3 => TX3
  | 4 => TX4
  | 5 => TX5
  | 6 => TX6
  | 7 => TX7
  | 8 => TX8
  | 9 => TX9
  | _ => TX10
def Nc : Nat → Nat := fun k => match k with
  | 0 => 10
  | 1 => 2
  | 2 => 3
  | 3 => 4
  | 4 => 7
  | 5 => 2
  | 6 => 2
  | 7 => 9
  | 8 => 6
  | 9 => 11
  | _ => 28
def tyc : Nat → Nat → FieldType := fun k => match k with
  | 0 => tyX0
  | 1 => tyX1
  | 2 => tyX2
  | 3 => tyX3
  | 4 => tyX4
  | 5 => tyX5
  | 6 => tyX6
  | 7 => tyX7
  | 8 => tyX8
  | 9 => tyX9
  | _ => tyX10
set_option maxRecDepth 20000 in
theorem inc0 : ∀ w ∈ u_ws RX0 TX0 10, w ∈ AL := fun w h => List.mem_filter.mpr ⟨(goodIn_r (big := lw_tbl) (u_ws RX0 TX0 10) [284, 286, 288, 290, 292, 294, 296, 298, 300, 302] rfl (by decide +kernel) w h).1, List.all_eq_true.mp (show (u_ws RX0 TX0 10).all goodWord = true by decide +kernel) w h⟩
set_option maxRecDepth 20000 in
theorem inc1 : ∀ w ∈ u_ws RX1 TX1 2, w ∈ AL := fun w h => List.mem_filter.mpr ⟨(goodIn_r (big := lw_tbl) (u_ws RX1 TX1 2) [118, 120] rfl (by decide +kernel) w h).1, List.all_eq_true.mp (show (u_ws RX1 TX1 2).all goodWord = true by decide +kernel) w h⟩
set_option maxRecDepth 20000 in
theorem inc2 : ∀ w ∈ u_ws RX2 TX2 3, w ∈ AL := fun w h => List.mem_filter.mpr ⟨(goodIn_r (big := lw_tbl) (u_ws RX2 TX2 3) [344, 346, 348] rfl (by decide +kernel) w h).1, List.all_eq_true.mp (show (u_ws RX2 TX2 3).all goodWord = true by decide +kernel) w h⟩
set_option maxRecDepth 20000 in
theorem inc3 : ∀ w ∈ u_ws RX3 TX3 4, w ∈ AL := fun w h => List.mem_filter.mpr ⟨(goodIn_r (big := lw_tbl) (u_ws RX3 TX3 4) [215, 217, 219, 221] rfl (by decide +kernel) w h).1, List.all_eq_true.mp (show (u_ws RX3 TX3 4).all goodWord = true by decide +kernel) w h⟩
set_option maxRecDepth 20000 in
theorem inc4 : ∀ w ∈ u_ws RX4 TX4 7, w ∈ AL := fun w h => List.mem_filter.mpr ⟨(goodIn_r (big := lw_tbl) (u_ws RX4 TX4 7) [176, 178, 180, 182, 184, 186, 188] rfl (by decide +kernel) w h).1, List.all_eq_true.mp (show (u_ws RX4 TX4 7).all goodWord = true by decide +kernel) w h⟩
set_option maxRecDepth 20000 in
theorem inc5 : ∀ w ∈ u_ws RX5 TX5 2, w ∈ AL := fun w h => List.mem_filter.mpr ⟨(goodIn_r (big := lw_tbl) (u_ws RX5 TX5 2) [326, 328] rfl (by decide +kernel) w h).1, List.all_eq_true.mp (show (u_ws RX5 TX5 2).all goodWord = true by decide +kernel) w h⟩
set_option maxRecDepth 20000 in
theorem inc6 : ∀ w ∈ u_ws RX6 TX6 2, w ∈ AL := fun w h => List.mem_filter.mpr ⟨(goodIn_r (big := lw_tbl) (u_ws RX6 TX6 2) [313, 315] rfl (by decide +kernel) w h).1, List.all_eq_true.mp (show (u_ws RX6 TX6 2).all goodWord = true by decide +kernel) w h⟩
set_option maxRecDepth 20000 in
theorem inc7 : ∀ w ∈ u_ws RX7 TX7 9, w ∈ AL := fun w h => List.mem_filter.mpr ⟨(goodIn_r (big := lw_tbl) (u_ws RX7 TX7 9) [141, 143, 145, 147, 149, 151, 153, 155, 157] rfl (by decide +kernel) w h).1, List.all_eq_true.mp (show (u_ws RX7 TX7 9).all goodWord = true by decide +kernel) w h⟩
set_option maxRecDepth 20000 in
theorem inc8 : ∀ w ∈ u_ws RX8 TX8 6, w ∈ AL := fun w h => List.mem_filter.mpr ⟨(goodIn_r (big := lw_tbl) (u_ws RX8 TX8 6) [247, 249, 251, 253, 255, 257] rfl (by decide +kernel) w h).1, List.all_eq_true.mp (show (u_ws RX8 TX8 6).all goodWord = true by decide +kernel) w h⟩
set_option maxRecDepth 20000 in
theorem inc9 : ∀ w ∈ u_ws RX9 TX9 11, w ∈ AL := fun w h => List.mem_filter.mpr ⟨(goodIn_r (big := lw_tbl) (u_ws RX9 TX9 11) [567, 569, 571, 573, 575, 577, 579, 581, 583, 585, 587] rfl (by decide +kernel) w h).1, List.all_eq_true.mp (show (u_ws RX9 TX9 11).all goodWord = true by decide +kernel) w h⟩
set_option maxRecDepth 20000 in
theorem inc10 : ∀ w ∈ u_ws RX10 TX10 28, w ∈ AL := fun w h => List.mem_filter.mpr ⟨(goodIn_r (big := lw_tbl) (u_ws RX10 TX10 28) [1504, 1506, 1508, 1510, 1512, 1514, 1516, 1518, 1520, 1522, 1524, 1526, 1528, 1530, 1532, 1534, 1536, 1538, 1540, 1542, 1544, 1546, 1548, 1550, 1552, 1554, 1556, 1558] rfl (by decide +kernel) w h).1, List.all_eq_true.mp (show (u_ws RX10 TX10 28).all goodWord = true by decide +kernel) w h⟩
theorem inC : ∀ ci, ci < 11 → ∀ w ∈ u_ws (Rc ci) (Tc ci) (Nc ci), w ∈ AL
  | 0, _ => inc0
  | 1, _ => inc1
  | 2, _ => inc2
  | 3, _ => inc3
  | 4, _ => inc4
  | 5, _ => inc5
  | 6, _ => inc6
  | 7, _ => inc7
  | 8, _ => inc8
  | 9, _ => inc9
  | 10, _ => inc10
  | n + 11, h => absurd h (by omega)
theorem tyC : ∀ ci, ci < 11 → ∀ k, k < Nc ci → parseFieldDescriptor (Tc ci k).2.2.1 = some (tyc ci k)
  | 0, _ => tyX0_ok
  | 1, _ => tyX1_ok
  | 2, _ => tyX2_ok
  | 3, _ => tyX3_ok
  | 4, _ => tyX4_ok
  | 5, _ => tyX5_ok
  | 6, _ => tyX6_ok
  | 7, _ => tyX7_ok
  | 8, _ => tyX8_ok
  | 9, _ => tyX9_ok
  | 10, _ => tyX10_ok
  | n + 11, h => absurd h (by omega)
theorem nmC : ∀ ci, ci < 11 → ∀ a, a < Nc ci → ∀ b, b < Nc ci → a ≠ b → (Tc ci a).2.1 ≠ (Tc ci b).2.1
  | 0, _ => nmX0
  | 1, _ => nmX1
  | 2, _ => nmX2
  | 3, _ => nmX3
  | 4, _ => nmX4
  | 5, _ => nmX5
  | 6, _ => nmX6
  | 7, _ => nmX7
  | 8, _ => nmX8
  | 9, _ => nmX9
  | 10, _ => nmX10
  | n + 11, h => absurd h (by omega)
theorem clC : ∀ ci, ci < 11 → vwCl[ci]? = some (Rc ci, Tc ci, Nc ci)
  | 0, _ => rfl
  | 1, _ => rfl
  | 2, _ => rfl
  | 3, _ => rfl
  | 4, _ => rfl
  | 5, _ => rfl
  | 6, _ => rfl
  | 7, _ => rfl
  | 8, _ => rfl
  | 9, _ => rfl
  | 10, _ => rfl
  | n + 11, h => absurd h (by omega)
def lkF (own : String) (idx ci j : Nat) : Prop := Cond.fieldLink own idx (Tc ci j).1 (Tc ci j).2.1 (Tc ci j).2.2.1 ∈ AL
def lkV (own : String) (idx : Nat) (y : MethodName) : Prop := Cond.methodLink own idx y ∈ AL ∧ Cond.instanceMethod y ∈ AL ∧ Cond.selects y.cls y y ∈ AL ∧ Cond.initialized y.cls ∈ AL
def lkS (own : String) (idx : Nat) (y : MethodName) : Prop := Cond.methodLink own idx y ∈ AL ∧ Cond.static y ∈ AL ∧ Cond.initialized y.cls ∈ AL
def lkI (own : String) (idx : Nat) (y : MethodName) : Prop := Cond.methodLink own idx y ∈ AL ∧ Cond.instanceMethod y ∈ AL ∧ Cond.initialized y.cls ∈ AL
def nst : List Cond := [.methodLinkNest RX9 32 yX4_init "MusicBoxEditor", .methodLinkNest RX0 11 yX3_init "MusicBoxEditor", .methodLinkNest RX0 24 yX8_init "MusicBoxEditor", .methodLinkNest RX9 143 yX4_runPart "MusicBoxEditor", .methodLinkNest RX0 95 yX9_rangeFault "MusicBoxEditor", .methodLinkNest RX4 78 yX9_rangeFault "MusicBoxEditor"]
def lkN (own : String) (idx : Nat) (y : MethodName) (host : String) : Prop := Cond.methodLinkNest own idx y host ∈ nst ∧ Cond.instanceMethod y ∈ AL ∧ Cond.initialized y.cls ∈ AL
def lkM (own : String) (idx : Nat) (y : MethodName) (host : String) : Prop := Cond.methodLinkNest own idx y host ∈ nst ∧ Cond.static y ∈ AL ∧ Cond.initialized y.cls ∈ AL
theorem al_c1 : ∀ w ∈ tables_1_1, w ∈ lw_tbl := fun w h => (List.mem_append_right _ (List.mem_append_left _ h))
theorem al_c2 : ∀ w ∈ tables_1_2, w ∈ lw_tbl := fun w h => (List.mem_append_right _ (List.mem_append_right _ (List.mem_append_left _ h)))
theorem al_c3 : ∀ w ∈ tables_1_3, w ∈ lw_tbl := fun w h => (List.mem_append_right _ (List.mem_append_right _ (List.mem_append_right _ (List.mem_append_left _ h))))
theorem al_c4 : ∀ w ∈ tables_1_4, w ∈ lw_tbl := fun w h => (List.mem_append_right _ (List.mem_append_right _ (List.mem_append_right _ (List.mem_append_right _ (List.mem_append_left _ h)))))
theorem al_c5 : ∀ w ∈ tables_1_5, w ∈ lw_tbl := fun w h => (List.mem_append_right _ (List.mem_append_right _ (List.mem_append_right _ (List.mem_append_right _ (List.mem_append_right _ (List.mem_append_left _ h))))))
theorem al_c6 : ∀ w ∈ tables_1_6, w ∈ lw_tbl := fun w h => (List.mem_append_right _ (List.mem_append_right _ (List.mem_append_right _ (List.mem_append_right _ (List.mem_append_right _ (List.mem_append_right _ (List.mem_append_left _ h)))))))
theorem al_c7 : ∀ w ∈ tables_1_7, w ∈ lw_tbl := fun w h => (List.mem_append_right _ (List.mem_append_right _ (List.mem_append_right _ (List.mem_append_right _ (List.mem_append_right _ (List.mem_append_right _ (List.mem_append_right _ (List.mem_append_left _ h))))))))
theorem al_c8 : ∀ w ∈ tables_1_8, w ∈ lw_tbl := fun w h => (List.mem_append_right _ (List.mem_append_right _ (List.mem_append_right _ (List.mem_append_right _ (List.mem_append_right _ (List.mem_append_right _ (List.mem_append_right _ (List.mem_append_right _ (List.mem_append_left _ h)))))))))
theorem al_c9 : ∀ w ∈ tables_1_9, w ∈ lw_tbl := fun w h => (List.mem_append_right _ (List.mem_append_right _ (List.mem_append_right _ (List.mem_append_right _ (List.mem_append_right _ (List.mem_append_right _ (List.mem_append_right _ (List.mem_append_right _ (List.mem_append_right _ h)))))))))
theorem al_mc {w : Cond} {c : List Cond} (hc : ∀ w ∈ c, w ∈ lw_tbl) (m : Nat) (h : c[m]? = some w) (g : goodWord w = true) : w ∈ AL := List.mem_filter.mpr ⟨hc w (List.mem_of_getElem? h), g⟩
set_option maxRecDepth 20000 in
theorem ml_L_134 : lkI RL 134 yX9_init := ⟨al_mc al_c1 31 rfl (by decide +kernel), al_mc al_c1 32 rfl (by decide +kernel), al_mc al_c1 1 rfl (by decide +kernel)⟩
set_option maxRecDepth 20000 in
theorem cd_X9_init : Cond.code yX9_init cX9_init 2 none ∈ AL := al_mc al_c1 33 rfl (by decide +kernel)
set_option maxRecDepth 20000 in
theorem ml_X9_11 : lkI RX9 11 yX1_init := ⟨al_mc al_c1 39 rfl (by decide +kernel), al_mc al_c1 40 rfl (by decide +kernel), al_mc al_c1 2 rfl (by decide +kernel)⟩
set_option maxRecDepth 20000 in
theorem cd_X1_init : Cond.code yX1_init cX1_init 2 none ∈ AL := al_mc al_c1 41 rfl (by decide +kernel)
set_option maxRecDepth 20000 in
theorem ml_X1_9 : lkS RX1 9 yJ9_max_7cf53 := ⟨al_mc al_c1 43 rfl (by decide +kernel), al_mc al_c1 44 rfl (by decide +kernel), al_mc al_c1 3 rfl (by decide +kernel)⟩
set_option maxRecDepth 20000 in
theorem cd_J9_max_7cf53 : Cond.code yJ9_max_7cf53 cJ9_max_7cf53 2 (some .int) ∈ AL := al_mc al_c1 45 rfl (by decide +kernel)
set_option maxRecDepth 20000 in
theorem fl_X1_15 : lkF RX1 15 1 0 := al_mc al_c1 46 rfl (by decide +kernel)
set_option maxRecDepth 20000 in
theorem fl_X1_21 : lkF RX1 21 1 1 := al_mc al_c1 47 rfl (by decide +kernel)
set_option maxRecDepth 20000 in
theorem fl_X7_41 : lkF RX7 41 1 1 := al_mc al_c1 48 rfl (by decide +kernel)
set_option maxRecDepth 20000 in
theorem fl_X9_102 : lkF RX9 102 1 1 := al_mc al_c1 49 rfl (by decide +kernel)
set_option maxRecDepth 20000 in
theorem ml_X9_23 : lkI RX9 23 yX7_init := ⟨al_mc al_c1 58 rfl (by decide +kernel), al_mc al_c1 59 rfl (by decide +kernel), al_mc al_c1 4 rfl (by decide +kernel)⟩
set_option maxRecDepth 20000 in
theorem cd_X7_init : Cond.code yX7_init cX7_init 2 none ∈ AL := al_mc al_c1 60 rfl (by decide +kernel)
set_option maxRecDepth 20000 in
theorem fl_X7_24 : lkF RX7 24 7 0 := al_mc al_c1 62 rfl (by decide +kernel)
set_option maxRecDepth 20000 in
theorem fl_X7_9 : lkF RX7 9 7 1 := al_mc al_c1 63 rfl (by decide +kernel)
set_option maxRecDepth 20000 in
theorem fl_X7_15 : lkF RX7 15 7 2 := al_mc al_c1 64 rfl (by decide +kernel)
set_option maxRecDepth 20000 in
theorem fl_X7_18 : lkF RX7 18 7 3 := al_mc al_c1 65 rfl (by decide +kernel)
set_option maxRecDepth 20000 in
theorem fl_X7_21 : lkF RX7 21 7 4 := al_mc al_c1 66 rfl (by decide +kernel)
set_option maxRecDepth 20000 in
theorem fl_X7_35 : lkF RX7 35 7 5 := al_mc al_c1 67 rfl (by decide +kernel)
set_option maxRecDepth 20000 in
theorem fl_X7_38 : lkF RX7 38 7 6 := al_mc al_c1 68 rfl (by decide +kernel)
set_option maxRecDepth 20000 in
theorem fl_X7_32 : lkF RX7 32 7 7 := al_mc al_c1 69 rfl (by decide +kernel)
set_option maxRecDepth 20000 in
theorem fl_X9_120 : lkF RX9 120 7 7 := al_mc al_c1 70 rfl (by decide +kernel)
set_option maxRecDepth 20000 in
theorem fl_X7_28 : lkF RX7 28 7 8 := al_mc al_c1 71 rfl (by decide +kernel)
set_option maxRecDepth 20000 in
theorem fl_X9_150 : lkF RX9 150 7 8 := al_mc al_c1 72 rfl (by decide +kernel)
set_option maxRecDepth 20000 in
theorem ml_X9_32 : lkN RX9 32 yX4_init "MusicBoxEditor" := ⟨by decide +kernel, al_mc al_c1 95 rfl (by decide +kernel), al_mc al_c1 5 rfl (by decide +kernel)⟩
set_option maxRecDepth 20000 in
theorem cd_X4_init : Cond.code yX4_init cX4_init 1 none ∈ AL := al_mc al_c1 96 rfl (by decide +kernel)
set_option maxRecDepth 20000 in
theorem fl_X4_11 : lkF RX4 11 4 0 := al_mc al_c1 98 rfl (by decide +kernel)
set_option maxRecDepth 20000 in
theorem fl_X4_15 : lkF RX4 15 4 1 := al_mc al_c1 99 rfl (by decide +kernel)
set_option maxRecDepth 20000 in
theorem fl_X4_18 : lkF RX4 18 4 2 := al_mc al_c1 100 rfl (by decide +kernel)
set_option maxRecDepth 20000 in
theorem fl_X4_21 : lkF RX4 21 4 3 := al_mc al_c1 101 rfl (by decide +kernel)
set_option maxRecDepth 20000 in
theorem fl_X4_24 : lkF RX4 24 4 4 := al_mc al_c1 102 rfl (by decide +kernel)
set_option maxRecDepth 20000 in
theorem fl_X5_47 : lkF RX5 47 4 4 := al_mc al_c1 103 rfl (by decide +kernel)
set_option maxRecDepth 20000 in
theorem fl_X9_140 : lkF RX9 140 4 4 := al_mc al_c1 104 rfl (by decide +kernel)
set_option maxRecDepth 20000 in
theorem fl_X4_28 : lkF RX4 28 4 5 := al_mc al_c1 105 rfl (by decide +kernel)
set_option maxRecDepth 20000 in
theorem fl_X9_147 : lkF RX9 147 4 5 := al_mc al_c1 106 rfl (by decide +kernel)
set_option maxRecDepth 20000 in
theorem fl_X4_31 : lkF RX4 31 4 6 := al_mc al_c1 107 rfl (by decide +kernel)
set_option maxRecDepth 20000 in
theorem ml_X9_39 : lkI RX9 39 yX0_init := ⟨al_mc al_c1 125 rfl (by decide +kernel), al_mc al_c1 126 rfl (by decide +kernel), al_mc al_c1 6 rfl (by decide +kernel)⟩
set_option maxRecDepth 20000 in
theorem cd_X0_init : Cond.code yX0_init cX0_init 2 none ∈ AL := al_mc al_c1 127 rfl (by decide +kernel)
set_option maxRecDepth 20000 in
theorem ml_X0_11 : lkN RX0 11 yX3_init "MusicBoxEditor" := ⟨by decide +kernel, al_mc al_c1 132 rfl (by decide +kernel), al_mc al_c1 7 rfl (by decide +kernel)⟩
set_option maxRecDepth 20000 in
theorem cd_X3_init : Cond.code yX3_init cX3_init 1 none ∈ AL := al_mc al_c1 133 rfl (by decide +kernel)
set_option maxRecDepth 20000 in
theorem fl_X3_9 : lkF RX3 9 3 0 := al_mc al_c1 135 rfl (by decide +kernel)
set_option maxRecDepth 20000 in
theorem fl_X3_15 : lkF RX3 15 3 1 := al_mc al_c1 136 rfl (by decide +kernel)
set_option maxRecDepth 20000 in
theorem fl_X6_82 : lkF RX6 82 3 1 := al_mc al_c1 137 rfl (by decide +kernel)
set_option maxRecDepth 20000 in
theorem fl_X0_64 : lkF RX0 64 3 1 := al_mc al_c1 138 rfl (by decide +kernel)
set_option maxRecDepth 20000 in
theorem fl_X9_157 : lkF RX9 157 3 1 := al_mc al_c1 139 rfl (by decide +kernel)
set_option maxRecDepth 20000 in
theorem fl_X3_19 : lkF RX3 19 3 2 := al_mc al_c1 140 rfl (by decide +kernel)
set_option maxRecDepth 20000 in
theorem fl_X9_165 : lkF RX9 165 3 2 := al_mc al_c1 141 rfl (by decide +kernel)
set_option maxRecDepth 20000 in
theorem fl_X0_129 : lkF RX0 129 3 2 := al_mc al_c1 142 rfl (by decide +kernel)
set_option maxRecDepth 20000 in
theorem fl_X3_22 : lkF RX3 22 3 3 := al_mc al_c1 143 rfl (by decide +kernel)
set_option maxRecDepth 20000 in
theorem fl_X4_126 : lkF RX4 126 3 3 := al_mc al_c1 144 rfl (by decide +kernel)
set_option maxRecDepth 20000 in
theorem fl_X9_162 : lkF RX9 162 3 3 := al_mc al_c1 145 rfl (by decide +kernel)
set_option maxRecDepth 20000 in
theorem fl_X0_126 : lkF RX0 126 3 3 := al_mc al_c1 146 rfl (by decide +kernel)
set_option maxRecDepth 20000 in
theorem ml_X0_24 : lkN RX0 24 yX8_init "MusicBoxEditor" := ⟨by decide +kernel, al_mc al_c1 161 rfl (by decide +kernel), al_mc al_c1 8 rfl (by decide +kernel)⟩
set_option maxRecDepth 20000 in
theorem cd_X8_init : Cond.code yX8_init cX8_init 1 none ∈ AL := al_mc al_c1 162 rfl (by decide +kernel)
set_option maxRecDepth 20000 in
theorem fl_X8_9 : lkF RX8 9 8 0 := al_mc al_c1 164 rfl (by decide +kernel)
set_option maxRecDepth 20000 in
theorem fl_X8_24 : lkF RX8 24 8 1 := al_mc al_c1 165 rfl (by decide +kernel)
set_option maxRecDepth 20000 in
theorem fl_X0_98 : lkF RX0 98 8 1 := al_mc al_c1 166 rfl (by decide +kernel)
set_option maxRecDepth 20000 in
theorem fl_X9_226 : lkF RX9 226 8 1 := al_mc al_c1 167 rfl (by decide +kernel)
set_option maxRecDepth 20000 in
theorem fl_X8_15 : lkF RX8 15 8 2 := al_mc al_c1 168 rfl (by decide +kernel)
set_option maxRecDepth 20000 in
theorem fl_X4_107 : lkF RX4 107 8 2 := al_mc al_c1 169 rfl (by decide +kernel)
set_option maxRecDepth 20000 in
theorem fl_X9_229 : lkF RX9 229 8 2 := al_mc al_c1 170 rfl (by decide +kernel)
set_option maxRecDepth 20000 in
theorem fl_X0_138 : lkF RX0 138 8 2 := al_mc al_c1 171 rfl (by decide +kernel)
set_option maxRecDepth 20000 in
theorem fl_X8_18 : lkF RX8 18 8 3 := al_mc al_c1 172 rfl (by decide +kernel)
set_option maxRecDepth 20000 in
theorem fl_X0_157 : lkF RX0 157 8 3 := al_mc al_c1 173 rfl (by decide +kernel)
set_option maxRecDepth 20000 in
theorem fl_X8_27 : lkF RX8 27 8 4 := al_mc al_c1 174 rfl (by decide +kernel)
set_option maxRecDepth 20000 in
theorem fl_X0_105 : lkF RX0 105 8 4 := al_mc al_c1 175 rfl (by decide +kernel)
set_option maxRecDepth 20000 in
theorem fl_X9_232 : lkF RX9 232 8 4 := al_mc al_c1 176 rfl (by decide +kernel)
set_option maxRecDepth 20000 in
theorem fl_X8_30 : lkF RX8 30 8 5 := al_mc al_c1 177 rfl (by decide +kernel)
set_option maxRecDepth 20000 in
theorem fl_X9_235 : lkF RX9 235 8 5 := al_mc al_c1 178 rfl (by decide +kernel)
set_option maxRecDepth 20000 in
theorem fl_X0_12 : lkF RX0 12 0 0 := al_mc al_c1 192 rfl (by decide +kernel)
set_option maxRecDepth 20000 in
theorem fl_X6_78 : lkF RX6 78 0 0 := al_mc al_c1 193 rfl (by decide +kernel)
set_option maxRecDepth 20000 in
theorem fl_X4_90 : lkF RX4 90 0 0 := al_mc al_c1 194 rfl (by decide +kernel)
set_option maxRecDepth 20000 in
theorem fl_X9_153 : lkF RX9 153 0 0 := al_mc al_c1 195 rfl (by decide +kernel)
set_option maxRecDepth 20000 in
theorem fl_X0_20 : lkF RX0 20 0 1 := al_mc al_c1 196 rfl (by decide +kernel)
set_option maxRecDepth 20000 in
theorem fl_X4_103 : lkF RX4 103 0 1 := al_mc al_c1 197 rfl (by decide +kernel)
set_option maxRecDepth 20000 in
theorem fl_X9_217 : lkF RX9 217 0 1 := al_mc al_c1 198 rfl (by decide +kernel)
set_option maxRecDepth 20000 in
theorem fl_X0_29 : lkF RX0 29 0 2 := al_mc al_c1 199 rfl (by decide +kernel)
set_option maxRecDepth 20000 in
theorem fl_X6_67 : lkF RX6 67 0 2 := al_mc al_c1 200 rfl (by decide +kernel)
set_option maxRecDepth 20000 in
theorem fl_X9_211 : lkF RX9 211 0 2 := al_mc al_c1 201 rfl (by decide +kernel)
set_option maxRecDepth 20000 in
theorem fl_X0_33 : lkF RX0 33 0 3 := al_mc al_c1 202 rfl (by decide +kernel)
set_option maxRecDepth 20000 in
theorem fl_X4_123 : lkF RX4 123 0 3 := al_mc al_c1 203 rfl (by decide +kernel)
set_option maxRecDepth 20000 in
theorem fl_X9_244 : lkF RX9 244 0 3 := al_mc al_c1 204 rfl (by decide +kernel)
set_option maxRecDepth 20000 in
theorem fl_X0_36 : lkF RX0 36 0 4 := al_mc al_c1 205 rfl (by decide +kernel)
set_option maxRecDepth 20000 in
theorem fl_X4_120 : lkF RX4 120 0 4 := al_mc al_c1 206 rfl (by decide +kernel)
set_option maxRecDepth 20000 in
theorem fl_X9_247 : lkF RX9 247 0 4 := al_mc al_c1 207 rfl (by decide +kernel)
set_option maxRecDepth 20000 in
theorem fl_X0_39 : lkF RX0 39 0 5 := al_mc al_c1 208 rfl (by decide +kernel)
set_option maxRecDepth 20000 in
theorem fl_X9_269 : lkF RX9 269 0 5 := al_mc al_c1 209 rfl (by decide +kernel)
set_option maxRecDepth 20000 in
theorem fl_X0_42 : lkF RX0 42 0 6 := al_mc al_c1 210 rfl (by decide +kernel)
set_option maxRecDepth 20000 in
theorem fl_X9_272 : lkF RX9 272 0 6 := al_mc al_c1 211 rfl (by decide +kernel)
set_option maxRecDepth 20000 in
theorem fl_X0_45 : lkF RX0 45 0 7 := al_mc al_c1 212 rfl (by decide +kernel)
set_option maxRecDepth 20000 in
theorem fl_X9_275 : lkF RX9 275 0 7 := al_mc al_c1 213 rfl (by decide +kernel)
set_option maxRecDepth 20000 in
theorem fl_X0_48 : lkF RX0 48 0 8 := al_mc al_c1 214 rfl (by decide +kernel)
set_option maxRecDepth 20000 in
theorem fl_X0_51 : lkF RX0 51 0 9 := al_mc al_c1 215 rfl (by decide +kernel)
set_option maxRecDepth 20000 in
theorem ml_X9_49 : lkI RX9 49 yX6_init := ⟨al_mc al_c1 239 rfl (by decide +kernel), al_mc al_c2 0 rfl (by decide +kernel), al_mc al_c1 9 rfl (by decide +kernel)⟩
set_option maxRecDepth 20000 in
theorem cd_X6_init : Cond.code yX6_init cX6_init 3 none ∈ AL := al_mc al_c2 1 rfl (by decide +kernel)
set_option maxRecDepth 20000 in
theorem fl_X6_9 : lkF RX6 9 6 0 := al_mc al_c2 3 rfl (by decide +kernel)
set_option maxRecDepth 20000 in
theorem fl_X6_15 : lkF RX6 15 6 1 := al_mc al_c2 4 rfl (by decide +kernel)
set_option maxRecDepth 20000 in
theorem ml_X9_58 : lkI RX9 58 yX5_init := ⟨al_mc al_c2 12 rfl (by decide +kernel), al_mc al_c2 13 rfl (by decide +kernel), al_mc al_c1 10 rfl (by decide +kernel)⟩
set_option maxRecDepth 20000 in
theorem cd_X5_init : Cond.code yX5_init cX5_init 3 none ∈ AL := al_mc al_c2 14 rfl (by decide +kernel)
set_option maxRecDepth 20000 in
theorem fl_X5_9 : lkF RX5 9 5 0 := al_mc al_c2 16 rfl (by decide +kernel)
set_option maxRecDepth 20000 in
theorem fl_X5_15 : lkF RX5 15 5 1 := al_mc al_c2 17 rfl (by decide +kernel)
set_option maxRecDepth 20000 in
theorem ml_X9_67 : lkI RX9 67 yX2_init := ⟨al_mc al_c2 25 rfl (by decide +kernel), al_mc al_c2 26 rfl (by decide +kernel), al_mc al_c1 11 rfl (by decide +kernel)⟩
set_option maxRecDepth 20000 in
theorem cd_X2_init : Cond.code yX2_init cX2_init 2 none ∈ AL := al_mc al_c2 27 rfl (by decide +kernel)
set_option maxRecDepth 20000 in
theorem ml_X2_15 : lkI RX2 15 yX0_init := ⟨al_mc al_c2 31 rfl (by decide +kernel), al_mc al_c1 126 rfl (by decide +kernel), al_mc al_c1 6 rfl (by decide +kernel)⟩
set_option maxRecDepth 20000 in
theorem fl_X2_11 : lkF RX2 11 2 0 := al_mc al_c2 32 rfl (by decide +kernel)
set_option maxRecDepth 20000 in
theorem fl_X2_16 : lkF RX2 16 2 1 := al_mc al_c2 33 rfl (by decide +kernel)
set_option maxRecDepth 20000 in
theorem fl_X9_352 : lkF RX9 352 2 1 := al_mc al_c2 34 rfl (by decide +kernel)
set_option maxRecDepth 20000 in
theorem fl_X2_20 : lkF RX2 20 2 2 := al_mc al_c2 35 rfl (by decide +kernel)
set_option maxRecDepth 20000 in
theorem ml_X9_82 : lkV RX9 82 yJ0_length_8abf5 := ⟨al_mc al_c2 44 rfl (by decide +kernel), al_mc al_c2 45 rfl (by decide +kernel), al_mc al_c2 46 rfl (by decide +kernel), al_mc al_c1 12 rfl (by decide +kernel)⟩
set_option maxRecDepth 20000 in
theorem cd_J0_length_8abf5 : Cond.code yJ0_length_8abf5 cJ0_length_8abf5 1 (some .int) ∈ AL := al_mc al_c2 47 rfl (by decide +kernel)
set_option maxRecDepth 20000 in
theorem ml_J0_335 : lkV RJ0 335 yJ0_coder_7d493 := ⟨al_mc al_c2 48 rfl (by decide +kernel), al_mc al_c2 49 rfl (by decide +kernel), al_mc al_c2 50 rfl (by decide +kernel), al_mc al_c1 12 rfl (by decide +kernel)⟩
set_option maxRecDepth 20000 in
theorem cd_J0_coder_7d493 : Cond.code yJ0_coder_7d493 cJ0_coder_7d493 1 (some .byte) ∈ AL := al_mc al_c2 51 rfl (by decide +kernel)
set_option maxRecDepth 20000 in
theorem ml_X9_88 : lkV RX9 88 yJ0_charAt_5068e := ⟨al_mc al_c2 54 rfl (by decide +kernel), al_mc al_c2 55 rfl (by decide +kernel), al_mc al_c2 56 rfl (by decide +kernel), al_mc al_c1 12 rfl (by decide +kernel)⟩
set_option maxRecDepth 20000 in
theorem cd_J0_charAt_5068e : Cond.code yJ0_charAt_5068e cJ0_charAt_5068e 2 (some .char) ∈ AL := al_mc al_c2 57 rfl (by decide +kernel)
set_option maxRecDepth 20000 in
theorem ml_J0_492 : lkV RJ0 492 yJ0_isLatin1_aae02 := ⟨al_mc al_c2 58 rfl (by decide +kernel), al_mc al_c2 59 rfl (by decide +kernel), al_mc al_c2 60 rfl (by decide +kernel), al_mc al_c1 12 rfl (by decide +kernel)⟩
set_option maxRecDepth 20000 in
theorem cd_J0_isLatin1_aae02 : Cond.code yJ0_isLatin1_aae02 cJ0_isLatin1_aae02 1 (some .boolean) ∈ AL := al_mc al_c2 61 rfl (by decide +kernel)
set_option maxRecDepth 20000 in
theorem ml_J0_495 : lkS RJ0 495 yJ1_charAt_3b067 := ⟨al_mc al_c2 62 rfl (by decide +kernel), al_mc al_c2 63 rfl (by decide +kernel), al_mc al_c1 13 rfl (by decide +kernel)⟩
set_option maxRecDepth 20000 in
theorem cd_J1_charAt_3b067 : Cond.code yJ1_charAt_3b067 cJ1_charAt_3b067 2 (some .char) ∈ AL := al_mc al_c2 64 rfl (by decide +kernel)
set_option maxRecDepth 20000 in
theorem ml_J1_9 : lkS RJ1 9 yJ0_checkIndex_df160 := ⟨al_mc al_c2 65 rfl (by decide +kernel), al_mc al_c2 66 rfl (by decide +kernel), al_mc al_c1 12 rfl (by decide +kernel)⟩
set_option maxRecDepth 20000 in
theorem cd_J0_checkIndex_df160 : Cond.code yJ0_checkIndex_df160 cJ0_checkIndex_df160 2 none ∈ AL := al_mc al_c2 67 rfl (by decide +kernel)
set_option maxRecDepth 20000 in
theorem ml_J0_1059 : lkS RJ0 1059 yJ3_checkIndex_8e157 := ⟨al_mc al_c2 70 rfl (by decide +kernel), al_mc al_c2 71 rfl (by decide +kernel), al_mc al_c1 14 rfl (by decide +kernel)⟩
set_option maxRecDepth 20000 in
theorem cd_J3_checkIndex_8e157 : Cond.code yJ3_checkIndex_8e157 cJ3_checkIndex_8e157 3 (some .int) ∈ AL := al_mc al_c2 72 rfl (by decide +kernel)
set_option maxRecDepth 20000 in
theorem ml_J0_498 : lkS RJ0 498 yJ2_charAt_3b067 := ⟨al_mc al_c2 73 rfl (by decide +kernel), al_mc al_c2 74 rfl (by decide +kernel), al_mc al_c1 15 rfl (by decide +kernel)⟩
set_option maxRecDepth 20000 in
theorem cd_J2_charAt_3b067 : Cond.code yJ2_charAt_3b067 cJ2_charAt_3b067 2 (some .char) ∈ AL := al_mc al_c2 75 rfl (by decide +kernel)
set_option maxRecDepth 20000 in
theorem ml_J2_67 : lkS RJ2 67 yJ2_checkIndex_2214a := ⟨al_mc al_c2 76 rfl (by decide +kernel), al_mc al_c2 77 rfl (by decide +kernel), al_mc al_c1 15 rfl (by decide +kernel)⟩
set_option maxRecDepth 20000 in
theorem cd_J2_checkIndex_2214a : Cond.code yJ2_checkIndex_2214a cJ2_checkIndex_2214a 2 none ∈ AL := al_mc al_c2 78 rfl (by decide +kernel)
set_option maxRecDepth 20000 in
theorem ml_J2_48 : lkS RJ2 48 yJ2_length_9d52b := ⟨al_mc al_c2 79 rfl (by decide +kernel), al_mc al_c2 80 rfl (by decide +kernel), al_mc al_c1 15 rfl (by decide +kernel)⟩
set_option maxRecDepth 20000 in
theorem cd_J2_length_9d52b : Cond.code yJ2_length_9d52b cJ2_length_9d52b 1 (some .int) ∈ AL := al_mc al_c2 81 rfl (by decide +kernel)
set_option maxRecDepth 20000 in
theorem ml_J2_414 : lkS RJ2 414 yJ0_checkIndex_df160 := ⟨al_mc al_c2 82 rfl (by decide +kernel), al_mc al_c2 66 rfl (by decide +kernel), al_mc al_c1 12 rfl (by decide +kernel)⟩
set_option maxRecDepth 20000 in
theorem ml_J2_71 : lkS RJ2 71 yJ2_getChar_3b067 := ⟨al_mc al_c2 83 rfl (by decide +kernel), al_mc al_c2 84 rfl (by decide +kernel), al_mc al_c1 15 rfl (by decide +kernel)⟩
set_option maxRecDepth 20000 in
theorem cd_J2_getChar_3b067 : Cond.code yJ2_getChar_3b067 cJ2_getChar_3b067 2 (some .char) ∈ AL := al_mc al_c2 85 rfl (by decide +kernel)
set_option maxRecDepth 20000 in
theorem ml_X9_92 : lkV RX9 92 yX1_put := ⟨al_mc al_c2 92 rfl (by decide +kernel), al_mc al_c2 93 rfl (by decide +kernel), al_mc al_c2 94 rfl (by decide +kernel), al_mc al_c1 2 rfl (by decide +kernel)⟩
set_option maxRecDepth 20000 in
theorem cd_X1_put : Cond.code yX1_put cX1_put 2 none ∈ AL := al_mc al_c2 95 rfl (by decide +kernel)
set_option maxRecDepth 20000 in
theorem ml_X9_95 : lkV RX9 95 yX9_takeSetup := ⟨al_mc al_c2 96 rfl (by decide +kernel), al_mc al_c2 98 rfl (by decide +kernel), al_mem 0 (by decide +kernel) (by decide +kernel), al_mc al_c1 1 rfl (by decide +kernel)⟩
set_option maxRecDepth 20000 in
theorem cd_X9_takeSetup : Cond.code yX9_takeSetup cX9_takeSetup 3 none ∈ AL := al_mc al_c2 99 rfl (by decide +kernel)
set_option maxRecDepth 20000 in
theorem ml_X9_123 : lkV RX9 123 yX6_readSetup := ⟨al_mc al_c2 100 rfl (by decide +kernel), al_mc al_c2 101 rfl (by decide +kernel), al_mc al_c2 102 rfl (by decide +kernel), al_mc al_c1 9 rfl (by decide +kernel)⟩
set_option maxRecDepth 20000 in
theorem cd_X6_readSetup : Cond.code yX6_readSetup cX6_readSetup 2 (some .boolean) ∈ AL := al_mc al_c2 103 rfl (by decide +kernel)
set_option maxRecDepth 20000 in
theorem ml_X6_19 : lkV RX6 19 yX7_scan := ⟨al_mc al_c2 104 rfl (by decide +kernel), al_mc al_c2 105 rfl (by decide +kernel), al_mc al_c2 106 rfl (by decide +kernel), al_mc al_c1 4 rfl (by decide +kernel)⟩
set_option maxRecDepth 20000 in
theorem cd_X7_scan : Cond.code yX7_scan cX7_scan 4 none ∈ AL := al_mc al_c2 107 rfl (by decide +kernel)
set_option maxRecDepth 20000 in
theorem ml_X7_46 : lkV RX7 46 yX1_at := ⟨al_mc al_c2 108 rfl (by decide +kernel), al_mc al_c2 109 rfl (by decide +kernel), al_mc al_c2 110 rfl (by decide +kernel), al_mc al_c1 2 rfl (by decide +kernel)⟩
set_option maxRecDepth 20000 in
theorem cd_X1_at : Cond.code yX1_at cX1_at 2 (some .int) ∈ AL := al_mc al_c2 111 rfl (by decide +kernel)
set_option maxRecDepth 20000 in
theorem ml_X7_50 : lkS RX7 50 yX7_kindOf := ⟨al_mc al_c2 112 rfl (by decide +kernel), al_mc al_c2 113 rfl (by decide +kernel), al_mc al_c1 4 rfl (by decide +kernel)⟩
set_option maxRecDepth 20000 in
theorem cd_X7_kindOf : Cond.code yX7_kindOf cX7_kindOf 1 (some .int) ∈ AL := al_mc al_c2 114 rfl (by decide +kernel)
set_option maxRecDepth 20000 in
theorem ml_X7_53 : lkV RX7 53 yX7_putToken := ⟨al_mc al_c2 115 rfl (by decide +kernel), al_mc al_c2 116 rfl (by decide +kernel), al_mc al_c2 117 rfl (by decide +kernel), al_mc al_c1 4 rfl (by decide +kernel)⟩
set_option maxRecDepth 20000 in
theorem cd_X7_putToken : Cond.code yX7_putToken cX7_putToken 3 none ∈ AL := al_mc al_c2 118 rfl (by decide +kernel)
set_option maxRecDepth 20000 in
theorem ml_X7_57 : lkV RX7 57 yX7_lengthenToken := ⟨al_mc al_c2 119 rfl (by decide +kernel), al_mc al_c2 120 rfl (by decide +kernel), al_mc al_c2 121 rfl (by decide +kernel), al_mc al_c1 4 rfl (by decide +kernel)⟩
set_option maxRecDepth 20000 in
theorem cd_X7_lengthenToken : Cond.code yX7_lengthenToken cX7_lengthenToken 3 none ∈ AL := al_mc al_c2 122 rfl (by decide +kernel)
set_option maxRecDepth 20000 in
theorem ml_X7_62 : lkS RX7 62 yJ9_min_7cf53 := ⟨al_mc al_c2 124 rfl (by decide +kernel), al_mc al_c2 125 rfl (by decide +kernel), al_mc al_c1 3 rfl (by decide +kernel)⟩
set_option maxRecDepth 20000 in
theorem cd_J9_min_7cf53 : Cond.code yJ9_min_7cf53 cJ9_min_7cf53 2 (some .int) ∈ AL := al_mc al_c2 126 rfl (by decide +kernel)
set_option maxRecDepth 20000 in
theorem ml_X6_24 : lkV RX6 24 yX6_readHead := ⟨al_mc al_c2 127 rfl (by decide +kernel), al_mc al_c2 128 rfl (by decide +kernel), al_mc al_c2 129 rfl (by decide +kernel), al_mc al_c1 9 rfl (by decide +kernel)⟩
set_option maxRecDepth 20000 in
theorem cd_X6_readHead : Cond.code yX6_readHead cX6_readHead 4 (some .boolean) ∈ AL := al_mc al_c2 130 rfl (by decide +kernel)
set_option maxRecDepth 20000 in
theorem ml_X6_50 : lkV RX6 50 yX7_takeWord := ⟨al_mc al_c2 132 rfl (by decide +kernel), al_mc al_c2 133 rfl (by decide +kernel), al_mc al_c2 134 rfl (by decide +kernel), al_mc al_c1 4 rfl (by decide +kernel)⟩
set_option maxRecDepth 20000 in
theorem cd_X7_takeWord : Cond.code yX7_takeWord cX7_takeWord 2 (some .boolean) ∈ AL := al_mc al_c2 135 rfl (by decide +kernel)
set_option maxRecDepth 20000 in
theorem ml_X7_81 : lkV RX7 81 yX7_atWord := ⟨al_mc al_c2 136 rfl (by decide +kernel), al_mc al_c2 137 rfl (by decide +kernel), al_mc al_c2 138 rfl (by decide +kernel), al_mc al_c1 4 rfl (by decide +kernel)⟩
set_option maxRecDepth 20000 in
theorem cd_X7_atWord : Cond.code yX7_atWord cX7_atWord 4 (some .boolean) ∈ AL := al_mc al_c2 139 rfl (by decide +kernel)
set_option maxRecDepth 20000 in
theorem ml_X7_68 : lkV RX7 68 yX7_atKind := ⟨al_mc al_c2 140 rfl (by decide +kernel), al_mc al_c2 141 rfl (by decide +kernel), al_mc al_c2 142 rfl (by decide +kernel), al_mc al_c1 4 rfl (by decide +kernel)⟩
set_option maxRecDepth 20000 in
theorem cd_X7_atKind : Cond.code yX7_atKind cX7_atKind 2 (some .boolean) ∈ AL := al_mc al_c2 143 rfl (by decide +kernel)
set_option maxRecDepth 20000 in
theorem ml_X7_72 : lkV RX7 72 yJ0_length_8abf5 := ⟨al_mc al_c2 144 rfl (by decide +kernel), al_mc al_c2 45 rfl (by decide +kernel), al_mc al_c2 46 rfl (by decide +kernel), al_mc al_c1 12 rfl (by decide +kernel)⟩
set_option maxRecDepth 20000 in
theorem ml_X7_77 : lkV RX7 77 yJ0_charAt_5068e := ⟨al_mc al_c2 145 rfl (by decide +kernel), al_mc al_c2 55 rfl (by decide +kernel), al_mc al_c2 56 rfl (by decide +kernel), al_mc al_c1 12 rfl (by decide +kernel)⟩
set_option maxRecDepth 20000 in
theorem ml_X7_85 : lkV RX7 85 yX7_fail := ⟨al_mc al_c2 146 rfl (by decide +kernel), al_mc al_c2 147 rfl (by decide +kernel), al_mc al_c2 148 rfl (by decide +kernel), al_mc al_c1 4 rfl (by decide +kernel)⟩
set_option maxRecDepth 20000 in
theorem cd_X7_fail : Cond.code yX7_fail cX7_fail 2 (some .boolean) ∈ AL := al_mc al_c2 149 rfl (by decide +kernel)
set_option maxRecDepth 20000 in
theorem ml_X7_88 : lkV RX7 88 yX7_advance := ⟨al_mc al_c2 150 rfl (by decide +kernel), al_mc al_c2 151 rfl (by decide +kernel), al_mc al_c2 152 rfl (by decide +kernel), al_mc al_c1 4 rfl (by decide +kernel)⟩
set_option maxRecDepth 20000 in
theorem cd_X7_advance : Cond.code yX7_advance cX7_advance 1 none ∈ AL := al_mc al_c2 153 rfl (by decide +kernel)
set_option maxRecDepth 20000 in
theorem ml_X6_53 : lkV RX6 53 yX7_takeNumber := ⟨al_mc al_c2 154 rfl (by decide +kernel), al_mc al_c2 155 rfl (by decide +kernel), al_mc al_c2 156 rfl (by decide +kernel), al_mc al_c1 4 rfl (by decide +kernel)⟩
set_option maxRecDepth 20000 in
theorem cd_X7_takeNumber : Cond.code yX7_takeNumber cX7_takeNumber 4 (some .int) ∈ AL := al_mc al_c2 157 rfl (by decide +kernel)
set_option maxRecDepth 20000 in
theorem ml_X6_57 : lkV RX6 57 yX0_begin := ⟨al_mc al_c2 158 rfl (by decide +kernel), al_mc al_c2 159 rfl (by decide +kernel), al_mc al_c2 160 rfl (by decide +kernel), al_mc al_c1 6 rfl (by decide +kernel)⟩
set_option maxRecDepth 20000 in
theorem cd_X0_begin : Cond.code yX0_begin cX0_begin 4 none ∈ AL := al_mc al_c2 161 rfl (by decide +kernel)
set_option maxRecDepth 20000 in
theorem ml_X0_25 : lkV RX0 25 yX3_begin := ⟨al_mc al_c2 162 rfl (by decide +kernel), al_mc al_c2 163 rfl (by decide +kernel), al_mc al_c2 164 rfl (by decide +kernel), al_mc al_c1 7 rfl (by decide +kernel)⟩
set_option maxRecDepth 20000 in
theorem cd_X3_begin : Cond.code yX3_begin cX3_begin 2 none ∈ AL := al_mc al_c2 165 rfl (by decide +kernel)
set_option maxRecDepth 20000 in
theorem ml_X3_25 : lkS RX3 25 yJ7_fill_d0a16 := ⟨al_mc al_c2 166 rfl (by decide +kernel), al_mc al_c2 167 rfl (by decide +kernel), al_mc al_c1 16 rfl (by decide +kernel)⟩
set_option maxRecDepth 20000 in
theorem cd_J7_fill_d0a16 : Cond.code yJ7_fill_d0a16 cJ7_fill_d0a16 5 none ∈ AL := al_mc al_c2 168 rfl (by decide +kernel)
set_option maxRecDepth 20000 in
theorem ml_X6_63 : lkV RX6 63 yX7_takeSign := ⟨al_mc al_c2 169 rfl (by decide +kernel), al_mc al_c2 170 rfl (by decide +kernel), al_mc al_c2 171 rfl (by decide +kernel), al_mc al_c1 4 rfl (by decide +kernel)⟩
set_option maxRecDepth 20000 in
theorem cd_X7_takeSign : Cond.code yX7_takeSign cX7_takeSign 2 (some .boolean) ∈ AL := al_mc al_c2 172 rfl (by decide +kernel)
set_option maxRecDepth 20000 in
theorem ml_X7_91 : lkV RX7 91 yX7_atSign := ⟨al_mc al_c2 173 rfl (by decide +kernel), al_mc al_c2 174 rfl (by decide +kernel), al_mc al_c2 175 rfl (by decide +kernel), al_mc al_c1 4 rfl (by decide +kernel)⟩
set_option maxRecDepth 20000 in
theorem cd_X7_atSign : Cond.code yX7_atSign cX7_atSign 2 (some .boolean) ∈ AL := al_mc al_c2 176 rfl (by decide +kernel)
set_option maxRecDepth 20000 in
theorem ml_X6_28 : lkV RX6 28 yX6_readTooth := ⟨al_mc al_c2 177 rfl (by decide +kernel), al_mc al_c2 178 rfl (by decide +kernel), al_mc al_c2 179 rfl (by decide +kernel), al_mc al_c1 9 rfl (by decide +kernel)⟩
set_option maxRecDepth 20000 in
theorem cd_X6_readTooth : Cond.code yX6_readTooth cX6_readTooth 4 (some .boolean) ∈ AL := al_mc al_c2 180 rfl (by decide +kernel)
set_option maxRecDepth 20000 in
theorem ml_X6_33 : lkV RX6 33 yX7_atWord := ⟨al_mc al_c2 182 rfl (by decide +kernel), al_mc al_c2 137 rfl (by decide +kernel), al_mc al_c2 138 rfl (by decide +kernel), al_mc al_c1 4 rfl (by decide +kernel)⟩
set_option maxRecDepth 20000 in
theorem ml_X6_71 : lkV RX6 71 yX7_fail := ⟨al_mc al_c2 183 rfl (by decide +kernel), al_mc al_c2 147 rfl (by decide +kernel), al_mc al_c2 148 rfl (by decide +kernel), al_mc al_c1 4 rfl (by decide +kernel)⟩
set_option maxRecDepth 20000 in
theorem ml_X6_75 : lkV RX6 75 yX0_putTooth := ⟨al_mc al_c2 184 rfl (by decide +kernel), al_mc al_c2 185 rfl (by decide +kernel), al_mc al_c2 186 rfl (by decide +kernel), al_mc al_c1 6 rfl (by decide +kernel)⟩
set_option maxRecDepth 20000 in
theorem cd_X0_putTooth : Cond.code yX0_putTooth cX0_putTooth 4 none ∈ AL := al_mc al_c2 187 rfl (by decide +kernel)
set_option maxRecDepth 20000 in
theorem ml_X0_54 : lkV RX0 54 yX8_begin := ⟨al_mc al_c2 188 rfl (by decide +kernel), al_mc al_c2 189 rfl (by decide +kernel), al_mc al_c2 190 rfl (by decide +kernel), al_mc al_c1 8 rfl (by decide +kernel)⟩
set_option maxRecDepth 20000 in
theorem cd_X8_begin : Cond.code yX8_begin cX8_begin 4 none ∈ AL := al_mc al_c2 191 rfl (by decide +kernel)
set_option maxRecDepth 20000 in
theorem ml_X8_21 : lkV RX8 21 yX8_renew := ⟨al_mc al_c2 192 rfl (by decide +kernel), al_mc al_c2 193 rfl (by decide +kernel), al_mc al_c2 194 rfl (by decide +kernel), al_mc al_c1 8 rfl (by decide +kernel)⟩
set_option maxRecDepth 20000 in
theorem cd_X8_renew : Cond.code yX8_renew cX8_renew 1 none ∈ AL := al_mc al_c2 195 rfl (by decide +kernel)
set_option maxRecDepth 20000 in
theorem ml_X6_39 : lkV RX6 39 yX7_advance := ⟨al_mc al_c2 197 rfl (by decide +kernel), al_mc al_c2 151 rfl (by decide +kernel), al_mc al_c2 152 rfl (by decide +kernel), al_mc al_c1 4 rfl (by decide +kernel)⟩
set_option maxRecDepth 20000 in
theorem ml_X6_42 : lkV RX6 42 yX6_readPlace := ⟨al_mc al_c2 198 rfl (by decide +kernel), al_mc al_c2 199 rfl (by decide +kernel), al_mc al_c2 200 rfl (by decide +kernel), al_mc al_c1 9 rfl (by decide +kernel)⟩
set_option maxRecDepth 20000 in
theorem cd_X6_readPlace : Cond.code yX6_readPlace cX6_readPlace 4 (some .boolean) ∈ AL := al_mc al_c2 201 rfl (by decide +kernel)
set_option maxRecDepth 20000 in
theorem ml_X6_87 : lkV RX6 87 yX3_hasPin := ⟨al_mc al_c2 202 rfl (by decide +kernel), al_mc al_c2 203 rfl (by decide +kernel), al_mc al_c2 204 rfl (by decide +kernel), al_mc al_c1 7 rfl (by decide +kernel)⟩
set_option maxRecDepth 20000 in
theorem cd_X3_hasPin : Cond.code yX3_hasPin cX3_hasPin 4 (some .boolean) ∈ AL := al_mc al_c2 205 rfl (by decide +kernel)
set_option maxRecDepth 20000 in
theorem ml_X6_91 : lkV RX6 91 yX7_failTaken := ⟨al_mc al_c2 206 rfl (by decide +kernel), al_mc al_c2 207 rfl (by decide +kernel), al_mc al_c2 208 rfl (by decide +kernel), al_mc al_c1 4 rfl (by decide +kernel)⟩
set_option maxRecDepth 20000 in
theorem cd_X7_failTaken : Cond.code yX7_failTaken cX7_failTaken 2 (some .boolean) ∈ AL := al_mc al_c2 209 rfl (by decide +kernel)
set_option maxRecDepth 20000 in
theorem ml_X6_94 : lkV RX6 94 yX3_putPin := ⟨al_mc al_c2 210 rfl (by decide +kernel), al_mc al_c2 211 rfl (by decide +kernel), al_mc al_c2 212 rfl (by decide +kernel), al_mc al_c1 7 rfl (by decide +kernel)⟩
set_option maxRecDepth 20000 in
theorem cd_X3_putPin : Cond.code yX3_putPin cX3_putPin 4 none ∈ AL := al_mc al_c2 213 rfl (by decide +kernel)
set_option maxRecDepth 20000 in
theorem ml_X3_41 : lkV RX3 41 yX3_row := ⟨al_mc al_c2 214 rfl (by decide +kernel), al_mc al_c2 215 rfl (by decide +kernel), al_mc al_c2 216 rfl (by decide +kernel), al_mc al_c1 7 rfl (by decide +kernel)⟩
set_option maxRecDepth 20000 in
theorem cd_X3_row : Cond.code yX3_row cX3_row 3 (some .long) ∈ AL := al_mc al_c2 217 rfl (by decide +kernel)
set_option maxRecDepth 20000 in
theorem ml_X3_37 : lkS RX3 37 yX3_holds := ⟨al_mc al_c2 218 rfl (by decide +kernel), al_mc al_c2 219 rfl (by decide +kernel), al_mc al_c1 7 rfl (by decide +kernel)⟩
set_option maxRecDepth 20000 in
theorem cd_X3_holds : Cond.code yX3_holds cX3_holds 2 (some .boolean) ∈ AL := al_mc al_c2 220 rfl (by decide +kernel)
set_option maxRecDepth 20000 in
theorem ml_X3_45 : lkV RX3 45 yX3_setRow := ⟨al_mc al_c2 221 rfl (by decide +kernel), al_mc al_c2 222 rfl (by decide +kernel), al_mc al_c2 223 rfl (by decide +kernel), al_mc al_c1 7 rfl (by decide +kernel)⟩
set_option maxRecDepth 20000 in
theorem cd_X3_setRow : Cond.code yX3_setRow cX3_setRow 5 none ∈ AL := al_mc al_c2 224 rfl (by decide +kernel)
set_option maxRecDepth 20000 in
theorem ml_X6_45 : lkV RX6 45 yX7_takeEnd := ⟨al_mc al_c2 225 rfl (by decide +kernel), al_mc al_c2 226 rfl (by decide +kernel), al_mc al_c2 227 rfl (by decide +kernel), al_mc al_c1 4 rfl (by decide +kernel)⟩
set_option maxRecDepth 20000 in
theorem cd_X7_takeEnd : Cond.code yX7_takeEnd cX7_takeEnd 1 (some .boolean) ∈ AL := al_mc al_c2 228 rfl (by decide +kernel)
set_option maxRecDepth 20000 in
theorem ml_X9_127 : lkV RX9 127 yX0_copyFrom := ⟨al_mc al_c2 229 rfl (by decide +kernel), al_mc al_c2 230 rfl (by decide +kernel), al_mc al_c2 231 rfl (by decide +kernel), al_mc al_c1 6 rfl (by decide +kernel)⟩
set_option maxRecDepth 20000 in
theorem cd_X0_copyFrom : Cond.code yX0_copyFrom cX0_copyFrom 3 none ∈ AL := al_mc al_c2 232 rfl (by decide +kernel)
set_option maxRecDepth 20000 in
theorem ml_X0_57 : lkV RX0 57 yX3_copyFrom := ⟨al_mc al_c2 233 rfl (by decide +kernel), al_mc al_c2 234 rfl (by decide +kernel), al_mc al_c2 235 rfl (by decide +kernel), al_mc al_c1 7 rfl (by decide +kernel)⟩
set_option maxRecDepth 20000 in
theorem cd_X3_copyFrom : Cond.code yX3_copyFrom cX3_copyFrom 2 none ∈ AL := al_mc al_c2 236 rfl (by decide +kernel)
set_option maxRecDepth 20000 in
theorem ml_X0_61 : lkV RX0 61 yX8_copyFrom := ⟨al_mc al_c3 0 rfl (by decide +kernel), al_mc al_c3 1 rfl (by decide +kernel), al_mc al_c3 2 rfl (by decide +kernel), al_mc al_c1 8 rfl (by decide +kernel)⟩
set_option maxRecDepth 20000 in
theorem cd_X8_copyFrom : Cond.code yX8_copyFrom cX8_copyFrom 2 none ∈ AL := al_mc al_c3 3 rfl (by decide +kernel)
set_option maxRecDepth 20000 in
theorem ml_X9_131 : lkV RX9 131 yX2_forgetAll := ⟨al_mc al_c3 4 rfl (by decide +kernel), al_mc al_c3 5 rfl (by decide +kernel), al_mc al_c3 6 rfl (by decide +kernel), al_mc al_c1 11 rfl (by decide +kernel)⟩
set_option maxRecDepth 20000 in
theorem cd_X2_forgetAll : Cond.code yX2_forgetAll cX2_forgetAll 1 none ∈ AL := al_mc al_c3 7 rfl (by decide +kernel)
set_option maxRecDepth 20000 in
theorem fl_X9_14 : lkF RX9 14 9 0 := al_mc al_c3 8 rfl (by decide +kernel)
set_option maxRecDepth 20000 in
theorem fl_X9_18 : lkF RX9 18 9 1 := al_mc al_c3 9 rfl (by decide +kernel)
set_option maxRecDepth 20000 in
theorem fl_X9_26 : lkF RX9 26 9 2 := al_mc al_c3 10 rfl (by decide +kernel)
set_option maxRecDepth 20000 in
theorem fl_X9_52 : lkF RX9 52 9 3 := al_mc al_c3 11 rfl (by decide +kernel)
set_option maxRecDepth 20000 in
theorem fl_X9_61 : lkF RX9 61 9 4 := al_mc al_c3 12 rfl (by decide +kernel)
set_option maxRecDepth 20000 in
theorem fl_X9_33 : lkF RX9 33 9 5 := al_mc al_c3 13 rfl (by decide +kernel)
set_option maxRecDepth 20000 in
theorem fl_X9_40 : lkF RX9 40 9 6 := al_mc al_c3 14 rfl (by decide +kernel)
set_option maxRecDepth 20000 in
theorem fl_X9_44 : lkF RX9 44 9 7 := al_mc al_c3 15 rfl (by decide +kernel)
set_option maxRecDepth 20000 in
theorem fl_X9_68 : lkF RX9 68 9 8 := al_mc al_c3 16 rfl (by decide +kernel)
set_option maxRecDepth 20000 in
theorem fl_X9_72 : lkF RX9 72 9 9 := al_mc al_c3 17 rfl (by decide +kernel)
set_option maxRecDepth 20000 in
theorem fl_X9_76 : lkF RX9 76 9 10 := al_mc al_c3 18 rfl (by decide +kernel)
set_option maxRecDepth 20000 in
theorem ml_L_151 : lkV RL 151 yX9_load := ⟨al_mc al_c3 44 rfl (by decide +kernel), al_mc al_c3 45 rfl (by decide +kernel), al_mc al_c3 46 rfl (by decide +kernel), al_mc al_c1 1 rfl (by decide +kernel)⟩
set_option maxRecDepth 20000 in
theorem cd_X9_load : Cond.code yX9_load cX9_load 1 (some .int) ∈ AL := al_mc al_c3 47 rfl (by decide +kernel)
set_option maxRecDepth 20000 in
theorem ml_L_155 : lkV RL 155 yX9_runScript := ⟨al_mc al_c3 48 rfl (by decide +kernel), al_mc al_c3 49 rfl (by decide +kernel), al_mc al_c3 50 rfl (by decide +kernel), al_mc al_c1 1 rfl (by decide +kernel)⟩
set_option maxRecDepth 20000 in
theorem cd_X9_runScript : Cond.code yX9_runScript cX9_runScript 2 (some .int) ∈ AL := al_mc al_c3 51 rfl (by decide +kernel)
set_option maxRecDepth 20000 in
theorem ml_X9_134 : lkV RX9 134 yX5_readScript := ⟨al_mc al_c3 52 rfl (by decide +kernel), al_mc al_c3 53 rfl (by decide +kernel), al_mc al_c3 54 rfl (by decide +kernel), al_mc al_c1 10 rfl (by decide +kernel)⟩
set_option maxRecDepth 20000 in
theorem cd_X5_readScript : Cond.code yX5_readScript cX5_readScript 1 (some .boolean) ∈ AL := al_mc al_c3 55 rfl (by decide +kernel)
set_option maxRecDepth 20000 in
theorem ml_X5_19 : lkV RX5 19 yX4_begin := ⟨al_mc al_c3 56 rfl (by decide +kernel), al_mc al_c3 57 rfl (by decide +kernel), al_mc al_c3 58 rfl (by decide +kernel), al_mc al_c1 5 rfl (by decide +kernel)⟩
set_option maxRecDepth 20000 in
theorem cd_X4_begin : Cond.code yX4_begin cX4_begin 1 none ∈ AL := al_mc al_c3 59 rfl (by decide +kernel)
set_option maxRecDepth 20000 in
theorem ml_X5_24 : lkV RX5 24 yX7_scan := ⟨al_mc al_c3 60 rfl (by decide +kernel), al_mc al_c2 105 rfl (by decide +kernel), al_mc al_c2 106 rfl (by decide +kernel), al_mc al_c1 4 rfl (by decide +kernel)⟩
set_option maxRecDepth 20000 in
theorem ml_X5_29 : lkV RX5 29 yX5_readCommands := ⟨al_mc al_c3 61 rfl (by decide +kernel), al_mc al_c3 63 rfl (by decide +kernel), al_mem 1 (by decide +kernel) (by decide +kernel), al_mc al_c1 10 rfl (by decide +kernel)⟩
set_option maxRecDepth 20000 in
theorem cd_X5_readCommands : Cond.code yX5_readCommands cX5_readCommands 6 (some .boolean) ∈ AL := al_mc al_c3 64 rfl (by decide +kernel)
set_option maxRecDepth 20000 in
theorem ml_X5_37 : lkV RX5 37 yX7_atAnyWord := ⟨al_mc al_c3 65 rfl (by decide +kernel), al_mc al_c3 66 rfl (by decide +kernel), al_mc al_c3 67 rfl (by decide +kernel), al_mc al_c1 4 rfl (by decide +kernel)⟩
set_option maxRecDepth 20000 in
theorem cd_X7_atAnyWord : Cond.code yX7_atAnyWord cX7_atAnyWord 1 (some .boolean) ∈ AL := al_mc al_c3 68 rfl (by decide +kernel)
set_option maxRecDepth 20000 in
theorem ml_X5_40 : lkV RX5 40 yX5_kindHere := ⟨al_mc al_c3 69 rfl (by decide +kernel), al_mc al_c3 70 rfl (by decide +kernel), al_mc al_c3 71 rfl (by decide +kernel), al_mc al_c1 10 rfl (by decide +kernel)⟩
set_option maxRecDepth 20000 in
theorem cd_X5_kindHere : Cond.code yX5_kindHere cX5_kindHere 1 (some .int) ∈ AL := al_mc al_c3 72 rfl (by decide +kernel)
set_option maxRecDepth 20000 in
theorem ml_X5_82 : lkV RX5 82 yX7_atWord := ⟨al_mc al_c3 74 rfl (by decide +kernel), al_mc al_c2 137 rfl (by decide +kernel), al_mc al_c2 138 rfl (by decide +kernel), al_mc al_c1 4 rfl (by decide +kernel)⟩
set_option maxRecDepth 20000 in
theorem ml_X5_44 : lkV RX5 44 yX7_fail := ⟨al_mc al_c3 84 rfl (by decide +kernel), al_mc al_c2 147 rfl (by decide +kernel), al_mc al_c2 148 rfl (by decide +kernel), al_mc al_c1 4 rfl (by decide +kernel)⟩
set_option maxRecDepth 20000 in
theorem ml_X5_51 : lkV RX5 51 yX7_advance := ⟨al_mc al_c3 85 rfl (by decide +kernel), al_mc al_c2 151 rfl (by decide +kernel), al_mc al_c2 152 rfl (by decide +kernel), al_mc al_c1 4 rfl (by decide +kernel)⟩
set_option maxRecDepth 20000 in
theorem ml_X5_54 : lkV RX5 54 yX4_putCommand := ⟨al_mc al_c3 86 rfl (by decide +kernel), al_mc al_c3 87 rfl (by decide +kernel), al_mc al_c3 88 rfl (by decide +kernel), al_mc al_c1 5 rfl (by decide +kernel)⟩
set_option maxRecDepth 20000 in
theorem cd_X4_putCommand : Cond.code yX4_putCommand cX4_putCommand 4 (some .int) ∈ AL := al_mc al_c3 89 rfl (by decide +kernel)
set_option maxRecDepth 20000 in
theorem ml_X5_58 : lkV RX5 58 yX5_readRepeat := ⟨al_mc al_c3 90 rfl (by decide +kernel), al_mc al_c3 92 rfl (by decide +kernel), al_mem 2 (by decide +kernel) (by decide +kernel), al_mc al_c1 10 rfl (by decide +kernel)⟩
set_option maxRecDepth 20000 in
theorem cd_X5_readRepeat : Cond.code yX5_readRepeat cX5_readRepeat 3 (some .boolean) ∈ AL := al_mc al_c3 93 rfl (by decide +kernel)
set_option maxRecDepth 20000 in
theorem ml_X5_69 : lkV RX5 69 yX5_readArgument := ⟨al_mc al_c3 94 rfl (by decide +kernel), al_mc al_c3 95 rfl (by decide +kernel), al_mc al_c3 96 rfl (by decide +kernel), al_mc al_c1 10 rfl (by decide +kernel)⟩
set_option maxRecDepth 20000 in
theorem cd_X5_readArgument : Cond.code yX5_readArgument cX5_readArgument 6 (some .boolean) ∈ AL := al_mc al_c3 97 rfl (by decide +kernel)
set_option maxRecDepth 20000 in
theorem ml_X5_107 : lkV RX5 107 yX7_takeNumber := ⟨al_mc al_c3 98 rfl (by decide +kernel), al_mc al_c2 155 rfl (by decide +kernel), al_mc al_c2 156 rfl (by decide +kernel), al_mc al_c1 4 rfl (by decide +kernel)⟩
set_option maxRecDepth 20000 in
theorem ml_X5_110 : lkV RX5 110 yX4_putArgument := ⟨al_mc al_c3 99 rfl (by decide +kernel), al_mc al_c3 100 rfl (by decide +kernel), al_mc al_c3 101 rfl (by decide +kernel), al_mc al_c1 5 rfl (by decide +kernel)⟩
set_option maxRecDepth 20000 in
theorem cd_X4_putArgument : Cond.code yX4_putArgument cX4_putArgument 5 none ∈ AL := al_mc al_c3 102 rfl (by decide +kernel)
set_option maxRecDepth 20000 in
theorem ml_X5_73 : lkV RX5 73 yX7_atSign := ⟨al_mc al_c3 103 rfl (by decide +kernel), al_mc al_c2 174 rfl (by decide +kernel), al_mc al_c2 175 rfl (by decide +kernel), al_mc al_c1 4 rfl (by decide +kernel)⟩
set_option maxRecDepth 20000 in
theorem ml_X5_65 : lkV RX5 65 yX7_takeSign := ⟨al_mc al_c3 104 rfl (by decide +kernel), al_mc al_c2 170 rfl (by decide +kernel), al_mc al_c2 171 rfl (by decide +kernel), al_mc al_c1 4 rfl (by decide +kernel)⟩
set_option maxRecDepth 20000 in
theorem ml_X5_76 : lkV RX5 76 yX4_closeRepeat := ⟨al_mc al_c3 105 rfl (by decide +kernel), al_mc al_c3 106 rfl (by decide +kernel), al_mc al_c3 107 rfl (by decide +kernel), al_mc al_c1 5 rfl (by decide +kernel)⟩
set_option maxRecDepth 20000 in
theorem cd_X4_closeRepeat : Cond.code yX4_closeRepeat cX4_closeRepeat 2 none ∈ AL := al_mc al_c3 108 rfl (by decide +kernel)
set_option maxRecDepth 20000 in
theorem ml_X5_62 : lkV RX5 62 yX5_readArguments := ⟨al_mc al_c3 109 rfl (by decide +kernel), al_mc al_c3 110 rfl (by decide +kernel), al_mc al_c3 111 rfl (by decide +kernel), al_mc al_c1 10 rfl (by decide +kernel)⟩
set_option maxRecDepth 20000 in
theorem cd_X5_readArguments : Cond.code yX5_readArguments cX5_readArguments 3 (some .boolean) ∈ AL := al_mc al_c3 112 rfl (by decide +kernel)
set_option maxRecDepth 20000 in
theorem ml_X5_104 : lkV RX5 104 yX5_readDirection := ⟨al_mc al_c3 113 rfl (by decide +kernel), al_mc al_c3 114 rfl (by decide +kernel), al_mc al_c3 115 rfl (by decide +kernel), al_mc al_c1 10 rfl (by decide +kernel)⟩
set_option maxRecDepth 20000 in
theorem cd_X5_readDirection : Cond.code yX5_readDirection cX5_readDirection 4 (some .boolean) ∈ AL := al_mc al_c3 116 rfl (by decide +kernel)
set_option maxRecDepth 20000 in
theorem ml_X5_33 : lkV RX5 33 yX7_takeEnd := ⟨al_mc al_c3 119 rfl (by decide +kernel), al_mc al_c2 226 rfl (by decide +kernel), al_mc al_c2 227 rfl (by decide +kernel), al_mc al_c1 4 rfl (by decide +kernel)⟩
set_option maxRecDepth 20000 in
theorem ml_X9_137 : lkV RX9 137 yX2_remember := ⟨al_mc al_c3 120 rfl (by decide +kernel), al_mc al_c3 121 rfl (by decide +kernel), al_mc al_c3 122 rfl (by decide +kernel), al_mc al_c1 11 rfl (by decide +kernel)⟩
set_option maxRecDepth 20000 in
theorem cd_X2_remember : Cond.code yX2_remember cX2_remember 2 none ∈ AL := al_mc al_c3 123 rfl (by decide +kernel)
set_option maxRecDepth 20000 in
theorem ml_X2_23 : lkV RX2 23 yX0_copyFrom := ⟨al_mc al_c3 124 rfl (by decide +kernel), al_mc al_c2 230 rfl (by decide +kernel), al_mc al_c2 231 rfl (by decide +kernel), al_mc al_c1 6 rfl (by decide +kernel)⟩
set_option maxRecDepth 20000 in
theorem ml_X2_27 : lkS RX2 27 yJ9_min_7cf53 := ⟨al_mc al_c3 125 rfl (by decide +kernel), al_mc al_c2 125 rfl (by decide +kernel), al_mc al_c1 3 rfl (by decide +kernel)⟩
set_option maxRecDepth 20000 in
theorem ml_X9_143 : lkN RX9 143 yX4_runPart "MusicBoxEditor" := ⟨by decide +kernel, al_mc al_c3 128 rfl (by decide +kernel), al_mc al_c1 5 rfl (by decide +kernel)⟩
set_option maxRecDepth 20000 in
theorem cd_X4_runPart : Cond.code yX4_runPart cX4_runPart 9 none ∈ AL := al_mc al_c3 129 rfl (by decide +kernel)
set_option maxRecDepth 20000 in
theorem ml_X4_35 : lkS RX4 35 yJ9_min_7cf53 := ⟨al_mc al_c3 130 rfl (by decide +kernel), al_mc al_c2 125 rfl (by decide +kernel), al_mc al_c1 3 rfl (by decide +kernel)⟩
set_option maxRecDepth 20000 in
theorem ml_X4_41 : lkS RX4 41 yJ9_max_7cf53 := ⟨al_mc al_c3 131 rfl (by decide +kernel), al_mc al_c1 44 rfl (by decide +kernel), al_mc al_c1 3 rfl (by decide +kernel)⟩
set_option maxRecDepth 20000 in
theorem ml_X4_44 : lkV RX4 44 yX4_argument := ⟨al_mc al_c3 132 rfl (by decide +kernel), al_mc al_c3 133 rfl (by decide +kernel), al_mc al_c3 134 rfl (by decide +kernel), al_mc al_c1 5 rfl (by decide +kernel)⟩
set_option maxRecDepth 20000 in
theorem cd_X4_argument : Cond.code yX4_argument cX4_argument 4 (some .int) ∈ AL := al_mc al_c3 135 rfl (by decide +kernel)
set_option maxRecDepth 20000 in
theorem ml_X4_47 : lkV RX4 47 yX4_runPart := ⟨al_mc al_c3 136 rfl (by decide +kernel), al_mc al_c3 128 rfl (by decide +kernel), al_mem 3 (by decide +kernel) (by decide +kernel), al_mc al_c1 5 rfl (by decide +kernel)⟩
set_option maxRecDepth 20000 in
theorem ml_X4_51 : lkV RX4 51 yX4_faultOf := ⟨al_mc al_c3 137 rfl (by decide +kernel), al_mc al_c3 138 rfl (by decide +kernel), al_mc al_c3 139 rfl (by decide +kernel), al_mc al_c1 5 rfl (by decide +kernel)⟩
set_option maxRecDepth 20000 in
theorem cd_X4_faultOf : Cond.code yX4_faultOf cX4_faultOf 7 (some .int) ∈ AL := al_mc al_c3 140 rfl (by decide +kernel)
set_option maxRecDepth 20000 in
theorem ml_X4_59 : lkV RX4 59 yX0_putPinFault := ⟨al_mc al_c3 141 rfl (by decide +kernel), al_mc al_c3 142 rfl (by decide +kernel), al_mc al_c3 143 rfl (by decide +kernel), al_mc al_c1 6 rfl (by decide +kernel)⟩
set_option maxRecDepth 20000 in
theorem cd_X0_putPinFault : Cond.code yX0_putPinFault cX0_putPinFault 4 (some .int) ∈ AL := al_mc al_c3 144 rfl (by decide +kernel)
set_option maxRecDepth 20000 in
theorem ml_X0_83 : lkV RX0 83 yX0_placeFault := ⟨al_mc al_c3 145 rfl (by decide +kernel), al_mc al_c3 146 rfl (by decide +kernel), al_mc al_c3 147 rfl (by decide +kernel), al_mc al_c1 6 rfl (by decide +kernel)⟩
set_option maxRecDepth 20000 in
theorem cd_X0_placeFault : Cond.code yX0_placeFault cX0_placeFault 4 (some .int) ∈ AL := al_mc al_c3 148 rfl (by decide +kernel)
set_option maxRecDepth 20000 in
theorem ml_X0_67 : lkV RX0 67 yX0_tuneFault := ⟨al_mc al_c3 149 rfl (by decide +kernel), al_mc al_c3 150 rfl (by decide +kernel), al_mc al_c3 151 rfl (by decide +kernel), al_mc al_c1 6 rfl (by decide +kernel)⟩
set_option maxRecDepth 20000 in
theorem cd_X0_tuneFault : Cond.code yX0_tuneFault cX0_tuneFault 2 (some .int) ∈ AL := al_mc al_c3 152 rfl (by decide +kernel)
set_option maxRecDepth 20000 in
theorem ml_X0_71 : lkV RX0 71 yX0_toothFault := ⟨al_mc al_c3 153 rfl (by decide +kernel), al_mc al_c3 154 rfl (by decide +kernel), al_mc al_c3 155 rfl (by decide +kernel), al_mc al_c1 6 rfl (by decide +kernel)⟩
set_option maxRecDepth 20000 in
theorem cd_X0_toothFault : Cond.code yX0_toothFault cX0_toothFault 2 (some .int) ∈ AL := al_mc al_c3 156 rfl (by decide +kernel)
set_option maxRecDepth 20000 in
theorem ml_X0_74 : lkV RX0 74 yX0_stepFault := ⟨al_mc al_c3 157 rfl (by decide +kernel), al_mc al_c3 158 rfl (by decide +kernel), al_mc al_c3 159 rfl (by decide +kernel), al_mc al_c1 6 rfl (by decide +kernel)⟩
set_option maxRecDepth 20000 in
theorem cd_X0_stepFault : Cond.code yX0_stepFault cX0_stepFault 2 (some .int) ∈ AL := al_mc al_c3 160 rfl (by decide +kernel)
set_option maxRecDepth 20000 in
theorem ml_X0_77 : lkS RX0 77 yJ9_max_7cf53 := ⟨al_mc al_c3 161 rfl (by decide +kernel), al_mc al_c1 44 rfl (by decide +kernel), al_mc al_c1 3 rfl (by decide +kernel)⟩
set_option maxRecDepth 20000 in
theorem ml_X0_87 : lkV RX0 87 yX3_hasPin := ⟨al_mc al_c3 162 rfl (by decide +kernel), al_mc al_c2 203 rfl (by decide +kernel), al_mc al_c2 204 rfl (by decide +kernel), al_mc al_c1 7 rfl (by decide +kernel)⟩
set_option maxRecDepth 20000 in
theorem ml_X4_65 : lkV RX4 65 yX0_takePinFault := ⟨al_mc al_c3 163 rfl (by decide +kernel), al_mc al_c3 164 rfl (by decide +kernel), al_mc al_c3 165 rfl (by decide +kernel), al_mc al_c1 6 rfl (by decide +kernel)⟩
set_option maxRecDepth 20000 in
theorem cd_X0_takePinFault : Cond.code yX0_takePinFault cX0_takePinFault 4 (some .int) ∈ AL := al_mc al_c3 166 rfl (by decide +kernel)
set_option maxRecDepth 20000 in
theorem ml_X4_68 : lkV RX4 68 yX0_gapFault := ⟨al_mc al_c3 167 rfl (by decide +kernel), al_mc al_c3 168 rfl (by decide +kernel), al_mc al_c3 169 rfl (by decide +kernel), al_mc al_c1 6 rfl (by decide +kernel)⟩
set_option maxRecDepth 20000 in
theorem cd_X0_gapFault : Cond.code yX0_gapFault cX0_gapFault 3 (some .int) ∈ AL := al_mc al_c3 170 rfl (by decide +kernel)
set_option maxRecDepth 20000 in
theorem ml_X0_95 : lkM RX0 95 yX9_rangeFault "MusicBoxEditor" := ⟨by decide +kernel, al_mc al_c3 172 rfl (by decide +kernel), al_mc al_c1 1 rfl (by decide +kernel)⟩
set_option maxRecDepth 20000 in
theorem cd_X9_rangeFault : Cond.code yX9_rangeFault cX9_rangeFault 3 (some .int) ∈ AL := al_mc al_c3 173 rfl (by decide +kernel)
set_option maxRecDepth 20000 in
theorem ml_X4_71 : lkV RX4 71 yX0_bendFault := ⟨al_mc al_c3 174 rfl (by decide +kernel), al_mc al_c3 175 rfl (by decide +kernel), al_mc al_c3 176 rfl (by decide +kernel), al_mc al_c1 6 rfl (by decide +kernel)⟩
set_option maxRecDepth 20000 in
theorem cd_X0_bendFault : Cond.code yX0_bendFault cX0_bendFault 4 (some .int) ∈ AL := al_mc al_c3 177 rfl (by decide +kernel)
set_option maxRecDepth 20000 in
theorem ml_X0_101 : lkV RX0 101 yX8_brokenNow := ⟨al_mc al_c3 178 rfl (by decide +kernel), al_mc al_c3 179 rfl (by decide +kernel), al_mc al_c3 180 rfl (by decide +kernel), al_mc al_c1 8 rfl (by decide +kernel)⟩
set_option maxRecDepth 20000 in
theorem cd_X8_brokenNow : Cond.code yX8_brokenNow cX8_brokenNow 1 (some .boolean) ∈ AL := al_mc al_c3 181 rfl (by decide +kernel)
set_option maxRecDepth 20000 in
theorem ml_X4_74 : lkV RX4 74 yX0_toothFault := ⟨al_mc al_c3 182 rfl (by decide +kernel), al_mc al_c3 154 rfl (by decide +kernel), al_mc al_c3 155 rfl (by decide +kernel), al_mc al_c1 6 rfl (by decide +kernel)⟩
set_option maxRecDepth 20000 in
theorem ml_X4_78 : lkM RX4 78 yX9_rangeFault "MusicBoxEditor" := ⟨by decide +kernel, al_mc al_c3 172 rfl (by decide +kernel), al_mc al_c1 1 rfl (by decide +kernel)⟩
set_option maxRecDepth 20000 in
theorem ml_X4_81 : lkV RX4 81 yX0_windFault := ⟨al_mc al_c3 184 rfl (by decide +kernel), al_mc al_c3 185 rfl (by decide +kernel), al_mc al_c3 186 rfl (by decide +kernel), al_mc al_c1 6 rfl (by decide +kernel)⟩
set_option maxRecDepth 20000 in
theorem cd_X0_windFault : Cond.code yX0_windFault cX0_windFault 2 (some .int) ∈ AL := al_mc al_c3 187 rfl (by decide +kernel)
set_option maxRecDepth 20000 in
theorem ml_X4_84 : lkV RX4 84 yX0_tuneFault := ⟨al_mc al_c3 188 rfl (by decide +kernel), al_mc al_c3 150 rfl (by decide +kernel), al_mc al_c3 151 rfl (by decide +kernel), al_mc al_c1 6 rfl (by decide +kernel)⟩
set_option maxRecDepth 20000 in
theorem ml_X4_87 : lkV RX4 87 yX0_playFault := ⟨al_mc al_c3 189 rfl (by decide +kernel), al_mc al_c3 190 rfl (by decide +kernel), al_mc al_c3 191 rfl (by decide +kernel), al_mc al_c1 6 rfl (by decide +kernel)⟩
set_option maxRecDepth 20000 in
theorem cd_X0_playFault : Cond.code yX0_playFault cX0_playFault 2 (some .int) ∈ AL := al_mc al_c3 192 rfl (by decide +kernel)
set_option maxRecDepth 20000 in
theorem ml_X4_55 : lkV RX4 55 yX4_execute := ⟨al_mc al_c3 193 rfl (by decide +kernel), al_mc al_c3 194 rfl (by decide +kernel), al_mc al_c3 195 rfl (by decide +kernel), al_mc al_c1 5 rfl (by decide +kernel)⟩
set_option maxRecDepth 20000 in
theorem cd_X4_execute : Cond.code yX4_execute cX4_execute 7 none ∈ AL := al_mc al_c3 196 rfl (by decide +kernel)
set_option maxRecDepth 20000 in
theorem ml_X4_94 : lkV RX4 94 yX3_putPin := ⟨al_mc al_c3 197 rfl (by decide +kernel), al_mc al_c2 211 rfl (by decide +kernel), al_mc al_c2 212 rfl (by decide +kernel), al_mc al_c1 7 rfl (by decide +kernel)⟩
set_option maxRecDepth 20000 in
theorem ml_X4_100 : lkV RX4 100 yX3_takePin := ⟨al_mc al_c3 198 rfl (by decide +kernel), al_mc al_c3 199 rfl (by decide +kernel), al_mc al_c3 200 rfl (by decide +kernel), al_mc al_c1 7 rfl (by decide +kernel)⟩
set_option maxRecDepth 20000 in
theorem cd_X3_takePin : Cond.code yX3_takePin cX3_takePin 4 none ∈ AL := al_mc al_c3 201 rfl (by decide +kernel)
set_option maxRecDepth 20000 in
theorem ml_X4_112 : lkV RX4 112 yX0_bendTooth := ⟨al_mc al_c3 203 rfl (by decide +kernel), al_mc al_c3 204 rfl (by decide +kernel), al_mc al_c3 205 rfl (by decide +kernel), al_mc al_c1 6 rfl (by decide +kernel)⟩
set_option maxRecDepth 20000 in
theorem cd_X0_bendTooth : Cond.code yX0_bendTooth cX0_bendTooth 3 none ∈ AL := al_mc al_c3 206 rfl (by decide +kernel)
set_option maxRecDepth 20000 in
theorem ml_X4_116 : lkV RX4 116 yX0_mendTooth := ⟨al_mc al_c3 207 rfl (by decide +kernel), al_mc al_c3 208 rfl (by decide +kernel), al_mc al_c3 209 rfl (by decide +kernel), al_mc al_c1 6 rfl (by decide +kernel)⟩
set_option maxRecDepth 20000 in
theorem cd_X0_mendTooth : Cond.code yX0_mendTooth cX0_mendTooth 2 none ∈ AL := al_mc al_c3 210 rfl (by decide +kernel)
set_option maxRecDepth 20000 in
theorem ml_X0_108 : lkV RX0 108 yX8_renew := ⟨al_mc al_c3 211 rfl (by decide +kernel), al_mc al_c2 193 rfl (by decide +kernel), al_mc al_c2 194 rfl (by decide +kernel), al_mc al_c1 8 rfl (by decide +kernel)⟩
set_option maxRecDepth 20000 in
theorem ml_X4_129 : lkV RX4 129 yX0_playSteps := ⟨al_mc al_c3 212 rfl (by decide +kernel), al_mc al_c3 213 rfl (by decide +kernel), al_mc al_c3 214 rfl (by decide +kernel), al_mc al_c1 6 rfl (by decide +kernel)⟩
set_option maxRecDepth 20000 in
theorem cd_X0_playSteps : Cond.code yX0_playSteps cX0_playSteps 3 (some .int) ∈ AL := al_mc al_c3 215 rfl (by decide +kernel)
set_option maxRecDepth 20000 in
theorem ml_X0_111 : lkV RX0 111 yX0_playStep := ⟨al_mc al_c3 216 rfl (by decide +kernel), al_mc al_c3 217 rfl (by decide +kernel), al_mc al_c3 218 rfl (by decide +kernel), al_mc al_c1 6 rfl (by decide +kernel)⟩
set_option maxRecDepth 20000 in
theorem cd_X0_playStep : Cond.code yX0_playStep cX0_playStep 3 none ∈ AL := al_mc al_c3 219 rfl (by decide +kernel)
set_option maxRecDepth 20000 in
theorem ml_X0_114 : lkV RX0 114 yX0_soundOf := ⟨al_mc al_c3 220 rfl (by decide +kernel), al_mc al_c3 221 rfl (by decide +kernel), al_mc al_c3 222 rfl (by decide +kernel), al_mc al_c1 6 rfl (by decide +kernel)⟩
set_option maxRecDepth 20000 in
theorem cd_X0_soundOf : Cond.code yX0_soundOf cX0_soundOf 2 (some .int) ∈ AL := al_mc al_c3 223 rfl (by decide +kernel)
set_option maxRecDepth 20000 in
theorem ml_X0_132 : lkV RX0 132 yX8_dampedNow := ⟨al_mc al_c3 224 rfl (by decide +kernel), al_mc al_c3 225 rfl (by decide +kernel), al_mc al_c3 226 rfl (by decide +kernel), al_mc al_c1 8 rfl (by decide +kernel)⟩
set_option maxRecDepth 20000 in
theorem cd_X8_dampedNow : Cond.code yX8_dampedNow cX8_dampedNow 1 (some .boolean) ∈ AL := al_mc al_c3 227 rfl (by decide +kernel)
set_option maxRecDepth 20000 in
theorem ml_X0_117 : lkV RX0 117 yX8_pluck := ⟨al_mc al_c3 228 rfl (by decide +kernel), al_mc al_c3 229 rfl (by decide +kernel), al_mc al_c3 230 rfl (by decide +kernel), al_mc al_c1 8 rfl (by decide +kernel)⟩
set_option maxRecDepth 20000 in
theorem cd_X8_pluck : Cond.code yX8_pluck cX8_pluck 2 none ∈ AL := al_mc al_c3 231 rfl (by decide +kernel)
set_option maxRecDepth 20000 in
theorem ml_X0_120 : lkV RX0 120 yX8_passStep := ⟨al_mc al_c3 232 rfl (by decide +kernel), al_mc al_c3 233 rfl (by decide +kernel), al_mc al_c3 234 rfl (by decide +kernel), al_mc al_c1 8 rfl (by decide +kernel)⟩
set_option maxRecDepth 20000 in
theorem cd_X8_passStep : Cond.code yX8_passStep cX8_passStep 1 none ∈ AL := al_mc al_c3 235 rfl (by decide +kernel)
set_option maxRecDepth 20000 in
theorem ml_X8_33 : lkS RX8 33 yJ9_min_7cf53 := ⟨al_mc al_c3 236 rfl (by decide +kernel), al_mc al_c2 125 rfl (by decide +kernel), al_mc al_c1 3 rfl (by decide +kernel)⟩
set_option maxRecDepth 20000 in
theorem ml_X0_123 : lkV RX0 123 yX3_goOn := ⟨al_mc al_c3 237 rfl (by decide +kernel), al_mc al_c3 238 rfl (by decide +kernel), al_mc al_c3 239 rfl (by decide +kernel), al_mc al_c1 7 rfl (by decide +kernel)⟩
set_option maxRecDepth 20000 in
theorem cd_X3_goOn : Cond.code yX3_goOn cX3_goOn 1 (some .boolean) ∈ AL := al_mc al_c4 0 rfl (by decide +kernel)
set_option maxRecDepth 20000 in
theorem ml_L_159 : lkV RL 159 yX9_errorCode := ⟨al_mc al_c4 1 rfl (by decide +kernel), al_mc al_c4 2 rfl (by decide +kernel), al_mc al_c4 3 rfl (by decide +kernel), al_mc al_c1 1 rfl (by decide +kernel)⟩
set_option maxRecDepth 20000 in
theorem cd_X9_errorCode : Cond.code yX9_errorCode cX9_errorCode 1 (some .int) ∈ AL := al_mc al_c4 4 rfl (by decide +kernel)
set_option maxRecDepth 20000 in
theorem ml_L_163 : lkV RL 163 yX9_errorPosition := ⟨al_mc al_c4 5 rfl (by decide +kernel), al_mc al_c4 6 rfl (by decide +kernel), al_mc al_c4 7 rfl (by decide +kernel), al_mc al_c1 1 rfl (by decide +kernel)⟩
set_option maxRecDepth 20000 in
theorem cd_X9_errorPosition : Cond.code yX9_errorPosition cX9_errorPosition 1 (some .int) ∈ AL := al_mc al_c4 8 rfl (by decide +kernel)
set_option maxRecDepth 20000 in
theorem ml_L_167 : lkV RL 167 yX9_stepCount := ⟨al_mc al_c4 9 rfl (by decide +kernel), al_mc al_c4 10 rfl (by decide +kernel), al_mc al_c4 11 rfl (by decide +kernel), al_mc al_c1 1 rfl (by decide +kernel)⟩
set_option maxRecDepth 20000 in
theorem cd_X9_stepCount : Cond.code yX9_stepCount cX9_stepCount 1 (some .int) ∈ AL := al_mc al_c4 12 rfl (by decide +kernel)
set_option maxRecDepth 20000 in
theorem ml_L_171 : lkV RL 171 yX9_selectedTune := ⟨al_mc al_c4 13 rfl (by decide +kernel), al_mc al_c4 14 rfl (by decide +kernel), al_mc al_c4 15 rfl (by decide +kernel), al_mc al_c1 1 rfl (by decide +kernel)⟩
set_option maxRecDepth 20000 in
theorem cd_X9_selectedTune : Cond.code yX9_selectedTune cX9_selectedTune 1 (some .int) ∈ AL := al_mc al_c4 16 rfl (by decide +kernel)
set_option maxRecDepth 20000 in
theorem ml_L_175 : lkV RL 175 yX9_position := ⟨al_mc al_c4 17 rfl (by decide +kernel), al_mc al_c4 18 rfl (by decide +kernel), al_mc al_c4 19 rfl (by decide +kernel), al_mc al_c1 1 rfl (by decide +kernel)⟩
set_option maxRecDepth 20000 in
theorem cd_X9_position : Cond.code yX9_position cX9_position 1 (some .int) ∈ AL := al_mc al_c4 20 rfl (by decide +kernel)
set_option maxRecDepth 20000 in
theorem ml_L_199 : lkV RL 199 yX9_toothCount := ⟨al_mc al_c4 21 rfl (by decide +kernel), al_mc al_c4 22 rfl (by decide +kernel), al_mc al_c4 23 rfl (by decide +kernel), al_mc al_c1 1 rfl (by decide +kernel)⟩
set_option maxRecDepth 20000 in
theorem cd_X9_toothCount : Cond.code yX9_toothCount cX9_toothCount 1 (some .int) ∈ AL := al_mc al_c4 24 rfl (by decide +kernel)
set_option maxRecDepth 20000 in
theorem ml_L_224 : lkV RL 224 yX9_turnsLeft := ⟨al_mc al_c4 25 rfl (by decide +kernel), al_mc al_c4 26 rfl (by decide +kernel), al_mc al_c4 27 rfl (by decide +kernel), al_mc al_c1 1 rfl (by decide +kernel)⟩
set_option maxRecDepth 20000 in
theorem cd_X9_turnsLeft : Cond.code yX9_turnsLeft cX9_turnsLeft 1 (some .int) ∈ AL := al_mc al_c4 28 rfl (by decide +kernel)
set_option maxRecDepth 20000 in
theorem ml_L_228 : lkV RL 228 yX9_vane := ⟨al_mc al_c4 29 rfl (by decide +kernel), al_mc al_c4 30 rfl (by decide +kernel), al_mc al_c4 31 rfl (by decide +kernel), al_mc al_c1 1 rfl (by decide +kernel)⟩
set_option maxRecDepth 20000 in
theorem cd_X9_vane : Cond.code yX9_vane cX9_vane 1 (some .int) ∈ AL := al_mc al_c4 32 rfl (by decide +kernel)
set_option maxRecDepth 20000 in
theorem ml_L_232 : lkV RL 232 yX9_tempo := ⟨al_mc al_c4 33 rfl (by decide +kernel), al_mc al_c4 34 rfl (by decide +kernel), al_mc al_c4 35 rfl (by decide +kernel), al_mc al_c1 1 rfl (by decide +kernel)⟩
set_option maxRecDepth 20000 in
theorem cd_X9_tempo : Cond.code yX9_tempo cX9_tempo 1 (some .int) ∈ AL := al_mc al_c4 36 rfl (by decide +kernel)
set_option maxRecDepth 20000 in
theorem ml_X9_250 : lkV RX9 250 yX0_stepsPerMinute := ⟨al_mc al_c4 37 rfl (by decide +kernel), al_mc al_c4 38 rfl (by decide +kernel), al_mc al_c4 39 rfl (by decide +kernel), al_mc al_c1 6 rfl (by decide +kernel)⟩
set_option maxRecDepth 20000 in
theorem cd_X0_stepsPerMinute : Cond.code yX0_stepsPerMinute cX0_stepsPerMinute 1 (some .int) ∈ AL := al_mc al_c4 40 rfl (by decide +kernel)
set_option maxRecDepth 20000 in
theorem ml_L_236 : lkV RL 236 yX9_secondsPerStep := ⟨al_mc al_c4 41 rfl (by decide +kernel), al_mc al_c4 42 rfl (by decide +kernel), al_mc al_c4 43 rfl (by decide +kernel), al_mc al_c1 1 rfl (by decide +kernel)⟩
set_option maxRecDepth 20000 in
theorem cd_X9_secondsPerStep : Cond.code yX9_secondsPerStep cX9_secondsPerStep 2 (some .double) ∈ AL := al_mc al_c4 44 rfl (by decide +kernel)
set_option maxRecDepth 20000 in
theorem ml_L_241 : lkV RL 241 yX9_secondsPerStepBits := ⟨al_mc al_c4 46 rfl (by decide +kernel), al_mc al_c4 47 rfl (by decide +kernel), al_mc al_c4 48 rfl (by decide +kernel), al_mc al_c1 1 rfl (by decide +kernel)⟩
set_option maxRecDepth 20000 in
theorem cd_X9_secondsPerStepBits : Cond.code yX9_secondsPerStepBits cX9_secondsPerStepBits 1 (some .long) ∈ AL := al_mc al_c4 49 rfl (by decide +kernel)
set_option maxRecDepth 20000 in
theorem ml_X9_255 : lkV RX9 255 yX9_secondsPerStep := ⟨al_mc al_c4 50 rfl (by decide +kernel), al_mc al_c4 42 rfl (by decide +kernel), al_mc al_c4 43 rfl (by decide +kernel), al_mc al_c1 1 rfl (by decide +kernel)⟩
set_option maxRecDepth 20000 in
theorem ml_X9_259 : lkS RX9 259 yX9_bitsOfPositive := ⟨al_mc al_c4 51 rfl (by decide +kernel), al_mc al_c4 52 rfl (by decide +kernel), al_mc al_c1 1 rfl (by decide +kernel)⟩
set_option maxRecDepth 20000 in
theorem cd_X9_bitsOfPositive : Cond.code yX9_bitsOfPositive cX9_bitsOfPositive 8 (some .long) ∈ AL := al_mc al_c4 53 rfl (by decide +kernel)
set_option maxRecDepth 20000 in
theorem ml_L_246 : lkV RL 246 yX9_noteCount := ⟨al_mc al_c4 57 rfl (by decide +kernel), al_mc al_c4 58 rfl (by decide +kernel), al_mc al_c4 59 rfl (by decide +kernel), al_mc al_c1 1 rfl (by decide +kernel)⟩
set_option maxRecDepth 20000 in
theorem cd_X9_noteCount : Cond.code yX9_noteCount cX9_noteCount 1 (some .int) ∈ AL := al_mc al_c4 60 rfl (by decide +kernel)
set_option maxRecDepth 20000 in
theorem ml_L_250 : lkV RL 250 yX9_squeakCount := ⟨al_mc al_c4 61 rfl (by decide +kernel), al_mc al_c4 62 rfl (by decide +kernel), al_mc al_c4 63 rfl (by decide +kernel), al_mc al_c1 1 rfl (by decide +kernel)⟩
set_option maxRecDepth 20000 in
theorem cd_X9_squeakCount : Cond.code yX9_squeakCount cX9_squeakCount 1 (some .int) ∈ AL := al_mc al_c4 64 rfl (by decide +kernel)
set_option maxRecDepth 20000 in
theorem ml_L_254 : lkV RL 254 yX9_stepsPlayed := ⟨al_mc al_c4 65 rfl (by decide +kernel), al_mc al_c4 66 rfl (by decide +kernel), al_mc al_c4 67 rfl (by decide +kernel), al_mc al_c1 1 rfl (by decide +kernel)⟩
set_option maxRecDepth 20000 in
theorem cd_X9_stepsPlayed : Cond.code yX9_stepsPlayed cX9_stepsPlayed 1 (some .int) ∈ AL := al_mc al_c4 68 rfl (by decide +kernel)
set_option maxRecDepth 20000 in
theorem ml_L_258 : lkV RL 258 yX9_brokenTeeth := ⟨al_mc al_c4 69 rfl (by decide +kernel), al_mc al_c4 70 rfl (by decide +kernel), al_mc al_c4 71 rfl (by decide +kernel), al_mc al_c1 1 rfl (by decide +kernel)⟩
set_option maxRecDepth 20000 in
theorem cd_X9_brokenTeeth : Cond.code yX9_brokenTeeth cX9_brokenTeeth 1 (some .int) ∈ AL := al_mc al_c4 72 rfl (by decide +kernel)
set_option maxRecDepth 20000 in
theorem ml_X9_278 : lkV RX9 278 yX0_brokenCount := ⟨al_mc al_c4 73 rfl (by decide +kernel), al_mc al_c4 74 rfl (by decide +kernel), al_mc al_c4 75 rfl (by decide +kernel), al_mc al_c1 6 rfl (by decide +kernel)⟩
set_option maxRecDepth 20000 in
theorem cd_X0_brokenCount : Cond.code yX0_brokenCount cX0_brokenCount 3 (some .int) ∈ AL := al_mc al_c4 76 rfl (by decide +kernel)
set_option maxRecDepth 20000 in
theorem ml_L_269 : lkV RL 269 yX9_contradictions := ⟨al_mc al_c4 77 rfl (by decide +kernel), al_mc al_c4 78 rfl (by decide +kernel), al_mc al_c4 79 rfl (by decide +kernel), al_mc al_c1 1 rfl (by decide +kernel)⟩
set_option maxRecDepth 20000 in
theorem cd_X9_contradictions : Cond.code yX9_contradictions cX9_contradictions 1 (some .int) ∈ AL := al_mc al_c4 80 rfl (by decide +kernel)
set_option maxRecDepth 20000 in
theorem ml_X9_284 : lkV RX9 284 yX0_unexplainedWear := ⟨al_mc al_c4 81 rfl (by decide +kernel), al_mc al_c4 82 rfl (by decide +kernel), al_mc al_c4 83 rfl (by decide +kernel), al_mc al_c1 6 rfl (by decide +kernel)⟩
set_option maxRecDepth 20000 in
theorem cd_X0_unexplainedWear : Cond.code yX0_unexplainedWear cX0_unexplainedWear 3 (some .int) ∈ AL := al_mc al_c4 84 rfl (by decide +kernel)
set_option maxRecDepth 20000 in
theorem ml_X0_154 : lkS RX0 154 yJ9_abs_0f7a4 := ⟨al_mc al_c4 85 rfl (by decide +kernel), al_mc al_c4 86 rfl (by decide +kernel), al_mc al_c1 3 rfl (by decide +kernel)⟩
set_option maxRecDepth 20000 in
theorem cd_J9_abs_0f7a4 : Cond.code yJ9_abs_0f7a4 cJ9_abs_0f7a4 1 (some .int) ∈ AL := al_mc al_c4 87 rfl (by decide +kernel)
set_option maxRecDepth 20000 in
theorem ml_X9_287 : lkV RX9 287 yX0_brokenTooEarly := ⟨al_mc al_c4 88 rfl (by decide +kernel), al_mc al_c4 89 rfl (by decide +kernel), al_mc al_c4 90 rfl (by decide +kernel), al_mc al_c1 6 rfl (by decide +kernel)⟩
set_option maxRecDepth 20000 in
theorem cd_X0_brokenTooEarly : Cond.code yX0_brokenTooEarly cX0_brokenTooEarly 3 (some .int) ∈ AL := al_mc al_c4 91 rfl (by decide +kernel)
set_option maxRecDepth 20000 in
theorem ml_L_273 : lkV RL 273 yX9_stepsLeft := ⟨al_mc al_c4 92 rfl (by decide +kernel), al_mc al_c4 93 rfl (by decide +kernel), al_mc al_c4 94 rfl (by decide +kernel), al_mc al_c1 1 rfl (by decide +kernel)⟩
set_option maxRecDepth 20000 in
theorem cd_X9_stepsLeft : Cond.code yX9_stepsLeft cX9_stepsLeft 1 (some .int) ∈ AL := al_mc al_c4 95 rfl (by decide +kernel)
set_option maxRecDepth 20000 in
theorem ml_X9_290 : lkV RX9 290 yX0_playableSteps := ⟨al_mc al_c4 96 rfl (by decide +kernel), al_mc al_c4 97 rfl (by decide +kernel), al_mc al_c4 98 rfl (by decide +kernel), al_mc al_c1 6 rfl (by decide +kernel)⟩
set_option maxRecDepth 20000 in
theorem cd_X0_playableSteps : Cond.code yX0_playableSteps cX0_playableSteps 1 (some .int) ∈ AL := al_mc al_c4 99 rfl (by decide +kernel)
set_option maxRecDepth 20000 in
theorem ml_L_325 : lkV RL 325 yX9_writeComb := ⟨al_mc al_c4 100 rfl (by decide +kernel), al_mc al_c4 101 rfl (by decide +kernel), al_mc al_c4 102 rfl (by decide +kernel), al_mc al_c1 1 rfl (by decide +kernel)⟩
set_option maxRecDepth 20000 in
theorem cd_X9_writeComb : Cond.code yX9_writeComb cX9_writeComb 2 (some .int) ∈ AL := al_mc al_c4 103 rfl (by decide +kernel)
set_option maxRecDepth 20000 in
theorem ml_X9_238 : lkV RX9 238 yX8_brokenNow := ⟨al_mc al_c4 104 rfl (by decide +kernel), al_mc al_c3 179 rfl (by decide +kernel), al_mc al_c3 180 rfl (by decide +kernel), al_mc al_c1 8 rfl (by decide +kernel)⟩
set_option maxRecDepth 20000 in
theorem ml_X9_221 : lkV RX9 221 yX8_pitchNow := ⟨al_mc al_c4 105 rfl (by decide +kernel), al_mc al_c4 106 rfl (by decide +kernel), al_mc al_c4 107 rfl (by decide +kernel), al_mc al_c1 8 rfl (by decide +kernel)⟩
set_option maxRecDepth 20000 in
theorem cd_X8_pitchNow : Cond.code yX8_pitchNow cX8_pitchNow 1 (some .int) ∈ AL := al_mc al_c4 108 rfl (by decide +kernel)
set_option maxRecDepth 20000 in
theorem ml_X9_346 : lkV RX9 346 yX1_putNumber := ⟨al_mc al_c4 109 rfl (by decide +kernel), al_mc al_c4 110 rfl (by decide +kernel), al_mc al_c4 111 rfl (by decide +kernel), al_mc al_c1 2 rfl (by decide +kernel)⟩
set_option maxRecDepth 20000 in
theorem cd_X1_putNumber : Cond.code yX1_putNumber cX1_putNumber 3 none ∈ AL := al_mc al_c4 112 rfl (by decide +kernel)
set_option maxRecDepth 20000 in
theorem ml_X1_25 : lkV RX1 25 yX1_put := ⟨al_mc al_c4 113 rfl (by decide +kernel), al_mc al_c2 93 rfl (by decide +kernel), al_mc al_c2 94 rfl (by decide +kernel), al_mc al_c1 2 rfl (by decide +kernel)⟩
set_option maxRecDepth 20000 in
theorem ml_L_329 : lkV RL 329 yX9_outputByte := ⟨al_mc al_c4 114 rfl (by decide +kernel), al_mc al_c4 115 rfl (by decide +kernel), al_mc al_c4 116 rfl (by decide +kernel), al_mc al_c1 1 rfl (by decide +kernel)⟩
set_option maxRecDepth 20000 in
theorem cd_X9_outputByte : Cond.code yX9_outputByte cX9_outputByte 2 (some .int) ∈ AL := al_mc al_c4 117 rfl (by decide +kernel)
set_option maxRecDepth 20000 in
theorem ml_X9_349 : lkV RX9 349 yX1_at := ⟨al_mc al_c4 118 rfl (by decide +kernel), al_mc al_c2 109 rfl (by decide +kernel), al_mc al_c2 110 rfl (by decide +kernel), al_mc al_c1 2 rfl (by decide +kernel)⟩
set_option maxRecDepth 20000 in
theorem ml_L_333 : lkV RL 333 yX9_undoCount := ⟨al_mc al_c4 119 rfl (by decide +kernel), al_mc al_c4 120 rfl (by decide +kernel), al_mc al_c4 121 rfl (by decide +kernel), al_mc al_c1 1 rfl (by decide +kernel)⟩
set_option maxRecDepth 20000 in
theorem cd_X9_undoCount : Cond.code yX9_undoCount cX9_undoCount 1 (some .int) ∈ AL := al_mc al_c4 122 rfl (by decide +kernel)
set_option maxRecDepth 20000 in
theorem ml_L_138 : lkS RL 138 yL_append := ⟨al_mc al_c4 123 rfl (by decide +kernel), al_mc al_c4 124 rfl (by decide +kernel), al_mc al_c1 0 rfl (by decide +kernel)⟩
set_option maxRecDepth 20000 in
theorem cd_L_append : Cond.codeWith yL_append cL_append 8 (some .int) [(0, 16, 19, 13)] ∈ AL := al_mc al_c4 125 rfl (by decide +kernel)
set_option maxRecDepth 20000 in
theorem ml_L_7 : lkV RL 7 yX9_append := ⟨al_mc al_c4 127 rfl (by decide +kernel), al_mc al_c4 128 rfl (by decide +kernel), al_mc al_c4 129 rfl (by decide +kernel), al_mc al_c1 1 rfl (by decide +kernel)⟩
set_option maxRecDepth 20000 in
theorem cd_X9_append : Cond.code yX9_append cX9_append 7 (some .int) ∈ AL := al_mc al_c4 130 rfl (by decide +kernel)
set_option maxRecDepth 20000 in
theorem ml_X9_98 : lkS RX9 98 yX9_bytesIn := ⟨al_mc al_c4 131 rfl (by decide +kernel), al_mc al_c4 132 rfl (by decide +kernel), al_mc al_c1 1 rfl (by decide +kernel)⟩
set_option maxRecDepth 20000 in
theorem cd_X9_bytesIn : Cond.code yX9_bytesIn cX9_bytesIn 3 (some .int) ∈ AL := al_mc al_c4 133 rfl (by decide +kernel)
set_option maxRecDepth 20000 in
theorem ml_X9_112 : lkV RX9 112 yX9_putBytes := ⟨al_mc al_c4 202 rfl (by decide +kernel), al_mc al_c4 204 rfl (by decide +kernel), al_mem 5 (by decide +kernel) (by decide +kernel), al_mc al_c1 1 rfl (by decide +kernel)⟩
set_option maxRecDepth 20000 in
theorem cd_X9_putBytes : Cond.code yX9_putBytes cX9_putBytes 4 none ∈ AL := al_mc al_c4 205 rfl (by decide +kernel)
set_option maxRecDepth 20000 in
theorem ml_L_147 : lkS RL 147 yL_truncate := ⟨al_mc al_c4 206 rfl (by decide +kernel), al_mc al_c4 207 rfl (by decide +kernel), al_mc al_c1 0 rfl (by decide +kernel)⟩
set_option maxRecDepth 20000 in
theorem cd_L_truncate : Cond.codeWith yL_truncate cL_truncate 4 (some .int) [(0, 9, 12, 19)] ∈ AL := al_mc al_c4 208 rfl (by decide +kernel)
set_option maxRecDepth 20000 in
theorem ml_L_15 : lkV RL 15 yX9_truncate := ⟨al_mc al_c4 210 rfl (by decide +kernel), al_mc al_c4 211 rfl (by decide +kernel), al_mc al_c4 212 rfl (by decide +kernel), al_mc al_c1 1 rfl (by decide +kernel)⟩
set_option maxRecDepth 20000 in
theorem cd_X9_truncate : Cond.code yX9_truncate cX9_truncate 3 (some .int) ∈ AL := al_mc al_c4 213 rfl (by decide +kernel)
set_option maxRecDepth 20000 in
theorem ml_L_179 : lkS RL 179 yL_isPin := ⟨al_mc al_c4 230 rfl (by decide +kernel), al_mc al_c4 231 rfl (by decide +kernel), al_mc al_c1 0 rfl (by decide +kernel)⟩
set_option maxRecDepth 20000 in
theorem cd_L_isPin : Cond.codeWith yL_isPin cL_isPin 6 (some .int) [(0, 19, 22, 25)] ∈ AL := al_mc al_c4 232 rfl (by decide +kernel)
set_option maxRecDepth 20000 in
theorem ml_L_21 : lkV RL 21 yX9_isPin := ⟨al_mc al_c4 234 rfl (by decide +kernel), al_mc al_c4 235 rfl (by decide +kernel), al_mc al_c4 236 rfl (by decide +kernel), al_mc al_c1 1 rfl (by decide +kernel)⟩
set_option maxRecDepth 20000 in
theorem cd_X9_isPin : Cond.code yX9_isPin cX9_isPin 4 (some .boolean) ∈ AL := al_mc al_c4 237 rfl (by decide +kernel)
set_option maxRecDepth 20000 in
theorem ml_X9_168 : lkV RX9 168 yX0_placeFault := ⟨al_mc al_c4 238 rfl (by decide +kernel), al_mc al_c3 146 rfl (by decide +kernel), al_mc al_c3 147 rfl (by decide +kernel), al_mc al_c1 6 rfl (by decide +kernel)⟩
set_option maxRecDepth 20000 in
theorem ml_X9_172 : lkS RX9 172 yX9_refuse := ⟨al_mc al_c4 239 rfl (by decide +kernel), al_mc al_c5 0 rfl (by decide +kernel), al_mc al_c1 1 rfl (by decide +kernel)⟩
set_option maxRecDepth 20000 in
theorem cd_X9_refuse : Cond.code yX9_refuse cX9_refuse 1 none ∈ AL := al_mc al_c5 1 rfl (by decide +kernel)
set_option maxRecDepth 20000 in
theorem ml_X9_175 : lkV RX9 175 yX3_hasPin := ⟨al_mc al_c5 20 rfl (by decide +kernel), al_mc al_c2 203 rfl (by decide +kernel), al_mc al_c2 204 rfl (by decide +kernel), al_mc al_c1 7 rfl (by decide +kernel)⟩
set_option maxRecDepth 20000 in
theorem ml_L_183 : lkS RL 183 yL_pinCount := ⟨al_mc al_c5 21 rfl (by decide +kernel), al_mc al_c5 22 rfl (by decide +kernel), al_mc al_c1 0 rfl (by decide +kernel)⟩
set_option maxRecDepth 20000 in
theorem cd_L_pinCount : Cond.codeWith yL_pinCount cL_pinCount 4 (some .int) [(0, 9, 12, 25)] ∈ AL := al_mc al_c5 23 rfl (by decide +kernel)
set_option maxRecDepth 20000 in
theorem ml_L_27 : lkV RL 27 yX9_pinCount := ⟨al_mc al_c5 24 rfl (by decide +kernel), al_mc al_c5 25 rfl (by decide +kernel), al_mc al_c5 26 rfl (by decide +kernel), al_mc al_c1 1 rfl (by decide +kernel)⟩
set_option maxRecDepth 20000 in
theorem cd_X9_pinCount : Cond.code yX9_pinCount cX9_pinCount 2 (some .int) ∈ AL := al_mc al_c5 27 rfl (by decide +kernel)
set_option maxRecDepth 20000 in
theorem ml_X9_179 : lkV RX9 179 yX0_tuneFault := ⟨al_mc al_c5 28 rfl (by decide +kernel), al_mc al_c3 150 rfl (by decide +kernel), al_mc al_c3 151 rfl (by decide +kernel), al_mc al_c1 6 rfl (by decide +kernel)⟩
set_option maxRecDepth 20000 in
theorem ml_X9_182 : lkV RX9 182 yX3_pinsOf := ⟨al_mc al_c5 29 rfl (by decide +kernel), al_mc al_c5 30 rfl (by decide +kernel), al_mc al_c5 31 rfl (by decide +kernel), al_mc al_c1 7 rfl (by decide +kernel)⟩
set_option maxRecDepth 20000 in
theorem cd_X3_pinsOf : Cond.code yX3_pinsOf cX3_pinsOf 4 (some .int) ∈ AL := al_mc al_c5 32 rfl (by decide +kernel)
set_option maxRecDepth 20000 in
theorem ml_X3_51 : lkS RX3 51 yJ13_bitCount_95d88 := ⟨al_mc al_c5 33 rfl (by decide +kernel), al_mc al_c5 34 rfl (by decide +kernel), al_mc al_c1 26 rfl (by decide +kernel)⟩
set_option maxRecDepth 20000 in
theorem cd_J13_bitCount_95d88 : Cond.code yJ13_bitCount_95d88 cJ13_bitCount_95d88 2 (some .int) ∈ AL := al_mc al_c5 35 rfl (by decide +kernel)
set_option maxRecDepth 20000 in
theorem ml_L_186 : lkS RL 186 yL_chord := ⟨al_mc al_c5 39 rfl (by decide +kernel), al_mc al_c5 40 rfl (by decide +kernel), al_mc al_c1 0 rfl (by decide +kernel)⟩
set_option maxRecDepth 20000 in
theorem cd_L_chord : Cond.codeWith yL_chord cL_chord 5 (some .int) [(0, 10, 13, 25)] ∈ AL := al_mc al_c5 41 rfl (by decide +kernel)
set_option maxRecDepth 20000 in
theorem ml_L_30 : lkV RL 30 yX9_chord := ⟨al_mc al_c5 42 rfl (by decide +kernel), al_mc al_c5 43 rfl (by decide +kernel), al_mc al_c5 44 rfl (by decide +kernel), al_mc al_c1 1 rfl (by decide +kernel)⟩
set_option maxRecDepth 20000 in
theorem cd_X9_chord : Cond.code yX9_chord cX9_chord 3 (some .int) ∈ AL := al_mc al_c5 45 rfl (by decide +kernel)
set_option maxRecDepth 20000 in
theorem ml_X9_185 : lkV RX9 185 yX0_stepFault := ⟨al_mc al_c5 46 rfl (by decide +kernel), al_mc al_c3 158 rfl (by decide +kernel), al_mc al_c3 159 rfl (by decide +kernel), al_mc al_c1 6 rfl (by decide +kernel)⟩
set_option maxRecDepth 20000 in
theorem ml_X9_188 : lkS RX9 188 yJ9_max_7cf53 := ⟨al_mc al_c5 47 rfl (by decide +kernel), al_mc al_c1 44 rfl (by decide +kernel), al_mc al_c1 3 rfl (by decide +kernel)⟩
set_option maxRecDepth 20000 in
theorem ml_X9_194 : lkV RX9 194 yX3_teethAt := ⟨al_mc al_c5 48 rfl (by decide +kernel), al_mc al_c5 49 rfl (by decide +kernel), al_mc al_c5 50 rfl (by decide +kernel), al_mc al_c1 7 rfl (by decide +kernel)⟩
set_option maxRecDepth 20000 in
theorem cd_X3_teethAt : Cond.code yX3_teethAt cX3_teethAt 5 (some .int) ∈ AL := al_mc al_c5 51 rfl (by decide +kernel)
set_option maxRecDepth 20000 in
theorem ml_X3_57 : lkV RX3 57 yX3_hasPin := ⟨al_mc al_c5 52 rfl (by decide +kernel), al_mc al_c2 203 rfl (by decide +kernel), al_mc al_c2 204 rfl (by decide +kernel), al_mc al_c1 7 rfl (by decide +kernel)⟩
set_option maxRecDepth 20000 in
theorem ml_L_190 : lkS RL 190 yL_distance := ⟨al_mc al_c5 53 rfl (by decide +kernel), al_mc al_c5 54 rfl (by decide +kernel), al_mc al_c1 0 rfl (by decide +kernel)⟩
set_option maxRecDepth 20000 in
theorem cd_L_distance : Cond.codeWith yL_distance cL_distance 6 (some .int) [(0, 12, 15, 25), (0, 12, 19, 38)] ∈ AL := al_mc al_c5 55 rfl (by decide +kernel)
set_option maxRecDepth 20000 in
theorem ml_L_34 : lkV RL 34 yX9_distance := ⟨al_mc al_c5 57 rfl (by decide +kernel), al_mc al_c5 58 rfl (by decide +kernel), al_mc al_c5 59 rfl (by decide +kernel), al_mc al_c1 1 rfl (by decide +kernel)⟩
set_option maxRecDepth 20000 in
theorem cd_X9_distance : Cond.code yX9_distance cX9_distance 4 (some .int) ∈ AL := al_mc al_c5 60 rfl (by decide +kernel)
set_option maxRecDepth 20000 in
theorem ml_X9_202 : lkV RX9 202 yX3_stepsBack := ⟨al_mc al_c5 77 rfl (by decide +kernel), al_mc al_c5 78 rfl (by decide +kernel), al_mc al_c5 79 rfl (by decide +kernel), al_mc al_c1 7 rfl (by decide +kernel)⟩
set_option maxRecDepth 20000 in
theorem cd_X3_stepsBack : Cond.code yX3_stepsBack cX3_stepsBack 6 (some .int) ∈ AL := al_mc al_c5 80 rfl (by decide +kernel)
set_option maxRecDepth 20000 in
theorem ml_L_193 : lkS RL 193 yL_closePins := ⟨al_mc al_c5 81 rfl (by decide +kernel), al_mc al_c5 82 rfl (by decide +kernel), al_mc al_c1 0 rfl (by decide +kernel)⟩
set_option maxRecDepth 20000 in
theorem cd_L_closePins : Cond.codeWith yL_closePins cL_closePins 4 (some .int) [(0, 9, 12, 25)] ∈ AL := al_mc al_c5 83 rfl (by decide +kernel)
set_option maxRecDepth 20000 in
theorem ml_L_40 : lkV RL 40 yX9_closePins := ⟨al_mc al_c5 84 rfl (by decide +kernel), al_mc al_c5 85 rfl (by decide +kernel), al_mc al_c5 86 rfl (by decide +kernel), al_mc al_c1 1 rfl (by decide +kernel)⟩
set_option maxRecDepth 20000 in
theorem cd_X9_closePins : Cond.code yX9_closePins cX9_closePins 2 (some .int) ∈ AL := al_mc al_c5 87 rfl (by decide +kernel)
set_option maxRecDepth 20000 in
theorem ml_X9_205 : lkV RX9 205 yX0_closePinsOf := ⟨al_mc al_c5 88 rfl (by decide +kernel), al_mc al_c5 89 rfl (by decide +kernel), al_mc al_c5 90 rfl (by decide +kernel), al_mc al_c1 6 rfl (by decide +kernel)⟩
set_option maxRecDepth 20000 in
theorem cd_X0_closePinsOf : Cond.code yX0_closePinsOf cX0_closePinsOf 5 (some .int) ∈ AL := al_mc al_c5 91 rfl (by decide +kernel)
set_option maxRecDepth 20000 in
theorem ml_X0_141 : lkV RX0 141 yX0_closePinAt := ⟨al_mc al_c5 92 rfl (by decide +kernel), al_mc al_c5 93 rfl (by decide +kernel), al_mc al_c5 94 rfl (by decide +kernel), al_mc al_c1 6 rfl (by decide +kernel)⟩
set_option maxRecDepth 20000 in
theorem cd_X0_closePinAt : Cond.code yX0_closePinAt cX0_closePinAt 4 (some .boolean) ∈ AL := al_mc al_c5 95 rfl (by decide +kernel)
set_option maxRecDepth 20000 in
theorem ml_X0_135 : lkV RX0 135 yX3_stepsBack := ⟨al_mc al_c5 96 rfl (by decide +kernel), al_mc al_c5 78 rfl (by decide +kernel), al_mc al_c5 79 rfl (by decide +kernel), al_mc al_c1 7 rfl (by decide +kernel)⟩
set_option maxRecDepth 20000 in
theorem ml_L_196 : lkS RL 196 yL_longestRest := ⟨al_mc al_c5 97 rfl (by decide +kernel), al_mc al_c5 98 rfl (by decide +kernel), al_mc al_c1 0 rfl (by decide +kernel)⟩
set_option maxRecDepth 20000 in
theorem cd_L_longestRest : Cond.codeWith yL_longestRest cL_longestRest 4 (some .int) [(0, 9, 12, 25)] ∈ AL := al_mc al_c5 99 rfl (by decide +kernel)
set_option maxRecDepth 20000 in
theorem ml_L_43 : lkV RL 43 yX9_longestRest := ⟨al_mc al_c5 100 rfl (by decide +kernel), al_mc al_c5 101 rfl (by decide +kernel), al_mc al_c5 102 rfl (by decide +kernel), al_mc al_c1 1 rfl (by decide +kernel)⟩
set_option maxRecDepth 20000 in
theorem cd_X9_longestRest : Cond.code yX9_longestRest cX9_longestRest 2 (some .int) ∈ AL := al_mc al_c5 103 rfl (by decide +kernel)
set_option maxRecDepth 20000 in
theorem ml_X9_208 : lkV RX9 208 yX3_longestRestOf := ⟨al_mc al_c5 104 rfl (by decide +kernel), al_mc al_c5 105 rfl (by decide +kernel), al_mc al_c5 106 rfl (by decide +kernel), al_mc al_c1 7 rfl (by decide +kernel)⟩
set_option maxRecDepth 20000 in
theorem cd_X3_longestRestOf : Cond.code yX3_longestRestOf cX3_longestRestOf 6 (some .int) ∈ AL := al_mc al_c5 107 rfl (by decide +kernel)
set_option maxRecDepth 20000 in
theorem ml_X3_61 : lkV RX3 61 yX3_teethAt := ⟨al_mc al_c5 108 rfl (by decide +kernel), al_mc al_c5 49 rfl (by decide +kernel), al_mc al_c5 50 rfl (by decide +kernel), al_mc al_c1 7 rfl (by decide +kernel)⟩
set_option maxRecDepth 20000 in
theorem ml_X3_65 : lkS RX3 65 yJ9_max_7cf53 := ⟨al_mc al_c5 109 rfl (by decide +kernel), al_mc al_c1 44 rfl (by decide +kernel), al_mc al_c1 3 rfl (by decide +kernel)⟩
set_option maxRecDepth 20000 in
theorem ml_X3_70 : lkS RX3 70 yJ9_min_7cf53 := ⟨al_mc al_c5 110 rfl (by decide +kernel), al_mc al_c2 125 rfl (by decide +kernel), al_mc al_c1 3 rfl (by decide +kernel)⟩
set_option maxRecDepth 20000 in
theorem ml_L_203 : lkS RL 203 yL_soundingPitch := ⟨al_mc al_c5 111 rfl (by decide +kernel), al_mc al_c5 112 rfl (by decide +kernel), al_mc al_c1 0 rfl (by decide +kernel)⟩
set_option maxRecDepth 20000 in
theorem cd_L_soundingPitch : Cond.codeWith yL_soundingPitch cL_soundingPitch 4 (some .int) [(0, 9, 12, 25)] ∈ AL := al_mc al_c5 113 rfl (by decide +kernel)
set_option maxRecDepth 20000 in
theorem ml_L_46 : lkV RL 46 yX9_soundingPitch := ⟨al_mc al_c5 114 rfl (by decide +kernel), al_mc al_c5 115 rfl (by decide +kernel), al_mc al_c5 116 rfl (by decide +kernel), al_mc al_c1 1 rfl (by decide +kernel)⟩
set_option maxRecDepth 20000 in
theorem cd_X9_soundingPitch : Cond.code yX9_soundingPitch cX9_soundingPitch 2 (some .int) ∈ AL := al_mc al_c5 117 rfl (by decide +kernel)
set_option maxRecDepth 20000 in
theorem ml_X9_214 : lkV RX9 214 yX0_toothFault := ⟨al_mc al_c5 118 rfl (by decide +kernel), al_mc al_c3 154 rfl (by decide +kernel), al_mc al_c3 155 rfl (by decide +kernel), al_mc al_c1 6 rfl (by decide +kernel)⟩
set_option maxRecDepth 20000 in
theorem ml_L_206 : lkS RL 206 yL_bendOf := ⟨al_mc al_c5 119 rfl (by decide +kernel), al_mc al_c5 120 rfl (by decide +kernel), al_mc al_c1 0 rfl (by decide +kernel)⟩
set_option maxRecDepth 20000 in
theorem cd_L_bendOf : Cond.codeWith yL_bendOf cL_bendOf 4 (some .int) [(0, 9, 12, 25)] ∈ AL := al_mc al_c5 121 rfl (by decide +kernel)
set_option maxRecDepth 20000 in
theorem ml_L_49 : lkV RL 49 yX9_bendOf := ⟨al_mc al_c5 122 rfl (by decide +kernel), al_mc al_c5 123 rfl (by decide +kernel), al_mc al_c5 124 rfl (by decide +kernel), al_mc al_c1 1 rfl (by decide +kernel)⟩
set_option maxRecDepth 20000 in
theorem cd_X9_bendOf : Cond.code yX9_bendOf cX9_bendOf 2 (some .int) ∈ AL := al_mc al_c5 125 rfl (by decide +kernel)
set_option maxRecDepth 20000 in
theorem ml_L_209 : lkS RL 209 yL_gap := ⟨al_mc al_c5 126 rfl (by decide +kernel), al_mc al_c5 127 rfl (by decide +kernel), al_mc al_c1 0 rfl (by decide +kernel)⟩
set_option maxRecDepth 20000 in
theorem cd_L_gap : Cond.codeWith yL_gap cL_gap 4 (some .int) [(0, 9, 12, 25)] ∈ AL := al_mc al_c5 128 rfl (by decide +kernel)
set_option maxRecDepth 20000 in
theorem ml_L_52 : lkV RL 52 yX9_gap := ⟨al_mc al_c5 129 rfl (by decide +kernel), al_mc al_c5 130 rfl (by decide +kernel), al_mc al_c5 131 rfl (by decide +kernel), al_mc al_c1 1 rfl (by decide +kernel)⟩
set_option maxRecDepth 20000 in
theorem cd_X9_gap : Cond.code yX9_gap cX9_gap 2 (some .int) ∈ AL := al_mc al_c5 132 rfl (by decide +kernel)
set_option maxRecDepth 20000 in
theorem ml_L_212 : lkS RL 212 yL_wear := ⟨al_mc al_c5 133 rfl (by decide +kernel), al_mc al_c5 134 rfl (by decide +kernel), al_mc al_c1 0 rfl (by decide +kernel)⟩
set_option maxRecDepth 20000 in
theorem cd_L_wear : Cond.codeWith yL_wear cL_wear 4 (some .int) [(0, 9, 12, 25)] ∈ AL := al_mc al_c5 135 rfl (by decide +kernel)
set_option maxRecDepth 20000 in
theorem ml_L_55 : lkV RL 55 yX9_wear := ⟨al_mc al_c5 136 rfl (by decide +kernel), al_mc al_c5 137 rfl (by decide +kernel), al_mc al_c5 138 rfl (by decide +kernel), al_mc al_c1 1 rfl (by decide +kernel)⟩
set_option maxRecDepth 20000 in
theorem cd_X9_wear : Cond.code yX9_wear cX9_wear 2 (some .int) ∈ AL := al_mc al_c5 139 rfl (by decide +kernel)
set_option maxRecDepth 20000 in
theorem ml_L_215 : lkS RL 215 yL_silence := ⟨al_mc al_c5 140 rfl (by decide +kernel), al_mc al_c5 141 rfl (by decide +kernel), al_mc al_c1 0 rfl (by decide +kernel)⟩
set_option maxRecDepth 20000 in
theorem cd_L_silence : Cond.codeWith yL_silence cL_silence 4 (some .int) [(0, 9, 12, 25)] ∈ AL := al_mc al_c5 142 rfl (by decide +kernel)
set_option maxRecDepth 20000 in
theorem ml_L_58 : lkV RL 58 yX9_silence := ⟨al_mc al_c5 143 rfl (by decide +kernel), al_mc al_c5 144 rfl (by decide +kernel), al_mc al_c5 145 rfl (by decide +kernel), al_mc al_c1 1 rfl (by decide +kernel)⟩
set_option maxRecDepth 20000 in
theorem cd_X9_silence : Cond.code yX9_silence cX9_silence 2 (some .int) ∈ AL := al_mc al_c5 146 rfl (by decide +kernel)
set_option maxRecDepth 20000 in
theorem ml_L_218 : lkS RL 218 yL_isBroken := ⟨al_mc al_c5 147 rfl (by decide +kernel), al_mc al_c5 148 rfl (by decide +kernel), al_mc al_c1 0 rfl (by decide +kernel)⟩
set_option maxRecDepth 20000 in
theorem cd_L_isBroken : Cond.codeWith yL_isBroken cL_isBroken 4 (some .int) [(0, 16, 19, 25)] ∈ AL := al_mc al_c5 149 rfl (by decide +kernel)
set_option maxRecDepth 20000 in
theorem ml_L_61 : lkV RL 61 yX9_isBroken := ⟨al_mc al_c5 150 rfl (by decide +kernel), al_mc al_c5 151 rfl (by decide +kernel), al_mc al_c5 152 rfl (by decide +kernel), al_mc al_c1 1 rfl (by decide +kernel)⟩
set_option maxRecDepth 20000 in
theorem cd_X9_isBroken : Cond.code yX9_isBroken cX9_isBroken 2 (some .boolean) ∈ AL := al_mc al_c5 153 rfl (by decide +kernel)
set_option maxRecDepth 20000 in
theorem ml_L_221 : lkS RL 221 yL_nextSound := ⟨al_mc al_c5 154 rfl (by decide +kernel), al_mc al_c5 155 rfl (by decide +kernel), al_mc al_c1 0 rfl (by decide +kernel)⟩
set_option maxRecDepth 20000 in
theorem cd_L_nextSound : Cond.codeWith yL_nextSound cL_nextSound 4 (some .int) [(0, 9, 12, 25)] ∈ AL := al_mc al_c5 156 rfl (by decide +kernel)
set_option maxRecDepth 20000 in
theorem ml_L_65 : lkV RL 65 yX9_nextSound := ⟨al_mc al_c5 157 rfl (by decide +kernel), al_mc al_c5 158 rfl (by decide +kernel), al_mc al_c5 159 rfl (by decide +kernel), al_mc al_c1 1 rfl (by decide +kernel)⟩
set_option maxRecDepth 20000 in
theorem cd_X9_nextSound : Cond.code yX9_nextSound cX9_nextSound 2 (some .int) ∈ AL := al_mc al_c5 160 rfl (by decide +kernel)
set_option maxRecDepth 20000 in
theorem ml_X9_241 : lkV RX9 241 yX0_soundOf := ⟨al_mc al_c5 161 rfl (by decide +kernel), al_mc al_c3 221 rfl (by decide +kernel), al_mc al_c3 222 rfl (by decide +kernel), al_mc al_c1 6 rfl (by decide +kernel)⟩
set_option maxRecDepth 20000 in
theorem ml_L_262 : lkS RL 262 yL_meanPitch := ⟨al_mc al_c5 162 rfl (by decide +kernel), al_mc al_c5 163 rfl (by decide +kernel), al_mc al_c1 0 rfl (by decide +kernel)⟩
set_option maxRecDepth 20000 in
theorem cd_L_meanPitch : Cond.codeWith yL_meanPitch cL_meanPitch 4 (some .int) [(0, 8, 11, 25)] ∈ AL := al_mc al_c5 164 rfl (by decide +kernel)
set_option maxRecDepth 20000 in
theorem ml_L_68 : lkV RL 68 yX9_meanPitch := ⟨al_mc al_c5 165 rfl (by decide +kernel), al_mc al_c5 166 rfl (by decide +kernel), al_mc al_c5 167 rfl (by decide +kernel), al_mc al_c1 1 rfl (by decide +kernel)⟩
set_option maxRecDepth 20000 in
theorem cd_X9_meanPitch : Cond.code yX9_meanPitch cX9_meanPitch 3 (some .double) ∈ AL := al_mc al_c5 168 rfl (by decide +kernel)
set_option maxRecDepth 20000 in
theorem ml_X9_281 : lkV RX9 281 yX0_pitchSum := ⟨al_mc al_c5 169 rfl (by decide +kernel), al_mc al_c5 170 rfl (by decide +kernel), al_mc al_c5 171 rfl (by decide +kernel), al_mc al_c1 6 rfl (by decide +kernel)⟩
set_option maxRecDepth 20000 in
theorem cd_X0_pitchSum : Cond.code yX0_pitchSum cX0_pitchSum 4 (some .int) ∈ AL := al_mc al_c5 172 rfl (by decide +kernel)
set_option maxRecDepth 20000 in
theorem ml_X0_91 : lkV RX0 91 yX3_row := ⟨al_mc al_c5 173 rfl (by decide +kernel), al_mc al_c2 215 rfl (by decide +kernel), al_mc al_c2 216 rfl (by decide +kernel), al_mc al_c1 7 rfl (by decide +kernel)⟩
set_option maxRecDepth 20000 in
theorem ml_X0_144 : lkS RX0 144 yJ13_bitCount_95d88 := ⟨al_mc al_c5 174 rfl (by decide +kernel), al_mc al_c5 34 rfl (by decide +kernel), al_mc al_c1 26 rfl (by decide +kernel)⟩
set_option maxRecDepth 20000 in
theorem ml_X0_150 : lkV RX0 150 yX8_pitchNow := ⟨al_mc al_c5 175 rfl (by decide +kernel), al_mc al_c4 106 rfl (by decide +kernel), al_mc al_c4 107 rfl (by decide +kernel), al_mc al_c1 8 rfl (by decide +kernel)⟩
set_option maxRecDepth 20000 in
theorem ml_L_266 : lkS RL 266 yL_density := ⟨al_mc al_c5 176 rfl (by decide +kernel), al_mc al_c5 177 rfl (by decide +kernel), al_mc al_c1 0 rfl (by decide +kernel)⟩
set_option maxRecDepth 20000 in
theorem cd_L_density : Cond.codeWith yL_density cL_density 4 (some .int) [(0, 9, 12, 25)] ∈ AL := al_mc al_c5 178 rfl (by decide +kernel)
set_option maxRecDepth 20000 in
theorem ml_L_72 : lkV RL 72 yX9_density := ⟨al_mc al_c5 179 rfl (by decide +kernel), al_mc al_c5 180 rfl (by decide +kernel), al_mc al_c5 181 rfl (by decide +kernel), al_mc al_c1 1 rfl (by decide +kernel)⟩
set_option maxRecDepth 20000 in
theorem cd_X9_density : Cond.code yX9_density cX9_density 3 (some .float) ∈ AL := al_mc al_c5 182 rfl (by decide +kernel)
set_option maxRecDepth 20000 in
theorem ml_L_277 : lkS RL 277 yL_stepsUntilBroken := ⟨al_mc al_c5 183 rfl (by decide +kernel), al_mc al_c5 184 rfl (by decide +kernel), al_mc al_c1 0 rfl (by decide +kernel)⟩
set_option maxRecDepth 20000 in
theorem cd_L_stepsUntilBroken : Cond.codeWith yL_stepsUntilBroken cL_stepsUntilBroken 4 (some .int) [(0, 9, 12, 25)] ∈ AL := al_mc al_c5 185 rfl (by decide +kernel)
set_option maxRecDepth 20000 in
theorem ml_L_76 : lkV RL 76 yX9_stepsUntilBroken := ⟨al_mc al_c5 186 rfl (by decide +kernel), al_mc al_c5 187 rfl (by decide +kernel), al_mc al_c5 188 rfl (by decide +kernel), al_mc al_c1 1 rfl (by decide +kernel)⟩
set_option maxRecDepth 20000 in
theorem cd_X9_stepsUntilBroken : Cond.code yX9_stepsUntilBroken cX9_stepsUntilBroken 4 (some .int) ∈ AL := al_mc al_c5 189 rfl (by decide +kernel)
set_option maxRecDepth 20000 in
theorem ml_X9_293 : lkV RX9 293 yX0_playSteps := ⟨al_mc al_c5 190 rfl (by decide +kernel), al_mc al_c3 213 rfl (by decide +kernel), al_mc al_c3 214 rfl (by decide +kernel), al_mc al_c1 6 rfl (by decide +kernel)⟩
set_option maxRecDepth 20000 in
theorem ml_L_280 : lkS RL 280 yL_notesIn := ⟨al_mc al_c5 191 rfl (by decide +kernel), al_mc al_c5 192 rfl (by decide +kernel), al_mc al_c1 0 rfl (by decide +kernel)⟩
set_option maxRecDepth 20000 in
theorem cd_L_notesIn : Cond.codeWith yL_notesIn cL_notesIn 4 (some .int) [(0, 9, 12, 19)] ∈ AL := al_mc al_c5 193 rfl (by decide +kernel)
set_option maxRecDepth 20000 in
theorem ml_L_79 : lkV RL 79 yX9_notesIn := ⟨al_mc al_c5 194 rfl (by decide +kernel), al_mc al_c5 195 rfl (by decide +kernel), al_mc al_c5 196 rfl (by decide +kernel), al_mc al_c1 1 rfl (by decide +kernel)⟩
set_option maxRecDepth 20000 in
theorem cd_X9_notesIn : Cond.code yX9_notesIn cX9_notesIn 2 (some .int) ∈ AL := al_mc al_c5 197 rfl (by decide +kernel)
set_option maxRecDepth 20000 in
theorem ml_X9_296 : lkS RX9 296 yX9_rangeFault := ⟨al_mc al_c5 198 rfl (by decide +kernel), al_mc al_c3 172 rfl (by decide +kernel), al_mc al_c1 1 rfl (by decide +kernel)⟩
set_option maxRecDepth 20000 in
theorem ml_L_283 : lkS RL 283 yL_squeaksIn := ⟨al_mc al_c5 199 rfl (by decide +kernel), al_mc al_c5 200 rfl (by decide +kernel), al_mc al_c1 0 rfl (by decide +kernel)⟩
set_option maxRecDepth 20000 in
theorem cd_L_squeaksIn : Cond.codeWith yL_squeaksIn cL_squeaksIn 4 (some .int) [(0, 9, 12, 19)] ∈ AL := al_mc al_c5 201 rfl (by decide +kernel)
set_option maxRecDepth 20000 in
theorem ml_L_82 : lkV RL 82 yX9_squeaksIn := ⟨al_mc al_c5 202 rfl (by decide +kernel), al_mc al_c5 203 rfl (by decide +kernel), al_mc al_c5 204 rfl (by decide +kernel), al_mc al_c1 1 rfl (by decide +kernel)⟩
set_option maxRecDepth 20000 in
theorem cd_X9_squeaksIn : Cond.code yX9_squeaksIn cX9_squeaksIn 2 (some .int) ∈ AL := al_mc al_c5 205 rfl (by decide +kernel)
set_option maxRecDepth 20000 in
theorem ml_L_286 : lkS RL 286 yL_addPin := ⟨al_mc al_c5 206 rfl (by decide +kernel), al_mc al_c5 207 rfl (by decide +kernel), al_mc al_c1 0 rfl (by decide +kernel)⟩
set_option maxRecDepth 20000 in
theorem cd_L_addPin : Cond.codeWith yL_addPin cL_addPin 6 (some .int) [(0, 12, 15, 25), (0, 12, 19, 13)] ∈ AL := al_mc al_c5 208 rfl (by decide +kernel)
set_option maxRecDepth 20000 in
theorem ml_L_85 : lkV RL 85 yX9_addPin := ⟨al_mc al_c5 209 rfl (by decide +kernel), al_mc al_c5 210 rfl (by decide +kernel), al_mc al_c5 211 rfl (by decide +kernel), al_mc al_c1 1 rfl (by decide +kernel)⟩
set_option maxRecDepth 20000 in
theorem cd_X9_addPin : Cond.code yX9_addPin cX9_addPin 4 (some .int) ∈ AL := al_mc al_c5 212 rfl (by decide +kernel)
set_option maxRecDepth 20000 in
theorem ml_X9_299 : lkV RX9 299 yX0_putPinFault := ⟨al_mc al_c5 213 rfl (by decide +kernel), al_mc al_c3 142 rfl (by decide +kernel), al_mc al_c3 143 rfl (by decide +kernel), al_mc al_c1 6 rfl (by decide +kernel)⟩
set_option maxRecDepth 20000 in
theorem ml_X9_302 : lkV RX9 302 yX3_putPin := ⟨al_mc al_c5 214 rfl (by decide +kernel), al_mc al_c2 211 rfl (by decide +kernel), al_mc al_c2 212 rfl (by decide +kernel), al_mc al_c1 7 rfl (by decide +kernel)⟩
set_option maxRecDepth 20000 in
theorem ml_L_289 : lkS RL 289 yL_removePin := ⟨al_mc al_c5 215 rfl (by decide +kernel), al_mc al_c5 216 rfl (by decide +kernel), al_mc al_c1 0 rfl (by decide +kernel)⟩
set_option maxRecDepth 20000 in
theorem cd_L_removePin : Cond.codeWith yL_removePin cL_removePin 6 (some .int) [(0, 12, 15, 25), (0, 12, 19, 13)] ∈ AL := al_mc al_c5 217 rfl (by decide +kernel)
set_option maxRecDepth 20000 in
theorem ml_L_88 : lkV RL 88 yX9_removePin := ⟨al_mc al_c5 218 rfl (by decide +kernel), al_mc al_c5 219 rfl (by decide +kernel), al_mc al_c5 220 rfl (by decide +kernel), al_mc al_c1 1 rfl (by decide +kernel)⟩
set_option maxRecDepth 20000 in
theorem cd_X9_removePin : Cond.code yX9_removePin cX9_removePin 4 (some .int) ∈ AL := al_mc al_c5 221 rfl (by decide +kernel)
set_option maxRecDepth 20000 in
theorem ml_X9_306 : lkV RX9 306 yX0_takePinFault := ⟨al_mc al_c5 222 rfl (by decide +kernel), al_mc al_c3 164 rfl (by decide +kernel), al_mc al_c3 165 rfl (by decide +kernel), al_mc al_c1 6 rfl (by decide +kernel)⟩
set_option maxRecDepth 20000 in
theorem ml_X9_309 : lkV RX9 309 yX3_takePin := ⟨al_mc al_c5 223 rfl (by decide +kernel), al_mc al_c3 199 rfl (by decide +kernel), al_mc al_c3 200 rfl (by decide +kernel), al_mc al_c1 7 rfl (by decide +kernel)⟩
set_option maxRecDepth 20000 in
theorem ml_L_292 : lkS RL 292 yL_shift := ⟨al_mc al_c5 224 rfl (by decide +kernel), al_mc al_c5 225 rfl (by decide +kernel), al_mc al_c1 0 rfl (by decide +kernel)⟩
set_option maxRecDepth 20000 in
theorem cd_L_shift : Cond.codeWith yL_shift cL_shift 5 (some .int) [(0, 10, 13, 25), (0, 10, 17, 19)] ∈ AL := al_mc al_c5 226 rfl (by decide +kernel)
set_option maxRecDepth 20000 in
theorem ml_L_91 : lkV RL 91 yX9_shift := ⟨al_mc al_c5 227 rfl (by decide +kernel), al_mc al_c5 228 rfl (by decide +kernel), al_mc al_c5 229 rfl (by decide +kernel), al_mc al_c1 1 rfl (by decide +kernel)⟩
set_option maxRecDepth 20000 in
theorem cd_X9_shift : Cond.code yX9_shift cX9_shift 3 (some .int) ∈ AL := al_mc al_c5 230 rfl (by decide +kernel)
set_option maxRecDepth 20000 in
theorem ml_X9_312 : lkV RX9 312 yX3_turnPins := ⟨al_mc al_c5 231 rfl (by decide +kernel), al_mc al_c5 232 rfl (by decide +kernel), al_mc al_c5 233 rfl (by decide +kernel), al_mc al_c1 7 rfl (by decide +kernel)⟩
set_option maxRecDepth 20000 in
theorem cd_X3_turnPins : Cond.code yX3_turnPins cX3_turnPins 5 none ∈ AL := al_mc al_c5 234 rfl (by decide +kernel)
set_option maxRecDepth 20000 in
theorem ml_X3_73 : lkS RX3 73 yJ9_floorMod_7cf53 := ⟨al_mc al_c5 235 rfl (by decide +kernel), al_mc al_c5 236 rfl (by decide +kernel), al_mc al_c1 3 rfl (by decide +kernel)⟩
set_option maxRecDepth 20000 in
theorem cd_J9_floorMod_7cf53 : Cond.code yJ9_floorMod_7cf53 cJ9_floorMod_7cf53 3 (some .int) ∈ AL := al_mc al_c5 237 rfl (by decide +kernel)
set_option maxRecDepth 20000 in
theorem ml_X3_76 : lkV RX3 76 yX3_turnedRow := ⟨al_mc al_c5 238 rfl (by decide +kernel), al_mc al_c5 239 rfl (by decide +kernel), al_mc al_c6 0 rfl (by decide +kernel), al_mc al_c1 7 rfl (by decide +kernel)⟩
set_option maxRecDepth 20000 in
theorem cd_X3_turnedRow : Cond.code yX3_turnedRow cX3_turnedRow 8 (some .long) ∈ AL := al_mc al_c6 1 rfl (by decide +kernel)
set_option maxRecDepth 20000 in
theorem ml_L_295 : lkS RL 295 yL_transpose := ⟨al_mc al_c6 2 rfl (by decide +kernel), al_mc al_c6 3 rfl (by decide +kernel), al_mc al_c1 0 rfl (by decide +kernel)⟩
set_option maxRecDepth 20000 in
theorem cd_L_transpose : Cond.codeWith yL_transpose cL_transpose 5 (some .int) [(0, 10, 13, 25), (0, 10, 17, 19), (0, 10, 21, 13)] ∈ AL := al_mc al_c6 4 rfl (by decide +kernel)
set_option maxRecDepth 20000 in
theorem ml_L_94 : lkV RL 94 yX9_transpose := ⟨al_mc al_c6 5 rfl (by decide +kernel), al_mc al_c6 6 rfl (by decide +kernel), al_mc al_c6 7 rfl (by decide +kernel), al_mc al_c1 1 rfl (by decide +kernel)⟩
set_option maxRecDepth 20000 in
theorem cd_X9_transpose : Cond.code yX9_transpose cX9_transpose 3 (some .int) ∈ AL := al_mc al_c6 8 rfl (by decide +kernel)
set_option maxRecDepth 20000 in
theorem ml_X9_316 : lkV RX9 316 yX0_movePinsFault := ⟨al_mc al_c6 9 rfl (by decide +kernel), al_mc al_c6 10 rfl (by decide +kernel), al_mc al_c6 11 rfl (by decide +kernel), al_mc al_c1 6 rfl (by decide +kernel)⟩
set_option maxRecDepth 20000 in
theorem cd_X0_movePinsFault : Cond.code yX0_movePinsFault cX0_movePinsFault 4 (some .int) ∈ AL := al_mc al_c6 12 rfl (by decide +kernel)
set_option maxRecDepth 20000 in
theorem ml_X9_319 : lkV RX9 319 yX3_movePins := ⟨al_mc al_c6 13 rfl (by decide +kernel), al_mc al_c6 14 rfl (by decide +kernel), al_mc al_c6 15 rfl (by decide +kernel), al_mc al_c1 7 rfl (by decide +kernel)⟩
set_option maxRecDepth 20000 in
theorem cd_X3_movePins : Cond.code yX3_movePins cX3_movePins 5 none ∈ AL := al_mc al_c6 16 rfl (by decide +kernel)
set_option maxRecDepth 20000 in
theorem ml_L_298 : lkS RL 298 yL_copyTune := ⟨al_mc al_c6 17 rfl (by decide +kernel), al_mc al_c6 18 rfl (by decide +kernel), al_mc al_c1 0 rfl (by decide +kernel)⟩
set_option maxRecDepth 20000 in
theorem cd_L_copyTune : Cond.codeWith yL_copyTune cL_copyTune 5 (some .int) [(0, 10, 13, 25), (0, 10, 17, 19)] ∈ AL := al_mc al_c6 19 rfl (by decide +kernel)
set_option maxRecDepth 20000 in
theorem ml_L_97 : lkV RL 97 yX9_copyTune := ⟨al_mc al_c6 20 rfl (by decide +kernel), al_mc al_c6 21 rfl (by decide +kernel), al_mc al_c6 22 rfl (by decide +kernel), al_mc al_c1 1 rfl (by decide +kernel)⟩
set_option maxRecDepth 20000 in
theorem cd_X9_copyTune : Cond.code yX9_copyTune cX9_copyTune 3 (some .int) ∈ AL := al_mc al_c6 23 rfl (by decide +kernel)
set_option maxRecDepth 20000 in
theorem ml_X9_322 : lkV RX9 322 yX3_copyPins := ⟨al_mc al_c6 24 rfl (by decide +kernel), al_mc al_c6 25 rfl (by decide +kernel), al_mc al_c6 26 rfl (by decide +kernel), al_mc al_c1 7 rfl (by decide +kernel)⟩
set_option maxRecDepth 20000 in
theorem cd_X3_copyPins : Cond.code yX3_copyPins cX3_copyPins 4 none ∈ AL := al_mc al_c6 27 rfl (by decide +kernel)
set_option maxRecDepth 20000 in
theorem ml_L_301 : lkS RL 301 yL_selectTune := ⟨al_mc al_c6 28 rfl (by decide +kernel), al_mc al_c6 29 rfl (by decide +kernel), al_mc al_c1 0 rfl (by decide +kernel)⟩
set_option maxRecDepth 20000 in
theorem cd_L_selectTune : Cond.codeWith yL_selectTune cL_selectTune 4 (some .int) [(0, 9, 12, 25)] ∈ AL := al_mc al_c6 30 rfl (by decide +kernel)
set_option maxRecDepth 20000 in
theorem ml_L_100 : lkV RL 100 yX9_selectTune := ⟨al_mc al_c6 31 rfl (by decide +kernel), al_mc al_c6 32 rfl (by decide +kernel), al_mc al_c6 33 rfl (by decide +kernel), al_mc al_c1 1 rfl (by decide +kernel)⟩
set_option maxRecDepth 20000 in
theorem cd_X9_selectTune : Cond.code yX9_selectTune cX9_selectTune 3 (some .int) ∈ AL := al_mc al_c6 34 rfl (by decide +kernel)
set_option maxRecDepth 20000 in
theorem ml_L_304 : lkS RL 304 yL_setGap := ⟨al_mc al_c6 35 rfl (by decide +kernel), al_mc al_c6 36 rfl (by decide +kernel), al_mc al_c1 0 rfl (by decide +kernel)⟩
set_option maxRecDepth 20000 in
theorem cd_L_setGap : Cond.codeWith yL_setGap cL_setGap 5 (some .int) [(0, 10, 13, 25), (0, 10, 17, 19)] ∈ AL := al_mc al_c6 37 rfl (by decide +kernel)
set_option maxRecDepth 20000 in
theorem ml_L_103 : lkV RL 103 yX9_setGap := ⟨al_mc al_c6 38 rfl (by decide +kernel), al_mc al_c6 39 rfl (by decide +kernel), al_mc al_c6 40 rfl (by decide +kernel), al_mc al_c1 1 rfl (by decide +kernel)⟩
set_option maxRecDepth 20000 in
theorem cd_X9_setGap : Cond.code yX9_setGap cX9_setGap 4 (some .int) ∈ AL := al_mc al_c6 41 rfl (by decide +kernel)
set_option maxRecDepth 20000 in
theorem ml_X9_325 : lkV RX9 325 yX0_gapFault := ⟨al_mc al_c6 42 rfl (by decide +kernel), al_mc al_c3 168 rfl (by decide +kernel), al_mc al_c3 169 rfl (by decide +kernel), al_mc al_c1 6 rfl (by decide +kernel)⟩
set_option maxRecDepth 20000 in
theorem ml_L_307 : lkS RL 307 yL_bend := ⟨al_mc al_c6 43 rfl (by decide +kernel), al_mc al_c6 44 rfl (by decide +kernel), al_mc al_c1 0 rfl (by decide +kernel)⟩
set_option maxRecDepth 20000 in
theorem cd_L_bend : Cond.codeWith yL_bend cL_bend 5 (some .int) [(0, 10, 13, 25), (0, 10, 17, 19), (0, 10, 21, 13)] ∈ AL := al_mc al_c6 45 rfl (by decide +kernel)
set_option maxRecDepth 20000 in
theorem ml_L_106 : lkV RL 106 yX9_bend := ⟨al_mc al_c6 46 rfl (by decide +kernel), al_mc al_c6 47 rfl (by decide +kernel), al_mc al_c6 48 rfl (by decide +kernel), al_mc al_c1 1 rfl (by decide +kernel)⟩
set_option maxRecDepth 20000 in
theorem cd_X9_bend : Cond.code yX9_bend cX9_bend 3 (some .int) ∈ AL := al_mc al_c6 49 rfl (by decide +kernel)
set_option maxRecDepth 20000 in
theorem ml_X9_328 : lkV RX9 328 yX0_bendFault := ⟨al_mc al_c6 50 rfl (by decide +kernel), al_mc al_c3 175 rfl (by decide +kernel), al_mc al_c3 176 rfl (by decide +kernel), al_mc al_c1 6 rfl (by decide +kernel)⟩
set_option maxRecDepth 20000 in
theorem ml_X9_331 : lkV RX9 331 yX0_bendTooth := ⟨al_mc al_c6 51 rfl (by decide +kernel), al_mc al_c3 204 rfl (by decide +kernel), al_mc al_c3 205 rfl (by decide +kernel), al_mc al_c1 6 rfl (by decide +kernel)⟩
set_option maxRecDepth 20000 in
theorem ml_L_310 : lkS RL 310 yL_replaceTooth := ⟨al_mc al_c6 52 rfl (by decide +kernel), al_mc al_c6 53 rfl (by decide +kernel), al_mc al_c1 0 rfl (by decide +kernel)⟩
set_option maxRecDepth 20000 in
theorem cd_L_replaceTooth : Cond.codeWith yL_replaceTooth cL_replaceTooth 4 (some .int) [(0, 9, 12, 25)] ∈ AL := al_mc al_c6 54 rfl (by decide +kernel)
set_option maxRecDepth 20000 in
theorem ml_L_109 : lkV RL 109 yX9_replaceTooth := ⟨al_mc al_c6 55 rfl (by decide +kernel), al_mc al_c6 56 rfl (by decide +kernel), al_mc al_c6 57 rfl (by decide +kernel), al_mc al_c1 1 rfl (by decide +kernel)⟩
set_option maxRecDepth 20000 in
theorem cd_X9_replaceTooth : Cond.code yX9_replaceTooth cX9_replaceTooth 3 (some .int) ∈ AL := al_mc al_c6 58 rfl (by decide +kernel)
set_option maxRecDepth 20000 in
theorem ml_X9_334 : lkV RX9 334 yX0_mendTooth := ⟨al_mc al_c6 59 rfl (by decide +kernel), al_mc al_c3 208 rfl (by decide +kernel), al_mc al_c3 209 rfl (by decide +kernel), al_mc al_c1 6 rfl (by decide +kernel)⟩
set_option maxRecDepth 20000 in
theorem ml_L_313 : lkS RL 313 yL_setVane := ⟨al_mc al_c6 60 rfl (by decide +kernel), al_mc al_c6 61 rfl (by decide +kernel), al_mc al_c1 0 rfl (by decide +kernel)⟩
set_option maxRecDepth 20000 in
theorem cd_L_setVane : Cond.codeWith yL_setVane cL_setVane 4 (some .int) [(0, 9, 12, 19)] ∈ AL := al_mc al_c6 62 rfl (by decide +kernel)
set_option maxRecDepth 20000 in
theorem ml_L_112 : lkV RL 112 yX9_setVane := ⟨al_mc al_c6 63 rfl (by decide +kernel), al_mc al_c6 64 rfl (by decide +kernel), al_mc al_c6 65 rfl (by decide +kernel), al_mc al_c1 1 rfl (by decide +kernel)⟩
set_option maxRecDepth 20000 in
theorem cd_X9_setVane : Cond.code yX9_setVane cX9_setVane 3 (some .int) ∈ AL := al_mc al_c6 66 rfl (by decide +kernel)
set_option maxRecDepth 20000 in
theorem ml_L_316 : lkS RL 316 yL_wind := ⟨al_mc al_c6 67 rfl (by decide +kernel), al_mc al_c6 68 rfl (by decide +kernel), al_mc al_c1 0 rfl (by decide +kernel)⟩
set_option maxRecDepth 20000 in
theorem cd_L_wind : Cond.codeWith yL_wind cL_wind 4 (some .int) [(0, 9, 12, 19), (0, 9, 15, 13)] ∈ AL := al_mc al_c6 69 rfl (by decide +kernel)
set_option maxRecDepth 20000 in
theorem ml_L_115 : lkV RL 115 yX9_wind := ⟨al_mc al_c6 70 rfl (by decide +kernel), al_mc al_c6 71 rfl (by decide +kernel), al_mc al_c6 72 rfl (by decide +kernel), al_mc al_c1 1 rfl (by decide +kernel)⟩
set_option maxRecDepth 20000 in
theorem cd_X9_wind : Cond.code yX9_wind cX9_wind 2 (some .int) ∈ AL := al_mc al_c6 73 rfl (by decide +kernel)
set_option maxRecDepth 20000 in
theorem ml_X9_337 : lkV RX9 337 yX0_windFault := ⟨al_mc al_c6 74 rfl (by decide +kernel), al_mc al_c3 185 rfl (by decide +kernel), al_mc al_c3 186 rfl (by decide +kernel), al_mc al_c1 6 rfl (by decide +kernel)⟩
set_option maxRecDepth 20000 in
theorem ml_L_319 : lkS RL 319 yL_play := ⟨al_mc al_c6 75 rfl (by decide +kernel), al_mc al_c6 76 rfl (by decide +kernel), al_mc al_c1 0 rfl (by decide +kernel)⟩
set_option maxRecDepth 20000 in
theorem cd_L_play : Cond.codeWith yL_play cL_play 4 (some .int) [(0, 9, 12, 19), (0, 9, 15, 13)] ∈ AL := al_mc al_c6 77 rfl (by decide +kernel)
set_option maxRecDepth 20000 in
theorem ml_L_118 : lkV RL 118 yX9_play := ⟨al_mc al_c6 78 rfl (by decide +kernel), al_mc al_c6 79 rfl (by decide +kernel), al_mc al_c6 80 rfl (by decide +kernel), al_mc al_c1 1 rfl (by decide +kernel)⟩
set_option maxRecDepth 20000 in
theorem cd_X9_play : Cond.code yX9_play cX9_play 2 (some .int) ∈ AL := al_mc al_c6 81 rfl (by decide +kernel)
set_option maxRecDepth 20000 in
theorem ml_X9_340 : lkV RX9 340 yX0_playFault := ⟨al_mc al_c6 82 rfl (by decide +kernel), al_mc al_c3 190 rfl (by decide +kernel), al_mc al_c3 191 rfl (by decide +kernel), al_mc al_c1 6 rfl (by decide +kernel)⟩
set_option maxRecDepth 20000 in
theorem ml_L_322 : lkS RL 322 yL_writePins := ⟨al_mc al_c6 83 rfl (by decide +kernel), al_mc al_c6 84 rfl (by decide +kernel), al_mc al_c1 0 rfl (by decide +kernel)⟩
set_option maxRecDepth 20000 in
theorem cd_L_writePins : Cond.codeWith yL_writePins cL_writePins 5 (some .int) [(0, 10, 13, 25)] ∈ AL := al_mc al_c6 85 rfl (by decide +kernel)
set_option maxRecDepth 20000 in
theorem ml_L_121 : lkV RL 121 yX9_writePins := ⟨al_mc al_c6 86 rfl (by decide +kernel), al_mc al_c6 87 rfl (by decide +kernel), al_mc al_c6 88 rfl (by decide +kernel), al_mc al_c1 1 rfl (by decide +kernel)⟩
set_option maxRecDepth 20000 in
theorem cd_X9_writePins : Cond.code yX9_writePins cX9_writePins 4 (some .int) ∈ AL := al_mc al_c6 89 rfl (by decide +kernel)
set_option maxRecDepth 20000 in
theorem ml_X9_343 : lkV RX9 343 yX0_closePinAt := ⟨al_mc al_c6 90 rfl (by decide +kernel), al_mc al_c5 93 rfl (by decide +kernel), al_mc al_c5 94 rfl (by decide +kernel), al_mc al_c1 6 rfl (by decide +kernel)⟩
set_option maxRecDepth 20000 in
theorem ml_L_337 : lkS RL 337 yL_undo := ⟨al_mc al_c6 91 rfl (by decide +kernel), al_mc al_c6 92 rfl (by decide +kernel), al_mc al_c1 0 rfl (by decide +kernel)⟩
set_option maxRecDepth 20000 in
theorem cd_L_undo : Cond.codeWith yL_undo cL_undo 3 (some .int) [(0, 8, 11, 13)] ∈ AL := al_mc al_c6 93 rfl (by decide +kernel)
set_option maxRecDepth 20000 in
theorem ml_L_124 : lkV RL 124 yX9_undo := ⟨al_mc al_c6 94 rfl (by decide +kernel), al_mc al_c6 95 rfl (by decide +kernel), al_mc al_c6 96 rfl (by decide +kernel), al_mc al_c1 1 rfl (by decide +kernel)⟩
set_option maxRecDepth 20000 in
theorem cd_X9_undo : Cond.code yX9_undo cX9_undo 1 (some .int) ∈ AL := al_mc al_c6 97 rfl (by decide +kernel)
set_option maxRecDepth 20000 in
theorem ml_X9_355 : lkV RX9 355 yX2_takeBack := ⟨al_mc al_c6 98 rfl (by decide +kernel), al_mc al_c6 99 rfl (by decide +kernel), al_mc al_c6 100 rfl (by decide +kernel), al_mc al_c1 11 rfl (by decide +kernel)⟩
set_option maxRecDepth 20000 in
theorem cd_X2_takeBack : Cond.code yX2_takeBack cX2_takeBack 2 none ∈ AL := al_mc al_c6 101 rfl (by decide +kernel)
set_option maxRecDepth 20000 in
theorem ml_L_341 : lkS RL 341 yL_save := ⟨al_mc al_c6 102 rfl (by decide +kernel), al_mc al_c6 103 rfl (by decide +kernel), al_mc al_c1 0 rfl (by decide +kernel)⟩
set_option maxRecDepth 20000 in
theorem cd_L_save : Cond.codeWith yL_save cL_save 4 (some .int) [(0, 9, 12, 25)] ∈ AL := al_mc al_c6 104 rfl (by decide +kernel)
set_option maxRecDepth 20000 in
theorem ml_L_128 : lkV RL 128 yX9_save := ⟨al_mc al_c6 105 rfl (by decide +kernel), al_mc al_c6 106 rfl (by decide +kernel), al_mc al_c6 107 rfl (by decide +kernel), al_mc al_c1 1 rfl (by decide +kernel)⟩
set_option maxRecDepth 20000 in
theorem cd_X9_save : Cond.code yX9_save cX9_save 2 (some .int) ∈ AL := al_mc al_c6 108 rfl (by decide +kernel)
set_option maxRecDepth 20000 in
theorem ml_X9_358 : lkS RX9 358 yX9_slotFault := ⟨al_mc al_c6 109 rfl (by decide +kernel), al_mc al_c6 110 rfl (by decide +kernel), al_mc al_c1 1 rfl (by decide +kernel)⟩
set_option maxRecDepth 20000 in
theorem cd_X9_slotFault : Cond.code yX9_slotFault cX9_slotFault 1 (some .int) ∈ AL := al_mc al_c6 111 rfl (by decide +kernel)
set_option maxRecDepth 20000 in
theorem ml_L_344 : lkS RL 344 yL_restore := ⟨al_mc al_c6 112 rfl (by decide +kernel), al_mc al_c6 113 rfl (by decide +kernel), al_mc al_c1 0 rfl (by decide +kernel)⟩
set_option maxRecDepth 20000 in
theorem cd_L_restore : Cond.codeWith yL_restore cL_restore 4 (some .int) [(0, 9, 12, 25), (0, 9, 15, 38)] ∈ AL := al_mc al_c6 114 rfl (by decide +kernel)
set_option maxRecDepth 20000 in
theorem ml_L_131 : lkV RL 131 yX9_restore := ⟨al_mc al_c6 115 rfl (by decide +kernel), al_mc al_c6 116 rfl (by decide +kernel), al_mc al_c6 117 rfl (by decide +kernel), al_mc al_c1 1 rfl (by decide +kernel)⟩
set_option maxRecDepth 20000 in
theorem cd_X9_restore : Cond.code yX9_restore cX9_restore 2 (some .int) ∈ AL := al_mc al_c6 118 rfl (by decide +kernel)
set_option maxRecDepth 20000 in
theorem ml_L_137 : lkI RL 137 yX10_init := ⟨al_mc al_c6 122 rfl (by decide +kernel), al_mc al_c6 123 rfl (by decide +kernel), al_mc al_c1 18 rfl (by decide +kernel)⟩
set_option maxRecDepth 20000 in
theorem cd_X10_init : Cond.code yX10_init cX10_init 1 none ∈ AL := al_mc al_c6 124 rfl (by decide +kernel)
set_option maxRecDepth 20000 in
theorem ml_X10_56 : lkV RX10 56 yX10_takesText := ⟨al_mc al_c6 127 rfl (by decide +kernel), al_mc al_c6 129 rfl (by decide +kernel), al_mem 6 (by decide +kernel) (by decide +kernel), al_mc al_c1 18 rfl (by decide +kernel)⟩
set_option maxRecDepth 20000 in
theorem cd_X10_takesText : Cond.code yX10_takesText cX10_takesText 3 none ∈ AL := al_mc al_c6 130 rfl (by decide +kernel)
set_option maxRecDepth 20000 in
theorem ml_X10_60 : lkV RX10 60 yJ0_length_8abf5 := ⟨al_mc al_c6 131 rfl (by decide +kernel), al_mc al_c2 45 rfl (by decide +kernel), al_mc al_c2 46 rfl (by decide +kernel), al_mc al_c1 12 rfl (by decide +kernel)⟩
set_option maxRecDepth 20000 in
theorem ml_X10_66 : lkV RX10 66 yJ0_charAt_5068e := ⟨al_mc al_c6 132 rfl (by decide +kernel), al_mc al_c2 55 rfl (by decide +kernel), al_mc al_c2 56 rfl (by decide +kernel), al_mc al_c1 12 rfl (by decide +kernel)⟩
set_option maxRecDepth 20000 in
theorem ml_X10_73 : lkV RX10 73 yX10_starts := ⟨al_mc al_c6 133 rfl (by decide +kernel), al_mc al_c6 135 rfl (by decide +kernel), al_mem 7 (by decide +kernel) (by decide +kernel), al_mc al_c1 18 rfl (by decide +kernel)⟩
set_option maxRecDepth 20000 in
theorem cd_X10_starts : Cond.code yX10_starts cX10_starts 1 none ∈ AL := al_mc al_c6 136 rfl (by decide +kernel)
set_option maxRecDepth 20000 in
theorem ml_X10_155 : lkV RX10 155 yX10_reads := ⟨al_mc al_c6 137 rfl (by decide +kernel), al_mc al_c6 139 rfl (by decide +kernel), al_mem 8 (by decide +kernel) (by decide +kernel), al_mc al_c1 18 rfl (by decide +kernel)⟩
set_option maxRecDepth 20000 in
theorem cd_X10_reads : Cond.code yX10_reads cX10_reads 2 none ∈ AL := al_mc al_c6 140 rfl (by decide +kernel)
set_option maxRecDepth 20000 in
theorem ml_X10_137 : lkV RX10 137 yX10_seen := ⟨al_mc al_c6 141 rfl (by decide +kernel), al_mc al_c6 143 rfl (by decide +kernel), al_mem 9 (by decide +kernel) (by decide +kernel), al_mc al_c1 18 rfl (by decide +kernel)⟩
set_option maxRecDepth 20000 in
theorem cd_X10_seen : Cond.code yX10_seen cX10_seen 2 (some .int) ∈ AL := al_mc al_c6 144 rfl (by decide +kernel)
set_option maxRecDepth 20000 in
theorem ml_X10_82 : lkS RX10 82 yX10_in := ⟨al_mc al_c6 145 rfl (by decide +kernel), al_mc al_c6 146 rfl (by decide +kernel), al_mc al_c1 18 rfl (by decide +kernel)⟩
set_option maxRecDepth 20000 in
theorem cd_X10_in : Cond.code yX10_in cX10_in 3 (some .boolean) ∈ AL := al_mc al_c6 147 rfl (by decide +kernel)
set_option maxRecDepth 20000 in
theorem ml_X10_116 : lkS RX10 116 yJ9_min_7cf53 := ⟨al_mc al_c6 148 rfl (by decide +kernel), al_mc al_c2 125 rfl (by decide +kernel), al_mc al_c1 3 rfl (by decide +kernel)⟩
set_option maxRecDepth 20000 in
theorem ml_X10_76 : lkV RX10 76 yX10_readsSetup := ⟨al_mc al_c6 149 rfl (by decide +kernel), al_mc al_c6 151 rfl (by decide +kernel), al_mem 10 (by decide +kernel) (by decide +kernel), al_mc al_c1 18 rfl (by decide +kernel)⟩
set_option maxRecDepth 20000 in
theorem cd_X10_readsSetup : Cond.code yX10_readsSetup cX10_readsSetup 1 none ∈ AL := al_mc al_c6 152 rfl (by decide +kernel)
set_option maxRecDepth 20000 in
theorem ml_X10_173 : lkV RX10 173 yX10_isWord := ⟨al_mc al_c6 154 rfl (by decide +kernel), al_mc al_c6 156 rfl (by decide +kernel), al_mem 11 (by decide +kernel) (by decide +kernel), al_mc al_c1 18 rfl (by decide +kernel)⟩
set_option maxRecDepth 20000 in
theorem cd_X10_isWord : Cond.code yX10_isWord cX10_isWord 3 (some .boolean) ∈ AL := al_mc al_c6 157 rfl (by decide +kernel)
set_option maxRecDepth 20000 in
theorem ml_X10_161 : lkV RX10 161 yX10_must := ⟨al_mc al_c6 158 rfl (by decide +kernel), al_mc al_c6 160 rfl (by decide +kernel), al_mem 12 (by decide +kernel) (by decide +kernel), al_mc al_c1 18 rfl (by decide +kernel)⟩
set_option maxRecDepth 20000 in
theorem cd_X10_must : Cond.code yX10_must cX10_must 3 (some .boolean) ∈ AL := al_mc al_c6 161 rfl (by decide +kernel)
set_option maxRecDepth 20000 in
theorem ml_X10_164 : lkV RX10 164 yX10_goesOn := ⟨al_mc al_c6 162 rfl (by decide +kernel), al_mc al_c6 164 rfl (by decide +kernel), al_mem 13 (by decide +kernel) (by decide +kernel), al_mc al_c1 18 rfl (by decide +kernel)⟩
set_option maxRecDepth 20000 in
theorem cd_X10_goesOn : Cond.code yX10_goesOn cX10_goesOn 1 none ∈ AL := al_mc al_c6 165 rfl (by decide +kernel)
set_option maxRecDepth 20000 in
theorem ml_X10_177 : lkV RX10 177 yX10_number := ⟨al_mc al_c6 166 rfl (by decide +kernel), al_mc al_c6 168 rfl (by decide +kernel), al_mem 14 (by decide +kernel) (by decide +kernel), al_mc al_c1 18 rfl (by decide +kernel)⟩
set_option maxRecDepth 20000 in
theorem cd_X10_number : Cond.code yX10_number cX10_number 5 (some .int) ∈ AL := al_mc al_c6 169 rfl (by decide +kernel)
set_option maxRecDepth 20000 in
theorem ml_X10_167 : lkV RX10 167 yX10_looksAt := ⟨al_mc al_c6 170 rfl (by decide +kernel), al_mc al_c6 172 rfl (by decide +kernel), al_mem 15 (by decide +kernel) (by decide +kernel), al_mc al_c1 18 rfl (by decide +kernel)⟩
set_option maxRecDepth 20000 in
theorem cd_X10_looksAt : Cond.code yX10_looksAt cX10_looksAt 3 (some .boolean) ∈ AL := al_mc al_c6 173 rfl (by decide +kernel)
set_option maxRecDepth 20000 in
theorem ml_X10_180 : lkV RX10 180 yX10_takesSign := ⟨al_mc al_c6 174 rfl (by decide +kernel), al_mc al_c6 176 rfl (by decide +kernel), al_mem 16 (by decide +kernel) (by decide +kernel), al_mc al_c1 18 rfl (by decide +kernel)⟩
set_option maxRecDepth 20000 in
theorem cd_X10_takesSign : Cond.code yX10_takesSign cX10_takesSign 2 none ∈ AL := al_mc al_c6 177 rfl (by decide +kernel)
set_option maxRecDepth 20000 in
theorem ml_X10_158 : lkV RX10 158 yX10_isSign := ⟨al_mc al_c6 178 rfl (by decide +kernel), al_mc al_c6 180 rfl (by decide +kernel), al_mem 17 (by decide +kernel) (by decide +kernel), al_mc al_c1 18 rfl (by decide +kernel)⟩
set_option maxRecDepth 20000 in
theorem cd_X10_isSign : Cond.code yX10_isSign cX10_isSign 2 (some .boolean) ∈ AL := al_mc al_c6 181 rfl (by decide +kernel)
set_option maxRecDepth 20000 in
theorem ml_X10_190 : lkV RX10 190 yX10_readsTooth := ⟨al_mc al_c6 182 rfl (by decide +kernel), al_mc al_c6 184 rfl (by decide +kernel), al_mem 18 (by decide +kernel) (by decide +kernel), al_mc al_c1 18 rfl (by decide +kernel)⟩
set_option maxRecDepth 20000 in
theorem cd_X10_readsTooth : Cond.code yX10_readsTooth cX10_readsTooth 5 none ∈ AL := al_mc al_c6 185 rfl (by decide +kernel)
set_option maxRecDepth 20000 in
theorem ml_X10_108 : lkV RX10 108 yX10_puts := ⟨al_mc al_c6 187 rfl (by decide +kernel), al_mc al_c6 189 rfl (by decide +kernel), al_mem 19 (by decide +kernel) (by decide +kernel), al_mc al_c1 18 rfl (by decide +kernel)⟩
set_option maxRecDepth 20000 in
theorem cd_X10_puts : Cond.code yX10_puts cX10_puts 4 none ∈ AL := al_mc al_c6 190 rfl (by decide +kernel)
set_option maxRecDepth 20000 in
theorem ml_X10_193 : lkV RX10 193 yX10_readsPin := ⟨al_mc al_c6 191 rfl (by decide +kernel), al_mc al_c6 193 rfl (by decide +kernel), al_mem 20 (by decide +kernel) (by decide +kernel), al_mc al_c1 18 rfl (by decide +kernel)⟩
set_option maxRecDepth 20000 in
theorem cd_X10_readsPin : Cond.code yX10_readsPin cX10_readsPin 4 none ∈ AL := al_mc al_c6 194 rfl (by decide +kernel)
set_option maxRecDepth 20000 in
theorem ml_X10_93 : lkV RX10 93 yX10_has := ⟨al_mc al_c6 196 rfl (by decide +kernel), al_mc al_c6 198 rfl (by decide +kernel), al_mem 21 (by decide +kernel) (by decide +kernel), al_mc al_c1 18 rfl (by decide +kernel)⟩
set_option maxRecDepth 20000 in
theorem cd_X10_has : Cond.code yX10_has cX10_has 4 (some .boolean) ∈ AL := al_mc al_c6 199 rfl (by decide +kernel)
set_option maxRecDepth 20000 in
theorem ml_X10_86 : lkV RX10 86 yX10_set := ⟨al_mc al_c6 200 rfl (by decide +kernel), al_mc al_c6 202 rfl (by decide +kernel), al_mem 22 (by decide +kernel) (by decide +kernel), al_mc al_c1 18 rfl (by decide +kernel)⟩
set_option maxRecDepth 20000 in
theorem cd_X10_set : Cond.code yX10_set cX10_set 3 (some .int) ∈ AL := al_mc al_c6 203 rfl (by decide +kernel)
set_option maxRecDepth 20000 in
theorem ml_X10_185 : lkV RX10 185 yX10_putSet := ⟨al_mc al_c6 204 rfl (by decide +kernel), al_mc al_c6 206 rfl (by decide +kernel), al_mem 23 (by decide +kernel) (by decide +kernel), al_mc al_c1 18 rfl (by decide +kernel)⟩
set_option maxRecDepth 20000 in
theorem cd_X10_putSet : Cond.code yX10_putSet cX10_putSet 4 none ∈ AL := al_mc al_c6 207 rfl (by decide +kernel)
set_option maxRecDepth 20000 in
theorem fl_X10_7 : lkF RX10 7 10 0 := al_mc al_c6 208 rfl (by decide +kernel)
set_option maxRecDepth 20000 in
theorem fl_X10_13 : lkF RX10 13 10 1 := al_mc al_c6 209 rfl (by decide +kernel)
set_option maxRecDepth 20000 in
theorem fl_X10_16 : lkF RX10 16 10 2 := al_mc al_c6 210 rfl (by decide +kernel)
set_option maxRecDepth 20000 in
theorem fl_X10_19 : lkF RX10 19 10 3 := al_mc al_c6 211 rfl (by decide +kernel)
set_option maxRecDepth 20000 in
theorem fl_X10_22 : lkF RX10 22 10 4 := al_mc al_c6 212 rfl (by decide +kernel)
set_option maxRecDepth 20000 in
theorem fl_X10_25 : lkF RX10 25 10 5 := al_mc al_c6 213 rfl (by decide +kernel)
set_option maxRecDepth 20000 in
theorem fl_X10_28 : lkF RX10 28 10 6 := al_mc al_c6 214 rfl (by decide +kernel)
set_option maxRecDepth 20000 in
theorem fl_X10_200 : lkF RX10 200 10 7 := al_mc al_c6 215 rfl (by decide +kernel)
set_option maxRecDepth 20000 in
theorem fl_X10_79 : lkF RX10 79 10 8 := al_mc al_c6 216 rfl (by decide +kernel)
set_option maxRecDepth 20000 in
theorem fl_X10_32 : lkF RX10 32 10 9 := al_mc al_c6 217 rfl (by decide +kernel)
set_option maxRecDepth 20000 in
theorem fl_X10_70 : lkF RX10 70 10 10 := al_mc al_c6 218 rfl (by decide +kernel)
set_option maxRecDepth 20000 in
theorem fl_X10_131 : lkF RX10 131 10 11 := al_mc al_c6 219 rfl (by decide +kernel)
set_option maxRecDepth 20000 in
theorem fl_X10_35 : lkF RX10 35 10 12 := al_mc al_c6 220 rfl (by decide +kernel)
set_option maxRecDepth 20000 in
theorem fl_X10_134 : lkF RX10 134 10 13 := al_mc al_c6 221 rfl (by decide +kernel)
set_option maxRecDepth 20000 in
theorem fl_X10_140 : lkF RX10 140 10 14 := al_mc al_c6 222 rfl (by decide +kernel)
set_option maxRecDepth 20000 in
theorem fl_X10_143 : lkF RX10 143 10 15 := al_mc al_c6 223 rfl (by decide +kernel)
set_option maxRecDepth 20000 in
theorem fl_X10_146 : lkF RX10 146 10 16 := al_mc al_c6 224 rfl (by decide +kernel)
set_option maxRecDepth 20000 in
theorem fl_X10_149 : lkF RX10 149 10 17 := al_mc al_c6 225 rfl (by decide +kernel)
set_option maxRecDepth 20000 in
theorem fl_X10_152 : lkF RX10 152 10 18 := al_mc al_c6 226 rfl (by decide +kernel)
set_option maxRecDepth 20000 in
theorem fl_X10_39 : lkF RX10 39 10 19 := al_mc al_c6 227 rfl (by decide +kernel)
set_option maxRecDepth 20000 in
theorem fl_X10_42 : lkF RX10 42 10 20 := al_mc al_c6 228 rfl (by decide +kernel)
set_option maxRecDepth 20000 in
theorem fl_X10_45 : lkF RX10 45 10 21 := al_mc al_c6 229 rfl (by decide +kernel)
set_option maxRecDepth 20000 in
theorem fl_X10_48 : lkF RX10 48 10 22 := al_mc al_c6 230 rfl (by decide +kernel)
set_option maxRecDepth 20000 in
theorem fl_X10_224 : lkF RX10 224 10 23 := al_mc al_c6 231 rfl (by decide +kernel)
set_option maxRecDepth 20000 in
theorem fl_X10_275 : lkF RX10 275 10 24 := al_mc al_c6 232 rfl (by decide +kernel)
set_option maxRecDepth 20000 in
theorem fl_X10_284 : lkF RX10 284 10 25 := al_mc al_c6 233 rfl (by decide +kernel)
set_option maxRecDepth 20000 in
theorem fl_X10_51 : lkF RX10 51 10 26 := al_mc al_c6 234 rfl (by decide +kernel)
set_option maxRecDepth 20000 in
theorem fl_X10_350 : lkF RX10 350 10 27 := al_mc al_c6 235 rfl (by decide +kernel)
set_option maxRecDepth 20000 in
theorem ml_L_144 : lkV RL 144 yX10_thrown := ⟨al_mc al_c7 53 rfl (by decide +kernel), al_mc al_c7 54 rfl (by decide +kernel), al_mc al_c7 55 rfl (by decide +kernel), al_mc al_c1 18 rfl (by decide +kernel)⟩
set_option maxRecDepth 20000 in
theorem cd_X10_thrown : Cond.code yX10_thrown cX10_thrown 1 (some .int) ∈ AL := al_mc al_c7 56 rfl (by decide +kernel)
set_option maxRecDepth 20000 in
theorem ml_L_143 : lkV RL 143 yX10_append := ⟨al_mc al_c7 57 rfl (by decide +kernel), al_mc al_c7 58 rfl (by decide +kernel), al_mc al_c7 59 rfl (by decide +kernel), al_mc al_c1 18 rfl (by decide +kernel)⟩
set_option maxRecDepth 20000 in
theorem cd_X10_append : Cond.code yX10_append cX10_append 7 (some .int) ∈ AL := al_mc al_c7 60 rfl (by decide +kernel)
set_option maxRecDepth 20000 in
theorem ml_X10_124 : lkV RX10 124 yX10_feeds := ⟨al_mc al_c7 61 rfl (by decide +kernel), al_mc al_c7 63 rfl (by decide +kernel), al_mem 24 (by decide +kernel) (by decide +kernel), al_mc al_c1 18 rfl (by decide +kernel)⟩
set_option maxRecDepth 20000 in
theorem cd_X10_feeds : Cond.code yX10_feeds cX10_feeds 4 none ∈ AL := al_mc al_c7 64 rfl (by decide +kernel)
set_option maxRecDepth 20000 in
theorem ml_X10_127 : lkV RX10 127 yX10_right := ⟨al_mc al_c7 65 rfl (by decide +kernel), al_mc al_c7 67 rfl (by decide +kernel), al_mem 25 (by decide +kernel) (by decide +kernel), al_mc al_c1 18 rfl (by decide +kernel)⟩
set_option maxRecDepth 20000 in
theorem cd_X10_right : Cond.code yX10_right cX10_right 3 (some .boolean) ∈ AL := al_mc al_c7 68 rfl (by decide +kernel)
set_option maxRecDepth 20000 in
theorem ml_L_150 : lkV RL 150 yX10_truncate := ⟨al_mc al_c7 69 rfl (by decide +kernel), al_mc al_c7 70 rfl (by decide +kernel), al_mc al_c7 71 rfl (by decide +kernel), al_mc al_c1 18 rfl (by decide +kernel)⟩
set_option maxRecDepth 20000 in
theorem cd_X10_truncate : Cond.code yX10_truncate cX10_truncate 3 (some .int) ∈ AL := al_mc al_c7 72 rfl (by decide +kernel)
set_option maxRecDepth 20000 in
theorem ml_L_162 : lkV RL 162 yX10_errorCode := ⟨al_mc al_c7 73 rfl (by decide +kernel), al_mc al_c7 74 rfl (by decide +kernel), al_mc al_c7 75 rfl (by decide +kernel), al_mc al_c1 18 rfl (by decide +kernel)⟩
set_option maxRecDepth 20000 in
theorem cd_X10_errorCode : Cond.code yX10_errorCode cX10_errorCode 1 (some .int) ∈ AL := al_mc al_c7 76 rfl (by decide +kernel)
set_option maxRecDepth 20000 in
theorem ml_L_166 : lkV RL 166 yX10_errorPosition := ⟨al_mc al_c7 77 rfl (by decide +kernel), al_mc al_c7 78 rfl (by decide +kernel), al_mc al_c7 79 rfl (by decide +kernel), al_mc al_c1 18 rfl (by decide +kernel)⟩
set_option maxRecDepth 20000 in
theorem cd_X10_errorPosition : Cond.code yX10_errorPosition cX10_errorPosition 1 (some .int) ∈ AL := al_mc al_c7 80 rfl (by decide +kernel)
set_option maxRecDepth 20000 in
theorem ml_L_154 : lkV RL 154 yX10_load := ⟨al_mc al_c7 81 rfl (by decide +kernel), al_mc al_c7 82 rfl (by decide +kernel), al_mc al_c7 83 rfl (by decide +kernel), al_mc al_c1 18 rfl (by decide +kernel)⟩
set_option maxRecDepth 20000 in
theorem cd_X10_load : Cond.code yX10_load cX10_load 2 (some .int) ∈ AL := al_mc al_c7 84 rfl (by decide +kernel)
set_option maxRecDepth 20000 in
theorem ml_X10_196 : lkV RX10 196 yX10_isWhole := ⟨al_mc al_c7 85 rfl (by decide +kernel), al_mc al_c7 87 rfl (by decide +kernel), al_mem 26 (by decide +kernel) (by decide +kernel), al_mc al_c1 18 rfl (by decide +kernel)⟩
set_option maxRecDepth 20000 in
theorem cd_X10_isWhole : Cond.code yX10_isWhole cX10_isWhole 1 (some .boolean) ∈ AL := al_mc al_c7 88 rfl (by decide +kernel)
set_option maxRecDepth 20000 in
theorem ml_L_158 : lkV RL 158 yX10_runScript := ⟨al_mc al_c7 89 rfl (by decide +kernel), al_mc al_c7 90 rfl (by decide +kernel), al_mc al_c7 91 rfl (by decide +kernel), al_mc al_c1 18 rfl (by decide +kernel)⟩
set_option maxRecDepth 20000 in
theorem cd_X10_runScript : Cond.code yX10_runScript cX10_runScript 2 (some .int) ∈ AL := al_mc al_c7 92 rfl (by decide +kernel)
set_option maxRecDepth 20000 in
theorem ml_X10_221 : lkV RX10 221 yX10_readsCommands := ⟨al_mc al_c7 93 rfl (by decide +kernel), al_mc al_c7 95 rfl (by decide +kernel), al_mem 27 (by decide +kernel) (by decide +kernel), al_mc al_c1 18 rfl (by decide +kernel)⟩
set_option maxRecDepth 20000 in
theorem cd_X10_readsCommands : Cond.code yX10_readsCommands cX10_readsCommands 2 none ∈ AL := al_mc al_c7 96 rfl (by decide +kernel)
set_option maxRecDepth 20000 in
theorem ml_X10_244 : lkV RX10 244 yX10_readsCommand := ⟨al_mc al_c7 97 rfl (by decide +kernel), al_mc al_c7 99 rfl (by decide +kernel), al_mem 28 (by decide +kernel) (by decide +kernel), al_mc al_c1 18 rfl (by decide +kernel)⟩
set_option maxRecDepth 20000 in
theorem cd_X10_readsCommand : Cond.code yX10_readsCommand cX10_readsCommand 4 none ∈ AL := al_mc al_c7 100 rfl (by decide +kernel)
set_option maxRecDepth 20000 in
theorem ml_X10_234 : lkV RX10 234 yX10_commandHere := ⟨al_mc al_c7 101 rfl (by decide +kernel), al_mc al_c7 103 rfl (by decide +kernel), al_mem 29 (by decide +kernel) (by decide +kernel), al_mc al_c1 18 rfl (by decide +kernel)⟩
set_option maxRecDepth 20000 in
theorem cd_X10_commandHere : Cond.code yX10_commandHere cX10_commandHere 1 (some .int) ∈ AL := al_mc al_c7 104 rfl (by decide +kernel)
set_option maxRecDepth 20000 in
theorem ml_X10_237 : lkV RX10 237 yX10_readsRepeat := ⟨al_mc al_c7 114 rfl (by decide +kernel), al_mc al_c7 116 rfl (by decide +kernel), al_mem 30 (by decide +kernel) (by decide +kernel), al_mc al_c1 18 rfl (by decide +kernel)⟩
set_option maxRecDepth 20000 in
theorem cd_X10_readsRepeat : Cond.code yX10_readsRepeat cX10_readsRepeat 3 none ∈ AL := al_mc al_c7 117 rfl (by decide +kernel)
set_option maxRecDepth 20000 in
theorem ml_X10_241 : lkV RX10 241 yX10_readsSingle := ⟨al_mc al_c7 118 rfl (by decide +kernel), al_mc al_c7 120 rfl (by decide +kernel), al_mem 31 (by decide +kernel) (by decide +kernel), al_mc al_c1 18 rfl (by decide +kernel)⟩
set_option maxRecDepth 20000 in
theorem cd_X10_readsSingle : Cond.code yX10_readsSingle cX10_readsSingle 2 none ∈ AL := al_mc al_c7 121 rfl (by decide +kernel)
set_option maxRecDepth 20000 in
theorem ml_X10_231 : lkV RX10 231 yX10_takesDirection := ⟨al_mc al_c7 122 rfl (by decide +kernel), al_mc al_c7 124 rfl (by decide +kernel), al_mem 32 (by decide +kernel) (by decide +kernel), al_mc al_c1 18 rfl (by decide +kernel)⟩
set_option maxRecDepth 20000 in
theorem cd_X10_takesDirection : Cond.code yX10_takesDirection cX10_takesDirection 2 (some .int) ∈ AL := al_mc al_c7 125 rfl (by decide +kernel)
set_option maxRecDepth 20000 in
theorem ml_X10_281 : lkV RX10 281 yX10_keeps := ⟨al_mc al_c7 128 rfl (by decide +kernel), al_mc al_c7 130 rfl (by decide +kernel), al_mem 33 (by decide +kernel) (by decide +kernel), al_mc al_c1 18 rfl (by decide +kernel)⟩
set_option maxRecDepth 20000 in
theorem cd_X10_keeps : Cond.code yX10_keeps cX10_keeps 2 none ∈ AL := al_mc al_c7 131 rfl (by decide +kernel)
set_option maxRecDepth 20000 in
theorem ml_X10_272 : lkV RX10 272 yX10_doesAll := ⟨al_mc al_c7 132 rfl (by decide +kernel), al_mc al_c7 134 rfl (by decide +kernel), al_mem 34 (by decide +kernel) (by decide +kernel), al_mc al_c1 18 rfl (by decide +kernel)⟩
set_option maxRecDepth 20000 in
theorem cd_X10_doesAll : Cond.code yX10_doesAll cX10_doesAll 5 (some .boolean) ∈ AL := al_mc al_c7 135 rfl (by decide +kernel)
set_option maxRecDepth 20000 in
theorem ml_X10_278 : lkV RX10 278 yX10_does := ⟨al_mc al_c7 136 rfl (by decide +kernel), al_mc al_c7 138 rfl (by decide +kernel), al_mem 35 (by decide +kernel) (by decide +kernel), al_mc al_c1 18 rfl (by decide +kernel)⟩
set_option maxRecDepth 20000 in
theorem cd_X10_does : Cond.code yX10_does cX10_does 3 (some .int) ∈ AL := al_mc al_c7 139 rfl (by decide +kernel)
set_option maxRecDepth 20000 in
theorem ml_X10_247 : lkV RX10 247 yX10_pinning := ⟨al_mc al_c7 140 rfl (by decide +kernel), al_mc al_c7 142 rfl (by decide +kernel), al_mem 36 (by decide +kernel) (by decide +kernel), al_mc al_c1 18 rfl (by decide +kernel)⟩
set_option maxRecDepth 20000 in
theorem cd_X10_pinning : Cond.code yX10_pinning cX10_pinning 5 (some .int) ∈ AL := al_mc al_c7 143 rfl (by decide +kernel)
set_option maxRecDepth 20000 in
theorem ml_X10_288 : lkV RX10 288 yX10_isTune := ⟨al_mc al_c7 144 rfl (by decide +kernel), al_mc al_c7 146 rfl (by decide +kernel), al_mem 37 (by decide +kernel) (by decide +kernel), al_mc al_c1 18 rfl (by decide +kernel)⟩
set_option maxRecDepth 20000 in
theorem cd_X10_isTune : Cond.code yX10_isTune cX10_isTune 2 (some .boolean) ∈ AL := al_mc al_c7 147 rfl (by decide +kernel)
set_option maxRecDepth 20000 in
theorem ml_X10_291 : lkV RX10 291 yX10_isTooth := ⟨al_mc al_c7 148 rfl (by decide +kernel), al_mc al_c7 150 rfl (by decide +kernel), al_mem 38 (by decide +kernel) (by decide +kernel), al_mc al_c1 18 rfl (by decide +kernel)⟩
set_option maxRecDepth 20000 in
theorem cd_X10_isTooth : Cond.code yX10_isTooth cX10_isTooth 2 (some .boolean) ∈ AL := al_mc al_c7 151 rfl (by decide +kernel)
set_option maxRecDepth 20000 in
theorem ml_X10_294 : lkV RX10 294 yX10_isStep := ⟨al_mc al_c7 152 rfl (by decide +kernel), al_mc al_c7 154 rfl (by decide +kernel), al_mem 39 (by decide +kernel) (by decide +kernel), al_mc al_c1 18 rfl (by decide +kernel)⟩
set_option maxRecDepth 20000 in
theorem cd_X10_isStep : Cond.code yX10_isStep cX10_isStep 2 (some .boolean) ∈ AL := al_mc al_c7 155 rfl (by decide +kernel)
set_option maxRecDepth 20000 in
theorem ml_X10_344 : lkV RX10 344 yX10_changes := ⟨al_mc al_c7 156 rfl (by decide +kernel), al_mc al_c7 158 rfl (by decide +kernel), al_mem 40 (by decide +kernel) (by decide +kernel), al_mc al_c1 18 rfl (by decide +kernel)⟩
set_option maxRecDepth 20000 in
theorem cd_X10_changes : Cond.code yX10_changes cX10_changes 1 none ∈ AL := al_mc al_c7 159 rfl (by decide +kernel)
set_option maxRecDepth 20000 in
theorem ml_X10_306 : lkV RX10 306 yX10_pins := ⟨al_mc al_c7 160 rfl (by decide +kernel), al_mc al_c7 162 rfl (by decide +kernel), al_mem 41 (by decide +kernel) (by decide +kernel), al_mc al_c1 18 rfl (by decide +kernel)⟩
set_option maxRecDepth 20000 in
theorem cd_X10_pins : Cond.code yX10_pins cX10_pins 5 (some .int) ∈ AL := al_mc al_c7 163 rfl (by decide +kernel)
set_option maxRecDepth 20000 in
theorem ml_X10_251 : lkV RX10 251 yX10_gapping := ⟨al_mc al_c7 164 rfl (by decide +kernel), al_mc al_c7 166 rfl (by decide +kernel), al_mem 42 (by decide +kernel) (by decide +kernel), al_mc al_c1 18 rfl (by decide +kernel)⟩
set_option maxRecDepth 20000 in
theorem cd_X10_gapping : Cond.code yX10_gapping cX10_gapping 4 (some .int) ∈ AL := al_mc al_c7 167 rfl (by decide +kernel)
set_option maxRecDepth 20000 in
theorem ml_X10_90 : lkV RX10 90 yX10_of := ⟨al_mc al_c7 168 rfl (by decide +kernel), al_mc al_c7 170 rfl (by decide +kernel), al_mem 43 (by decide +kernel) (by decide +kernel), al_mc al_c1 18 rfl (by decide +kernel)⟩
set_option maxRecDepth 20000 in
theorem cd_X10_of : Cond.code yX10_of cX10_of 3 (some .int) ∈ AL := al_mc al_c7 171 rfl (by decide +kernel)
set_option maxRecDepth 20000 in
theorem ml_X10_254 : lkV RX10 254 yX10_bending := ⟨al_mc al_c7 172 rfl (by decide +kernel), al_mc al_c7 174 rfl (by decide +kernel), al_mem 44 (by decide +kernel) (by decide +kernel), al_mc al_c1 18 rfl (by decide +kernel)⟩
set_option maxRecDepth 20000 in
theorem cd_X10_bending : Cond.code yX10_bending cX10_bending 3 (some .int) ∈ AL := al_mc al_c7 175 rfl (by decide +kernel)
set_option maxRecDepth 20000 in
theorem ml_X10_100 : lkV RX10 100 yX10_isBad := ⟨al_mc al_c7 176 rfl (by decide +kernel), al_mc al_c7 178 rfl (by decide +kernel), al_mem 45 (by decide +kernel) (by decide +kernel), al_mc al_c1 18 rfl (by decide +kernel)⟩
set_option maxRecDepth 20000 in
theorem cd_X10_isBad : Cond.code yX10_isBad cX10_isBad 2 (some .boolean) ∈ AL := al_mc al_c7 179 rfl (by decide +kernel)
set_option maxRecDepth 20000 in
theorem ml_X10_257 : lkV RX10 257 yX10_replacing := ⟨al_mc al_c7 180 rfl (by decide +kernel), al_mc al_c7 182 rfl (by decide +kernel), al_mem 46 (by decide +kernel) (by decide +kernel), al_mc al_c1 18 rfl (by decide +kernel)⟩
set_option maxRecDepth 20000 in
theorem cd_X10_replacing : Cond.code yX10_replacing cX10_replacing 3 (some .int) ∈ AL := al_mc al_c7 183 rfl (by decide +kernel)
set_option maxRecDepth 20000 in
theorem ml_X10_260 : lkV RX10 260 yX10_vaning := ⟨al_mc al_c7 184 rfl (by decide +kernel), al_mc al_c7 186 rfl (by decide +kernel), al_mem 47 (by decide +kernel) (by decide +kernel), al_mc al_c1 18 rfl (by decide +kernel)⟩
set_option maxRecDepth 20000 in
theorem cd_X10_vaning : Cond.code yX10_vaning cX10_vaning 3 (some .int) ∈ AL := al_mc al_c7 187 rfl (by decide +kernel)
set_option maxRecDepth 20000 in
theorem ml_X10_263 : lkV RX10 263 yX10_winding := ⟨al_mc al_c7 188 rfl (by decide +kernel), al_mc al_c7 190 rfl (by decide +kernel), al_mem 48 (by decide +kernel) (by decide +kernel), al_mc al_c1 18 rfl (by decide +kernel)⟩
set_option maxRecDepth 20000 in
theorem cd_X10_winding : Cond.code yX10_winding cX10_winding 2 (some .int) ∈ AL := al_mc al_c7 191 rfl (by decide +kernel)
set_option maxRecDepth 20000 in
theorem ml_X10_266 : lkV RX10 266 yX10_selecting := ⟨al_mc al_c7 192 rfl (by decide +kernel), al_mc al_c7 194 rfl (by decide +kernel), al_mem 49 (by decide +kernel) (by decide +kernel), al_mc al_c1 18 rfl (by decide +kernel)⟩
set_option maxRecDepth 20000 in
theorem cd_X10_selecting : Cond.code yX10_selecting cX10_selecting 3 (some .int) ∈ AL := al_mc al_c7 195 rfl (by decide +kernel)
set_option maxRecDepth 20000 in
theorem ml_X10_269 : lkV RX10 269 yX10_playing := ⟨al_mc al_c7 196 rfl (by decide +kernel), al_mc al_c7 198 rfl (by decide +kernel), al_mem 50 (by decide +kernel) (by decide +kernel), al_mc al_c1 18 rfl (by decide +kernel)⟩
set_option maxRecDepth 20000 in
theorem cd_X10_playing : Cond.code yX10_playing cX10_playing 2 (some .int) ∈ AL := al_mc al_c7 199 rfl (by decide +kernel)
set_option maxRecDepth 20000 in
theorem ml_X10_338 : lkV RX10 338 yX10_steps := ⟨al_mc al_c7 200 rfl (by decide +kernel), al_mc al_c7 202 rfl (by decide +kernel), al_mem 51 (by decide +kernel) (by decide +kernel), al_mc al_c1 18 rfl (by decide +kernel)⟩
set_option maxRecDepth 20000 in
theorem cd_X10_steps : Cond.code yX10_steps cX10_steps 3 (some .int) ∈ AL := al_mc al_c7 203 rfl (by decide +kernel)
set_option maxRecDepth 20000 in
theorem ml_X10_121 : lkV RX10 121 yX10_step := ⟨al_mc al_c7 204 rfl (by decide +kernel), al_mc al_c7 206 rfl (by decide +kernel), al_mem 52 (by decide +kernel) (by decide +kernel), al_mc al_c1 18 rfl (by decide +kernel)⟩
set_option maxRecDepth 20000 in
theorem cd_X10_step : Cond.code yX10_step cX10_step 2 none ∈ AL := al_mc al_c7 207 rfl (by decide +kernel)
set_option maxRecDepth 20000 in
theorem ml_X10_112 : lkV RX10 112 yX10_plucks := ⟨al_mc al_c7 208 rfl (by decide +kernel), al_mc al_c7 210 rfl (by decide +kernel), al_mem 53 (by decide +kernel) (by decide +kernel), al_mc al_c1 18 rfl (by decide +kernel)⟩
set_option maxRecDepth 20000 in
theorem cd_X10_plucks : Cond.code yX10_plucks cX10_plucks 3 none ∈ AL := al_mc al_c7 211 rfl (by decide +kernel)
set_option maxRecDepth 20000 in
theorem ml_X10_104 : lkV RX10 104 yX10_sound := ⟨al_mc al_c7 212 rfl (by decide +kernel), al_mc al_c7 214 rfl (by decide +kernel), al_mem 54 (by decide +kernel) (by decide +kernel), al_mc al_c1 18 rfl (by decide +kernel)⟩
set_option maxRecDepth 20000 in
theorem cd_X10_sound : Cond.code yX10_sound cX10_sound 2 (some .int) ∈ AL := al_mc al_c7 215 rfl (by decide +kernel)
set_option maxRecDepth 20000 in
theorem ml_L_170 : lkV RL 170 yX10_stepCount := ⟨al_mc al_c7 216 rfl (by decide +kernel), al_mc al_c7 217 rfl (by decide +kernel), al_mc al_c7 218 rfl (by decide +kernel), al_mc al_c1 18 rfl (by decide +kernel)⟩
set_option maxRecDepth 20000 in
theorem cd_X10_stepCount : Cond.code yX10_stepCount cX10_stepCount 1 (some .int) ∈ AL := al_mc al_c7 219 rfl (by decide +kernel)
set_option maxRecDepth 20000 in
theorem ml_X10_297 : lkV RX10 297 yX10_tells := ⟨al_mc al_c7 220 rfl (by decide +kernel), al_mc al_c7 222 rfl (by decide +kernel), al_mem 55 (by decide +kernel) (by decide +kernel), al_mc al_c1 18 rfl (by decide +kernel)⟩
set_option maxRecDepth 20000 in
theorem cd_X10_tells : Cond.code yX10_tells cX10_tells 2 (some .int) ∈ AL := al_mc al_c7 223 rfl (by decide +kernel)
set_option maxRecDepth 20000 in
theorem ml_L_174 : lkV RL 174 yX10_selectedTune := ⟨al_mc al_c7 224 rfl (by decide +kernel), al_mc al_c7 225 rfl (by decide +kernel), al_mc al_c7 226 rfl (by decide +kernel), al_mc al_c1 18 rfl (by decide +kernel)⟩
set_option maxRecDepth 20000 in
theorem cd_X10_selectedTune : Cond.code yX10_selectedTune cX10_selectedTune 1 (some .int) ∈ AL := al_mc al_c7 227 rfl (by decide +kernel)
set_option maxRecDepth 20000 in
theorem ml_L_178 : lkV RL 178 yX10_position := ⟨al_mc al_c7 228 rfl (by decide +kernel), al_mc al_c7 229 rfl (by decide +kernel), al_mc al_c7 230 rfl (by decide +kernel), al_mc al_c1 18 rfl (by decide +kernel)⟩
set_option maxRecDepth 20000 in
theorem cd_X10_position : Cond.code yX10_position cX10_position 1 (some .int) ∈ AL := al_mc al_c7 231 rfl (by decide +kernel)
set_option maxRecDepth 20000 in
theorem ml_L_182 : lkV RL 182 yX10_isPin := ⟨al_mc al_c7 232 rfl (by decide +kernel), al_mc al_c7 233 rfl (by decide +kernel), al_mc al_c7 234 rfl (by decide +kernel), al_mc al_c1 18 rfl (by decide +kernel)⟩
set_option maxRecDepth 20000 in
theorem cd_X10_isPin : Cond.code yX10_isPin cX10_isPin 4 (some .boolean) ∈ AL := al_mc al_c7 235 rfl (by decide +kernel)
set_option maxRecDepth 20000 in
theorem ml_X10_300 : lkV RX10 300 yX10_isThere := ⟨al_mc al_c7 236 rfl (by decide +kernel), al_mc al_c7 238 rfl (by decide +kernel), al_mem 56 (by decide +kernel) (by decide +kernel), al_mc al_c1 18 rfl (by decide +kernel)⟩
set_option maxRecDepth 20000 in
theorem cd_X10_isThere : Cond.code yX10_isThere cX10_isThere 4 (some .boolean) ∈ AL := al_mc al_c7 239 rfl (by decide +kernel)
set_option maxRecDepth 20000 in
theorem ml_L_185 : lkV RL 185 yX10_pinCount := ⟨al_mc al_c8 0 rfl (by decide +kernel), al_mc al_c8 1 rfl (by decide +kernel), al_mc al_c8 2 rfl (by decide +kernel), al_mc al_c1 18 rfl (by decide +kernel)⟩
set_option maxRecDepth 20000 in
theorem cd_X10_pinCount : Cond.code yX10_pinCount cX10_pinCount 2 (some .int) ∈ AL := al_mc al_c8 3 rfl (by decide +kernel)
set_option maxRecDepth 20000 in
theorem ml_X10_303 : lkV RX10 303 yX10_findsTune := ⟨al_mc al_c8 4 rfl (by decide +kernel), al_mc al_c8 6 rfl (by decide +kernel), al_mem 57 (by decide +kernel) (by decide +kernel), al_mc al_c1 18 rfl (by decide +kernel)⟩
set_option maxRecDepth 20000 in
theorem cd_X10_findsTune : Cond.code yX10_findsTune cX10_findsTune 2 (some .boolean) ∈ AL := al_mc al_c8 7 rfl (by decide +kernel)
set_option maxRecDepth 20000 in
theorem ml_L_189 : lkV RL 189 yX10_chord := ⟨al_mc al_c8 8 rfl (by decide +kernel), al_mc al_c8 9 rfl (by decide +kernel), al_mc al_c8 10 rfl (by decide +kernel), al_mc al_c1 18 rfl (by decide +kernel)⟩
set_option maxRecDepth 20000 in
theorem cd_X10_chord : Cond.code yX10_chord cX10_chord 3 (some .int) ∈ AL := al_mc al_c8 11 rfl (by decide +kernel)
set_option maxRecDepth 20000 in
theorem ml_L_192 : lkV RL 192 yX10_distance := ⟨al_mc al_c8 12 rfl (by decide +kernel), al_mc al_c8 13 rfl (by decide +kernel), al_mc al_c8 14 rfl (by decide +kernel), al_mc al_c1 18 rfl (by decide +kernel)⟩
set_option maxRecDepth 20000 in
theorem cd_X10_distance : Cond.code yX10_distance cX10_distance 4 (some .int) ∈ AL := al_mc al_c8 15 rfl (by decide +kernel)
set_option maxRecDepth 20000 in
theorem ml_X10_96 : lkV RX10 96 yX10_far := ⟨al_mc al_c8 16 rfl (by decide +kernel), al_mc al_c8 18 rfl (by decide +kernel), al_mem 58 (by decide +kernel) (by decide +kernel), al_mc al_c1 18 rfl (by decide +kernel)⟩
set_option maxRecDepth 20000 in
theorem cd_X10_far : Cond.code yX10_far cX10_far 5 (some .int) ∈ AL := al_mc al_c8 19 rfl (by decide +kernel)
set_option maxRecDepth 20000 in
theorem ml_L_195 : lkV RL 195 yX10_closePins := ⟨al_mc al_c8 20 rfl (by decide +kernel), al_mc al_c8 21 rfl (by decide +kernel), al_mc al_c8 22 rfl (by decide +kernel), al_mc al_c1 18 rfl (by decide +kernel)⟩
set_option maxRecDepth 20000 in
theorem cd_X10_closePins : Cond.code yX10_closePins cX10_closePins 5 (some .int) ∈ AL := al_mc al_c8 23 rfl (by decide +kernel)
set_option maxRecDepth 20000 in
theorem ml_X10_309 : lkV RX10 309 yX10_isClose := ⟨al_mc al_c8 24 rfl (by decide +kernel), al_mc al_c8 26 rfl (by decide +kernel), al_mem 59 (by decide +kernel) (by decide +kernel), al_mc al_c1 18 rfl (by decide +kernel)⟩
set_option maxRecDepth 20000 in
theorem cd_X10_isClose : Cond.code yX10_isClose cX10_isClose 4 (some .boolean) ∈ AL := al_mc al_c8 27 rfl (by decide +kernel)
set_option maxRecDepth 20000 in
theorem ml_L_198 : lkV RL 198 yX10_longestRest := ⟨al_mc al_c8 28 rfl (by decide +kernel), al_mc al_c8 29 rfl (by decide +kernel), al_mc al_c8 30 rfl (by decide +kernel), al_mc al_c1 18 rfl (by decide +kernel)⟩
set_option maxRecDepth 20000 in
theorem cd_X10_longestRest : Cond.code yX10_longestRest cX10_longestRest 5 (some .int) ∈ AL := al_mc al_c8 31 rfl (by decide +kernel)
set_option maxRecDepth 20000 in
theorem ml_X10_312 : lkS RX10 312 yJ9_max_7cf53 := ⟨al_mc al_c8 32 rfl (by decide +kernel), al_mc al_c1 44 rfl (by decide +kernel), al_mc al_c1 3 rfl (by decide +kernel)⟩
set_option maxRecDepth 20000 in
theorem ml_L_202 : lkV RL 202 yX10_toothCount := ⟨al_mc al_c8 33 rfl (by decide +kernel), al_mc al_c8 34 rfl (by decide +kernel), al_mc al_c8 35 rfl (by decide +kernel), al_mc al_c1 18 rfl (by decide +kernel)⟩
set_option maxRecDepth 20000 in
theorem cd_X10_toothCount : Cond.code yX10_toothCount cX10_toothCount 1 (some .int) ∈ AL := al_mc al_c8 36 rfl (by decide +kernel)
set_option maxRecDepth 20000 in
theorem ml_L_205 : lkV RL 205 yX10_soundingPitch := ⟨al_mc al_c8 37 rfl (by decide +kernel), al_mc al_c8 38 rfl (by decide +kernel), al_mc al_c8 39 rfl (by decide +kernel), al_mc al_c1 18 rfl (by decide +kernel)⟩
set_option maxRecDepth 20000 in
theorem cd_X10_soundingPitch : Cond.code yX10_soundingPitch cX10_soundingPitch 2 (some .int) ∈ AL := al_mc al_c8 40 rfl (by decide +kernel)
set_option maxRecDepth 20000 in
theorem ml_X10_315 : lkV RX10 315 yX10_findsTooth := ⟨al_mc al_c8 41 rfl (by decide +kernel), al_mc al_c8 43 rfl (by decide +kernel), al_mem 60 (by decide +kernel) (by decide +kernel), al_mc al_c1 18 rfl (by decide +kernel)⟩
set_option maxRecDepth 20000 in
theorem cd_X10_findsTooth : Cond.code yX10_findsTooth cX10_findsTooth 2 (some .boolean) ∈ AL := al_mc al_c8 44 rfl (by decide +kernel)
set_option maxRecDepth 20000 in
theorem ml_L_208 : lkV RL 208 yX10_bendOf := ⟨al_mc al_c8 45 rfl (by decide +kernel), al_mc al_c8 46 rfl (by decide +kernel), al_mc al_c8 47 rfl (by decide +kernel), al_mc al_c1 18 rfl (by decide +kernel)⟩
set_option maxRecDepth 20000 in
theorem cd_X10_bendOf : Cond.code yX10_bendOf cX10_bendOf 2 (some .int) ∈ AL := al_mc al_c8 48 rfl (by decide +kernel)
set_option maxRecDepth 20000 in
theorem ml_L_211 : lkV RL 211 yX10_gap := ⟨al_mc al_c8 49 rfl (by decide +kernel), al_mc al_c8 50 rfl (by decide +kernel), al_mc al_c8 51 rfl (by decide +kernel), al_mc al_c1 18 rfl (by decide +kernel)⟩
set_option maxRecDepth 20000 in
theorem cd_X10_gap : Cond.code yX10_gap cX10_gap 2 (some .int) ∈ AL := al_mc al_c8 52 rfl (by decide +kernel)
set_option maxRecDepth 20000 in
theorem ml_L_214 : lkV RL 214 yX10_wear := ⟨al_mc al_c8 53 rfl (by decide +kernel), al_mc al_c8 54 rfl (by decide +kernel), al_mc al_c8 55 rfl (by decide +kernel), al_mc al_c1 18 rfl (by decide +kernel)⟩
set_option maxRecDepth 20000 in
theorem cd_X10_wear : Cond.code yX10_wear cX10_wear 2 (some .int) ∈ AL := al_mc al_c8 56 rfl (by decide +kernel)
set_option maxRecDepth 20000 in
theorem ml_L_217 : lkV RL 217 yX10_silence := ⟨al_mc al_c8 57 rfl (by decide +kernel), al_mc al_c8 58 rfl (by decide +kernel), al_mc al_c8 59 rfl (by decide +kernel), al_mc al_c1 18 rfl (by decide +kernel)⟩
set_option maxRecDepth 20000 in
theorem cd_X10_silence : Cond.code yX10_silence cX10_silence 2 (some .int) ∈ AL := al_mc al_c8 60 rfl (by decide +kernel)
set_option maxRecDepth 20000 in
theorem ml_L_220 : lkV RL 220 yX10_isBroken := ⟨al_mc al_c8 61 rfl (by decide +kernel), al_mc al_c8 62 rfl (by decide +kernel), al_mc al_c8 63 rfl (by decide +kernel), al_mc al_c1 18 rfl (by decide +kernel)⟩
set_option maxRecDepth 20000 in
theorem cd_X10_isBroken : Cond.code yX10_isBroken cX10_isBroken 2 (some .boolean) ∈ AL := al_mc al_c8 64 rfl (by decide +kernel)
set_option maxRecDepth 20000 in
theorem ml_L_223 : lkV RL 223 yX10_nextSound := ⟨al_mc al_c8 65 rfl (by decide +kernel), al_mc al_c8 66 rfl (by decide +kernel), al_mc al_c8 67 rfl (by decide +kernel), al_mc al_c1 18 rfl (by decide +kernel)⟩
set_option maxRecDepth 20000 in
theorem cd_X10_nextSound : Cond.code yX10_nextSound cX10_nextSound 2 (some .int) ∈ AL := al_mc al_c8 68 rfl (by decide +kernel)
set_option maxRecDepth 20000 in
theorem ml_L_227 : lkV RL 227 yX10_turnsLeft := ⟨al_mc al_c8 69 rfl (by decide +kernel), al_mc al_c8 70 rfl (by decide +kernel), al_mc al_c8 71 rfl (by decide +kernel), al_mc al_c1 18 rfl (by decide +kernel)⟩
set_option maxRecDepth 20000 in
theorem cd_X10_turnsLeft : Cond.code yX10_turnsLeft cX10_turnsLeft 1 (some .int) ∈ AL := al_mc al_c8 72 rfl (by decide +kernel)
set_option maxRecDepth 20000 in
theorem ml_L_231 : lkV RL 231 yX10_vane := ⟨al_mc al_c8 73 rfl (by decide +kernel), al_mc al_c8 74 rfl (by decide +kernel), al_mc al_c8 75 rfl (by decide +kernel), al_mc al_c1 18 rfl (by decide +kernel)⟩
set_option maxRecDepth 20000 in
theorem cd_X10_vane : Cond.code yX10_vane cX10_vane 1 (some .int) ∈ AL := al_mc al_c8 76 rfl (by decide +kernel)
set_option maxRecDepth 20000 in
theorem ml_L_235 : lkV RL 235 yX10_tempo := ⟨al_mc al_c8 77 rfl (by decide +kernel), al_mc al_c8 78 rfl (by decide +kernel), al_mc al_c8 79 rfl (by decide +kernel), al_mc al_c1 18 rfl (by decide +kernel)⟩
set_option maxRecDepth 20000 in
theorem cd_X10_tempo : Cond.code yX10_tempo cX10_tempo 1 (some .int) ∈ AL := al_mc al_c8 80 rfl (by decide +kernel)
set_option maxRecDepth 20000 in
theorem ml_X10_318 : lkV RX10 318 yX10_speed := ⟨al_mc al_c8 81 rfl (by decide +kernel), al_mc al_c8 83 rfl (by decide +kernel), al_mem 61 (by decide +kernel) (by decide +kernel), al_mc al_c1 18 rfl (by decide +kernel)⟩
set_option maxRecDepth 20000 in
theorem cd_X10_speed : Cond.code yX10_speed cX10_speed 1 (some .int) ∈ AL := al_mc al_c8 84 rfl (by decide +kernel)
set_option maxRecDepth 20000 in
theorem ml_L_240 : lkV RL 240 yX10_secondsPerStep := ⟨al_mc al_c8 85 rfl (by decide +kernel), al_mc al_c8 86 rfl (by decide +kernel), al_mc al_c8 87 rfl (by decide +kernel), al_mc al_c1 18 rfl (by decide +kernel)⟩
set_option maxRecDepth 20000 in
theorem cd_X10_secondsPerStep : Cond.code yX10_secondsPerStep cX10_secondsPerStep 1 (some .double) ∈ AL := al_mc al_c8 88 rfl (by decide +kernel)
set_option maxRecDepth 20000 in
theorem ml_L_245 : lkV RL 245 yX10_secondsPerStepBits := ⟨al_mc al_c8 90 rfl (by decide +kernel), al_mc al_c8 91 rfl (by decide +kernel), al_mc al_c8 92 rfl (by decide +kernel), al_mc al_c1 18 rfl (by decide +kernel)⟩
set_option maxRecDepth 20000 in
theorem cd_X10_secondsPerStepBits : Cond.code yX10_secondsPerStepBits cX10_secondsPerStepBits 1 (some .long) ∈ AL := al_mc al_c8 93 rfl (by decide +kernel)
set_option maxRecDepth 20000 in
theorem ml_X10_323 : lkS RX10 323 yJxe99ae_doubleToLongBits_ccdee := ⟨al_mc al_c8 94 rfl (by decide +kernel), al_mc al_c8 95 rfl (by decide +kernel), al_mc al_c1 28 rfl (by decide +kernel)⟩
set_option maxRecDepth 20000 in
theorem cd_Jxe99ae_doubleToLongBits_ccdee : Cond.code yJxe99ae_doubleToLongBits_ccdee cJxe99ae_doubleToLongBits_ccdee 2 (some .long) ∈ AL := al_mc al_c8 96 rfl (by decide +kernel)
set_option maxRecDepth 20000 in
theorem ml_Jxe99ae_122 : lkS RJxe99ae 122 yJxe99ae_isNaN_b9ae7 := ⟨al_mc al_c8 97 rfl (by decide +kernel), al_mc al_c8 98 rfl (by decide +kernel), al_mc al_c1 28 rfl (by decide +kernel)⟩
set_option maxRecDepth 20000 in
theorem cd_Jxe99ae_isNaN_b9ae7 : Cond.code yJxe99ae_isNaN_b9ae7 cJxe99ae_isNaN_b9ae7 2 (some .boolean) ∈ AL := al_mc al_c8 99 rfl (by decide +kernel)
set_option maxRecDepth 20000 in
theorem ml_L_249 : lkV RL 249 yX10_noteCount := ⟨al_mc al_c8 104 rfl (by decide +kernel), al_mc al_c8 105 rfl (by decide +kernel), al_mc al_c8 106 rfl (by decide +kernel), al_mc al_c1 18 rfl (by decide +kernel)⟩
set_option maxRecDepth 20000 in
theorem cd_X10_noteCount : Cond.code yX10_noteCount cX10_noteCount 1 (some .int) ∈ AL := al_mc al_c8 107 rfl (by decide +kernel)
set_option maxRecDepth 20000 in
theorem ml_L_253 : lkV RL 253 yX10_squeakCount := ⟨al_mc al_c8 108 rfl (by decide +kernel), al_mc al_c8 109 rfl (by decide +kernel), al_mc al_c8 110 rfl (by decide +kernel), al_mc al_c1 18 rfl (by decide +kernel)⟩
set_option maxRecDepth 20000 in
theorem cd_X10_squeakCount : Cond.code yX10_squeakCount cX10_squeakCount 1 (some .int) ∈ AL := al_mc al_c8 111 rfl (by decide +kernel)
set_option maxRecDepth 20000 in
theorem ml_L_257 : lkV RL 257 yX10_stepsPlayed := ⟨al_mc al_c8 112 rfl (by decide +kernel), al_mc al_c8 113 rfl (by decide +kernel), al_mc al_c8 114 rfl (by decide +kernel), al_mc al_c1 18 rfl (by decide +kernel)⟩
set_option maxRecDepth 20000 in
theorem cd_X10_stepsPlayed : Cond.code yX10_stepsPlayed cX10_stepsPlayed 1 (some .int) ∈ AL := al_mc al_c8 115 rfl (by decide +kernel)
set_option maxRecDepth 20000 in
theorem ml_L_261 : lkV RL 261 yX10_brokenTeeth := ⟨al_mc al_c8 116 rfl (by decide +kernel), al_mc al_c8 117 rfl (by decide +kernel), al_mc al_c8 118 rfl (by decide +kernel), al_mc al_c1 18 rfl (by decide +kernel)⟩
set_option maxRecDepth 20000 in
theorem cd_X10_brokenTeeth : Cond.code yX10_brokenTeeth cX10_brokenTeeth 3 (some .int) ∈ AL := al_mc al_c8 119 rfl (by decide +kernel)
set_option maxRecDepth 20000 in
theorem ml_L_265 : lkV RL 265 yX10_meanPitch := ⟨al_mc al_c8 120 rfl (by decide +kernel), al_mc al_c8 121 rfl (by decide +kernel), al_mc al_c8 122 rfl (by decide +kernel), al_mc al_c1 18 rfl (by decide +kernel)⟩
set_option maxRecDepth 20000 in
theorem cd_X10_meanPitch : Cond.code yX10_meanPitch cX10_meanPitch 5 (some .double) ∈ AL := al_mc al_c8 123 rfl (by decide +kernel)
set_option maxRecDepth 20000 in
theorem ml_L_268 : lkV RL 268 yX10_density := ⟨al_mc al_c8 124 rfl (by decide +kernel), al_mc al_c8 125 rfl (by decide +kernel), al_mc al_c8 126 rfl (by decide +kernel), al_mc al_c1 18 rfl (by decide +kernel)⟩
set_option maxRecDepth 20000 in
theorem cd_X10_density : Cond.code yX10_density cX10_density 2 (some .float) ∈ AL := al_mc al_c8 127 rfl (by decide +kernel)
set_option maxRecDepth 20000 in
theorem ml_L_272 : lkV RL 272 yX10_contradictions := ⟨al_mc al_c8 128 rfl (by decide +kernel), al_mc al_c8 129 rfl (by decide +kernel), al_mc al_c8 130 rfl (by decide +kernel), al_mc al_c1 18 rfl (by decide +kernel)⟩
set_option maxRecDepth 20000 in
theorem cd_X10_contradictions : Cond.code yX10_contradictions cX10_contradictions 3 (some .int) ∈ AL := al_mc al_c8 131 rfl (by decide +kernel)
set_option maxRecDepth 20000 in
theorem ml_X10_329 : lkS RX10 329 yJ9_abs_0f7a4 := ⟨al_mc al_c8 132 rfl (by decide +kernel), al_mc al_c4 86 rfl (by decide +kernel), al_mc al_c1 3 rfl (by decide +kernel)⟩
set_option maxRecDepth 20000 in
theorem ml_L_276 : lkV RL 276 yX10_stepsLeft := ⟨al_mc al_c8 133 rfl (by decide +kernel), al_mc al_c8 134 rfl (by decide +kernel), al_mc al_c8 135 rfl (by decide +kernel), al_mc al_c1 18 rfl (by decide +kernel)⟩
set_option maxRecDepth 20000 in
theorem cd_X10_stepsLeft : Cond.code yX10_stepsLeft cX10_stepsLeft 1 (some .int) ∈ AL := al_mc al_c8 136 rfl (by decide +kernel)
set_option maxRecDepth 20000 in
theorem ml_L_279 : lkV RL 279 yX10_stepsUntilBroken := ⟨al_mc al_c8 137 rfl (by decide +kernel), al_mc al_c8 138 rfl (by decide +kernel), al_mc al_c8 139 rfl (by decide +kernel), al_mc al_c1 18 rfl (by decide +kernel)⟩
set_option maxRecDepth 20000 in
theorem cd_X10_stepsUntilBroken : Cond.code yX10_stepsUntilBroken cX10_stepsUntilBroken 3 (some .int) ∈ AL := al_mc al_c8 140 rfl (by decide +kernel)
set_option maxRecDepth 20000 in
theorem ml_X10_332 : lkV RX10 332 yX10_tries := ⟨al_mc al_c8 141 rfl (by decide +kernel), al_mc al_c8 143 rfl (by decide +kernel), al_mem 62 (by decide +kernel) (by decide +kernel), al_mc al_c1 18 rfl (by decide +kernel)⟩
set_option maxRecDepth 20000 in
theorem cd_X10_tries : Cond.code yX10_tries cX10_tries 2 none ∈ AL := al_mc al_c8 144 rfl (by decide +kernel)
set_option maxRecDepth 20000 in
theorem ml_X10_335 : lkV RX10 335 yX10_back := ⟨al_mc al_c8 145 rfl (by decide +kernel), al_mc al_c8 147 rfl (by decide +kernel), al_mem 63 (by decide +kernel) (by decide +kernel), al_mc al_c1 18 rfl (by decide +kernel)⟩
set_option maxRecDepth 20000 in
theorem cd_X10_back : Cond.code yX10_back cX10_back 3 (some .int) ∈ AL := al_mc al_c8 148 rfl (by decide +kernel)
set_option maxRecDepth 20000 in
theorem ml_L_282 : lkV RL 282 yX10_notesIn := ⟨al_mc al_c8 149 rfl (by decide +kernel), al_mc al_c8 150 rfl (by decide +kernel), al_mc al_c8 151 rfl (by decide +kernel), al_mc al_c1 18 rfl (by decide +kernel)⟩
set_option maxRecDepth 20000 in
theorem cd_X10_notesIn : Cond.code yX10_notesIn cX10_notesIn 2 (some .int) ∈ AL := al_mc al_c8 152 rfl (by decide +kernel)
set_option maxRecDepth 20000 in
theorem ml_X10_341 : lkV RX10 341 yX10_after := ⟨al_mc al_c8 153 rfl (by decide +kernel), al_mc al_c8 155 rfl (by decide +kernel), al_mem 64 (by decide +kernel) (by decide +kernel), al_mc al_c1 18 rfl (by decide +kernel)⟩
set_option maxRecDepth 20000 in
theorem cd_X10_after : Cond.code yX10_after cX10_after 5 (some .int) ∈ AL := al_mc al_c8 156 rfl (by decide +kernel)
set_option maxRecDepth 20000 in
theorem ml_L_285 : lkV RL 285 yX10_squeaksIn := ⟨al_mc al_c8 157 rfl (by decide +kernel), al_mc al_c8 158 rfl (by decide +kernel), al_mc al_c8 159 rfl (by decide +kernel), al_mc al_c1 18 rfl (by decide +kernel)⟩
set_option maxRecDepth 20000 in
theorem cd_X10_squeaksIn : Cond.code yX10_squeaksIn cX10_squeaksIn 2 (some .int) ∈ AL := al_mc al_c8 160 rfl (by decide +kernel)
set_option maxRecDepth 20000 in
theorem ml_L_288 : lkV RL 288 yX10_addPin := ⟨al_mc al_c8 161 rfl (by decide +kernel), al_mc al_c8 162 rfl (by decide +kernel), al_mc al_c8 163 rfl (by decide +kernel), al_mc al_c1 18 rfl (by decide +kernel)⟩
set_option maxRecDepth 20000 in
theorem cd_X10_addPin : Cond.code yX10_addPin cX10_addPin 4 (some .int) ∈ AL := al_mc al_c8 164 rfl (by decide +kernel)
set_option maxRecDepth 20000 in
theorem ml_L_291 : lkV RL 291 yX10_removePin := ⟨al_mc al_c8 165 rfl (by decide +kernel), al_mc al_c8 166 rfl (by decide +kernel), al_mc al_c8 167 rfl (by decide +kernel), al_mc al_c1 18 rfl (by decide +kernel)⟩
set_option maxRecDepth 20000 in
theorem cd_X10_removePin : Cond.code yX10_removePin cX10_removePin 4 (some .int) ∈ AL := al_mc al_c8 168 rfl (by decide +kernel)
set_option maxRecDepth 20000 in
theorem ml_L_294 : lkV RL 294 yX10_shift := ⟨al_mc al_c8 169 rfl (by decide +kernel), al_mc al_c8 170 rfl (by decide +kernel), al_mc al_c8 171 rfl (by decide +kernel), al_mc al_c1 18 rfl (by decide +kernel)⟩
set_option maxRecDepth 20000 in
theorem cd_X10_shift : Cond.code yX10_shift cX10_shift 4 (some .int) ∈ AL := al_mc al_c8 172 rfl (by decide +kernel)
set_option maxRecDepth 20000 in
theorem ml_L_297 : lkV RL 297 yX10_transpose := ⟨al_mc al_c8 173 rfl (by decide +kernel), al_mc al_c8 174 rfl (by decide +kernel), al_mc al_c8 175 rfl (by decide +kernel), al_mc al_c1 18 rfl (by decide +kernel)⟩
set_option maxRecDepth 20000 in
theorem cd_X10_transpose : Cond.code yX10_transpose cX10_transpose 4 (some .int) ∈ AL := al_mc al_c8 176 rfl (by decide +kernel)
set_option maxRecDepth 20000 in
theorem ml_X10_347 : lkV RX10 347 yX10_fits := ⟨al_mc al_c8 177 rfl (by decide +kernel), al_mc al_c8 179 rfl (by decide +kernel), al_mem 65 (by decide +kernel) (by decide +kernel), al_mc al_c1 18 rfl (by decide +kernel)⟩
set_option maxRecDepth 20000 in
theorem cd_X10_fits : Cond.code yX10_fits cX10_fits 5 (some .boolean) ∈ AL := al_mc al_c8 180 rfl (by decide +kernel)
set_option maxRecDepth 20000 in
theorem ml_L_300 : lkV RL 300 yX10_copyTune := ⟨al_mc al_c8 181 rfl (by decide +kernel), al_mc al_c8 182 rfl (by decide +kernel), al_mc al_c8 183 rfl (by decide +kernel), al_mc al_c1 18 rfl (by decide +kernel)⟩
set_option maxRecDepth 20000 in
theorem cd_X10_copyTune : Cond.code yX10_copyTune cX10_copyTune 4 (some .int) ∈ AL := al_mc al_c8 184 rfl (by decide +kernel)
set_option maxRecDepth 20000 in
theorem ml_L_303 : lkV RL 303 yX10_selectTune := ⟨al_mc al_c8 185 rfl (by decide +kernel), al_mc al_c8 186 rfl (by decide +kernel), al_mc al_c8 187 rfl (by decide +kernel), al_mc al_c1 18 rfl (by decide +kernel)⟩
set_option maxRecDepth 20000 in
theorem cd_X10_selectTune : Cond.code yX10_selectTune cX10_selectTune 2 (some .int) ∈ AL := al_mc al_c8 188 rfl (by decide +kernel)
set_option maxRecDepth 20000 in
theorem ml_L_306 : lkV RL 306 yX10_setGap := ⟨al_mc al_c8 189 rfl (by decide +kernel), al_mc al_c8 190 rfl (by decide +kernel), al_mc al_c8 191 rfl (by decide +kernel), al_mc al_c1 18 rfl (by decide +kernel)⟩
set_option maxRecDepth 20000 in
theorem cd_X10_setGap : Cond.code yX10_setGap cX10_setGap 3 (some .int) ∈ AL := al_mc al_c8 192 rfl (by decide +kernel)
set_option maxRecDepth 20000 in
theorem ml_L_309 : lkV RL 309 yX10_bend := ⟨al_mc al_c8 193 rfl (by decide +kernel), al_mc al_c8 194 rfl (by decide +kernel), al_mc al_c8 195 rfl (by decide +kernel), al_mc al_c1 18 rfl (by decide +kernel)⟩
set_option maxRecDepth 20000 in
theorem cd_X10_bend : Cond.code yX10_bend cX10_bend 3 (some .int) ∈ AL := al_mc al_c8 196 rfl (by decide +kernel)
set_option maxRecDepth 20000 in
theorem ml_L_312 : lkV RL 312 yX10_replaceTooth := ⟨al_mc al_c8 197 rfl (by decide +kernel), al_mc al_c8 198 rfl (by decide +kernel), al_mc al_c8 199 rfl (by decide +kernel), al_mc al_c1 18 rfl (by decide +kernel)⟩
set_option maxRecDepth 20000 in
theorem cd_X10_replaceTooth : Cond.code yX10_replaceTooth cX10_replaceTooth 2 (some .int) ∈ AL := al_mc al_c8 200 rfl (by decide +kernel)
set_option maxRecDepth 20000 in
theorem ml_L_315 : lkV RL 315 yX10_setVane := ⟨al_mc al_c8 201 rfl (by decide +kernel), al_mc al_c8 202 rfl (by decide +kernel), al_mc al_c8 203 rfl (by decide +kernel), al_mc al_c1 18 rfl (by decide +kernel)⟩
set_option maxRecDepth 20000 in
theorem cd_X10_setVane : Cond.code yX10_setVane cX10_setVane 2 (some .int) ∈ AL := al_mc al_c8 204 rfl (by decide +kernel)
set_option maxRecDepth 20000 in
theorem ml_L_318 : lkV RL 318 yX10_wind := ⟨al_mc al_c8 205 rfl (by decide +kernel), al_mc al_c8 206 rfl (by decide +kernel), al_mc al_c8 207 rfl (by decide +kernel), al_mc al_c1 18 rfl (by decide +kernel)⟩
set_option maxRecDepth 20000 in
theorem cd_X10_wind : Cond.code yX10_wind cX10_wind 2 (some .int) ∈ AL := al_mc al_c8 208 rfl (by decide +kernel)
set_option maxRecDepth 20000 in
theorem ml_L_321 : lkV RL 321 yX10_play := ⟨al_mc al_c8 209 rfl (by decide +kernel), al_mc al_c8 210 rfl (by decide +kernel), al_mc al_c8 211 rfl (by decide +kernel), al_mc al_c1 18 rfl (by decide +kernel)⟩
set_option maxRecDepth 20000 in
theorem cd_X10_play : Cond.code yX10_play cX10_play 2 (some .int) ∈ AL := al_mc al_c8 212 rfl (by decide +kernel)
set_option maxRecDepth 20000 in
theorem ml_L_324 : lkV RL 324 yX10_writePins := ⟨al_mc al_c8 213 rfl (by decide +kernel), al_mc al_c8 214 rfl (by decide +kernel), al_mc al_c8 215 rfl (by decide +kernel), al_mc al_c1 18 rfl (by decide +kernel)⟩
set_option maxRecDepth 20000 in
theorem cd_X10_writePins : Cond.code yX10_writePins cX10_writePins 4 (some .int) ∈ AL := al_mc al_c8 216 rfl (by decide +kernel)
set_option maxRecDepth 20000 in
theorem ml_X10_353 : lkV RX10 353 yX10_writes := ⟨al_mc al_c8 217 rfl (by decide +kernel), al_mc al_c8 219 rfl (by decide +kernel), al_mem 66 (by decide +kernel) (by decide +kernel), al_mc al_c1 18 rfl (by decide +kernel)⟩
set_option maxRecDepth 20000 in
theorem cd_X10_writes : Cond.code yX10_writes cX10_writes 2 none ∈ AL := al_mc al_c8 220 rfl (by decide +kernel)
set_option maxRecDepth 20000 in
theorem ml_L_328 : lkV RL 328 yX10_writeComb := ⟨al_mc al_c8 221 rfl (by decide +kernel), al_mc al_c8 222 rfl (by decide +kernel), al_mc al_c8 223 rfl (by decide +kernel), al_mc al_c1 18 rfl (by decide +kernel)⟩
set_option maxRecDepth 20000 in
theorem cd_X10_writeComb : Cond.code yX10_writeComb cX10_writeComb 2 (some .int) ∈ AL := al_mc al_c8 224 rfl (by decide +kernel)
set_option maxRecDepth 20000 in
theorem ml_X10_356 : lkV RX10 356 yX10_writesNumber := ⟨al_mc al_c8 225 rfl (by decide +kernel), al_mc al_c8 227 rfl (by decide +kernel), al_mem 67 (by decide +kernel) (by decide +kernel), al_mc al_c1 18 rfl (by decide +kernel)⟩
set_option maxRecDepth 20000 in
theorem cd_X10_writesNumber : Cond.code yX10_writesNumber cX10_writesNumber 3 none ∈ AL := al_mc al_c8 228 rfl (by decide +kernel)
set_option maxRecDepth 20000 in
theorem ml_L_332 : lkV RL 332 yX10_outputByte := ⟨al_mc al_c8 229 rfl (by decide +kernel), al_mc al_c8 230 rfl (by decide +kernel), al_mc al_c8 231 rfl (by decide +kernel), al_mc al_c1 18 rfl (by decide +kernel)⟩
set_option maxRecDepth 20000 in
theorem cd_X10_outputByte : Cond.code yX10_outputByte cX10_outputByte 2 (some .int) ∈ AL := al_mc al_c8 232 rfl (by decide +kernel)
set_option maxRecDepth 20000 in
theorem ml_L_336 : lkV RL 336 yX10_undoCount := ⟨al_mc al_c8 233 rfl (by decide +kernel), al_mc al_c8 234 rfl (by decide +kernel), al_mc al_c8 235 rfl (by decide +kernel), al_mc al_c1 18 rfl (by decide +kernel)⟩
set_option maxRecDepth 20000 in
theorem cd_X10_undoCount : Cond.code yX10_undoCount cX10_undoCount 1 (some .int) ∈ AL := al_mc al_c8 236 rfl (by decide +kernel)
set_option maxRecDepth 20000 in
theorem ml_L_340 : lkV RL 340 yX10_undo := ⟨al_mc al_c8 237 rfl (by decide +kernel), al_mc al_c8 238 rfl (by decide +kernel), al_mc al_c8 239 rfl (by decide +kernel), al_mc al_c1 18 rfl (by decide +kernel)⟩
set_option maxRecDepth 20000 in
theorem cd_X10_undo : Cond.code yX10_undo cX10_undo 2 (some .int) ∈ AL := al_mc al_c9 0 rfl (by decide +kernel)
set_option maxRecDepth 20000 in
theorem ml_L_343 : lkV RL 343 yX10_save := ⟨al_mc al_c9 1 rfl (by decide +kernel), al_mc al_c9 2 rfl (by decide +kernel), al_mc al_c9 3 rfl (by decide +kernel), al_mc al_c1 18 rfl (by decide +kernel)⟩
set_option maxRecDepth 20000 in
theorem cd_X10_save : Cond.code yX10_save cX10_save 3 (some .int) ∈ AL := al_mc al_c9 4 rfl (by decide +kernel)
set_option maxRecDepth 20000 in
theorem ml_L_346 : lkV RL 346 yX10_restore := ⟨al_mc al_c9 5 rfl (by decide +kernel), al_mc al_c9 6 rfl (by decide +kernel), al_mc al_c9 7 rfl (by decide +kernel), al_mc al_c1 18 rfl (by decide +kernel)⟩
set_option maxRecDepth 20000 in
theorem cd_X10_restore : Cond.code yX10_restore cX10_restore 3 (some .int) ∈ AL := al_mc al_c9 8 rfl (by decide +kernel)
theorem gw_inst {C : String} {n : Nat} : goodWord (.instantiable C n) = true := by rfl
theorem gw_init {C : String} : goodWord (.initialized C) = true := by rfl
theorem gw_nat {y : MethodName} : goodWord (.native y) = true := by rfl
theorem gw_cl {C D : String} {n : Nat} : goodWord (.classLink C n D) = true := by rfl
theorem gw_c2 {C : String} {n : Nat} {v : Int64} : goodWord (.constantLong C n v) = true := by rfl
theorem gw_cw {y : MethodName} {c n r h} : goodWord (.codeWith y c n r h) = true := by rfl
