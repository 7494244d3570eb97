/-- the good words of the claim's tables -/
def AL : List Cond := lw_tbl.filter goodWord
theorem al_mem {w : Cond} (n : Nat) (h : lw_tbl[n]? = some w) (g : goodWord w = true) : w ∈ AL := List.mem_filter.mpr ⟨List.mem_of_getElem? h, g⟩
theorem al_good {ws : List Cond} (h : ∀ w ∈ ws, w ∈ AL) : GoodIn AL ws := fun w hw => ⟨h w hw, good_of_word (List.mem_filter.mp (h w hw)).2⟩
def Rc : Nat → String := fun k => match k with
  | 0 => RX0
  | 1 => RX1
  | 2 => RX2
  | 3 => RX3
  | 4 => RX4
  | 5 => RX5
  | 6 => RX6
  | 7 => RX7
  | 8 => RX8
  | 9 => RX9
  | 10 => RX10
  | 11 => RJ0
  | _ => RJ4
def Tc : Nat → u_T := fun k => match k with
  | 0 => TX0
  | 1 => TX1
  | 2 => TX2
  | 3 => TX3
  | 4 => TX4
  | 5 => TX5
  | 6 => TX6
  | 7 => TX7
  | 8 => TX8
  | 9 => TX9
  | 10 => TX10
  | 11 => TJ0
  | _ => TJ4
def Nc : Nat → Nat := fun k => match k with
  | 0 => 10
  | 1 => 2
  | 2 => 3
  | 3 => 4
  | 4 => 7
  | 5 => 2
  | 6 => 2
  | 7 => 9
  | 8 => 6
  | 9 => 11
  | 10 => 18
  | 11 => 4
  | _ => 4
def tyc : Nat → Nat → FieldType := fun k => match k with
  | 0 => tyX0
  | 1 => tyX1
  | 2 => tyX2
  | 3 => tyX3
  | 4 => tyX4
  | 5 => tyX5
  | 6 => tyX6
  | 7 => tyX7
  | 8 => tyX8
  | 9 => tyX9
  | 10 => tyX10
  | 11 => tyJ0
  | _ => tyJ4
set_option maxRecDepth 20000 in
theorem inc0 : ∀ w ∈ u_ws RX0 TX0 10, w ∈ AL := fun w h => List.mem_filter.mpr ⟨(goodIn_r (big := lw_tbl) (u_ws RX0 TX0 10) [212, 214, 216, 218, 220, 222, 224, 226, 228, 230] rfl (by decide +kernel) w h).1, List.all_eq_true.mp (show (u_ws RX0 TX0 10).all goodWord = true by decide +kernel) w h⟩
set_option maxRecDepth 20000 in
theorem inc1 : ∀ w ∈ u_ws RX1 TX1 2, w ∈ AL := fun w h => List.mem_filter.mpr ⟨(goodIn_r (big := lw_tbl) (u_ws RX1 TX1 2) [58, 60] rfl (by decide +kernel) w h).1, List.all_eq_true.mp (show (u_ws RX1 TX1 2).all goodWord = true by decide +kernel) w h⟩
set_option maxRecDepth 20000 in
theorem inc2 : ∀ w ∈ u_ws RX2 TX2 3, w ∈ AL := fun w h => List.mem_filter.mpr ⟨(goodIn_r (big := lw_tbl) (u_ws RX2 TX2 3) [272, 274, 276] rfl (by decide +kernel) w h).1, List.all_eq_true.mp (show (u_ws RX2 TX2 3).all goodWord = true by decide +kernel) w h⟩
set_option maxRecDepth 20000 in
theorem inc3 : ∀ w ∈ u_ws RX3 TX3 4, w ∈ AL := fun w h => List.mem_filter.mpr ⟨(goodIn_r (big := lw_tbl) (u_ws RX3 TX3 4) [148, 150, 152, 154] rfl (by decide +kernel) w h).1, List.all_eq_true.mp (show (u_ws RX3 TX3 4).all goodWord = true by decide +kernel) w h⟩
set_option maxRecDepth 20000 in
theorem inc4 : ∀ w ∈ u_ws RX4 TX4 7, w ∈ AL := fun w h => List.mem_filter.mpr ⟨(goodIn_r (big := lw_tbl) (u_ws RX4 TX4 7) [110, 112, 114, 116, 118, 120, 122] rfl (by decide +kernel) w h).1, List.all_eq_true.mp (show (u_ws RX4 TX4 7).all goodWord = true by decide +kernel) w h⟩
set_option maxRecDepth 20000 in
theorem inc5 : ∀ w ∈ u_ws RX5 TX5 2, w ∈ AL := fun w h => List.mem_filter.mpr ⟨(goodIn_r (big := lw_tbl) (u_ws RX5 TX5 2) [254, 256] rfl (by decide +kernel) w h).1, List.all_eq_true.mp (show (u_ws RX5 TX5 2).all goodWord = true by decide +kernel) w h⟩
set_option maxRecDepth 20000 in
theorem inc6 : ∀ w ∈ u_ws RX6 TX6 2, w ∈ AL := fun w h => List.mem_filter.mpr ⟨(goodIn_r (big := lw_tbl) (u_ws RX6 TX6 2) [241, 243] rfl (by decide +kernel) w h).1, List.all_eq_true.mp (show (u_ws RX6 TX6 2).all goodWord = true by decide +kernel) w h⟩
set_option maxRecDepth 20000 in
theorem inc7 : ∀ w ∈ u_ws RX7 TX7 9, w ∈ AL := fun w h => List.mem_filter.mpr ⟨(goodIn_r (big := lw_tbl) (u_ws RX7 TX7 9) [81, 83, 85, 87, 89, 91, 93, 95, 97] rfl (by decide +kernel) w h).1, List.all_eq_true.mp (show (u_ws RX7 TX7 9).all goodWord = true by decide +kernel) w h⟩
set_option maxRecDepth 20000 in
theorem inc8 : ∀ w ∈ u_ws RX8 TX8 6, w ∈ AL := fun w h => List.mem_filter.mpr ⟨(goodIn_r (big := lw_tbl) (u_ws RX8 TX8 6) [179, 181, 183, 185, 187, 189] rfl (by decide +kernel) w h).1, List.all_eq_true.mp (show (u_ws RX8 TX8 6).all goodWord = true by decide +kernel) w h⟩
set_option maxRecDepth 20000 in
theorem inc9 : ∀ w ∈ u_ws RX9 TX9 11, w ∈ AL := fun w h => List.mem_filter.mpr ⟨(goodIn_r (big := lw_tbl) (u_ws RX9 TX9 11) [495, 497, 499, 501, 503, 505, 507, 509, 511, 513, 515] rfl (by decide +kernel) w h).1, List.all_eq_true.mp (show (u_ws RX9 TX9 11).all goodWord = true by decide +kernel) w h⟩
set_option maxRecDepth 20000 in
theorem inc10 : ∀ w ∈ u_ws RX10 TX10 18, w ∈ AL := fun w h => List.mem_filter.mpr ⟨(goodIn_r (big := lw_tbl) (u_ws RX10 TX10 18) [678, 680, 682, 684, 686, 688, 690, 692, 694, 696, 698, 700, 702, 704, 706, 708, 710, 712] rfl (by decide +kernel) w h).1, List.all_eq_true.mp (show (u_ws RX10 TX10 18).all goodWord = true by decide +kernel) w h⟩
set_option maxRecDepth 20000 in
theorem inc11 : ∀ w ∈ u_ws RJ0 TJ0 4, w ∈ AL := fun w h => List.mem_filter.mpr ⟨(goodIn_r (big := lw_tbl) (u_ws RJ0 TJ0 4) [937, 939, 941, 943] rfl (by decide +kernel) w h).1, List.all_eq_true.mp (show (u_ws RJ0 TJ0 4).all goodWord = true by decide +kernel) w h⟩
set_option maxRecDepth 20000 in
theorem inc12 : ∀ w ∈ u_ws RJ4 TJ4 4, w ∈ AL := fun w h => List.mem_filter.mpr ⟨(goodIn_r (big := lw_tbl) (u_ws RJ4 TJ4 4) [753, 755, 757, 759] rfl (by decide +kernel) w h).1, List.all_eq_true.mp (show (u_ws RJ4 TJ4 4).all goodWord = true by decide +kernel) w h⟩
theorem inC : ∀ ci, ci < 13 → ∀ w ∈ u_ws (Rc ci) (Tc ci) (Nc ci), w ∈ AL
  | 0, _ => inc0
  | 1, _ => inc1
  | 2, _ => inc2
  | 3, _ => inc3
  | 4, _ => inc4
  | 5, _ => inc5
  | 6, _ => inc6
  | 7, _ => inc7
  | 8, _ => inc8
  | 9, _ => inc9
  | 10, _ => inc10
  | 11, _ => inc11
  | 12, _ => inc12
  | n + 13, h => absurd h (by omega)
theorem tyC : ∀ ci, ci < 13 → ∀ k, k < Nc ci → parseFieldDescriptor (Tc ci k).2.2.1 = some (tyc ci k)
  | 0, _ => tyX0_ok
  | 1, _ => tyX1_ok
  | 2, _ => tyX2_ok
  | 3, _ => tyX3_ok
  | 4, _ => tyX4_ok
  | 5, _ => tyX5_ok
  | 6, _ => tyX6_ok
  | 7, _ => tyX7_ok
  | 8, _ => tyX8_ok
  | 9, _ => tyX9_ok
  | 10, _ => tyX10_ok
  | 11, _ => tyJ0_ok
  | 12, _ => tyJ4_ok
  | n + 13, h => absurd h (by omega)
theorem nmC : ∀ ci, ci < 13 → ∀ a, a < Nc ci → ∀ b, b < Nc ci → a ≠ b → (Tc ci a).2.1 ≠ (Tc ci b).2.1
  | 0, _ => nmX0
  | 1, _ => nmX1
  | 2, _ => nmX2
  | 3, _ => nmX3
  | 4, _ => nmX4
  | 5, _ => nmX5
  | 6, _ => nmX6
  | 7, _ => nmX7
  | 8, _ => nmX8
  | 9, _ => nmX9
  | 10, _ => nmX10
  | 11, _ => nmJ0
  | 12, _ => nmJ4
  | n + 13, h => absurd h (by omega)
theorem clC : ∀ ci, ci < 13 → vwCl[ci]? = some (Rc ci, Tc ci, Nc ci)
  | 0, _ => rfl
  | 1, _ => rfl
  | 2, _ => rfl
  | 3, _ => rfl
  | 4, _ => rfl
  | 5, _ => rfl
  | 6, _ => rfl
  | 7, _ => rfl
  | 8, _ => rfl
  | 9, _ => rfl
  | 10, _ => rfl
  | 11, _ => rfl
  | 12, _ => rfl
  | n + 13, h => absurd h (by omega)
def lkF (own : String) (idx ci j : Nat) : Prop := Cond.fieldLink own idx (Tc ci j).1 (Tc ci j).2.1 (Tc ci j).2.2.1 ∈ AL
def lkV (own : String) (idx : Nat) (y : MethodName) : Prop := Cond.methodLink own idx y ∈ AL ∧ Cond.instanceMethod y ∈ AL ∧ Cond.selects y.cls y y ∈ AL ∧ Cond.initialized y.cls ∈ AL
def lkS (own : String) (idx : Nat) (y : MethodName) : Prop := Cond.methodLink own idx y ∈ AL ∧ Cond.static y ∈ AL ∧ Cond.initialized y.cls ∈ AL
def lkI (own : String) (idx : Nat) (y : MethodName) : Prop := Cond.methodLink own idx y ∈ AL ∧ Cond.instanceMethod y ∈ AL ∧ Cond.initialized y.cls ∈ AL
def nst : List Cond := [.methodLinkNest RX9 32 yX4_init "MusicBoxEditor", .methodLinkNest RX0 11 yX3_init "MusicBoxEditor", .methodLinkNest RX0 24 yX8_init "MusicBoxEditor", .methodLinkNest RL 359 yX10_init "MusicBoxEditorLaw", .methodLinkNest RX0 95 yX9_rangeFault "MusicBoxEditor"]
def lkN (own : String) (idx : Nat) (y : MethodName) (host : String) : Prop := Cond.methodLinkNest own idx y host ∈ nst ∧ Cond.instanceMethod y ∈ AL ∧ Cond.initialized y.cls ∈ AL
def lkM (own : String) (idx : Nat) (y : MethodName) (host : String) : Prop := Cond.methodLinkNest own idx y host ∈ nst ∧ Cond.static y ∈ AL ∧ Cond.initialized y.cls ∈ AL
theorem al_c1 : ∀ w ∈ tables_1_1, w ∈ lw_tbl := fun w h => (List.mem_append_right _ (List.mem_append_left _ h))
theorem al_c2 : ∀ w ∈ tables_1_2, w ∈ lw_tbl := fun w h => (List.mem_append_right _ (List.mem_append_right _ (List.mem_append_left _ h)))
theorem al_c3 : ∀ w ∈ tables_1_3, w ∈ lw_tbl := fun w h => (List.mem_append_right _ (List.mem_append_right _ (List.mem_append_right _ (List.mem_append_left _ h))))
theorem al_c4 : ∀ w ∈ tables_1_4, w ∈ lw_tbl := fun w h => (List.mem_append_right _ (List.mem_append_right _ (List.mem_append_right _ (List.mem_append_right _ (List.mem_append_left _ h)))))
theorem al_c5 : ∀ w ∈ tables_1_5, w ∈ lw_tbl := fun w h => (List.mem_append_right _ (List.mem_append_right _ (List.mem_append_right _ (List.mem_append_right _ (List.mem_append_right _ (List.mem_append_left _ h))))))
theorem al_c6 : ∀ w ∈ tables_1_6, w ∈ lw_tbl := fun w h => (List.mem_append_right _ (List.mem_append_right _ (List.mem_append_right _ (List.mem_append_right _ (List.mem_append_right _ (List.mem_append_right _ (List.mem_append_left _ h)))))))
theorem al_c7 : ∀ w ∈ tables_1_7, w ∈ lw_tbl := fun w h => (List.mem_append_right _ (List.mem_append_right _ (List.mem_append_right _ (List.mem_append_right _ (List.mem_append_right _ (List.mem_append_right _ (List.mem_append_right _ h)))))))
theorem al_mc {w : Cond} {c : List Cond} (hc : ∀ w ∈ c, w ∈ lw_tbl) (m : Nat) (h : c[m]? = some w) (g : goodWord w = true) : w ∈ AL := List.mem_filter.mpr ⟨hc w (List.mem_of_getElem? h), g⟩
def fns : List Cond := [.fieldLinkNest RL 51 "MusicBoxEditorLaw$Own" "steps" "I" "MusicBoxEditorLaw", .fieldLinkNest RL 122 "MusicBoxEditorLaw$Own" "turns" "I" "MusicBoxEditorLaw", .fieldLinkNest RL 125 "MusicBoxEditorLaw$Own" "angle" "I" "MusicBoxEditorLaw", .fieldLinkNest RL 44 "MusicBoxEditorLaw$Own" "teeth" "I" "MusicBoxEditorLaw", .fieldLinkNest RL 179 "MusicBoxEditorLaw$Own" "tune" "I" "MusicBoxEditorLaw", .fieldLinkNest RL 185 "MusicBoxEditorLaw$Own" "at" "I" "MusicBoxEditorLaw", .fieldLinkNest RL 219 "MusicBoxEditorLaw$Own" "notes" "I" "MusicBoxEditorLaw", .fieldLinkNest RL 225 "MusicBoxEditorLaw$Own" "squeaks" "I" "MusicBoxEditorLaw", .fieldLinkNest RL 231 "MusicBoxEditorLaw$Own" "played" "I" "MusicBoxEditorLaw", .fieldLinkNest RL 301 "MusicBoxEditorLaw$Own" "bends" "I" "MusicBoxEditorLaw", .fieldLinkNest RL 307 "MusicBoxEditorLaw$Own" "replaced" "I" "MusicBoxEditorLaw", .fieldLinkNest RL 58 "MusicBoxEditorLaw$Own" "pitch" "[I" "MusicBoxEditorLaw", .fieldLinkNest RL 62 "MusicBoxEditorLaw$Own" "bent" "[I" "MusicBoxEditorLaw", .fieldLinkNest RL 153 "MusicBoxEditorLaw$Own" "gap" "[I" "MusicBoxEditorLaw", .fieldLinkNest RL 341 "MusicBoxEditorLaw$Own" "strength" "[I" "MusicBoxEditorLaw", .fieldLinkNest RL 158 "MusicBoxEditorLaw$Own" "wear" "[I" "MusicBoxEditorLaw", .fieldLinkNest RL 310 "MusicBoxEditorLaw$Own" "since" "[I" "MusicBoxEditorLaw", .fieldLinkNest RL 273 "MusicBoxEditorLaw$Own" "pins" "[Z" "MusicBoxEditorLaw"]
def lkG (own : String) (idx ci j : Nat) : Prop := Cond.fieldLinkNest own idx (Tc ci j).1 (Tc ci j).2.1 (Tc ci j).2.2.1 RL ∈ fns
theorem fg_L_51 : lkG RL 51 10 0 := (by decide +kernel : Cond.fieldLinkNest RL 51 (Tc 10 0).1 (Tc 10 0).2.1 (Tc 10 0).2.2.1 RL ∈ fns)
theorem fg_L_122 : lkG RL 122 10 1 := (by decide +kernel : Cond.fieldLinkNest RL 122 (Tc 10 1).1 (Tc 10 1).2.1 (Tc 10 1).2.2.1 RL ∈ fns)
theorem fg_L_125 : lkG RL 125 10 2 := (by decide +kernel : Cond.fieldLinkNest RL 125 (Tc 10 2).1 (Tc 10 2).2.1 (Tc 10 2).2.2.1 RL ∈ fns)
theorem fg_L_44 : lkG RL 44 10 3 := (by decide +kernel : Cond.fieldLinkNest RL 44 (Tc 10 3).1 (Tc 10 3).2.1 (Tc 10 3).2.2.1 RL ∈ fns)
theorem fg_L_179 : lkG RL 179 10 4 := (by decide +kernel : Cond.fieldLinkNest RL 179 (Tc 10 4).1 (Tc 10 4).2.1 (Tc 10 4).2.2.1 RL ∈ fns)
theorem fg_L_185 : lkG RL 185 10 5 := (by decide +kernel : Cond.fieldLinkNest RL 185 (Tc 10 5).1 (Tc 10 5).2.1 (Tc 10 5).2.2.1 RL ∈ fns)
theorem fg_L_219 : lkG RL 219 10 6 := (by decide +kernel : Cond.fieldLinkNest RL 219 (Tc 10 6).1 (Tc 10 6).2.1 (Tc 10 6).2.2.1 RL ∈ fns)
theorem fg_L_225 : lkG RL 225 10 7 := (by decide +kernel : Cond.fieldLinkNest RL 225 (Tc 10 7).1 (Tc 10 7).2.1 (Tc 10 7).2.2.1 RL ∈ fns)
theorem fg_L_231 : lkG RL 231 10 8 := (by decide +kernel : Cond.fieldLinkNest RL 231 (Tc 10 8).1 (Tc 10 8).2.1 (Tc 10 8).2.2.1 RL ∈ fns)
theorem fg_L_301 : lkG RL 301 10 9 := (by decide +kernel : Cond.fieldLinkNest RL 301 (Tc 10 9).1 (Tc 10 9).2.1 (Tc 10 9).2.2.1 RL ∈ fns)
theorem fg_L_307 : lkG RL 307 10 10 := (by decide +kernel : Cond.fieldLinkNest RL 307 (Tc 10 10).1 (Tc 10 10).2.1 (Tc 10 10).2.2.1 RL ∈ fns)
theorem fg_L_58 : lkG RL 58 10 11 := (by decide +kernel : Cond.fieldLinkNest RL 58 (Tc 10 11).1 (Tc 10 11).2.1 (Tc 10 11).2.2.1 RL ∈ fns)
theorem fg_L_62 : lkG RL 62 10 12 := (by decide +kernel : Cond.fieldLinkNest RL 62 (Tc 10 12).1 (Tc 10 12).2.1 (Tc 10 12).2.2.1 RL ∈ fns)
theorem fg_L_153 : lkG RL 153 10 13 := (by decide +kernel : Cond.fieldLinkNest RL 153 (Tc 10 13).1 (Tc 10 13).2.1 (Tc 10 13).2.2.1 RL ∈ fns)
theorem fg_L_341 : lkG RL 341 10 14 := (by decide +kernel : Cond.fieldLinkNest RL 341 (Tc 10 14).1 (Tc 10 14).2.1 (Tc 10 14).2.2.1 RL ∈ fns)
theorem fg_L_158 : lkG RL 158 10 15 := (by decide +kernel : Cond.fieldLinkNest RL 158 (Tc 10 15).1 (Tc 10 15).2.1 (Tc 10 15).2.2.1 RL ∈ fns)
theorem fg_L_310 : lkG RL 310 10 16 := (by decide +kernel : Cond.fieldLinkNest RL 310 (Tc 10 16).1 (Tc 10 16).2.1 (Tc 10 16).2.2.1 RL ∈ fns)
theorem fg_L_273 : lkG RL 273 10 17 := (by decide +kernel : Cond.fieldLinkNest RL 273 (Tc 10 17).1 (Tc 10 17).2.1 (Tc 10 17).2.2.1 RL ∈ fns)
set_option maxRecDepth 20000 in
theorem ml_L_358 : lkI RL 358 yX9_init := ⟨al_mc al_c1 36 rfl (by decide +kernel), al_mc al_c1 37 rfl (by decide +kernel), al_mc al_c1 1 rfl (by decide +kernel)⟩
set_option maxRecDepth 20000 in
theorem cd_X9_init : Cond.code yX9_init cX9_init 2 none ∈ AL := al_mc al_c1 38 rfl (by decide +kernel)
set_option maxRecDepth 20000 in
theorem ml_X9_11 : lkI RX9 11 yX1_init := ⟨al_mc al_c1 44 rfl (by decide +kernel), al_mc al_c1 45 rfl (by decide +kernel), al_mc al_c1 2 rfl (by decide +kernel)⟩
set_option maxRecDepth 20000 in
theorem cd_X1_init : Cond.code yX1_init cX1_init 2 none ∈ AL := al_mc al_c1 46 rfl (by decide +kernel)
set_option maxRecDepth 20000 in
theorem ml_X1_9 : lkS RX1 9 yJ9_max_7cf53 := ⟨al_mc al_c1 48 rfl (by decide +kernel), al_mc al_c1 49 rfl (by decide +kernel), al_mc al_c1 3 rfl (by decide +kernel)⟩
set_option maxRecDepth 20000 in
theorem cd_J9_max_7cf53 : Cond.code yJ9_max_7cf53 cJ9_max_7cf53 2 (some .int) ∈ AL := al_mc al_c1 50 rfl (by decide +kernel)
set_option maxRecDepth 20000 in
theorem fl_X1_15 : lkF RX1 15 1 0 := al_mc al_c1 51 rfl (by decide +kernel)
set_option maxRecDepth 20000 in
theorem fl_X1_21 : lkF RX1 21 1 1 := al_mc al_c1 52 rfl (by decide +kernel)
set_option maxRecDepth 20000 in
theorem fl_X7_41 : lkF RX7 41 1 1 := al_mc al_c1 53 rfl (by decide +kernel)
set_option maxRecDepth 20000 in
theorem fl_X9_102 : lkF RX9 102 1 1 := al_mc al_c1 54 rfl (by decide +kernel)
set_option maxRecDepth 20000 in
theorem ml_X9_23 : lkI RX9 23 yX7_init := ⟨al_mc al_c1 63 rfl (by decide +kernel), al_mc al_c1 64 rfl (by decide +kernel), al_mc al_c1 4 rfl (by decide +kernel)⟩
set_option maxRecDepth 20000 in
theorem cd_X7_init : Cond.code yX7_init cX7_init 2 none ∈ AL := al_mc al_c1 65 rfl (by decide +kernel)
set_option maxRecDepth 20000 in
theorem fl_X7_24 : lkF RX7 24 7 0 := al_mc al_c1 67 rfl (by decide +kernel)
set_option maxRecDepth 20000 in
theorem fl_X7_9 : lkF RX7 9 7 1 := al_mc al_c1 68 rfl (by decide +kernel)
set_option maxRecDepth 20000 in
theorem fl_X7_15 : lkF RX7 15 7 2 := al_mc al_c1 69 rfl (by decide +kernel)
set_option maxRecDepth 20000 in
theorem fl_X7_18 : lkF RX7 18 7 3 := al_mc al_c1 70 rfl (by decide +kernel)
set_option maxRecDepth 20000 in
theorem fl_X7_21 : lkF RX7 21 7 4 := al_mc al_c1 71 rfl (by decide +kernel)
set_option maxRecDepth 20000 in
theorem fl_X7_35 : lkF RX7 35 7 5 := al_mc al_c1 72 rfl (by decide +kernel)
set_option maxRecDepth 20000 in
theorem fl_X7_38 : lkF RX7 38 7 6 := al_mc al_c1 73 rfl (by decide +kernel)
set_option maxRecDepth 20000 in
theorem fl_X7_32 : lkF RX7 32 7 7 := al_mc al_c1 74 rfl (by decide +kernel)
set_option maxRecDepth 20000 in
theorem fl_X9_120 : lkF RX9 120 7 7 := al_mc al_c1 75 rfl (by decide +kernel)
set_option maxRecDepth 20000 in
theorem fl_X7_28 : lkF RX7 28 7 8 := al_mc al_c1 76 rfl (by decide +kernel)
set_option maxRecDepth 20000 in
theorem fl_X9_150 : lkF RX9 150 7 8 := al_mc al_c1 77 rfl (by decide +kernel)
set_option maxRecDepth 20000 in
theorem ml_X9_32 : lkN RX9 32 yX4_init "MusicBoxEditor" := ⟨by decide +kernel, al_mc al_c1 100 rfl (by decide +kernel), al_mc al_c1 5 rfl (by decide +kernel)⟩
set_option maxRecDepth 20000 in
theorem cd_X4_init : Cond.code yX4_init cX4_init 1 none ∈ AL := al_mc al_c1 101 rfl (by decide +kernel)
set_option maxRecDepth 20000 in
theorem fl_X4_11 : lkF RX4 11 4 0 := al_mc al_c1 103 rfl (by decide +kernel)
set_option maxRecDepth 20000 in
theorem fl_X4_15 : lkF RX4 15 4 1 := al_mc al_c1 104 rfl (by decide +kernel)
set_option maxRecDepth 20000 in
theorem fl_X4_18 : lkF RX4 18 4 2 := al_mc al_c1 105 rfl (by decide +kernel)
set_option maxRecDepth 20000 in
theorem fl_X4_21 : lkF RX4 21 4 3 := al_mc al_c1 106 rfl (by decide +kernel)
set_option maxRecDepth 20000 in
theorem ml_X9_39 : lkI RX9 39 yX0_init := ⟨al_mc al_c1 124 rfl (by decide +kernel), al_mc al_c1 125 rfl (by decide +kernel), al_mc al_c1 6 rfl (by decide +kernel)⟩
set_option maxRecDepth 20000 in
theorem cd_X0_init : Cond.code yX0_init cX0_init 2 none ∈ AL := al_mc al_c1 126 rfl (by decide +kernel)
set_option maxRecDepth 20000 in
theorem ml_X0_11 : lkN RX0 11 yX3_init "MusicBoxEditor" := ⟨by decide +kernel, al_mc al_c1 131 rfl (by decide +kernel), al_mc al_c1 7 rfl (by decide +kernel)⟩
set_option maxRecDepth 20000 in
theorem cd_X3_init : Cond.code yX3_init cX3_init 1 none ∈ AL := al_mc al_c1 132 rfl (by decide +kernel)
set_option maxRecDepth 20000 in
theorem fl_X3_9 : lkF RX3 9 3 0 := al_mc al_c1 134 rfl (by decide +kernel)
set_option maxRecDepth 20000 in
theorem fl_X3_15 : lkF RX3 15 3 1 := al_mc al_c1 135 rfl (by decide +kernel)
set_option maxRecDepth 20000 in
theorem fl_X6_82 : lkF RX6 82 3 1 := al_mc al_c1 136 rfl (by decide +kernel)
set_option maxRecDepth 20000 in
theorem fl_X0_64 : lkF RX0 64 3 1 := al_mc al_c1 137 rfl (by decide +kernel)
set_option maxRecDepth 20000 in
theorem fl_X9_157 : lkF RX9 157 3 1 := al_mc al_c1 138 rfl (by decide +kernel)
set_option maxRecDepth 20000 in
theorem fl_X3_19 : lkF RX3 19 3 2 := al_mc al_c1 139 rfl (by decide +kernel)
set_option maxRecDepth 20000 in
theorem fl_X9_165 : lkF RX9 165 3 2 := al_mc al_c1 140 rfl (by decide +kernel)
set_option maxRecDepth 20000 in
theorem fl_X0_129 : lkF RX0 129 3 2 := al_mc al_c1 141 rfl (by decide +kernel)
set_option maxRecDepth 20000 in
theorem fl_X3_22 : lkF RX3 22 3 3 := al_mc al_c1 142 rfl (by decide +kernel)
set_option maxRecDepth 20000 in
theorem fl_X9_162 : lkF RX9 162 3 3 := al_mc al_c1 143 rfl (by decide +kernel)
set_option maxRecDepth 20000 in
theorem fl_X0_126 : lkF RX0 126 3 3 := al_mc al_c1 144 rfl (by decide +kernel)
set_option maxRecDepth 20000 in
theorem ml_X0_24 : lkN RX0 24 yX8_init "MusicBoxEditor" := ⟨by decide +kernel, al_mc al_c1 159 rfl (by decide +kernel), al_mc al_c1 8 rfl (by decide +kernel)⟩
set_option maxRecDepth 20000 in
theorem cd_X8_init : Cond.code yX8_init cX8_init 1 none ∈ AL := al_mc al_c1 160 rfl (by decide +kernel)
set_option maxRecDepth 20000 in
theorem fl_X8_9 : lkF RX8 9 8 0 := al_mc al_c1 162 rfl (by decide +kernel)
set_option maxRecDepth 20000 in
theorem fl_X8_24 : lkF RX8 24 8 1 := al_mc al_c1 163 rfl (by decide +kernel)
set_option maxRecDepth 20000 in
theorem fl_X0_98 : lkF RX0 98 8 1 := al_mc al_c1 164 rfl (by decide +kernel)
set_option maxRecDepth 20000 in
theorem fl_X9_226 : lkF RX9 226 8 1 := al_mc al_c1 165 rfl (by decide +kernel)
set_option maxRecDepth 20000 in
theorem fl_X8_15 : lkF RX8 15 8 2 := al_mc al_c1 166 rfl (by decide +kernel)
set_option maxRecDepth 20000 in
theorem fl_X9_229 : lkF RX9 229 8 2 := al_mc al_c1 167 rfl (by decide +kernel)
set_option maxRecDepth 20000 in
theorem fl_X0_138 : lkF RX0 138 8 2 := al_mc al_c1 168 rfl (by decide +kernel)
set_option maxRecDepth 20000 in
theorem fl_X8_18 : lkF RX8 18 8 3 := al_mc al_c1 169 rfl (by decide +kernel)
set_option maxRecDepth 20000 in
theorem fl_X0_157 : lkF RX0 157 8 3 := al_mc al_c1 170 rfl (by decide +kernel)
set_option maxRecDepth 20000 in
theorem fl_X8_27 : lkF RX8 27 8 4 := al_mc al_c1 171 rfl (by decide +kernel)
set_option maxRecDepth 20000 in
theorem fl_X0_105 : lkF RX0 105 8 4 := al_mc al_c1 172 rfl (by decide +kernel)
set_option maxRecDepth 20000 in
theorem fl_X9_232 : lkF RX9 232 8 4 := al_mc al_c1 173 rfl (by decide +kernel)
set_option maxRecDepth 20000 in
theorem fl_X8_30 : lkF RX8 30 8 5 := al_mc al_c1 174 rfl (by decide +kernel)
set_option maxRecDepth 20000 in
theorem fl_X9_235 : lkF RX9 235 8 5 := al_mc al_c1 175 rfl (by decide +kernel)
set_option maxRecDepth 20000 in
theorem fl_X0_12 : lkF RX0 12 0 0 := al_mc al_c1 189 rfl (by decide +kernel)
set_option maxRecDepth 20000 in
theorem fl_X6_78 : lkF RX6 78 0 0 := al_mc al_c1 190 rfl (by decide +kernel)
set_option maxRecDepth 20000 in
theorem fl_X9_153 : lkF RX9 153 0 0 := al_mc al_c1 191 rfl (by decide +kernel)
set_option maxRecDepth 20000 in
theorem fl_X0_20 : lkF RX0 20 0 1 := al_mc al_c1 192 rfl (by decide +kernel)
set_option maxRecDepth 20000 in
theorem fl_X9_217 : lkF RX9 217 0 1 := al_mc al_c1 193 rfl (by decide +kernel)
set_option maxRecDepth 20000 in
theorem fl_X0_29 : lkF RX0 29 0 2 := al_mc al_c1 194 rfl (by decide +kernel)
set_option maxRecDepth 20000 in
theorem fl_X6_67 : lkF RX6 67 0 2 := al_mc al_c1 195 rfl (by decide +kernel)
set_option maxRecDepth 20000 in
theorem fl_X9_211 : lkF RX9 211 0 2 := al_mc al_c1 196 rfl (by decide +kernel)
set_option maxRecDepth 20000 in
theorem fl_X0_33 : lkF RX0 33 0 3 := al_mc al_c1 197 rfl (by decide +kernel)
set_option maxRecDepth 20000 in
theorem fl_X9_244 : lkF RX9 244 0 3 := al_mc al_c1 198 rfl (by decide +kernel)
set_option maxRecDepth 20000 in
theorem fl_X0_36 : lkF RX0 36 0 4 := al_mc al_c1 199 rfl (by decide +kernel)
set_option maxRecDepth 20000 in
theorem fl_X9_247 : lkF RX9 247 0 4 := al_mc al_c1 200 rfl (by decide +kernel)
set_option maxRecDepth 20000 in
theorem fl_X0_39 : lkF RX0 39 0 5 := al_mc al_c1 201 rfl (by decide +kernel)
set_option maxRecDepth 20000 in
theorem fl_X9_269 : lkF RX9 269 0 5 := al_mc al_c1 202 rfl (by decide +kernel)
set_option maxRecDepth 20000 in
theorem fl_X0_42 : lkF RX0 42 0 6 := al_mc al_c1 203 rfl (by decide +kernel)
set_option maxRecDepth 20000 in
theorem fl_X9_272 : lkF RX9 272 0 6 := al_mc al_c1 204 rfl (by decide +kernel)
set_option maxRecDepth 20000 in
theorem fl_X0_45 : lkF RX0 45 0 7 := al_mc al_c1 205 rfl (by decide +kernel)
set_option maxRecDepth 20000 in
theorem fl_X9_275 : lkF RX9 275 0 7 := al_mc al_c1 206 rfl (by decide +kernel)
set_option maxRecDepth 20000 in
theorem fl_X0_48 : lkF RX0 48 0 8 := al_mc al_c1 207 rfl (by decide +kernel)
set_option maxRecDepth 20000 in
theorem fl_X0_51 : lkF RX0 51 0 9 := al_mc al_c1 208 rfl (by decide +kernel)
set_option maxRecDepth 20000 in
theorem ml_X9_49 : lkI RX9 49 yX6_init := ⟨al_mc al_c1 232 rfl (by decide +kernel), al_mc al_c1 233 rfl (by decide +kernel), al_mc al_c1 9 rfl (by decide +kernel)⟩
set_option maxRecDepth 20000 in
theorem cd_X6_init : Cond.code yX6_init cX6_init 3 none ∈ AL := al_mc al_c1 234 rfl (by decide +kernel)
set_option maxRecDepth 20000 in
theorem fl_X6_9 : lkF RX6 9 6 0 := al_mc al_c1 236 rfl (by decide +kernel)
set_option maxRecDepth 20000 in
theorem fl_X6_15 : lkF RX6 15 6 1 := al_mc al_c1 237 rfl (by decide +kernel)
set_option maxRecDepth 20000 in
theorem ml_X9_58 : lkI RX9 58 yX5_init := ⟨al_mc al_c2 5 rfl (by decide +kernel), al_mc al_c2 6 rfl (by decide +kernel), al_mc al_c1 10 rfl (by decide +kernel)⟩
set_option maxRecDepth 20000 in
theorem cd_X5_init : Cond.code yX5_init cX5_init 3 none ∈ AL := al_mc al_c2 7 rfl (by decide +kernel)
set_option maxRecDepth 20000 in
theorem fl_X5_9 : lkF RX5 9 5 0 := al_mc al_c2 9 rfl (by decide +kernel)
set_option maxRecDepth 20000 in
theorem fl_X5_15 : lkF RX5 15 5 1 := al_mc al_c2 10 rfl (by decide +kernel)
set_option maxRecDepth 20000 in
theorem ml_X9_67 : lkI RX9 67 yX2_init := ⟨al_mc al_c2 18 rfl (by decide +kernel), al_mc al_c2 19 rfl (by decide +kernel), al_mc al_c1 11 rfl (by decide +kernel)⟩
set_option maxRecDepth 20000 in
theorem cd_X2_init : Cond.code yX2_init cX2_init 2 none ∈ AL := al_mc al_c2 20 rfl (by decide +kernel)
set_option maxRecDepth 20000 in
theorem ml_X2_15 : lkI RX2 15 yX0_init := ⟨al_mc al_c2 24 rfl (by decide +kernel), al_mc al_c1 125 rfl (by decide +kernel), al_mc al_c1 6 rfl (by decide +kernel)⟩
set_option maxRecDepth 20000 in
theorem fl_X2_11 : lkF RX2 11 2 0 := al_mc al_c2 25 rfl (by decide +kernel)
set_option maxRecDepth 20000 in
theorem fl_X2_16 : lkF RX2 16 2 1 := al_mc al_c2 26 rfl (by decide +kernel)
set_option maxRecDepth 20000 in
theorem fl_X9_352 : lkF RX9 352 2 1 := al_mc al_c2 27 rfl (by decide +kernel)
set_option maxRecDepth 20000 in
theorem fl_X2_20 : lkF RX2 20 2 2 := al_mc al_c2 28 rfl (by decide +kernel)
set_option maxRecDepth 20000 in
theorem ml_X9_82 : lkV RX9 82 yJ0_length_8abf5 := ⟨al_mc al_c2 37 rfl (by decide +kernel), al_mc al_c2 38 rfl (by decide +kernel), al_mc al_c2 39 rfl (by decide +kernel), al_mc al_c1 12 rfl (by decide +kernel)⟩
set_option maxRecDepth 20000 in
theorem cd_J0_length_8abf5 : Cond.code yJ0_length_8abf5 cJ0_length_8abf5 1 (some .int) ∈ AL := al_mc al_c2 40 rfl (by decide +kernel)
set_option maxRecDepth 20000 in
theorem ml_J0_335 : lkV RJ0 335 yJ0_coder_7d493 := ⟨al_mc al_c2 41 rfl (by decide +kernel), al_mc al_c2 42 rfl (by decide +kernel), al_mc al_c2 43 rfl (by decide +kernel), al_mc al_c1 12 rfl (by decide +kernel)⟩
set_option maxRecDepth 20000 in
theorem cd_J0_coder_7d493 : Cond.code yJ0_coder_7d493 cJ0_coder_7d493 1 (some .byte) ∈ AL := al_mc al_c2 44 rfl (by decide +kernel)
set_option maxRecDepth 20000 in
theorem ml_X9_88 : lkV RX9 88 yJ0_charAt_5068e := ⟨al_mc al_c2 47 rfl (by decide +kernel), al_mc al_c2 48 rfl (by decide +kernel), al_mc al_c2 49 rfl (by decide +kernel), al_mc al_c1 12 rfl (by decide +kernel)⟩
set_option maxRecDepth 20000 in
theorem cd_J0_charAt_5068e : Cond.code yJ0_charAt_5068e cJ0_charAt_5068e 2 (some .char) ∈ AL := al_mc al_c2 50 rfl (by decide +kernel)
set_option maxRecDepth 20000 in
theorem ml_J0_492 : lkV RJ0 492 yJ0_isLatin1_aae02 := ⟨al_mc al_c2 51 rfl (by decide +kernel), al_mc al_c2 52 rfl (by decide +kernel), al_mc al_c2 53 rfl (by decide +kernel), al_mc al_c1 12 rfl (by decide +kernel)⟩
set_option maxRecDepth 20000 in
theorem cd_J0_isLatin1_aae02 : Cond.code yJ0_isLatin1_aae02 cJ0_isLatin1_aae02 1 (some .boolean) ∈ AL := al_mc al_c2 54 rfl (by decide +kernel)
set_option maxRecDepth 20000 in
theorem ml_J0_495 : lkS RJ0 495 yJ1_charAt_3b067 := ⟨al_mc al_c2 55 rfl (by decide +kernel), al_mc al_c2 56 rfl (by decide +kernel), al_mc al_c1 13 rfl (by decide +kernel)⟩
set_option maxRecDepth 20000 in
theorem cd_J1_charAt_3b067 : Cond.code yJ1_charAt_3b067 cJ1_charAt_3b067 2 (some .char) ∈ AL := al_mc al_c2 57 rfl (by decide +kernel)
set_option maxRecDepth 20000 in
theorem ml_J1_9 : lkS RJ1 9 yJ0_checkIndex_df160 := ⟨al_mc al_c2 58 rfl (by decide +kernel), al_mc al_c2 59 rfl (by decide +kernel), al_mc al_c1 12 rfl (by decide +kernel)⟩
set_option maxRecDepth 20000 in
theorem cd_J0_checkIndex_df160 : Cond.code yJ0_checkIndex_df160 cJ0_checkIndex_df160 2 none ∈ AL := al_mc al_c2 60 rfl (by decide +kernel)
set_option maxRecDepth 20000 in
theorem ml_J0_1059 : lkS RJ0 1059 yJ3_checkIndex_8e157 := ⟨al_mc al_c2 63 rfl (by decide +kernel), al_mc al_c2 64 rfl (by decide +kernel), al_mc al_c1 14 rfl (by decide +kernel)⟩
set_option maxRecDepth 20000 in
theorem cd_J3_checkIndex_8e157 : Cond.code yJ3_checkIndex_8e157 cJ3_checkIndex_8e157 3 (some .int) ∈ AL := al_mc al_c2 65 rfl (by decide +kernel)
set_option maxRecDepth 20000 in
theorem ml_J0_498 : lkS RJ0 498 yJ2_charAt_3b067 := ⟨al_mc al_c2 66 rfl (by decide +kernel), al_mc al_c2 67 rfl (by decide +kernel), al_mc al_c1 15 rfl (by decide +kernel)⟩
set_option maxRecDepth 20000 in
theorem cd_J2_charAt_3b067 : Cond.code yJ2_charAt_3b067 cJ2_charAt_3b067 2 (some .char) ∈ AL := al_mc al_c2 68 rfl (by decide +kernel)
set_option maxRecDepth 20000 in
theorem ml_J2_67 : lkS RJ2 67 yJ2_checkIndex_2214a := ⟨al_mc al_c2 69 rfl (by decide +kernel), al_mc al_c2 70 rfl (by decide +kernel), al_mc al_c1 15 rfl (by decide +kernel)⟩
set_option maxRecDepth 20000 in
theorem cd_J2_checkIndex_2214a : Cond.code yJ2_checkIndex_2214a cJ2_checkIndex_2214a 2 none ∈ AL := al_mc al_c2 71 rfl (by decide +kernel)
set_option maxRecDepth 20000 in
theorem ml_J2_48 : lkS RJ2 48 yJ2_length_9d52b := ⟨al_mc al_c2 72 rfl (by decide +kernel), al_mc al_c2 73 rfl (by decide +kernel), al_mc al_c1 15 rfl (by decide +kernel)⟩
set_option maxRecDepth 20000 in
theorem cd_J2_length_9d52b : Cond.code yJ2_length_9d52b cJ2_length_9d52b 1 (some .int) ∈ AL := al_mc al_c2 74 rfl (by decide +kernel)
set_option maxRecDepth 20000 in
theorem ml_J2_414 : lkS RJ2 414 yJ0_checkIndex_df160 := ⟨al_mc al_c2 75 rfl (by decide +kernel), al_mc al_c2 59 rfl (by decide +kernel), al_mc al_c1 12 rfl (by decide +kernel)⟩
set_option maxRecDepth 20000 in
theorem ml_J2_71 : lkS RJ2 71 yJ2_getChar_3b067 := ⟨al_mc al_c2 76 rfl (by decide +kernel), al_mc al_c2 77 rfl (by decide +kernel), al_mc al_c1 15 rfl (by decide +kernel)⟩
set_option maxRecDepth 20000 in
theorem cd_J2_getChar_3b067 : Cond.code yJ2_getChar_3b067 cJ2_getChar_3b067 2 (some .char) ∈ AL := al_mc al_c2 78 rfl (by decide +kernel)
set_option maxRecDepth 20000 in
theorem ml_X9_92 : lkV RX9 92 yX1_put := ⟨al_mc al_c2 85 rfl (by decide +kernel), al_mc al_c2 86 rfl (by decide +kernel), al_mc al_c2 87 rfl (by decide +kernel), al_mc al_c1 2 rfl (by decide +kernel)⟩
set_option maxRecDepth 20000 in
theorem cd_X1_put : Cond.code yX1_put cX1_put 2 none ∈ AL := al_mc al_c2 88 rfl (by decide +kernel)
set_option maxRecDepth 20000 in
theorem ml_X9_95 : lkV RX9 95 yX9_takeSetup := ⟨al_mc al_c2 89 rfl (by decide +kernel), al_mc al_c2 91 rfl (by decide +kernel), al_mem 0 (by decide +kernel) (by decide +kernel), al_mc al_c1 1 rfl (by decide +kernel)⟩
set_option maxRecDepth 20000 in
theorem cd_X9_takeSetup : Cond.code yX9_takeSetup cX9_takeSetup 3 none ∈ AL := al_mc al_c2 92 rfl (by decide +kernel)
set_option maxRecDepth 20000 in
theorem ml_X9_123 : lkV RX9 123 yX6_readSetup := ⟨al_mc al_c2 93 rfl (by decide +kernel), al_mc al_c2 94 rfl (by decide +kernel), al_mc al_c2 95 rfl (by decide +kernel), al_mc al_c1 9 rfl (by decide +kernel)⟩
set_option maxRecDepth 20000 in
theorem cd_X6_readSetup : Cond.code yX6_readSetup cX6_readSetup 2 (some .boolean) ∈ AL := al_mc al_c2 96 rfl (by decide +kernel)
set_option maxRecDepth 20000 in
theorem ml_X6_19 : lkV RX6 19 yX7_scan := ⟨al_mc al_c2 97 rfl (by decide +kernel), al_mc al_c2 98 rfl (by decide +kernel), al_mc al_c2 99 rfl (by decide +kernel), al_mc al_c1 4 rfl (by decide +kernel)⟩
set_option maxRecDepth 20000 in
theorem cd_X7_scan : Cond.code yX7_scan cX7_scan 4 none ∈ AL := al_mc al_c2 100 rfl (by decide +kernel)
set_option maxRecDepth 20000 in
theorem ml_X7_46 : lkV RX7 46 yX1_at := ⟨al_mc al_c2 101 rfl (by decide +kernel), al_mc al_c2 102 rfl (by decide +kernel), al_mc al_c2 103 rfl (by decide +kernel), al_mc al_c1 2 rfl (by decide +kernel)⟩
set_option maxRecDepth 20000 in
theorem cd_X1_at : Cond.code yX1_at cX1_at 2 (some .int) ∈ AL := al_mc al_c2 104 rfl (by decide +kernel)
set_option maxRecDepth 20000 in
theorem ml_X7_50 : lkS RX7 50 yX7_kindOf := ⟨al_mc al_c2 105 rfl (by decide +kernel), al_mc al_c2 106 rfl (by decide +kernel), al_mc al_c1 4 rfl (by decide +kernel)⟩
set_option maxRecDepth 20000 in
theorem cd_X7_kindOf : Cond.code yX7_kindOf cX7_kindOf 1 (some .int) ∈ AL := al_mc al_c2 107 rfl (by decide +kernel)
set_option maxRecDepth 20000 in
theorem ml_X7_53 : lkV RX7 53 yX7_putToken := ⟨al_mc al_c2 108 rfl (by decide +kernel), al_mc al_c2 109 rfl (by decide +kernel), al_mc al_c2 110 rfl (by decide +kernel), al_mc al_c1 4 rfl (by decide +kernel)⟩
set_option maxRecDepth 20000 in
theorem cd_X7_putToken : Cond.code yX7_putToken cX7_putToken 3 none ∈ AL := al_mc al_c2 111 rfl (by decide +kernel)
set_option maxRecDepth 20000 in
theorem ml_X7_57 : lkV RX7 57 yX7_lengthenToken := ⟨al_mc al_c2 112 rfl (by decide +kernel), al_mc al_c2 113 rfl (by decide +kernel), al_mc al_c2 114 rfl (by decide +kernel), al_mc al_c1 4 rfl (by decide +kernel)⟩
set_option maxRecDepth 20000 in
theorem cd_X7_lengthenToken : Cond.code yX7_lengthenToken cX7_lengthenToken 3 none ∈ AL := al_mc al_c2 115 rfl (by decide +kernel)
set_option maxRecDepth 20000 in
theorem ml_X7_62 : lkS RX7 62 yJ9_min_7cf53 := ⟨al_mc al_c2 117 rfl (by decide +kernel), al_mc al_c2 118 rfl (by decide +kernel), al_mc al_c1 3 rfl (by decide +kernel)⟩
set_option maxRecDepth 20000 in
theorem cd_J9_min_7cf53 : Cond.code yJ9_min_7cf53 cJ9_min_7cf53 2 (some .int) ∈ AL := al_mc al_c2 119 rfl (by decide +kernel)
set_option maxRecDepth 20000 in
theorem ml_X6_24 : lkV RX6 24 yX6_readHead := ⟨al_mc al_c2 120 rfl (by decide +kernel), al_mc al_c2 121 rfl (by decide +kernel), al_mc al_c2 122 rfl (by decide +kernel), al_mc al_c1 9 rfl (by decide +kernel)⟩
set_option maxRecDepth 20000 in
theorem cd_X6_readHead : Cond.code yX6_readHead cX6_readHead 4 (some .boolean) ∈ AL := al_mc al_c2 123 rfl (by decide +kernel)
set_option maxRecDepth 20000 in
theorem ml_X6_50 : lkV RX6 50 yX7_takeWord := ⟨al_mc al_c2 125 rfl (by decide +kernel), al_mc al_c2 126 rfl (by decide +kernel), al_mc al_c2 127 rfl (by decide +kernel), al_mc al_c1 4 rfl (by decide +kernel)⟩
set_option maxRecDepth 20000 in
theorem cd_X7_takeWord : Cond.code yX7_takeWord cX7_takeWord 2 (some .boolean) ∈ AL := al_mc al_c2 128 rfl (by decide +kernel)
set_option maxRecDepth 20000 in
theorem ml_X7_81 : lkV RX7 81 yX7_atWord := ⟨al_mc al_c2 129 rfl (by decide +kernel), al_mc al_c2 130 rfl (by decide +kernel), al_mc al_c2 131 rfl (by decide +kernel), al_mc al_c1 4 rfl (by decide +kernel)⟩
set_option maxRecDepth 20000 in
theorem cd_X7_atWord : Cond.code yX7_atWord cX7_atWord 4 (some .boolean) ∈ AL := al_mc al_c2 132 rfl (by decide +kernel)
set_option maxRecDepth 20000 in
theorem ml_X7_68 : lkV RX7 68 yX7_atKind := ⟨al_mc al_c2 133 rfl (by decide +kernel), al_mc al_c2 134 rfl (by decide +kernel), al_mc al_c2 135 rfl (by decide +kernel), al_mc al_c1 4 rfl (by decide +kernel)⟩
set_option maxRecDepth 20000 in
theorem cd_X7_atKind : Cond.code yX7_atKind cX7_atKind 2 (some .boolean) ∈ AL := al_mc al_c2 136 rfl (by decide +kernel)
set_option maxRecDepth 20000 in
theorem ml_X7_72 : lkV RX7 72 yJ0_length_8abf5 := ⟨al_mc al_c2 137 rfl (by decide +kernel), al_mc al_c2 38 rfl (by decide +kernel), al_mc al_c2 39 rfl (by decide +kernel), al_mc al_c1 12 rfl (by decide +kernel)⟩
set_option maxRecDepth 20000 in
theorem ml_X7_77 : lkV RX7 77 yJ0_charAt_5068e := ⟨al_mc al_c2 138 rfl (by decide +kernel), al_mc al_c2 48 rfl (by decide +kernel), al_mc al_c2 49 rfl (by decide +kernel), al_mc al_c1 12 rfl (by decide +kernel)⟩
set_option maxRecDepth 20000 in
theorem ml_X7_85 : lkV RX7 85 yX7_fail := ⟨al_mc al_c2 139 rfl (by decide +kernel), al_mc al_c2 140 rfl (by decide +kernel), al_mc al_c2 141 rfl (by decide +kernel), al_mc al_c1 4 rfl (by decide +kernel)⟩
set_option maxRecDepth 20000 in
theorem cd_X7_fail : Cond.code yX7_fail cX7_fail 2 (some .boolean) ∈ AL := al_mc al_c2 142 rfl (by decide +kernel)
set_option maxRecDepth 20000 in
theorem ml_X7_88 : lkV RX7 88 yX7_advance := ⟨al_mc al_c2 143 rfl (by decide +kernel), al_mc al_c2 144 rfl (by decide +kernel), al_mc al_c2 145 rfl (by decide +kernel), al_mc al_c1 4 rfl (by decide +kernel)⟩
set_option maxRecDepth 20000 in
theorem cd_X7_advance : Cond.code yX7_advance cX7_advance 1 none ∈ AL := al_mc al_c2 146 rfl (by decide +kernel)
set_option maxRecDepth 20000 in
theorem ml_X6_53 : lkV RX6 53 yX7_takeNumber := ⟨al_mc al_c2 147 rfl (by decide +kernel), al_mc al_c2 148 rfl (by decide +kernel), al_mc al_c2 149 rfl (by decide +kernel), al_mc al_c1 4 rfl (by decide +kernel)⟩
set_option maxRecDepth 20000 in
theorem cd_X7_takeNumber : Cond.code yX7_takeNumber cX7_takeNumber 4 (some .int) ∈ AL := al_mc al_c2 150 rfl (by decide +kernel)
set_option maxRecDepth 20000 in
theorem ml_X6_57 : lkV RX6 57 yX0_begin := ⟨al_mc al_c2 151 rfl (by decide +kernel), al_mc al_c2 152 rfl (by decide +kernel), al_mc al_c2 153 rfl (by decide +kernel), al_mc al_c1 6 rfl (by decide +kernel)⟩
set_option maxRecDepth 20000 in
theorem cd_X0_begin : Cond.code yX0_begin cX0_begin 4 none ∈ AL := al_mc al_c2 154 rfl (by decide +kernel)
set_option maxRecDepth 20000 in
theorem ml_X0_25 : lkV RX0 25 yX3_begin := ⟨al_mc al_c2 155 rfl (by decide +kernel), al_mc al_c2 156 rfl (by decide +kernel), al_mc al_c2 157 rfl (by decide +kernel), al_mc al_c1 7 rfl (by decide +kernel)⟩
set_option maxRecDepth 20000 in
theorem cd_X3_begin : Cond.code yX3_begin cX3_begin 2 none ∈ AL := al_mc al_c2 158 rfl (by decide +kernel)
set_option maxRecDepth 20000 in
theorem ml_X3_25 : lkS RX3 25 yJ7_fill_d0a16 := ⟨al_mc al_c2 159 rfl (by decide +kernel), al_mc al_c2 160 rfl (by decide +kernel), al_mc al_c1 16 rfl (by decide +kernel)⟩
set_option maxRecDepth 20000 in
theorem cd_J7_fill_d0a16 : Cond.code yJ7_fill_d0a16 cJ7_fill_d0a16 5 none ∈ AL := al_mc al_c2 161 rfl (by decide +kernel)
set_option maxRecDepth 20000 in
theorem ml_X6_63 : lkV RX6 63 yX7_takeSign := ⟨al_mc al_c2 162 rfl (by decide +kernel), al_mc al_c2 163 rfl (by decide +kernel), al_mc al_c2 164 rfl (by decide +kernel), al_mc al_c1 4 rfl (by decide +kernel)⟩
set_option maxRecDepth 20000 in
theorem cd_X7_takeSign : Cond.code yX7_takeSign cX7_takeSign 2 (some .boolean) ∈ AL := al_mc al_c2 165 rfl (by decide +kernel)
set_option maxRecDepth 20000 in
theorem ml_X7_91 : lkV RX7 91 yX7_atSign := ⟨al_mc al_c2 166 rfl (by decide +kernel), al_mc al_c2 167 rfl (by decide +kernel), al_mc al_c2 168 rfl (by decide +kernel), al_mc al_c1 4 rfl (by decide +kernel)⟩
set_option maxRecDepth 20000 in
theorem cd_X7_atSign : Cond.code yX7_atSign cX7_atSign 2 (some .boolean) ∈ AL := al_mc al_c2 169 rfl (by decide +kernel)
set_option maxRecDepth 20000 in
theorem ml_X6_28 : lkV RX6 28 yX6_readTooth := ⟨al_mc al_c2 170 rfl (by decide +kernel), al_mc al_c2 171 rfl (by decide +kernel), al_mc al_c2 172 rfl (by decide +kernel), al_mc al_c1 9 rfl (by decide +kernel)⟩
set_option maxRecDepth 20000 in
theorem cd_X6_readTooth : Cond.code yX6_readTooth cX6_readTooth 4 (some .boolean) ∈ AL := al_mc al_c2 173 rfl (by decide +kernel)
set_option maxRecDepth 20000 in
theorem ml_X6_33 : lkV RX6 33 yX7_atWord := ⟨al_mc al_c2 175 rfl (by decide +kernel), al_mc al_c2 130 rfl (by decide +kernel), al_mc al_c2 131 rfl (by decide +kernel), al_mc al_c1 4 rfl (by decide +kernel)⟩
set_option maxRecDepth 20000 in
theorem ml_X6_71 : lkV RX6 71 yX7_fail := ⟨al_mc al_c2 176 rfl (by decide +kernel), al_mc al_c2 140 rfl (by decide +kernel), al_mc al_c2 141 rfl (by decide +kernel), al_mc al_c1 4 rfl (by decide +kernel)⟩
set_option maxRecDepth 20000 in
theorem ml_X6_75 : lkV RX6 75 yX0_putTooth := ⟨al_mc al_c2 177 rfl (by decide +kernel), al_mc al_c2 178 rfl (by decide +kernel), al_mc al_c2 179 rfl (by decide +kernel), al_mc al_c1 6 rfl (by decide +kernel)⟩
set_option maxRecDepth 20000 in
theorem cd_X0_putTooth : Cond.code yX0_putTooth cX0_putTooth 4 none ∈ AL := al_mc al_c2 180 rfl (by decide +kernel)
set_option maxRecDepth 20000 in
theorem ml_X0_54 : lkV RX0 54 yX8_begin := ⟨al_mc al_c2 181 rfl (by decide +kernel), al_mc al_c2 182 rfl (by decide +kernel), al_mc al_c2 183 rfl (by decide +kernel), al_mc al_c1 8 rfl (by decide +kernel)⟩
set_option maxRecDepth 20000 in
theorem cd_X8_begin : Cond.code yX8_begin cX8_begin 4 none ∈ AL := al_mc al_c2 184 rfl (by decide +kernel)
set_option maxRecDepth 20000 in
theorem ml_X8_21 : lkV RX8 21 yX8_renew := ⟨al_mc al_c2 185 rfl (by decide +kernel), al_mc al_c2 186 rfl (by decide +kernel), al_mc al_c2 187 rfl (by decide +kernel), al_mc al_c1 8 rfl (by decide +kernel)⟩
set_option maxRecDepth 20000 in
theorem cd_X8_renew : Cond.code yX8_renew cX8_renew 1 none ∈ AL := al_mc al_c2 188 rfl (by decide +kernel)
set_option maxRecDepth 20000 in
theorem ml_X6_39 : lkV RX6 39 yX7_advance := ⟨al_mc al_c2 190 rfl (by decide +kernel), al_mc al_c2 144 rfl (by decide +kernel), al_mc al_c2 145 rfl (by decide +kernel), al_mc al_c1 4 rfl (by decide +kernel)⟩
set_option maxRecDepth 20000 in
theorem ml_X6_42 : lkV RX6 42 yX6_readPlace := ⟨al_mc al_c2 191 rfl (by decide +kernel), al_mc al_c2 192 rfl (by decide +kernel), al_mc al_c2 193 rfl (by decide +kernel), al_mc al_c1 9 rfl (by decide +kernel)⟩
set_option maxRecDepth 20000 in
theorem cd_X6_readPlace : Cond.code yX6_readPlace cX6_readPlace 4 (some .boolean) ∈ AL := al_mc al_c2 194 rfl (by decide +kernel)
set_option maxRecDepth 20000 in
theorem ml_X6_87 : lkV RX6 87 yX3_hasPin := ⟨al_mc al_c2 195 rfl (by decide +kernel), al_mc al_c2 196 rfl (by decide +kernel), al_mc al_c2 197 rfl (by decide +kernel), al_mc al_c1 7 rfl (by decide +kernel)⟩
set_option maxRecDepth 20000 in
theorem cd_X3_hasPin : Cond.code yX3_hasPin cX3_hasPin 4 (some .boolean) ∈ AL := al_mc al_c2 198 rfl (by decide +kernel)
set_option maxRecDepth 20000 in
theorem ml_X6_91 : lkV RX6 91 yX7_failTaken := ⟨al_mc al_c2 199 rfl (by decide +kernel), al_mc al_c2 200 rfl (by decide +kernel), al_mc al_c2 201 rfl (by decide +kernel), al_mc al_c1 4 rfl (by decide +kernel)⟩
set_option maxRecDepth 20000 in
theorem cd_X7_failTaken : Cond.code yX7_failTaken cX7_failTaken 2 (some .boolean) ∈ AL := al_mc al_c2 202 rfl (by decide +kernel)
set_option maxRecDepth 20000 in
theorem ml_X6_94 : lkV RX6 94 yX3_putPin := ⟨al_mc al_c2 203 rfl (by decide +kernel), al_mc al_c2 204 rfl (by decide +kernel), al_mc al_c2 205 rfl (by decide +kernel), al_mc al_c1 7 rfl (by decide +kernel)⟩
set_option maxRecDepth 20000 in
theorem cd_X3_putPin : Cond.code yX3_putPin cX3_putPin 4 none ∈ AL := al_mc al_c2 206 rfl (by decide +kernel)
set_option maxRecDepth 20000 in
theorem ml_X3_41 : lkV RX3 41 yX3_row := ⟨al_mc al_c2 207 rfl (by decide +kernel), al_mc al_c2 208 rfl (by decide +kernel), al_mc al_c2 209 rfl (by decide +kernel), al_mc al_c1 7 rfl (by decide +kernel)⟩
set_option maxRecDepth 20000 in
theorem cd_X3_row : Cond.code yX3_row cX3_row 3 (some .long) ∈ AL := al_mc al_c2 210 rfl (by decide +kernel)
set_option maxRecDepth 20000 in
theorem ml_X3_37 : lkS RX3 37 yX3_holds := ⟨al_mc al_c2 211 rfl (by decide +kernel), al_mc al_c2 212 rfl (by decide +kernel), al_mc al_c1 7 rfl (by decide +kernel)⟩
set_option maxRecDepth 20000 in
theorem cd_X3_holds : Cond.code yX3_holds cX3_holds 2 (some .boolean) ∈ AL := al_mc al_c2 213 rfl (by decide +kernel)
set_option maxRecDepth 20000 in
theorem ml_X3_45 : lkV RX3 45 yX3_setRow := ⟨al_mc al_c2 214 rfl (by decide +kernel), al_mc al_c2 215 rfl (by decide +kernel), al_mc al_c2 216 rfl (by decide +kernel), al_mc al_c1 7 rfl (by decide +kernel)⟩
set_option maxRecDepth 20000 in
theorem cd_X3_setRow : Cond.code yX3_setRow cX3_setRow 5 none ∈ AL := al_mc al_c2 217 rfl (by decide +kernel)
set_option maxRecDepth 20000 in
theorem ml_X6_45 : lkV RX6 45 yX7_takeEnd := ⟨al_mc al_c2 218 rfl (by decide +kernel), al_mc al_c2 219 rfl (by decide +kernel), al_mc al_c2 220 rfl (by decide +kernel), al_mc al_c1 4 rfl (by decide +kernel)⟩
set_option maxRecDepth 20000 in
theorem cd_X7_takeEnd : Cond.code yX7_takeEnd cX7_takeEnd 1 (some .boolean) ∈ AL := al_mc al_c2 221 rfl (by decide +kernel)
set_option maxRecDepth 20000 in
theorem ml_X9_127 : lkV RX9 127 yX0_copyFrom := ⟨al_mc al_c2 222 rfl (by decide +kernel), al_mc al_c2 223 rfl (by decide +kernel), al_mc al_c2 224 rfl (by decide +kernel), al_mc al_c1 6 rfl (by decide +kernel)⟩
set_option maxRecDepth 20000 in
theorem cd_X0_copyFrom : Cond.code yX0_copyFrom cX0_copyFrom 3 none ∈ AL := al_mc al_c2 225 rfl (by decide +kernel)
set_option maxRecDepth 20000 in
theorem ml_X0_57 : lkV RX0 57 yX3_copyFrom := ⟨al_mc al_c2 226 rfl (by decide +kernel), al_mc al_c2 227 rfl (by decide +kernel), al_mc al_c2 228 rfl (by decide +kernel), al_mc al_c1 7 rfl (by decide +kernel)⟩
set_option maxRecDepth 20000 in
theorem cd_X3_copyFrom : Cond.code yX3_copyFrom cX3_copyFrom 2 none ∈ AL := al_mc al_c2 229 rfl (by decide +kernel)
set_option maxRecDepth 20000 in
theorem ml_X0_61 : lkV RX0 61 yX8_copyFrom := ⟨al_mc al_c2 233 rfl (by decide +kernel), al_mc al_c2 234 rfl (by decide +kernel), al_mc al_c2 235 rfl (by decide +kernel), al_mc al_c1 8 rfl (by decide +kernel)⟩
set_option maxRecDepth 20000 in
theorem cd_X8_copyFrom : Cond.code yX8_copyFrom cX8_copyFrom 2 none ∈ AL := al_mc al_c2 236 rfl (by decide +kernel)
set_option maxRecDepth 20000 in
theorem ml_X9_131 : lkV RX9 131 yX2_forgetAll := ⟨al_mc al_c2 237 rfl (by decide +kernel), al_mc al_c2 238 rfl (by decide +kernel), al_mc al_c2 239 rfl (by decide +kernel), al_mc al_c1 11 rfl (by decide +kernel)⟩
set_option maxRecDepth 20000 in
theorem cd_X2_forgetAll : Cond.code yX2_forgetAll cX2_forgetAll 1 none ∈ AL := al_mc al_c3 0 rfl (by decide +kernel)
set_option maxRecDepth 20000 in
theorem fl_X9_14 : lkF RX9 14 9 0 := al_mc al_c3 1 rfl (by decide +kernel)
set_option maxRecDepth 20000 in
theorem fl_X9_18 : lkF RX9 18 9 1 := al_mc al_c3 2 rfl (by decide +kernel)
set_option maxRecDepth 20000 in
theorem fl_X9_26 : lkF RX9 26 9 2 := al_mc al_c3 3 rfl (by decide +kernel)
set_option maxRecDepth 20000 in
theorem fl_X9_52 : lkF RX9 52 9 3 := al_mc al_c3 4 rfl (by decide +kernel)
set_option maxRecDepth 20000 in
theorem fl_X9_61 : lkF RX9 61 9 4 := al_mc al_c3 5 rfl (by decide +kernel)
set_option maxRecDepth 20000 in
theorem fl_X9_33 : lkF RX9 33 9 5 := al_mc al_c3 6 rfl (by decide +kernel)
set_option maxRecDepth 20000 in
theorem fl_X9_40 : lkF RX9 40 9 6 := al_mc al_c3 7 rfl (by decide +kernel)
set_option maxRecDepth 20000 in
theorem fl_X9_44 : lkF RX9 44 9 7 := al_mc al_c3 8 rfl (by decide +kernel)
set_option maxRecDepth 20000 in
theorem fl_X9_68 : lkF RX9 68 9 8 := al_mc al_c3 9 rfl (by decide +kernel)
set_option maxRecDepth 20000 in
theorem fl_X9_72 : lkF RX9 72 9 9 := al_mc al_c3 10 rfl (by decide +kernel)
set_option maxRecDepth 20000 in
theorem fl_X9_76 : lkF RX9 76 9 10 := al_mc al_c3 11 rfl (by decide +kernel)
set_option maxRecDepth 20000 in
theorem ml_L_375 : lkV RL 375 yX9_undoCount := ⟨al_mc al_c3 37 rfl (by decide +kernel), al_mc al_c3 38 rfl (by decide +kernel), al_mc al_c3 39 rfl (by decide +kernel), al_mc al_c1 1 rfl (by decide +kernel)⟩
set_option maxRecDepth 20000 in
theorem cd_X9_undoCount : Cond.code yX9_undoCount cX9_undoCount 1 (some .int) ∈ AL := al_mc al_c3 40 rfl (by decide +kernel)
set_option maxRecDepth 20000 in
theorem ml_L_381 : lkV RL 381 yX9_undo := ⟨al_mc al_c3 41 rfl (by decide +kernel), al_mc al_c3 42 rfl (by decide +kernel), al_mc al_c3 43 rfl (by decide +kernel), al_mc al_c1 1 rfl (by decide +kernel)⟩
set_option maxRecDepth 20000 in
theorem cd_X9_undo : Cond.code yX9_undo cX9_undo 1 (some .int) ∈ AL := al_mc al_c3 44 rfl (by decide +kernel)
set_option maxRecDepth 20000 in
theorem ml_X9_172 : lkS RX9 172 yX9_refuse := ⟨al_mc al_c3 45 rfl (by decide +kernel), al_mc al_c3 46 rfl (by decide +kernel), al_mc al_c1 1 rfl (by decide +kernel)⟩
set_option maxRecDepth 20000 in
theorem cd_X9_refuse : Cond.code yX9_refuse cX9_refuse 1 none ∈ AL := al_mc al_c3 47 rfl (by decide +kernel)
set_option maxRecDepth 20000 in
theorem ml_X9_355 : lkV RX9 355 yX2_takeBack := ⟨al_mc al_c3 148 rfl (by decide +kernel), al_mc al_c3 149 rfl (by decide +kernel), al_mc al_c3 150 rfl (by decide +kernel), al_mc al_c1 11 rfl (by decide +kernel)⟩
set_option maxRecDepth 20000 in
theorem cd_X2_takeBack : Cond.code yX2_takeBack cX2_takeBack 2 none ∈ AL := al_mc al_c3 151 rfl (by decide +kernel)
set_option maxRecDepth 20000 in
theorem ml_X2_23 : lkV RX2 23 yX0_copyFrom := ⟨al_mc al_c3 152 rfl (by decide +kernel), al_mc al_c2 223 rfl (by decide +kernel), al_mc al_c2 224 rfl (by decide +kernel), al_mc al_c1 6 rfl (by decide +kernel)⟩
set_option maxRecDepth 20000 in
theorem ml_L_359 : lkN RL 359 yX10_init "MusicBoxEditorLaw" := ⟨by decide +kernel, al_mc al_c3 156 rfl (by decide +kernel), al_mc al_c1 18 rfl (by decide +kernel)⟩
set_option maxRecDepth 20000 in
theorem cd_X10_init : Cond.code yX10_init cX10_init 1 none ∈ AL := al_mc al_c3 157 rfl (by decide +kernel)
set_option maxRecDepth 20000 in
theorem fl_X10_33 : lkF RX10 33 10 0 := al_mc al_c3 159 rfl (by decide +kernel)
set_option maxRecDepth 20000 in
theorem fl_X10_37 : lkF RX10 37 10 1 := al_mc al_c3 161 rfl (by decide +kernel)
set_option maxRecDepth 20000 in
theorem fl_X10_40 : lkF RX10 40 10 2 := al_mc al_c3 163 rfl (by decide +kernel)
set_option maxRecDepth 20000 in
theorem fl_X10_43 : lkF RX10 43 10 3 := al_mc al_c3 165 rfl (by decide +kernel)
set_option maxRecDepth 20000 in
theorem fl_X10_46 : lkF RX10 46 10 4 := al_mc al_c3 167 rfl (by decide +kernel)
set_option maxRecDepth 20000 in
theorem fl_X10_49 : lkF RX10 49 10 5 := al_mc al_c3 169 rfl (by decide +kernel)
set_option maxRecDepth 20000 in
theorem fl_X10_52 : lkF RX10 52 10 6 := al_mc al_c3 171 rfl (by decide +kernel)
set_option maxRecDepth 20000 in
theorem fl_X10_55 : lkF RX10 55 10 7 := al_mc al_c3 173 rfl (by decide +kernel)
set_option maxRecDepth 20000 in
theorem fl_X10_58 : lkF RX10 58 10 8 := al_mc al_c3 175 rfl (by decide +kernel)
set_option maxRecDepth 20000 in
theorem fl_X10_61 : lkF RX10 61 10 9 := al_mc al_c3 177 rfl (by decide +kernel)
set_option maxRecDepth 20000 in
theorem fl_X10_64 : lkF RX10 64 10 10 := al_mc al_c3 179 rfl (by decide +kernel)
set_option maxRecDepth 20000 in
theorem fl_X10_7 : lkF RX10 7 10 11 := al_mc al_c3 181 rfl (by decide +kernel)
set_option maxRecDepth 20000 in
theorem fl_X10_13 : lkF RX10 13 10 12 := al_mc al_c3 183 rfl (by decide +kernel)
set_option maxRecDepth 20000 in
theorem fl_X10_16 : lkF RX10 16 10 13 := al_mc al_c3 185 rfl (by decide +kernel)
set_option maxRecDepth 20000 in
theorem fl_X10_19 : lkF RX10 19 10 14 := al_mc al_c3 187 rfl (by decide +kernel)
set_option maxRecDepth 20000 in
theorem fl_X10_22 : lkF RX10 22 10 15 := al_mc al_c3 189 rfl (by decide +kernel)
set_option maxRecDepth 20000 in
theorem fl_X10_25 : lkF RX10 25 10 16 := al_mc al_c3 191 rfl (by decide +kernel)
set_option maxRecDepth 20000 in
theorem fl_X10_28 : lkF RX10 28 10 17 := al_mc al_c3 193 rfl (by decide +kernel)
set_option maxRecDepth 20000 in
theorem ml_L_250 : lkV RL 250 yX10_copy := ⟨al_mc al_c3 232 rfl (by decide +kernel), al_mc al_c3 233 rfl (by decide +kernel), al_mc al_c3 234 rfl (by decide +kernel), al_mc al_c1 18 rfl (by decide +kernel)⟩
set_option maxRecDepth 20000 in
theorem cd_X10_copy : Cond.code yX10_copy cX10_copy 3 (some (.object "MusicBoxEditorLaw$Own")) ∈ AL := al_mc al_c3 235 rfl (by decide +kernel)
set_option maxRecDepth 20000 in
theorem ml_X10_32 : lkI RX10 32 yX10_init := ⟨al_mc al_c3 237 rfl (by decide +kernel), al_mc al_c3 156 rfl (by decide +kernel), al_mc al_c1 18 rfl (by decide +kernel)⟩
set_option maxRecDepth 20000 in
theorem ml_L_316 : lkS RL 316 yL_pick := ⟨al_mc al_c3 238 rfl (by decide +kernel), al_mc al_c3 239 rfl (by decide +kernel), al_mc al_c1 0 rfl (by decide +kernel)⟩
set_option maxRecDepth 20000 in
theorem cd_L_pick : Cond.code yL_pick cL_pick 3 (some .int) ∈ AL := al_mc al_c4 0 rfl (by decide +kernel)
set_option maxRecDepth 20000 in
theorem ml_L_8 : lkS RL 8 yL_cell := ⟨al_mc al_c4 1 rfl (by decide +kernel), al_mc al_c4 2 rfl (by decide +kernel), al_mc al_c1 0 rfl (by decide +kernel)⟩
set_option maxRecDepth 20000 in
theorem cd_L_cell : Cond.code yL_cell cL_cell 2 (some .int) ∈ AL := al_mc al_c4 3 rfl (by decide +kernel)
set_option maxRecDepth 20000 in
theorem ml_L_364 : lkS RL 364 yL_isAs := ⟨al_mc al_c4 6 rfl (by decide +kernel), al_mc al_c4 7 rfl (by decide +kernel), al_mc al_c1 0 rfl (by decide +kernel)⟩
set_option maxRecDepth 20000 in
theorem cd_L_isAs : Cond.code yL_isAs cL_isAs 7 (some .boolean) ∈ AL := al_mc al_c4 8 rfl (by decide +kernel)
set_option maxRecDepth 20000 in
theorem ml_L_50 : lkI RL 50 yJ4_init_da8c8 := ⟨al_mc al_c4 11 rfl (by decide +kernel), al_mc al_c4 12 rfl (by decide +kernel), al_mc al_c1 20 rfl (by decide +kernel)⟩
set_option maxRecDepth 20000 in
theorem cd_J4_init_da8c8 : Cond.code yJ4_init_da8c8 cJ4_init_da8c8 1 none ∈ AL := al_mc al_c4 13 rfl (by decide +kernel)
set_option maxRecDepth 20000 in
theorem ml_J4_1 : lkI RJ4 1 yJ5_init_d00df := ⟨al_mc al_c4 14 rfl (by decide +kernel), al_mc al_c4 15 rfl (by decide +kernel), al_mc al_c1 19 rfl (by decide +kernel)⟩
set_option maxRecDepth 20000 in
theorem cd_J5_init_d00df : Cond.code yJ5_init_d00df cJ5_init_d00df 2 none ∈ AL := al_mc al_c4 16 rfl (by decide +kernel)
set_option maxRecDepth 20000 in
theorem ml_J5_26 : lkS RJ5 26 yJ2_newBytesFor_77867 := ⟨al_mc al_c4 19 rfl (by decide +kernel), al_mc al_c4 20 rfl (by decide +kernel), al_mc al_c1 15 rfl (by decide +kernel)⟩
set_option maxRecDepth 20000 in
theorem cd_J2_newBytesFor_77867 : Cond.code yJ2_newBytesFor_77867 cJ2_newBytesFor_77867 1 (some (.array .byte)) ∈ AL := al_mc al_c4 21 rfl (by decide +kernel)
set_option maxRecDepth 20000 in
theorem ml_J2_11 : lkS RJ2 11 yJ2_newBytesLength_0f7a4 := ⟨al_mc al_c4 22 rfl (by decide +kernel), al_mc al_c4 23 rfl (by decide +kernel), al_mc al_c1 15 rfl (by decide +kernel)⟩
set_option maxRecDepth 20000 in
theorem cd_J2_newBytesLength_0f7a4 : Cond.code yJ2_newBytesLength_0f7a4 cJ2_newBytesLength_0f7a4 1 (some .int) ∈ AL := al_mc al_c4 24 rfl (by decide +kernel)
set_option maxRecDepth 20000 in
theorem fl_J5_15 : lkF RJ5 15 12 0 := al_mc al_c4 26 rfl (by decide +kernel)
set_option maxRecDepth 20000 in
theorem fl_J5_22 : lkF RJ5 22 12 1 := al_mc al_c4 27 rfl (by decide +kernel)
set_option maxRecDepth 20000 in
theorem fl_J0_1048 : lkF RJ0 1048 12 2 := al_mc al_c4 28 rfl (by decide +kernel)
set_option maxRecDepth 20000 in
theorem fl_J5_79 : lkF RJ5 79 12 3 := al_mc al_c4 29 rfl (by decide +kernel)
set_option maxRecDepth 20000 in
theorem ml_L_128 : lkV RL 128 yX10_isBad := ⟨al_mc al_c4 39 rfl (by decide +kernel), al_mc al_c4 40 rfl (by decide +kernel), al_mc al_c4 41 rfl (by decide +kernel), al_mc al_c1 18 rfl (by decide +kernel)⟩
set_option maxRecDepth 20000 in
theorem cd_X10_isBad : Cond.code yX10_isBad cX10_isBad 2 (some .boolean) ∈ AL := al_mc al_c4 42 rfl (by decide +kernel)
set_option maxRecDepth 20000 in
theorem ml_L_136 : lkV RL 136 yJ4_append_15ec4 := ⟨al_mc al_c4 45 rfl (by decide +kernel), al_mc al_c4 46 rfl (by decide +kernel), al_mc al_c4 47 rfl (by decide +kernel), al_mc al_c1 20 rfl (by decide +kernel)⟩
set_option maxRecDepth 20000 in
theorem cd_J4_append_15ec4 : Cond.code yJ4_append_15ec4 cJ4_append_15ec4 2 (some (.object "java/lang/StringBuilder")) ∈ AL := al_mc al_c4 48 rfl (by decide +kernel)
set_option maxRecDepth 20000 in
theorem cd_J5_append_cf1ce : Cond.code yJ5_append_cf1ce cJ5_append_cf1ce 3 (some (.object "java/lang/AbstractStringBuilder")) ∈ AL := al_mc al_c4 51 rfl (by decide +kernel)
set_option maxRecDepth 20000 in
theorem cd_J5_appendNull_278bc : Cond.code yJ5_appendNull_278bc cJ5_appendNull_278bc 3 (some (.object "java/lang/AbstractStringBuilder")) ∈ AL := al_mc al_c4 55 rfl (by decide +kernel)
set_option maxRecDepth 20000 in
theorem cd_J5_ensureCapacityInternal_d00df : Cond.code yJ5_ensureCapacityInternal_d00df cJ5_ensureCapacityInternal_d00df 3 none ∈ AL := al_mc al_c4 59 rfl (by decide +kernel)
set_option maxRecDepth 20000 in
theorem cd_J5_newCapacity_0f7a4 : Cond.code yJ5_newCapacity_0f7a4 cJ5_newCapacity_0f7a4 6 (some .int) ∈ AL := al_mc al_c4 63 rfl (by decide +kernel)
set_option maxRecDepth 20000 in
theorem ml_J5_114 : lkS RJ5 114 yJ8_newLength_cabcc := ⟨al_mc al_c4 64 rfl (by decide +kernel), al_mc al_c4 65 rfl (by decide +kernel), al_mc al_c1 21 rfl (by decide +kernel)⟩
set_option maxRecDepth 20000 in
theorem cd_J8_newLength_cabcc : Cond.code yJ8_newLength_cabcc cJ8_newLength_cabcc 4 (some .int) ∈ AL := al_mc al_c4 66 rfl (by decide +kernel)
set_option maxRecDepth 20000 in
theorem ml_J8_194 : lkS RJ8 194 yJ9_max_7cf53 := ⟨al_mc al_c4 67 rfl (by decide +kernel), al_mc al_c1 49 rfl (by decide +kernel), al_mc al_c1 3 rfl (by decide +kernel)⟩
set_option maxRecDepth 20000 in
theorem ml_J8_201 : lkS RJ8 201 yJ8_hugeLength_7cf53 := ⟨al_mc al_c4 69 rfl (by decide +kernel), al_mc al_c4 70 rfl (by decide +kernel), al_mc al_c1 21 rfl (by decide +kernel)⟩
set_option maxRecDepth 20000 in
theorem cd_J8_hugeLength_7cf53 : Cond.code yJ8_hugeLength_7cf53 cJ8_hugeLength_7cf53 3 (some .int) ∈ AL := al_mc al_c4 71 rfl (by decide +kernel)
set_option maxRecDepth 20000 in
theorem ml_J5_108 : lkS RJ5 108 yJ7_copyOf_9075b := ⟨al_mc al_c4 73 rfl (by decide +kernel), al_mc al_c4 74 rfl (by decide +kernel), al_mc al_c1 16 rfl (by decide +kernel)⟩
set_option maxRecDepth 20000 in
theorem cd_J7_copyOf_9075b : Cond.code yJ7_copyOf_9075b cJ7_copyOf_9075b 3 (some (.array .byte)) ∈ AL := al_mc al_c4 75 rfl (by decide +kernel)
set_option maxRecDepth 20000 in
theorem ml_J7_304 : lkS RJ7 304 yJ9_min_7cf53 := ⟨al_mc al_c4 83 rfl (by decide +kernel), al_mc al_c2 118 rfl (by decide +kernel), al_mc al_c1 3 rfl (by decide +kernel)⟩
set_option maxRecDepth 20000 in
theorem cd_J5_isLatin1_aae02 : Cond.code yJ5_isLatin1_aae02 cJ5_isLatin1_aae02 1 (some .boolean) ∈ AL := al_mc al_c4 89 rfl (by decide +kernel)
set_option maxRecDepth 20000 in
theorem ml_J5_226 : lkS RJ5 226 yJ2_putCharsAt_cd4e5 := ⟨al_mc al_c4 90 rfl (by decide +kernel), al_mc al_c4 91 rfl (by decide +kernel), al_mc al_c1 15 rfl (by decide +kernel)⟩
set_option maxRecDepth 20000 in
theorem cd_J2_putCharsAt_cd4e5 : Cond.code yJ2_putCharsAt_cd4e5 cJ2_putCharsAt_cd4e5 7 (some .int) ∈ AL := al_mc al_c4 92 rfl (by decide +kernel)
set_option maxRecDepth 20000 in
theorem ml_J2_96 : lkS RJ2 96 yJ2_checkBoundsBeginEnd_d044e := ⟨al_mc al_c4 93 rfl (by decide +kernel), al_mc al_c4 94 rfl (by decide +kernel), al_mc al_c1 15 rfl (by decide +kernel)⟩
set_option maxRecDepth 20000 in
theorem cd_J2_checkBoundsBeginEnd_d044e : Cond.code yJ2_checkBoundsBeginEnd_d044e cJ2_checkBoundsBeginEnd_d044e 3 none ∈ AL := al_mc al_c4 95 rfl (by decide +kernel)
set_option maxRecDepth 20000 in
theorem ml_J2_241 : lkS RJ2 241 yJ0_checkBoundsBeginEnd_23922 := ⟨al_mc al_c4 96 rfl (by decide +kernel), al_mc al_c4 97 rfl (by decide +kernel), al_mc al_c1 12 rfl (by decide +kernel)⟩
set_option maxRecDepth 20000 in
theorem cd_J0_checkBoundsBeginEnd_23922 : Cond.code yJ0_checkBoundsBeginEnd_23922 cJ0_checkBoundsBeginEnd_23922 3 none ∈ AL := al_mc al_c4 98 rfl (by decide +kernel)
set_option maxRecDepth 20000 in
theorem ml_J0_1062 : lkS RJ0 1062 yJ3_checkFromToIndex_8c36e := ⟨al_mc al_c4 99 rfl (by decide +kernel), al_mc al_c4 100 rfl (by decide +kernel), al_mc al_c1 14 rfl (by decide +kernel)⟩
set_option maxRecDepth 20000 in
theorem cd_J3_checkFromToIndex_8c36e : Cond.code yJ3_checkFromToIndex_8c36e cJ3_checkFromToIndex_8c36e 4 (some .int) ∈ AL := al_mc al_c4 101 rfl (by decide +kernel)
set_option maxRecDepth 20000 in
theorem ml_J2_111 : lkS RJ2 111 yJ2_putChar_b72d1 := ⟨al_mc al_c4 102 rfl (by decide +kernel), al_mc al_c4 103 rfl (by decide +kernel), al_mc al_c1 15 rfl (by decide +kernel)⟩
set_option maxRecDepth 20000 in
theorem cd_J2_putChar_b72d1 : Cond.code yJ2_putChar_b72d1 cJ2_putChar_b72d1 3 none ∈ AL := al_mc al_c4 104 rfl (by decide +kernel)
set_option maxRecDepth 20000 in
theorem ml_J5_32 : lkV RJ5 32 yJ0_length_8abf5 := ⟨al_mc al_c4 105 rfl (by decide +kernel), al_mc al_c2 38 rfl (by decide +kernel), al_mc al_c2 39 rfl (by decide +kernel), al_mc al_c1 12 rfl (by decide +kernel)⟩
set_option maxRecDepth 20000 in
theorem cd_J5_putStringAt_47b60 : Cond.code yJ5_putStringAt_47b60 cJ5_putStringAt_47b60 3 none ∈ AL := al_mc al_c4 109 rfl (by decide +kernel)
set_option maxRecDepth 20000 in
theorem cd_J5_inflateIfNeededFor_a7421 : Cond.code yJ5_inflateIfNeededFor_a7421 cJ5_inflateIfNeededFor_a7421 2 none ∈ AL := al_mc al_c4 113 rfl (by decide +kernel)
set_option maxRecDepth 20000 in
theorem ml_J5_40 : lkV RJ5 40 yJ0_coder_7d493 := ⟨al_mc al_c4 114 rfl (by decide +kernel), al_mc al_c2 42 rfl (by decide +kernel), al_mc al_c2 43 rfl (by decide +kernel), al_mc al_c1 12 rfl (by decide +kernel)⟩
set_option maxRecDepth 20000 in
theorem cd_J5_inflate_da8c8 : Cond.code yJ5_inflate_da8c8 cJ5_inflate_da8c8 2 none ∈ AL := al_mc al_c4 118 rfl (by decide +kernel)
set_option maxRecDepth 20000 in
theorem ml_J5_125 : lkS RJ5 125 yJ1_inflate_0e8fd := ⟨al_mc al_c4 119 rfl (by decide +kernel), al_mc al_c4 120 rfl (by decide +kernel), al_mc al_c1 13 rfl (by decide +kernel)⟩
set_option maxRecDepth 20000 in
theorem cd_J1_inflate_0e8fd : Cond.code yJ1_inflate_0e8fd cJ1_inflate_0e8fd 5 none ∈ AL := al_mc al_c4 121 rfl (by decide +kernel)
set_option maxRecDepth 20000 in
theorem ml_J1_240 : lkS RJ1 240 yJ2_inflate_0e8fd := ⟨al_mc al_c4 122 rfl (by decide +kernel), al_mc al_c4 123 rfl (by decide +kernel), al_mc al_c1 15 rfl (by decide +kernel)⟩
set_option maxRecDepth 20000 in
theorem cd_J2_inflate_0e8fd : Cond.code yJ2_inflate_0e8fd cJ2_inflate_0e8fd 6 none ∈ AL := al_mc al_c4 124 rfl (by decide +kernel)
set_option maxRecDepth 20000 in
theorem ml_J2_173 : lkS RJ2 173 yJ2_checkBoundsOffCount_d044e := ⟨al_mc al_c4 125 rfl (by decide +kernel), al_mc al_c4 126 rfl (by decide +kernel), al_mc al_c1 15 rfl (by decide +kernel)⟩
set_option maxRecDepth 20000 in
theorem cd_J2_checkBoundsOffCount_d044e : Cond.code yJ2_checkBoundsOffCount_d044e cJ2_checkBoundsOffCount_d044e 3 none ∈ AL := al_mc al_c4 127 rfl (by decide +kernel)
set_option maxRecDepth 20000 in
theorem ml_J2_419 : lkS RJ2 419 yJ0_checkBoundsOffCount_cabcc := ⟨al_mc al_c4 128 rfl (by decide +kernel), al_mc al_c4 129 rfl (by decide +kernel), al_mc al_c1 12 rfl (by decide +kernel)⟩
set_option maxRecDepth 20000 in
theorem cd_J0_checkBoundsOffCount_cabcc : Cond.code yJ0_checkBoundsOffCount_cabcc cJ0_checkBoundsOffCount_cabcc 3 (some .int) ∈ AL := al_mc al_c4 130 rfl (by decide +kernel)
set_option maxRecDepth 20000 in
theorem ml_J0_1065 : lkS RJ0 1065 yJ3_checkFromIndexSize_8c36e := ⟨al_mc al_c4 131 rfl (by decide +kernel), al_mc al_c4 132 rfl (by decide +kernel), al_mc al_c1 14 rfl (by decide +kernel)⟩
set_option maxRecDepth 20000 in
theorem cd_J3_checkFromIndexSize_8c36e : Cond.code yJ3_checkFromIndexSize_8c36e cJ3_checkFromIndexSize_8c36e 4 (some .int) ∈ AL := al_mc al_c4 133 rfl (by decide +kernel)
set_option maxRecDepth 20000 in
theorem ml_J5_399 : lkV RJ5 399 yJ0_getBytes_840e7 := ⟨al_mc al_c4 134 rfl (by decide +kernel), al_mc al_c4 135 rfl (by decide +kernel), al_mc al_c4 136 rfl (by decide +kernel), al_mc al_c1 12 rfl (by decide +kernel)⟩
set_option maxRecDepth 20000 in
theorem cd_J0_getBytes_840e7 : Cond.code yJ0_getBytes_840e7 cJ0_getBytes_840e7 4 none ∈ AL := al_mc al_c4 137 rfl (by decide +kernel)
set_option maxRecDepth 20000 in
theorem ml_J0_106 : lkS RJ0 106 yJ1_inflate_0e8fd := ⟨al_mc al_c4 139 rfl (by decide +kernel), al_mc al_c4 120 rfl (by decide +kernel), al_mc al_c1 13 rfl (by decide +kernel)⟩
set_option maxRecDepth 20000 in
theorem ml_L_141 : lkV RL 141 yJ4_append_bf812 := ⟨al_mc al_c4 141 rfl (by decide +kernel), al_mc al_c4 142 rfl (by decide +kernel), al_mc al_c4 143 rfl (by decide +kernel), al_mc al_c1 20 rfl (by decide +kernel)⟩
set_option maxRecDepth 20000 in
theorem cd_J4_append_bf812 : Cond.code yJ4_append_bf812 cJ4_append_bf812 2 (some (.object "java/lang/StringBuilder")) ∈ AL := al_mc al_c4 144 rfl (by decide +kernel)
set_option maxRecDepth 20000 in
theorem cd_J5_append_c97b9 : Cond.code yJ5_append_c97b9 cJ5_append_c97b9 4 (some (.object "java/lang/AbstractStringBuilder")) ∈ AL := al_mc al_c4 147 rfl (by decide +kernel)
set_option maxRecDepth 20000 in
theorem ml_J5_245 : lkS RJ5 245 yJ6_stringSize_0f7a4 := ⟨al_mc al_c4 148 rfl (by decide +kernel), al_mc al_c4 149 rfl (by decide +kernel), al_mc al_c1 23 rfl (by decide +kernel)⟩
set_option maxRecDepth 20000 in
theorem cd_J6_stringSize_0f7a4 : Cond.code yJ6_stringSize_0f7a4 cJ6_stringSize_0f7a4 4 (some .int) ∈ AL := al_mc al_c4 150 rfl (by decide +kernel)
set_option maxRecDepth 20000 in
theorem ml_J5_248 : lkS RJ5 248 yJ6_getChars_ba4f3 := ⟨al_mc al_c4 151 rfl (by decide +kernel), al_mc al_c4 152 rfl (by decide +kernel), al_mc al_c1 23 rfl (by decide +kernel)⟩
set_option maxRecDepth 20000 in
theorem cd_J6_getChars_ba4f3 : Cond.code yJ6_getChars_ba4f3 cJ6_getChars_ba4f3 7 (some .int) ∈ AL := al_mc al_c4 153 rfl (by decide +kernel)
set_option maxRecDepth 20000 in
theorem ml_J5_251 : lkS RJ5 251 yJ2_getChars_46870 := ⟨al_mc al_c4 158 rfl (by decide +kernel), al_mc al_c4 159 rfl (by decide +kernel), al_mc al_c1 15 rfl (by decide +kernel)⟩
set_option maxRecDepth 20000 in
theorem cd_J2_getChars_46870 : Cond.code yJ2_getChars_46870 cJ2_getChars_46870 5 (some .int) ∈ AL := al_mc al_c4 160 rfl (by decide +kernel)
set_option maxRecDepth 20000 in
theorem ml_J2_393 : lkS RJ2 393 yJ2_getChars_ba4f3 := ⟨al_mc al_c4 161 rfl (by decide +kernel), al_mc al_c4 162 rfl (by decide +kernel), al_mc al_c1 15 rfl (by decide +kernel)⟩
set_option maxRecDepth 20000 in
theorem cd_J2_getChars_ba4f3 : Cond.code yJ2_getChars_ba4f3 cJ2_getChars_ba4f3 7 (some .int) ∈ AL := al_mc al_c4 163 rfl (by decide +kernel)
set_option maxRecDepth 20000 in
theorem ml_L_83 : lkV RL 83 yJ4_toString_0e30d := ⟨al_mc al_c4 166 rfl (by decide +kernel), al_mc al_c4 167 rfl (by decide +kernel), al_mc al_c4 168 rfl (by decide +kernel), al_mc al_c1 20 rfl (by decide +kernel)⟩
set_option maxRecDepth 20000 in
theorem cd_J4_toString_0e30d : Cond.code yJ4_toString_0e30d cJ4_toString_0e30d 1 (some (.object "java/lang/String")) ∈ AL := al_mc al_c4 169 rfl (by decide +kernel)
set_option maxRecDepth 20000 in
theorem ml_J4_137 : lkI RJ4 137 yJ0_init_81219 := ⟨al_mc al_c4 172 rfl (by decide +kernel), al_mc al_c4 173 rfl (by decide +kernel), al_mc al_c1 12 rfl (by decide +kernel)⟩
set_option maxRecDepth 20000 in
theorem cd_J0_init_81219 : Cond.code yJ0_init_81219 cJ0_init_81219 2 none ∈ AL := al_mc al_c4 174 rfl (by decide +kernel)
set_option maxRecDepth 20000 in
theorem ml_J0_489 : lkI RJ0 489 yJ0_init_db425 := ⟨al_mc al_c4 175 rfl (by decide +kernel), al_mc al_c4 176 rfl (by decide +kernel), al_mc al_c1 12 rfl (by decide +kernel)⟩
set_option maxRecDepth 20000 in
theorem cd_J0_init_db425 : Cond.code yJ0_init_db425 cJ0_init_db425 5 none ∈ AL := al_mc al_c4 177 rfl (by decide +kernel)
set_option maxRecDepth 20000 in
theorem cd_J5_getValue_6d5f1 : Cond.code yJ5_getValue_6d5f1 cJ5_getValue_6d5f1 1 (some (.array .byte)) ∈ AL := al_mc al_c4 183 rfl (by decide +kernel)
set_option maxRecDepth 20000 in
theorem cd_J4_length_8abf5 : Cond.code yJ4_length_8abf5 cJ4_length_8abf5 1 (some .int) ∈ AL := al_mc al_c4 189 rfl (by decide +kernel)
set_option maxRecDepth 20000 in
theorem cd_J5_length_8abf5 : Cond.code yJ5_length_8abf5 cJ5_length_8abf5 1 (some .int) ∈ AL := al_mc al_c4 191 rfl (by decide +kernel)
set_option maxRecDepth 20000 in
theorem ml_J0_54 : lkS RJ0 54 yJ7_copyOfRange_39247 := ⟨al_mc al_c4 193 rfl (by decide +kernel), al_mc al_c4 194 rfl (by decide +kernel), al_mc al_c1 16 rfl (by decide +kernel)⟩
set_option maxRecDepth 20000 in
theorem cd_J7_copyOfRange_39247 : Cond.code yJ7_copyOfRange_39247 cJ7_copyOfRange_39247 3 (some (.array .byte)) ∈ AL := al_mc al_c4 195 rfl (by decide +kernel)
set_option maxRecDepth 20000 in
theorem ml_J7_339 : lkS RJ7 339 yJ7_copyOfRangeByte_39247 := ⟨al_mc al_c4 196 rfl (by decide +kernel), al_mc al_c4 197 rfl (by decide +kernel), al_mc al_c1 16 rfl (by decide +kernel)⟩
set_option maxRecDepth 20000 in
theorem cd_J7_copyOfRangeByte_39247 : Cond.code yJ7_copyOfRangeByte_39247 cJ7_copyOfRangeByte_39247 5 (some (.array .byte)) ∈ AL := al_mc al_c4 198 rfl (by decide +kernel)
set_option maxRecDepth 20000 in
theorem ml_J7_343 : lkS RJ7 343 yJ7_checkLength_df160 := ⟨al_mc al_c4 199 rfl (by decide +kernel), al_mc al_c4 200 rfl (by decide +kernel), al_mc al_c1 16 rfl (by decide +kernel)⟩
set_option maxRecDepth 20000 in
theorem cd_J7_checkLength_df160 : Cond.code yJ7_checkLength_df160 cJ7_checkLength_df160 2 none ∈ AL := al_mc al_c4 201 rfl (by decide +kernel)
set_option maxRecDepth 20000 in
theorem ml_J0_1051 : lkS RJ0 1051 yJ2_compress_39247 := ⟨al_mc al_c4 202 rfl (by decide +kernel), al_mc al_c4 203 rfl (by decide +kernel), al_mc al_c1 15 rfl (by decide +kernel)⟩
set_option maxRecDepth 20000 in
theorem cd_J2_compress_39247 : Cond.code yJ2_compress_39247 cJ2_compress_39247 6 (some (.array .byte)) ∈ AL := al_mc al_c4 204 rfl (by decide +kernel)
set_option maxRecDepth 20000 in
theorem ml_J2_123 : lkS RJ2 123 yJ2_compress_5af95 := ⟨al_mc al_c4 205 rfl (by decide +kernel), al_mc al_c4 206 rfl (by decide +kernel), al_mc al_c1 15 rfl (by decide +kernel)⟩
set_option maxRecDepth 20000 in
theorem cd_J2_compress_5af95 : Cond.code yJ2_compress_5af95 cJ2_compress_5af95 7 (some .int) ∈ AL := al_mc al_c4 207 rfl (by decide +kernel)
set_option maxRecDepth 20000 in
theorem ml_J2_126 : lkS RJ2 126 yJ7_copyOfRange_39247 := ⟨al_mc al_c4 208 rfl (by decide +kernel), al_mc al_c4 194 rfl (by decide +kernel), al_mc al_c1 16 rfl (by decide +kernel)⟩
set_option maxRecDepth 20000 in
theorem ml_J0_47 : lkS RJ0 47 yJ2_coderFromArrayLen_85cad := ⟨al_mc al_c4 209 rfl (by decide +kernel), al_mc al_c4 210 rfl (by decide +kernel), al_mc al_c1 15 rfl (by decide +kernel)⟩
set_option maxRecDepth 20000 in
theorem cd_J2_coderFromArrayLen_85cad : Cond.code yJ2_coderFromArrayLen_85cad cJ2_coderFromArrayLen_85cad 2 (some .byte) ∈ AL := al_mc al_c4 211 rfl (by decide +kernel)
set_option maxRecDepth 20000 in
theorem fl_J0_9 : lkF RJ0 9 11 0 := al_mc al_c4 212 rfl (by decide +kernel)
set_option maxRecDepth 20000 in
theorem fl_J0_15 : lkF RJ0 15 11 1 := al_mc al_c4 213 rfl (by decide +kernel)
set_option maxRecDepth 20000 in
theorem ml_L_144 : lkV RL 144 yX9_soundingPitch := ⟨al_mc al_c4 223 rfl (by decide +kernel), al_mc al_c4 224 rfl (by decide +kernel), al_mc al_c4 225 rfl (by decide +kernel), al_mc al_c1 1 rfl (by decide +kernel)⟩
set_option maxRecDepth 20000 in
theorem cd_X9_soundingPitch : Cond.code yX9_soundingPitch cX9_soundingPitch 2 (some .int) ∈ AL := al_mc al_c4 226 rfl (by decide +kernel)
set_option maxRecDepth 20000 in
theorem ml_X9_214 : lkV RX9 214 yX0_toothFault := ⟨al_mc al_c4 227 rfl (by decide +kernel), al_mc al_c4 228 rfl (by decide +kernel), al_mc al_c4 229 rfl (by decide +kernel), al_mc al_c1 6 rfl (by decide +kernel)⟩
set_option maxRecDepth 20000 in
theorem cd_X0_toothFault : Cond.code yX0_toothFault cX0_toothFault 2 (some .int) ∈ AL := al_mc al_c4 230 rfl (by decide +kernel)
set_option maxRecDepth 20000 in
theorem ml_X9_221 : lkV RX9 221 yX8_pitchNow := ⟨al_mc al_c4 231 rfl (by decide +kernel), al_mc al_c4 232 rfl (by decide +kernel), al_mc al_c4 233 rfl (by decide +kernel), al_mc al_c1 8 rfl (by decide +kernel)⟩
set_option maxRecDepth 20000 in
theorem cd_X8_pitchNow : Cond.code yX8_pitchNow cX8_pitchNow 1 (some .int) ∈ AL := al_mc al_c4 234 rfl (by decide +kernel)
set_option maxRecDepth 20000 in
theorem ml_L_147 : lkV RL 147 yX9_bendOf := ⟨al_mc al_c4 235 rfl (by decide +kernel), al_mc al_c4 236 rfl (by decide +kernel), al_mc al_c4 237 rfl (by decide +kernel), al_mc al_c1 1 rfl (by decide +kernel)⟩
set_option maxRecDepth 20000 in
theorem cd_X9_bendOf : Cond.code yX9_bendOf cX9_bendOf 2 (some .int) ∈ AL := al_mc al_c4 238 rfl (by decide +kernel)
set_option maxRecDepth 20000 in
theorem ml_L_150 : lkV RL 150 yX9_gap := ⟨al_mc al_c4 239 rfl (by decide +kernel), al_mc al_c5 0 rfl (by decide +kernel), al_mc al_c5 1 rfl (by decide +kernel), al_mc al_c1 1 rfl (by decide +kernel)⟩
set_option maxRecDepth 20000 in
theorem cd_X9_gap : Cond.code yX9_gap cX9_gap 2 (some .int) ∈ AL := al_mc al_c5 2 rfl (by decide +kernel)
set_option maxRecDepth 20000 in
theorem ml_L_155 : lkV RL 155 yX9_wear := ⟨al_mc al_c5 3 rfl (by decide +kernel), al_mc al_c5 4 rfl (by decide +kernel), al_mc al_c5 5 rfl (by decide +kernel), al_mc al_c1 1 rfl (by decide +kernel)⟩
set_option maxRecDepth 20000 in
theorem cd_X9_wear : Cond.code yX9_wear cX9_wear 2 (some .int) ∈ AL := al_mc al_c5 6 rfl (by decide +kernel)
set_option maxRecDepth 20000 in
theorem ml_L_160 : lkV RL 160 yX9_silence := ⟨al_mc al_c5 7 rfl (by decide +kernel), al_mc al_c5 8 rfl (by decide +kernel), al_mc al_c5 9 rfl (by decide +kernel), al_mc al_c1 1 rfl (by decide +kernel)⟩
set_option maxRecDepth 20000 in
theorem cd_X9_silence : Cond.code yX9_silence cX9_silence 2 (some .int) ∈ AL := al_mc al_c5 10 rfl (by decide +kernel)
set_option maxRecDepth 20000 in
theorem ml_L_163 : lkV RL 163 yX10_silence := ⟨al_mc al_c5 11 rfl (by decide +kernel), al_mc al_c5 12 rfl (by decide +kernel), al_mc al_c5 13 rfl (by decide +kernel), al_mc al_c1 18 rfl (by decide +kernel)⟩
set_option maxRecDepth 20000 in
theorem cd_X10_silence : Cond.code yX10_silence cX10_silence 2 (some .int) ∈ AL := al_mc al_c5 14 rfl (by decide +kernel)
set_option maxRecDepth 20000 in
theorem ml_X10_71 : lkS RX10 71 yJ9_min_7cf53 := ⟨al_mc al_c5 15 rfl (by decide +kernel), al_mc al_c2 118 rfl (by decide +kernel), al_mc al_c1 3 rfl (by decide +kernel)⟩
set_option maxRecDepth 20000 in
theorem ml_L_164 : lkV RL 164 yX9_isBroken := ⟨al_mc al_c5 16 rfl (by decide +kernel), al_mc al_c5 17 rfl (by decide +kernel), al_mc al_c5 18 rfl (by decide +kernel), al_mc al_c1 1 rfl (by decide +kernel)⟩
set_option maxRecDepth 20000 in
theorem cd_X9_isBroken : Cond.code yX9_isBroken cX9_isBroken 2 (some .boolean) ∈ AL := al_mc al_c5 19 rfl (by decide +kernel)
set_option maxRecDepth 20000 in
theorem ml_X9_238 : lkV RX9 238 yX8_brokenNow := ⟨al_mc al_c5 20 rfl (by decide +kernel), al_mc al_c5 21 rfl (by decide +kernel), al_mc al_c5 22 rfl (by decide +kernel), al_mc al_c1 8 rfl (by decide +kernel)⟩
set_option maxRecDepth 20000 in
theorem cd_X8_brokenNow : Cond.code yX8_brokenNow cX8_brokenNow 1 (some .boolean) ∈ AL := al_mc al_c5 23 rfl (by decide +kernel)
set_option maxRecDepth 20000 in
theorem ml_L_167 : lkV RL 167 yX9_nextSound := ⟨al_mc al_c5 24 rfl (by decide +kernel), al_mc al_c5 25 rfl (by decide +kernel), al_mc al_c5 26 rfl (by decide +kernel), al_mc al_c1 1 rfl (by decide +kernel)⟩
set_option maxRecDepth 20000 in
theorem cd_X9_nextSound : Cond.code yX9_nextSound cX9_nextSound 2 (some .int) ∈ AL := al_mc al_c5 27 rfl (by decide +kernel)
set_option maxRecDepth 20000 in
theorem ml_X9_241 : lkV RX9 241 yX0_soundOf := ⟨al_mc al_c5 28 rfl (by decide +kernel), al_mc al_c5 29 rfl (by decide +kernel), al_mc al_c5 30 rfl (by decide +kernel), al_mc al_c1 6 rfl (by decide +kernel)⟩
set_option maxRecDepth 20000 in
theorem cd_X0_soundOf : Cond.code yX0_soundOf cX0_soundOf 2 (some .int) ∈ AL := al_mc al_c5 31 rfl (by decide +kernel)
set_option maxRecDepth 20000 in
theorem ml_X0_87 : lkV RX0 87 yX3_hasPin := ⟨al_mc al_c5 32 rfl (by decide +kernel), al_mc al_c2 196 rfl (by decide +kernel), al_mc al_c2 197 rfl (by decide +kernel), al_mc al_c1 7 rfl (by decide +kernel)⟩
set_option maxRecDepth 20000 in
theorem ml_X0_101 : lkV RX0 101 yX8_brokenNow := ⟨al_mc al_c5 33 rfl (by decide +kernel), al_mc al_c5 21 rfl (by decide +kernel), al_mc al_c5 22 rfl (by decide +kernel), al_mc al_c1 8 rfl (by decide +kernel)⟩
set_option maxRecDepth 20000 in
theorem ml_X0_132 : lkV RX0 132 yX8_dampedNow := ⟨al_mc al_c5 34 rfl (by decide +kernel), al_mc al_c5 35 rfl (by decide +kernel), al_mc al_c5 36 rfl (by decide +kernel), al_mc al_c1 8 rfl (by decide +kernel)⟩
set_option maxRecDepth 20000 in
theorem cd_X8_dampedNow : Cond.code yX8_dampedNow cX8_dampedNow 1 (some .boolean) ∈ AL := al_mc al_c5 37 rfl (by decide +kernel)
set_option maxRecDepth 20000 in
theorem ml_L_170 : lkV RL 170 yX10_sound := ⟨al_mc al_c5 38 rfl (by decide +kernel), al_mc al_c5 39 rfl (by decide +kernel), al_mc al_c5 40 rfl (by decide +kernel), al_mc al_c1 18 rfl (by decide +kernel)⟩
set_option maxRecDepth 20000 in
theorem cd_X10_sound : Cond.code yX10_sound cX10_sound 2 (some .int) ∈ AL := al_mc al_c5 41 rfl (by decide +kernel)
set_option maxRecDepth 20000 in
theorem ml_X10_77 : lkV RX10 77 yX10_has := ⟨al_mc al_c5 42 rfl (by decide +kernel), al_mc al_c5 43 rfl (by decide +kernel), al_mc al_c5 44 rfl (by decide +kernel), al_mc al_c1 18 rfl (by decide +kernel)⟩
set_option maxRecDepth 20000 in
theorem cd_X10_has : Cond.code yX10_has cX10_has 4 (some .boolean) ∈ AL := al_mc al_c5 45 rfl (by decide +kernel)
set_option maxRecDepth 20000 in
theorem ml_X10_67 : lkS RX10 67 yX10_place := ⟨al_mc al_c5 46 rfl (by decide +kernel), al_mc al_c5 47 rfl (by decide +kernel), al_mc al_c1 18 rfl (by decide +kernel)⟩
set_option maxRecDepth 20000 in
theorem cd_X10_place : Cond.code yX10_place cX10_place 3 (some .int) ∈ AL := al_mc al_c5 48 rfl (by decide +kernel)
set_option maxRecDepth 20000 in
theorem ml_X10_84 : lkV RX10 84 yX10_isBad := ⟨al_mc al_c5 49 rfl (by decide +kernel), al_mc al_c4 40 rfl (by decide +kernel), al_mc al_c4 41 rfl (by decide +kernel), al_mc al_c1 18 rfl (by decide +kernel)⟩
set_option maxRecDepth 20000 in
theorem ml_X10_88 : lkV RX10 88 yX10_silence := ⟨al_mc al_c5 50 rfl (by decide +kernel), al_mc al_c5 12 rfl (by decide +kernel), al_mc al_c5 13 rfl (by decide +kernel), al_mc al_c1 18 rfl (by decide +kernel)⟩
set_option maxRecDepth 20000 in
theorem ml_L_173 : lkV RL 173 yX9_stepCount := ⟨al_mc al_c5 51 rfl (by decide +kernel), al_mc al_c5 52 rfl (by decide +kernel), al_mc al_c5 53 rfl (by decide +kernel), al_mc al_c1 1 rfl (by decide +kernel)⟩
set_option maxRecDepth 20000 in
theorem cd_X9_stepCount : Cond.code yX9_stepCount cX9_stepCount 1 (some .int) ∈ AL := al_mc al_c5 54 rfl (by decide +kernel)
set_option maxRecDepth 20000 in
theorem ml_L_176 : lkV RL 176 yX9_selectedTune := ⟨al_mc al_c5 55 rfl (by decide +kernel), al_mc al_c5 56 rfl (by decide +kernel), al_mc al_c5 57 rfl (by decide +kernel), al_mc al_c1 1 rfl (by decide +kernel)⟩
set_option maxRecDepth 20000 in
theorem cd_X9_selectedTune : Cond.code yX9_selectedTune cX9_selectedTune 1 (some .int) ∈ AL := al_mc al_c5 58 rfl (by decide +kernel)
set_option maxRecDepth 20000 in
theorem ml_L_182 : lkV RL 182 yX9_position := ⟨al_mc al_c5 59 rfl (by decide +kernel), al_mc al_c5 60 rfl (by decide +kernel), al_mc al_c5 61 rfl (by decide +kernel), al_mc al_c1 1 rfl (by decide +kernel)⟩
set_option maxRecDepth 20000 in
theorem cd_X9_position : Cond.code yX9_position cX9_position 1 (some .int) ∈ AL := al_mc al_c5 62 rfl (by decide +kernel)
set_option maxRecDepth 20000 in
theorem ml_L_188 : lkV RL 188 yX9_toothCount := ⟨al_mc al_c5 63 rfl (by decide +kernel), al_mc al_c5 64 rfl (by decide +kernel), al_mc al_c5 65 rfl (by decide +kernel), al_mc al_c1 1 rfl (by decide +kernel)⟩
set_option maxRecDepth 20000 in
theorem cd_X9_toothCount : Cond.code yX9_toothCount cX9_toothCount 1 (some .int) ∈ AL := al_mc al_c5 66 rfl (by decide +kernel)
set_option maxRecDepth 20000 in
theorem ml_L_191 : lkV RL 191 yX9_turnsLeft := ⟨al_mc al_c5 67 rfl (by decide +kernel), al_mc al_c5 68 rfl (by decide +kernel), al_mc al_c5 69 rfl (by decide +kernel), al_mc al_c1 1 rfl (by decide +kernel)⟩
set_option maxRecDepth 20000 in
theorem cd_X9_turnsLeft : Cond.code yX9_turnsLeft cX9_turnsLeft 1 (some .int) ∈ AL := al_mc al_c5 70 rfl (by decide +kernel)
set_option maxRecDepth 20000 in
theorem ml_L_194 : lkV RL 194 yX9_vane := ⟨al_mc al_c5 71 rfl (by decide +kernel), al_mc al_c5 72 rfl (by decide +kernel), al_mc al_c5 73 rfl (by decide +kernel), al_mc al_c1 1 rfl (by decide +kernel)⟩
set_option maxRecDepth 20000 in
theorem cd_X9_vane : Cond.code yX9_vane cX9_vane 1 (some .int) ∈ AL := al_mc al_c5 74 rfl (by decide +kernel)
set_option maxRecDepth 20000 in
theorem ml_L_197 : lkV RL 197 yX9_tempo := ⟨al_mc al_c5 75 rfl (by decide +kernel), al_mc al_c5 76 rfl (by decide +kernel), al_mc al_c5 77 rfl (by decide +kernel), al_mc al_c1 1 rfl (by decide +kernel)⟩
set_option maxRecDepth 20000 in
theorem cd_X9_tempo : Cond.code yX9_tempo cX9_tempo 1 (some .int) ∈ AL := al_mc al_c5 78 rfl (by decide +kernel)
set_option maxRecDepth 20000 in
theorem ml_X9_250 : lkV RX9 250 yX0_stepsPerMinute := ⟨al_mc al_c5 79 rfl (by decide +kernel), al_mc al_c5 80 rfl (by decide +kernel), al_mc al_c5 81 rfl (by decide +kernel), al_mc al_c1 6 rfl (by decide +kernel)⟩
set_option maxRecDepth 20000 in
theorem cd_X0_stepsPerMinute : Cond.code yX0_stepsPerMinute cX0_stepsPerMinute 1 (some .int) ∈ AL := al_mc al_c5 82 rfl (by decide +kernel)
set_option maxRecDepth 20000 in
theorem ml_L_200 : lkV RL 200 yX9_secondsPerStep := ⟨al_mc al_c5 83 rfl (by decide +kernel), al_mc al_c5 84 rfl (by decide +kernel), al_mc al_c5 85 rfl (by decide +kernel), al_mc al_c1 1 rfl (by decide +kernel)⟩
set_option maxRecDepth 20000 in
theorem cd_X9_secondsPerStep : Cond.code yX9_secondsPerStep cX9_secondsPerStep 2 (some .double) ∈ AL := al_mc al_c5 86 rfl (by decide +kernel)
set_option maxRecDepth 20000 in
theorem ml_L_206 : lkV RL 206 yX9_secondsPerStepBits := ⟨al_mc al_c5 89 rfl (by decide +kernel), al_mc al_c5 90 rfl (by decide +kernel), al_mc al_c5 91 rfl (by decide +kernel), al_mc al_c1 1 rfl (by decide +kernel)⟩
set_option maxRecDepth 20000 in
theorem cd_X9_secondsPerStepBits : Cond.code yX9_secondsPerStepBits cX9_secondsPerStepBits 1 (some .long) ∈ AL := al_mc al_c5 92 rfl (by decide +kernel)
set_option maxRecDepth 20000 in
theorem ml_X9_255 : lkV RX9 255 yX9_secondsPerStep := ⟨al_mc al_c5 93 rfl (by decide +kernel), al_mc al_c5 84 rfl (by decide +kernel), al_mc al_c5 85 rfl (by decide +kernel), al_mc al_c1 1 rfl (by decide +kernel)⟩
set_option maxRecDepth 20000 in
theorem ml_X9_259 : lkS RX9 259 yX9_bitsOfPositive := ⟨al_mc al_c5 94 rfl (by decide +kernel), al_mc al_c5 95 rfl (by decide +kernel), al_mc al_c1 1 rfl (by decide +kernel)⟩
set_option maxRecDepth 20000 in
theorem cd_X9_bitsOfPositive : Cond.code yX9_bitsOfPositive cX9_bitsOfPositive 8 (some .long) ∈ AL := al_mc al_c5 96 rfl (by decide +kernel)
set_option maxRecDepth 20000 in
theorem ml_L_210 : lkS RL 210 yJxe99ae_doubleToLongBits_ccdee := ⟨al_mc al_c5 100 rfl (by decide +kernel), al_mc al_c5 101 rfl (by decide +kernel), al_mc al_c1 30 rfl (by decide +kernel)⟩
set_option maxRecDepth 20000 in
theorem cd_Jxe99ae_doubleToLongBits_ccdee : Cond.code yJxe99ae_doubleToLongBits_ccdee cJxe99ae_doubleToLongBits_ccdee 2 (some .long) ∈ AL := al_mc al_c5 102 rfl (by decide +kernel)
set_option maxRecDepth 20000 in
theorem ml_Jxe99ae_122 : lkS RJxe99ae 122 yJxe99ae_isNaN_b9ae7 := ⟨al_mc al_c5 103 rfl (by decide +kernel), al_mc al_c5 104 rfl (by decide +kernel), al_mc al_c1 30 rfl (by decide +kernel)⟩
set_option maxRecDepth 20000 in
theorem cd_Jxe99ae_isNaN_b9ae7 : Cond.code yJxe99ae_isNaN_b9ae7 cJxe99ae_isNaN_b9ae7 2 (some .boolean) ∈ AL := al_mc al_c5 105 rfl (by decide +kernel)
set_option maxRecDepth 20000 in
theorem ml_L_216 : lkV RL 216 yX9_noteCount := ⟨al_mc al_c5 110 rfl (by decide +kernel), al_mc al_c5 111 rfl (by decide +kernel), al_mc al_c5 112 rfl (by decide +kernel), al_mc al_c1 1 rfl (by decide +kernel)⟩
set_option maxRecDepth 20000 in
theorem cd_X9_noteCount : Cond.code yX9_noteCount cX9_noteCount 1 (some .int) ∈ AL := al_mc al_c5 113 rfl (by decide +kernel)
set_option maxRecDepth 20000 in
theorem ml_L_222 : lkV RL 222 yX9_squeakCount := ⟨al_mc al_c5 114 rfl (by decide +kernel), al_mc al_c5 115 rfl (by decide +kernel), al_mc al_c5 116 rfl (by decide +kernel), al_mc al_c1 1 rfl (by decide +kernel)⟩
set_option maxRecDepth 20000 in
theorem cd_X9_squeakCount : Cond.code yX9_squeakCount cX9_squeakCount 1 (some .int) ∈ AL := al_mc al_c5 117 rfl (by decide +kernel)
set_option maxRecDepth 20000 in
theorem ml_L_228 : lkV RL 228 yX9_stepsPlayed := ⟨al_mc al_c5 118 rfl (by decide +kernel), al_mc al_c5 119 rfl (by decide +kernel), al_mc al_c5 120 rfl (by decide +kernel), al_mc al_c1 1 rfl (by decide +kernel)⟩
set_option maxRecDepth 20000 in
theorem cd_X9_stepsPlayed : Cond.code yX9_stepsPlayed cX9_stepsPlayed 1 (some .int) ∈ AL := al_mc al_c5 121 rfl (by decide +kernel)
set_option maxRecDepth 20000 in
theorem ml_L_234 : lkV RL 234 yX9_brokenTeeth := ⟨al_mc al_c5 122 rfl (by decide +kernel), al_mc al_c5 123 rfl (by decide +kernel), al_mc al_c5 124 rfl (by decide +kernel), al_mc al_c1 1 rfl (by decide +kernel)⟩
set_option maxRecDepth 20000 in
theorem cd_X9_brokenTeeth : Cond.code yX9_brokenTeeth cX9_brokenTeeth 1 (some .int) ∈ AL := al_mc al_c5 125 rfl (by decide +kernel)
set_option maxRecDepth 20000 in
theorem ml_X9_278 : lkV RX9 278 yX0_brokenCount := ⟨al_mc al_c5 126 rfl (by decide +kernel), al_mc al_c5 127 rfl (by decide +kernel), al_mc al_c5 128 rfl (by decide +kernel), al_mc al_c1 6 rfl (by decide +kernel)⟩
set_option maxRecDepth 20000 in
theorem cd_X0_brokenCount : Cond.code yX0_brokenCount cX0_brokenCount 3 (some .int) ∈ AL := al_mc al_c5 129 rfl (by decide +kernel)
set_option maxRecDepth 20000 in
theorem ml_L_237 : lkV RL 237 yX9_stepsLeft := ⟨al_mc al_c5 130 rfl (by decide +kernel), al_mc al_c5 131 rfl (by decide +kernel), al_mc al_c5 132 rfl (by decide +kernel), al_mc al_c1 1 rfl (by decide +kernel)⟩
set_option maxRecDepth 20000 in
theorem cd_X9_stepsLeft : Cond.code yX9_stepsLeft cX9_stepsLeft 1 (some .int) ∈ AL := al_mc al_c5 133 rfl (by decide +kernel)
set_option maxRecDepth 20000 in
theorem ml_X9_290 : lkV RX9 290 yX0_playableSteps := ⟨al_mc al_c5 134 rfl (by decide +kernel), al_mc al_c5 135 rfl (by decide +kernel), al_mc al_c5 136 rfl (by decide +kernel), al_mc al_c1 6 rfl (by decide +kernel)⟩
set_option maxRecDepth 20000 in
theorem cd_X0_playableSteps : Cond.code yX0_playableSteps cX0_playableSteps 1 (some .int) ∈ AL := al_mc al_c5 137 rfl (by decide +kernel)
set_option maxRecDepth 20000 in
theorem ml_L_240 : lkV RL 240 yX9_contradictions := ⟨al_mc al_c5 138 rfl (by decide +kernel), al_mc al_c5 139 rfl (by decide +kernel), al_mc al_c5 140 rfl (by decide +kernel), al_mc al_c1 1 rfl (by decide +kernel)⟩
set_option maxRecDepth 20000 in
theorem cd_X9_contradictions : Cond.code yX9_contradictions cX9_contradictions 1 (some .int) ∈ AL := al_mc al_c5 141 rfl (by decide +kernel)
set_option maxRecDepth 20000 in
theorem ml_X9_284 : lkV RX9 284 yX0_unexplainedWear := ⟨al_mc al_c5 142 rfl (by decide +kernel), al_mc al_c5 143 rfl (by decide +kernel), al_mc al_c5 144 rfl (by decide +kernel), al_mc al_c1 6 rfl (by decide +kernel)⟩
set_option maxRecDepth 20000 in
theorem cd_X0_unexplainedWear : Cond.code yX0_unexplainedWear cX0_unexplainedWear 3 (some .int) ∈ AL := al_mc al_c5 145 rfl (by decide +kernel)
set_option maxRecDepth 20000 in
theorem ml_X0_154 : lkS RX0 154 yJ9_abs_0f7a4 := ⟨al_mc al_c5 146 rfl (by decide +kernel), al_mc al_c5 147 rfl (by decide +kernel), al_mc al_c1 3 rfl (by decide +kernel)⟩
set_option maxRecDepth 20000 in
theorem cd_J9_abs_0f7a4 : Cond.code yJ9_abs_0f7a4 cJ9_abs_0f7a4 1 (some .int) ∈ AL := al_mc al_c5 148 rfl (by decide +kernel)
set_option maxRecDepth 20000 in
theorem ml_X9_287 : lkV RX9 287 yX0_brokenTooEarly := ⟨al_mc al_c5 149 rfl (by decide +kernel), al_mc al_c5 150 rfl (by decide +kernel), al_mc al_c5 151 rfl (by decide +kernel), al_mc al_c1 6 rfl (by decide +kernel)⟩
set_option maxRecDepth 20000 in
theorem cd_X0_brokenTooEarly : Cond.code yX0_brokenTooEarly cX0_brokenTooEarly 3 (some .int) ∈ AL := al_mc al_c5 152 rfl (by decide +kernel)
set_option maxRecDepth 20000 in
theorem ml_L_243 : lkS RL 243 yL_isTune := ⟨al_mc al_c5 153 rfl (by decide +kernel), al_mc al_c5 154 rfl (by decide +kernel), al_mc al_c1 0 rfl (by decide +kernel)⟩
set_option maxRecDepth 20000 in
theorem cd_L_isTune : Cond.code yL_isTune cL_isTune 12 (some .boolean) ∈ AL := al_mc al_c5 155 rfl (by decide +kernel)
set_option maxRecDepth 20000 in
theorem ml_L_39 : lkV RL 39 yX10_pinsOf := ⟨al_mc al_c5 156 rfl (by decide +kernel), al_mc al_c5 157 rfl (by decide +kernel), al_mc al_c5 158 rfl (by decide +kernel), al_mc al_c1 18 rfl (by decide +kernel)⟩
set_option maxRecDepth 20000 in
theorem cd_X10_pinsOf : Cond.code yX10_pinsOf cX10_pinsOf 4 (some .int) ∈ AL := al_mc al_c5 159 rfl (by decide +kernel)
set_option maxRecDepth 20000 in
theorem ml_L_54 : lkV RL 54 yX10_has := ⟨al_mc al_c5 160 rfl (by decide +kernel), al_mc al_c5 43 rfl (by decide +kernel), al_mc al_c5 44 rfl (by decide +kernel), al_mc al_c1 18 rfl (by decide +kernel)⟩
set_option maxRecDepth 20000 in
theorem ml_L_65 : lkV RL 65 yX10_isClose := ⟨al_mc al_c5 161 rfl (by decide +kernel), al_mc al_c5 162 rfl (by decide +kernel), al_mc al_c5 163 rfl (by decide +kernel), al_mc al_c1 18 rfl (by decide +kernel)⟩
set_option maxRecDepth 20000 in
theorem cd_X10_isClose : Cond.code yX10_isClose cX10_isClose 4 (some .boolean) ∈ AL := al_mc al_c5 164 rfl (by decide +kernel)
set_option maxRecDepth 20000 in
theorem ml_X10_81 : lkV RX10 81 yX10_distance := ⟨al_mc al_c5 165 rfl (by decide +kernel), al_mc al_c5 166 rfl (by decide +kernel), al_mc al_c5 167 rfl (by decide +kernel), al_mc al_c1 18 rfl (by decide +kernel)⟩
set_option maxRecDepth 20000 in
theorem cd_X10_distance : Cond.code yX10_distance cX10_distance 5 (some .int) ∈ AL := al_mc al_c5 168 rfl (by decide +kernel)
set_option maxRecDepth 20000 in
theorem ml_L_68 : lkV RL 68 yJ4_append_cf468 := ⟨al_mc al_c5 169 rfl (by decide +kernel), al_mc al_c5 170 rfl (by decide +kernel), al_mc al_c5 171 rfl (by decide +kernel), al_mc al_c1 20 rfl (by decide +kernel)⟩
set_option maxRecDepth 20000 in
theorem cd_J4_append_cf468 : Cond.code yJ4_append_cf468 cJ4_append_cf468 2 (some (.object "java/lang/StringBuilder")) ∈ AL := al_mc al_c5 172 rfl (by decide +kernel)
set_option maxRecDepth 20000 in
theorem cd_J5_append_3fe6f : Cond.code yJ5_append_3fe6f cJ5_append_3fe6f 2 (some (.object "java/lang/AbstractStringBuilder")) ∈ AL := al_mc al_c5 175 rfl (by decide +kernel)
set_option maxRecDepth 20000 in
theorem ml_J5_191 : lkS RJ5 191 yJ1_canEncode_fc78d := ⟨al_mc al_c5 176 rfl (by decide +kernel), al_mc al_c5 177 rfl (by decide +kernel), al_mc al_c1 13 rfl (by decide +kernel)⟩
set_option maxRecDepth 20000 in
theorem cd_J1_canEncode_fc78d : Cond.code yJ1_canEncode_fc78d cJ1_canEncode_fc78d 1 (some .boolean) ∈ AL := al_mc al_c5 178 rfl (by decide +kernel)
set_option maxRecDepth 20000 in
theorem ml_J5_197 : lkS RJ5 197 yJ2_putCharSB_b72d1 := ⟨al_mc al_c5 179 rfl (by decide +kernel), al_mc al_c5 180 rfl (by decide +kernel), al_mc al_c1 15 rfl (by decide +kernel)⟩
set_option maxRecDepth 20000 in
theorem cd_J2_putCharSB_b72d1 : Cond.code yJ2_putCharSB_b72d1 cJ2_putCharSB_b72d1 3 none ∈ AL := al_mc al_c5 181 rfl (by decide +kernel)
set_option maxRecDepth 20000 in
theorem ml_L_71 : lkV RL 71 yX9_isPin := ⟨al_mc al_c5 182 rfl (by decide +kernel), al_mc al_c5 183 rfl (by decide +kernel), al_mc al_c5 184 rfl (by decide +kernel), al_mc al_c1 1 rfl (by decide +kernel)⟩
set_option maxRecDepth 20000 in
theorem cd_X9_isPin : Cond.code yX9_isPin cX9_isPin 4 (some .boolean) ∈ AL := al_mc al_c5 185 rfl (by decide +kernel)
set_option maxRecDepth 20000 in
theorem ml_X9_168 : lkV RX9 168 yX0_placeFault := ⟨al_mc al_c5 186 rfl (by decide +kernel), al_mc al_c5 187 rfl (by decide +kernel), al_mc al_c5 188 rfl (by decide +kernel), al_mc al_c1 6 rfl (by decide +kernel)⟩
set_option maxRecDepth 20000 in
theorem cd_X0_placeFault : Cond.code yX0_placeFault cX0_placeFault 4 (some .int) ∈ AL := al_mc al_c5 189 rfl (by decide +kernel)
set_option maxRecDepth 20000 in
theorem ml_X0_67 : lkV RX0 67 yX0_tuneFault := ⟨al_mc al_c5 190 rfl (by decide +kernel), al_mc al_c5 191 rfl (by decide +kernel), al_mc al_c5 192 rfl (by decide +kernel), al_mc al_c1 6 rfl (by decide +kernel)⟩
set_option maxRecDepth 20000 in
theorem cd_X0_tuneFault : Cond.code yX0_tuneFault cX0_tuneFault 2 (some .int) ∈ AL := al_mc al_c5 193 rfl (by decide +kernel)
set_option maxRecDepth 20000 in
theorem ml_X0_71 : lkV RX0 71 yX0_toothFault := ⟨al_mc al_c5 194 rfl (by decide +kernel), al_mc al_c4 228 rfl (by decide +kernel), al_mc al_c4 229 rfl (by decide +kernel), al_mc al_c1 6 rfl (by decide +kernel)⟩
set_option maxRecDepth 20000 in
theorem ml_X0_74 : lkV RX0 74 yX0_stepFault := ⟨al_mc al_c5 195 rfl (by decide +kernel), al_mc al_c5 196 rfl (by decide +kernel), al_mc al_c5 197 rfl (by decide +kernel), al_mc al_c1 6 rfl (by decide +kernel)⟩
set_option maxRecDepth 20000 in
theorem cd_X0_stepFault : Cond.code yX0_stepFault cX0_stepFault 2 (some .int) ∈ AL := al_mc al_c5 198 rfl (by decide +kernel)
set_option maxRecDepth 20000 in
theorem ml_X0_77 : lkS RX0 77 yJ9_max_7cf53 := ⟨al_mc al_c5 199 rfl (by decide +kernel), al_mc al_c1 49 rfl (by decide +kernel), al_mc al_c1 3 rfl (by decide +kernel)⟩
set_option maxRecDepth 20000 in
theorem ml_X9_175 : lkV RX9 175 yX3_hasPin := ⟨al_mc al_c5 200 rfl (by decide +kernel), al_mc al_c2 196 rfl (by decide +kernel), al_mc al_c2 197 rfl (by decide +kernel), al_mc al_c1 7 rfl (by decide +kernel)⟩
set_option maxRecDepth 20000 in
theorem ml_L_74 : lkV RL 74 yX9_distance := ⟨al_mc al_c5 201 rfl (by decide +kernel), al_mc al_c5 202 rfl (by decide +kernel), al_mc al_c5 203 rfl (by decide +kernel), al_mc al_c1 1 rfl (by decide +kernel)⟩
set_option maxRecDepth 20000 in
theorem cd_X9_distance : Cond.code yX9_distance cX9_distance 4 (some .int) ∈ AL := al_mc al_c5 204 rfl (by decide +kernel)
set_option maxRecDepth 20000 in
theorem ml_X9_202 : lkV RX9 202 yX3_stepsBack := ⟨al_mc al_c5 221 rfl (by decide +kernel), al_mc al_c5 222 rfl (by decide +kernel), al_mc al_c5 223 rfl (by decide +kernel), al_mc al_c1 7 rfl (by decide +kernel)⟩
set_option maxRecDepth 20000 in
theorem cd_X3_stepsBack : Cond.code yX3_stepsBack cX3_stepsBack 6 (some .int) ∈ AL := al_mc al_c5 224 rfl (by decide +kernel)
set_option maxRecDepth 20000 in
theorem ml_X3_57 : lkV RX3 57 yX3_hasPin := ⟨al_mc al_c5 225 rfl (by decide +kernel), al_mc al_c2 196 rfl (by decide +kernel), al_mc al_c2 197 rfl (by decide +kernel), al_mc al_c1 7 rfl (by decide +kernel)⟩
set_option maxRecDepth 20000 in
theorem ml_L_78 : lkV RL 78 yX10_distance := ⟨al_mc al_c5 226 rfl (by decide +kernel), al_mc al_c5 166 rfl (by decide +kernel), al_mc al_c5 167 rfl (by decide +kernel), al_mc al_c1 18 rfl (by decide +kernel)⟩
set_option maxRecDepth 20000 in
theorem ml_L_79 : lkV RL 79 yX9_writePins := ⟨al_mc al_c5 227 rfl (by decide +kernel), al_mc al_c5 228 rfl (by decide +kernel), al_mc al_c5 229 rfl (by decide +kernel), al_mc al_c1 1 rfl (by decide +kernel)⟩
set_option maxRecDepth 20000 in
theorem cd_X9_writePins : Cond.code yX9_writePins cX9_writePins 4 (some .int) ∈ AL := al_mc al_c5 230 rfl (by decide +kernel)
set_option maxRecDepth 20000 in
theorem ml_X9_179 : lkV RX9 179 yX0_tuneFault := ⟨al_mc al_c5 231 rfl (by decide +kernel), al_mc al_c5 191 rfl (by decide +kernel), al_mc al_c5 192 rfl (by decide +kernel), al_mc al_c1 6 rfl (by decide +kernel)⟩
set_option maxRecDepth 20000 in
theorem ml_X9_188 : lkS RX9 188 yJ9_max_7cf53 := ⟨al_mc al_c5 232 rfl (by decide +kernel), al_mc al_c1 49 rfl (by decide +kernel), al_mc al_c1 3 rfl (by decide +kernel)⟩
set_option maxRecDepth 20000 in
theorem ml_X9_343 : lkV RX9 343 yX0_closePinAt := ⟨al_mc al_c5 233 rfl (by decide +kernel), al_mc al_c5 234 rfl (by decide +kernel), al_mc al_c5 235 rfl (by decide +kernel), al_mc al_c1 6 rfl (by decide +kernel)⟩
set_option maxRecDepth 20000 in
theorem cd_X0_closePinAt : Cond.code yX0_closePinAt cX0_closePinAt 4 (some .boolean) ∈ AL := al_mc al_c5 236 rfl (by decide +kernel)
set_option maxRecDepth 20000 in
theorem ml_X0_135 : lkV RX0 135 yX3_stepsBack := ⟨al_mc al_c5 237 rfl (by decide +kernel), al_mc al_c5 222 rfl (by decide +kernel), al_mc al_c5 223 rfl (by decide +kernel), al_mc al_c1 7 rfl (by decide +kernel)⟩
set_option maxRecDepth 20000 in
theorem ml_L_87 : lkS RL 87 yL_isOutput := ⟨al_mc al_c5 238 rfl (by decide +kernel), al_mc al_c5 239 rfl (by decide +kernel), al_mc al_c1 0 rfl (by decide +kernel)⟩
set_option maxRecDepth 20000 in
theorem cd_L_isOutput : Cond.code yL_isOutput cL_isOutput 4 (some .boolean) ∈ AL := al_mc al_c6 0 rfl (by decide +kernel)
set_option maxRecDepth 20000 in
theorem ml_L_15 : lkV RL 15 yJ0_length_8abf5 := ⟨al_mc al_c6 1 rfl (by decide +kernel), al_mc al_c2 38 rfl (by decide +kernel), al_mc al_c2 39 rfl (by decide +kernel), al_mc al_c1 12 rfl (by decide +kernel)⟩
set_option maxRecDepth 20000 in
theorem ml_L_35 : lkV RL 35 yX9_outputByte := ⟨al_mc al_c6 2 rfl (by decide +kernel), al_mc al_c6 3 rfl (by decide +kernel), al_mc al_c6 4 rfl (by decide +kernel), al_mc al_c1 1 rfl (by decide +kernel)⟩
set_option maxRecDepth 20000 in
theorem cd_X9_outputByte : Cond.code yX9_outputByte cX9_outputByte 2 (some .int) ∈ AL := al_mc al_c6 5 rfl (by decide +kernel)
set_option maxRecDepth 20000 in
theorem ml_X9_349 : lkV RX9 349 yX1_at := ⟨al_mc al_c6 6 rfl (by decide +kernel), al_mc al_c2 102 rfl (by decide +kernel), al_mc al_c2 103 rfl (by decide +kernel), al_mc al_c1 2 rfl (by decide +kernel)⟩
set_option maxRecDepth 20000 in
theorem ml_L_21 : lkV RL 21 yJ0_charAt_5068e := ⟨al_mc al_c6 7 rfl (by decide +kernel), al_mc al_c2 48 rfl (by decide +kernel), al_mc al_c2 49 rfl (by decide +kernel), al_mc al_c1 12 rfl (by decide +kernel)⟩
set_option maxRecDepth 20000 in
theorem ml_L_91 : lkS RL 91 yJ9_max_7cf53 := ⟨al_mc al_c6 8 rfl (by decide +kernel), al_mc al_c1 49 rfl (by decide +kernel), al_mc al_c1 3 rfl (by decide +kernel)⟩
set_option maxRecDepth 20000 in
theorem ml_L_96 : lkV RL 96 yX9_chord := ⟨al_mc al_c6 9 rfl (by decide +kernel), al_mc al_c6 10 rfl (by decide +kernel), al_mc al_c6 11 rfl (by decide +kernel), al_mc al_c1 1 rfl (by decide +kernel)⟩
set_option maxRecDepth 20000 in
theorem cd_X9_chord : Cond.code yX9_chord cX9_chord 3 (some .int) ∈ AL := al_mc al_c6 12 rfl (by decide +kernel)
set_option maxRecDepth 20000 in
theorem ml_X9_185 : lkV RX9 185 yX0_stepFault := ⟨al_mc al_c6 13 rfl (by decide +kernel), al_mc al_c5 196 rfl (by decide +kernel), al_mc al_c5 197 rfl (by decide +kernel), al_mc al_c1 6 rfl (by decide +kernel)⟩
set_option maxRecDepth 20000 in
theorem ml_X9_194 : lkV RX9 194 yX3_teethAt := ⟨al_mc al_c6 14 rfl (by decide +kernel), al_mc al_c6 15 rfl (by decide +kernel), al_mc al_c6 16 rfl (by decide +kernel), al_mc al_c1 7 rfl (by decide +kernel)⟩
set_option maxRecDepth 20000 in
theorem cd_X3_teethAt : Cond.code yX3_teethAt cX3_teethAt 5 (some .int) ∈ AL := al_mc al_c6 17 rfl (by decide +kernel)
set_option maxRecDepth 20000 in
theorem ml_L_99 : lkV RL 99 yX9_pinCount := ⟨al_mc al_c6 18 rfl (by decide +kernel), al_mc al_c6 19 rfl (by decide +kernel), al_mc al_c6 20 rfl (by decide +kernel), al_mc al_c1 1 rfl (by decide +kernel)⟩
set_option maxRecDepth 20000 in
theorem cd_X9_pinCount : Cond.code yX9_pinCount cX9_pinCount 2 (some .int) ∈ AL := al_mc al_c6 21 rfl (by decide +kernel)
set_option maxRecDepth 20000 in
theorem ml_X9_182 : lkV RX9 182 yX3_pinsOf := ⟨al_mc al_c6 22 rfl (by decide +kernel), al_mc al_c6 23 rfl (by decide +kernel), al_mc al_c6 24 rfl (by decide +kernel), al_mc al_c1 7 rfl (by decide +kernel)⟩
set_option maxRecDepth 20000 in
theorem cd_X3_pinsOf : Cond.code yX3_pinsOf cX3_pinsOf 4 (some .int) ∈ AL := al_mc al_c6 25 rfl (by decide +kernel)
set_option maxRecDepth 20000 in
theorem ml_X3_51 : lkS RX3 51 yJ13_bitCount_95d88 := ⟨al_mc al_c6 26 rfl (by decide +kernel), al_mc al_c6 27 rfl (by decide +kernel), al_mc al_c1 32 rfl (by decide +kernel)⟩
set_option maxRecDepth 20000 in
theorem cd_J13_bitCount_95d88 : Cond.code yJ13_bitCount_95d88 cJ13_bitCount_95d88 2 (some .int) ∈ AL := al_mc al_c6 28 rfl (by decide +kernel)
set_option maxRecDepth 20000 in
theorem ml_L_102 : lkV RL 102 yX9_closePins := ⟨al_mc al_c6 32 rfl (by decide +kernel), al_mc al_c6 33 rfl (by decide +kernel), al_mc al_c6 34 rfl (by decide +kernel), al_mc al_c1 1 rfl (by decide +kernel)⟩
set_option maxRecDepth 20000 in
theorem cd_X9_closePins : Cond.code yX9_closePins cX9_closePins 2 (some .int) ∈ AL := al_mc al_c6 35 rfl (by decide +kernel)
set_option maxRecDepth 20000 in
theorem ml_X9_205 : lkV RX9 205 yX0_closePinsOf := ⟨al_mc al_c6 36 rfl (by decide +kernel), al_mc al_c6 37 rfl (by decide +kernel), al_mc al_c6 38 rfl (by decide +kernel), al_mc al_c1 6 rfl (by decide +kernel)⟩
set_option maxRecDepth 20000 in
theorem cd_X0_closePinsOf : Cond.code yX0_closePinsOf cX0_closePinsOf 5 (some .int) ∈ AL := al_mc al_c6 39 rfl (by decide +kernel)
set_option maxRecDepth 20000 in
theorem ml_X0_141 : lkV RX0 141 yX0_closePinAt := ⟨al_mc al_c6 40 rfl (by decide +kernel), al_mc al_c5 234 rfl (by decide +kernel), al_mc al_c5 235 rfl (by decide +kernel), al_mc al_c1 6 rfl (by decide +kernel)⟩
set_option maxRecDepth 20000 in
theorem ml_L_105 : lkV RL 105 yX9_longestRest := ⟨al_mc al_c6 41 rfl (by decide +kernel), al_mc al_c6 42 rfl (by decide +kernel), al_mc al_c6 43 rfl (by decide +kernel), al_mc al_c1 1 rfl (by decide +kernel)⟩
set_option maxRecDepth 20000 in
theorem cd_X9_longestRest : Cond.code yX9_longestRest cX9_longestRest 2 (some .int) ∈ AL := al_mc al_c6 44 rfl (by decide +kernel)
set_option maxRecDepth 20000 in
theorem ml_X9_208 : lkV RX9 208 yX3_longestRestOf := ⟨al_mc al_c6 45 rfl (by decide +kernel), al_mc al_c6 46 rfl (by decide +kernel), al_mc al_c6 47 rfl (by decide +kernel), al_mc al_c1 7 rfl (by decide +kernel)⟩
set_option maxRecDepth 20000 in
theorem cd_X3_longestRestOf : Cond.code yX3_longestRestOf cX3_longestRestOf 6 (some .int) ∈ AL := al_mc al_c6 48 rfl (by decide +kernel)
set_option maxRecDepth 20000 in
theorem ml_X3_61 : lkV RX3 61 yX3_teethAt := ⟨al_mc al_c6 49 rfl (by decide +kernel), al_mc al_c6 15 rfl (by decide +kernel), al_mc al_c6 16 rfl (by decide +kernel), al_mc al_c1 7 rfl (by decide +kernel)⟩
set_option maxRecDepth 20000 in
theorem ml_X3_65 : lkS RX3 65 yJ9_max_7cf53 := ⟨al_mc al_c6 50 rfl (by decide +kernel), al_mc al_c1 49 rfl (by decide +kernel), al_mc al_c1 3 rfl (by decide +kernel)⟩
set_option maxRecDepth 20000 in
theorem ml_X3_70 : lkS RX3 70 yJ9_min_7cf53 := ⟨al_mc al_c6 51 rfl (by decide +kernel), al_mc al_c2 118 rfl (by decide +kernel), al_mc al_c1 3 rfl (by decide +kernel)⟩
set_option maxRecDepth 20000 in
theorem ml_L_108 : lkV RL 108 yX9_meanPitch := ⟨al_mc al_c6 52 rfl (by decide +kernel), al_mc al_c6 53 rfl (by decide +kernel), al_mc al_c6 54 rfl (by decide +kernel), al_mc al_c1 1 rfl (by decide +kernel)⟩
set_option maxRecDepth 20000 in
theorem cd_X9_meanPitch : Cond.code yX9_meanPitch cX9_meanPitch 3 (some .double) ∈ AL := al_mc al_c6 55 rfl (by decide +kernel)
set_option maxRecDepth 20000 in
theorem ml_X9_281 : lkV RX9 281 yX0_pitchSum := ⟨al_mc al_c6 56 rfl (by decide +kernel), al_mc al_c6 57 rfl (by decide +kernel), al_mc al_c6 58 rfl (by decide +kernel), al_mc al_c1 6 rfl (by decide +kernel)⟩
set_option maxRecDepth 20000 in
theorem cd_X0_pitchSum : Cond.code yX0_pitchSum cX0_pitchSum 4 (some .int) ∈ AL := al_mc al_c6 59 rfl (by decide +kernel)
set_option maxRecDepth 20000 in
theorem ml_X0_91 : lkV RX0 91 yX3_row := ⟨al_mc al_c6 60 rfl (by decide +kernel), al_mc al_c2 208 rfl (by decide +kernel), al_mc al_c2 209 rfl (by decide +kernel), al_mc al_c1 7 rfl (by decide +kernel)⟩
set_option maxRecDepth 20000 in
theorem ml_X0_144 : lkS RX0 144 yJ13_bitCount_95d88 := ⟨al_mc al_c6 61 rfl (by decide +kernel), al_mc al_c6 27 rfl (by decide +kernel), al_mc al_c1 32 rfl (by decide +kernel)⟩
set_option maxRecDepth 20000 in
theorem ml_X0_150 : lkV RX0 150 yX8_pitchNow := ⟨al_mc al_c6 62 rfl (by decide +kernel), al_mc al_c4 232 rfl (by decide +kernel), al_mc al_c4 233 rfl (by decide +kernel), al_mc al_c1 8 rfl (by decide +kernel)⟩
set_option maxRecDepth 20000 in
theorem ml_L_112 : lkV RL 112 yX9_density := ⟨al_mc al_c6 63 rfl (by decide +kernel), al_mc al_c6 64 rfl (by decide +kernel), al_mc al_c6 65 rfl (by decide +kernel), al_mc al_c1 1 rfl (by decide +kernel)⟩
set_option maxRecDepth 20000 in
theorem cd_X9_density : Cond.code yX9_density cX9_density 3 (some .float) ∈ AL := al_mc al_c6 66 rfl (by decide +kernel)
set_option maxRecDepth 20000 in
theorem ml_L_116 : lkS RL 116 yJxf58ca_floatToIntBits_5c35a := ⟨al_mc al_c6 67 rfl (by decide +kernel), al_mc al_c6 68 rfl (by decide +kernel), al_mc al_c1 33 rfl (by decide +kernel)⟩
set_option maxRecDepth 20000 in
theorem cd_Jxf58ca_floatToIntBits_5c35a : Cond.code yJxf58ca_floatToIntBits_5c35a cJxf58ca_floatToIntBits_5c35a 1 (some .int) ∈ AL := al_mc al_c6 69 rfl (by decide +kernel)
set_option maxRecDepth 20000 in
theorem ml_Jxf58ca_59 : lkS RJxf58ca 59 yJxf58ca_isNaN_12338 := ⟨al_mc al_c6 70 rfl (by decide +kernel), al_mc al_c6 71 rfl (by decide +kernel), al_mc al_c1 33 rfl (by decide +kernel)⟩
set_option maxRecDepth 20000 in
theorem cd_Jxf58ca_isNaN_12338 : Cond.code yJxf58ca_isNaN_12338 cJxf58ca_isNaN_12338 1 (some .boolean) ∈ AL := al_mc al_c6 72 rfl (by decide +kernel)
set_option maxRecDepth 20000 in
theorem ml_L_247 : lkV RL 247 yX9_writeComb := ⟨al_mc al_c6 77 rfl (by decide +kernel), al_mc al_c6 78 rfl (by decide +kernel), al_mc al_c6 79 rfl (by decide +kernel), al_mc al_c1 1 rfl (by decide +kernel)⟩
set_option maxRecDepth 20000 in
theorem cd_X9_writeComb : Cond.code yX9_writeComb cX9_writeComb 2 (some .int) ∈ AL := al_mc al_c6 80 rfl (by decide +kernel)
set_option maxRecDepth 20000 in
theorem ml_X9_346 : lkV RX9 346 yX1_putNumber := ⟨al_mc al_c6 81 rfl (by decide +kernel), al_mc al_c6 82 rfl (by decide +kernel), al_mc al_c6 83 rfl (by decide +kernel), al_mc al_c1 2 rfl (by decide +kernel)⟩
set_option maxRecDepth 20000 in
theorem cd_X1_putNumber : Cond.code yX1_putNumber cX1_putNumber 3 none ∈ AL := al_mc al_c6 84 rfl (by decide +kernel)
set_option maxRecDepth 20000 in
theorem ml_X1_25 : lkV RX1 25 yX1_put := ⟨al_mc al_c6 85 rfl (by decide +kernel), al_mc al_c2 86 rfl (by decide +kernel), al_mc al_c2 87 rfl (by decide +kernel), al_mc al_c1 2 rfl (by decide +kernel)⟩
set_option maxRecDepth 20000 in
theorem ml_L_367 : lkS RL 367 yL_isForetold := ⟨al_mc al_c6 86 rfl (by decide +kernel), al_mc al_c6 87 rfl (by decide +kernel), al_mc al_c1 0 rfl (by decide +kernel)⟩
set_option maxRecDepth 20000 in
theorem cd_L_isForetold : Cond.code yL_isForetold cL_isForetold 10 (some .boolean) ∈ AL := al_mc al_c6 88 rfl (by decide +kernel)
set_option maxRecDepth 20000 in
theorem ml_L_254 : lkV RL 254 yX10_step := ⟨al_mc al_c6 89 rfl (by decide +kernel), al_mc al_c6 90 rfl (by decide +kernel), al_mc al_c6 91 rfl (by decide +kernel), al_mc al_c1 18 rfl (by decide +kernel)⟩
set_option maxRecDepth 20000 in
theorem cd_X10_step : Cond.code yX10_step cX10_step 3 (some .boolean) ∈ AL := al_mc al_c6 92 rfl (by decide +kernel)
set_option maxRecDepth 20000 in
theorem ml_X10_92 : lkV RX10 92 yX10_sound := ⟨al_mc al_c6 93 rfl (by decide +kernel), al_mc al_c5 39 rfl (by decide +kernel), al_mc al_c5 40 rfl (by decide +kernel), al_mc al_c1 18 rfl (by decide +kernel)⟩
set_option maxRecDepth 20000 in
theorem ml_L_258 : lkV RL 258 yX10_plays := ⟨al_mc al_c6 94 rfl (by decide +kernel), al_mc al_c6 95 rfl (by decide +kernel), al_mc al_c6 96 rfl (by decide +kernel), al_mc al_c1 18 rfl (by decide +kernel)⟩
set_option maxRecDepth 20000 in
theorem cd_X10_plays : Cond.code yX10_plays cX10_plays 3 (some .int) ∈ AL := al_mc al_c6 97 rfl (by decide +kernel)
set_option maxRecDepth 20000 in
theorem ml_X10_95 : lkV RX10 95 yX10_step := ⟨al_mc al_c6 98 rfl (by decide +kernel), al_mc al_c6 90 rfl (by decide +kernel), al_mc al_c6 91 rfl (by decide +kernel), al_mc al_c1 18 rfl (by decide +kernel)⟩
set_option maxRecDepth 20000 in
theorem ml_L_261 : lkV RL 261 yX9_stepsUntilBroken := ⟨al_mc al_c6 99 rfl (by decide +kernel), al_mc al_c6 100 rfl (by decide +kernel), al_mc al_c6 101 rfl (by decide +kernel), al_mc al_c1 1 rfl (by decide +kernel)⟩
set_option maxRecDepth 20000 in
theorem cd_X9_stepsUntilBroken : Cond.code yX9_stepsUntilBroken cX9_stepsUntilBroken 4 (some .int) ∈ AL := al_mc al_c6 102 rfl (by decide +kernel)
set_option maxRecDepth 20000 in
theorem ml_X9_293 : lkV RX9 293 yX0_playSteps := ⟨al_mc al_c6 103 rfl (by decide +kernel), al_mc al_c6 104 rfl (by decide +kernel), al_mc al_c6 105 rfl (by decide +kernel), al_mc al_c1 6 rfl (by decide +kernel)⟩
set_option maxRecDepth 20000 in
theorem cd_X0_playSteps : Cond.code yX0_playSteps cX0_playSteps 3 (some .int) ∈ AL := al_mc al_c6 106 rfl (by decide +kernel)
set_option maxRecDepth 20000 in
theorem ml_X0_111 : lkV RX0 111 yX0_playStep := ⟨al_mc al_c6 107 rfl (by decide +kernel), al_mc al_c6 108 rfl (by decide +kernel), al_mc al_c6 109 rfl (by decide +kernel), al_mc al_c1 6 rfl (by decide +kernel)⟩
set_option maxRecDepth 20000 in
theorem cd_X0_playStep : Cond.code yX0_playStep cX0_playStep 3 none ∈ AL := al_mc al_c6 110 rfl (by decide +kernel)
set_option maxRecDepth 20000 in
theorem ml_X0_114 : lkV RX0 114 yX0_soundOf := ⟨al_mc al_c6 111 rfl (by decide +kernel), al_mc al_c5 29 rfl (by decide +kernel), al_mc al_c5 30 rfl (by decide +kernel), al_mc al_c1 6 rfl (by decide +kernel)⟩
set_option maxRecDepth 20000 in
theorem ml_X0_117 : lkV RX0 117 yX8_pluck := ⟨al_mc al_c6 112 rfl (by decide +kernel), al_mc al_c6 113 rfl (by decide +kernel), al_mc al_c6 114 rfl (by decide +kernel), al_mc al_c1 8 rfl (by decide +kernel)⟩
set_option maxRecDepth 20000 in
theorem cd_X8_pluck : Cond.code yX8_pluck cX8_pluck 2 none ∈ AL := al_mc al_c6 115 rfl (by decide +kernel)
set_option maxRecDepth 20000 in
theorem ml_X0_120 : lkV RX0 120 yX8_passStep := ⟨al_mc al_c6 116 rfl (by decide +kernel), al_mc al_c6 117 rfl (by decide +kernel), al_mc al_c6 118 rfl (by decide +kernel), al_mc al_c1 8 rfl (by decide +kernel)⟩
set_option maxRecDepth 20000 in
theorem cd_X8_passStep : Cond.code yX8_passStep cX8_passStep 1 none ∈ AL := al_mc al_c6 119 rfl (by decide +kernel)
set_option maxRecDepth 20000 in
theorem ml_X8_33 : lkS RX8 33 yJ9_min_7cf53 := ⟨al_mc al_c6 120 rfl (by decide +kernel), al_mc al_c2 118 rfl (by decide +kernel), al_mc al_c1 3 rfl (by decide +kernel)⟩
set_option maxRecDepth 20000 in
theorem ml_X0_123 : lkV RX0 123 yX3_goOn := ⟨al_mc al_c6 121 rfl (by decide +kernel), al_mc al_c6 122 rfl (by decide +kernel), al_mc al_c6 123 rfl (by decide +kernel), al_mc al_c1 7 rfl (by decide +kernel)⟩
set_option maxRecDepth 20000 in
theorem cd_X3_goOn : Cond.code yX3_goOn cX3_goOn 1 (some .boolean) ∈ AL := al_mc al_c6 124 rfl (by decide +kernel)
set_option maxRecDepth 20000 in
theorem ml_L_264 : lkV RL 264 yX9_notesIn := ⟨al_mc al_c6 125 rfl (by decide +kernel), al_mc al_c6 126 rfl (by decide +kernel), al_mc al_c6 127 rfl (by decide +kernel), al_mc al_c1 1 rfl (by decide +kernel)⟩
set_option maxRecDepth 20000 in
theorem cd_X9_notesIn : Cond.code yX9_notesIn cX9_notesIn 2 (some .int) ∈ AL := al_mc al_c6 128 rfl (by decide +kernel)
set_option maxRecDepth 20000 in
theorem ml_X9_296 : lkS RX9 296 yX9_rangeFault := ⟨al_mc al_c6 129 rfl (by decide +kernel), al_mc al_c6 130 rfl (by decide +kernel), al_mc al_c1 1 rfl (by decide +kernel)⟩
set_option maxRecDepth 20000 in
theorem cd_X9_rangeFault : Cond.code yX9_rangeFault cX9_rangeFault 3 (some .int) ∈ AL := al_mc al_c6 131 rfl (by decide +kernel)
set_option maxRecDepth 20000 in
theorem ml_L_267 : lkV RL 267 yX9_squeaksIn := ⟨al_mc al_c6 132 rfl (by decide +kernel), al_mc al_c6 133 rfl (by decide +kernel), al_mc al_c6 134 rfl (by decide +kernel), al_mc al_c1 1 rfl (by decide +kernel)⟩
set_option maxRecDepth 20000 in
theorem cd_X9_squeaksIn : Cond.code yX9_squeaksIn cX9_squeaksIn 2 (some .int) ∈ AL := al_mc al_c6 135 rfl (by decide +kernel)
set_option maxRecDepth 20000 in
theorem ml_L_371 : lkS RL 371 yL_acts := ⟨al_mc al_c6 136 rfl (by decide +kernel), al_mc al_c6 137 rfl (by decide +kernel), al_mc al_c1 0 rfl (by decide +kernel)⟩
set_option maxRecDepth 20000 in
theorem cd_L_acts : Cond.code yL_acts cL_acts 7 (some .int) ∈ AL := al_mc al_c6 138 rfl (by decide +kernel)
set_option maxRecDepth 20000 in
theorem ml_L_320 : lkS RL 320 yL_rolls := ⟨al_mc al_c6 139 rfl (by decide +kernel), al_mc al_c6 140 rfl (by decide +kernel), al_mc al_c1 0 rfl (by decide +kernel)⟩
set_option maxRecDepth 20000 in
theorem cd_L_rolls : Cond.code yL_rolls cL_rolls 9 (some .int) ∈ AL := al_mc al_c6 141 rfl (by decide +kernel)
set_option maxRecDepth 20000 in
theorem ml_L_270 : lkS RL 270 yX10_place := ⟨al_mc al_c6 142 rfl (by decide +kernel), al_mc al_c5 47 rfl (by decide +kernel), al_mc al_c1 18 rfl (by decide +kernel)⟩
set_option maxRecDepth 20000 in
theorem ml_L_277 : lkV RL 277 yX9_removePin := ⟨al_mc al_c6 143 rfl (by decide +kernel), al_mc al_c6 144 rfl (by decide +kernel), al_mc al_c6 145 rfl (by decide +kernel), al_mc al_c1 1 rfl (by decide +kernel)⟩
set_option maxRecDepth 20000 in
theorem cd_X9_removePin : Cond.code yX9_removePin cX9_removePin 4 (some .int) ∈ AL := al_mc al_c6 146 rfl (by decide +kernel)
set_option maxRecDepth 20000 in
theorem ml_X9_306 : lkV RX9 306 yX0_takePinFault := ⟨al_mc al_c6 147 rfl (by decide +kernel), al_mc al_c6 148 rfl (by decide +kernel), al_mc al_c6 149 rfl (by decide +kernel), al_mc al_c1 6 rfl (by decide +kernel)⟩
set_option maxRecDepth 20000 in
theorem cd_X0_takePinFault : Cond.code yX0_takePinFault cX0_takePinFault 4 (some .int) ∈ AL := al_mc al_c6 150 rfl (by decide +kernel)
set_option maxRecDepth 20000 in
theorem ml_X0_83 : lkV RX0 83 yX0_placeFault := ⟨al_mc al_c6 151 rfl (by decide +kernel), al_mc al_c5 187 rfl (by decide +kernel), al_mc al_c5 188 rfl (by decide +kernel), al_mc al_c1 6 rfl (by decide +kernel)⟩
set_option maxRecDepth 20000 in
theorem ml_X9_137 : lkV RX9 137 yX2_remember := ⟨al_mc al_c6 152 rfl (by decide +kernel), al_mc al_c6 153 rfl (by decide +kernel), al_mc al_c6 154 rfl (by decide +kernel), al_mc al_c1 11 rfl (by decide +kernel)⟩
set_option maxRecDepth 20000 in
theorem cd_X2_remember : Cond.code yX2_remember cX2_remember 2 none ∈ AL := al_mc al_c6 155 rfl (by decide +kernel)
set_option maxRecDepth 20000 in
theorem ml_X2_27 : lkS RX2 27 yJ9_min_7cf53 := ⟨al_mc al_c6 156 rfl (by decide +kernel), al_mc al_c2 118 rfl (by decide +kernel), al_mc al_c1 3 rfl (by decide +kernel)⟩
set_option maxRecDepth 20000 in
theorem ml_X9_309 : lkV RX9 309 yX3_takePin := ⟨al_mc al_c6 157 rfl (by decide +kernel), al_mc al_c6 158 rfl (by decide +kernel), al_mc al_c6 159 rfl (by decide +kernel), al_mc al_c1 7 rfl (by decide +kernel)⟩
set_option maxRecDepth 20000 in
theorem cd_X3_takePin : Cond.code yX3_takePin cX3_takePin 4 none ∈ AL := al_mc al_c6 160 rfl (by decide +kernel)
set_option maxRecDepth 20000 in
theorem ml_L_280 : lkV RL 280 yX9_addPin := ⟨al_mc al_c6 162 rfl (by decide +kernel), al_mc al_c6 163 rfl (by decide +kernel), al_mc al_c6 164 rfl (by decide +kernel), al_mc al_c1 1 rfl (by decide +kernel)⟩
set_option maxRecDepth 20000 in
theorem cd_X9_addPin : Cond.code yX9_addPin cX9_addPin 4 (some .int) ∈ AL := al_mc al_c6 165 rfl (by decide +kernel)
set_option maxRecDepth 20000 in
theorem ml_X9_299 : lkV RX9 299 yX0_putPinFault := ⟨al_mc al_c6 166 rfl (by decide +kernel), al_mc al_c6 167 rfl (by decide +kernel), al_mc al_c6 168 rfl (by decide +kernel), al_mc al_c1 6 rfl (by decide +kernel)⟩
set_option maxRecDepth 20000 in
theorem cd_X0_putPinFault : Cond.code yX0_putPinFault cX0_putPinFault 4 (some .int) ∈ AL := al_mc al_c6 169 rfl (by decide +kernel)
set_option maxRecDepth 20000 in
theorem ml_X9_302 : lkV RX9 302 yX3_putPin := ⟨al_mc al_c6 170 rfl (by decide +kernel), al_mc al_c2 204 rfl (by decide +kernel), al_mc al_c2 205 rfl (by decide +kernel), al_mc al_c1 7 rfl (by decide +kernel)⟩
set_option maxRecDepth 20000 in
theorem ml_L_283 : lkV RL 283 yX9_shift := ⟨al_mc al_c6 171 rfl (by decide +kernel), al_mc al_c6 172 rfl (by decide +kernel), al_mc al_c6 173 rfl (by decide +kernel), al_mc al_c1 1 rfl (by decide +kernel)⟩
set_option maxRecDepth 20000 in
theorem cd_X9_shift : Cond.code yX9_shift cX9_shift 3 (some .int) ∈ AL := al_mc al_c6 174 rfl (by decide +kernel)
set_option maxRecDepth 20000 in
theorem ml_X9_312 : lkV RX9 312 yX3_turnPins := ⟨al_mc al_c6 175 rfl (by decide +kernel), al_mc al_c6 176 rfl (by decide +kernel), al_mc al_c6 177 rfl (by decide +kernel), al_mc al_c1 7 rfl (by decide +kernel)⟩
set_option maxRecDepth 20000 in
theorem cd_X3_turnPins : Cond.code yX3_turnPins cX3_turnPins 5 none ∈ AL := al_mc al_c6 178 rfl (by decide +kernel)
set_option maxRecDepth 20000 in
theorem ml_X3_73 : lkS RX3 73 yJ9_floorMod_7cf53 := ⟨al_mc al_c6 179 rfl (by decide +kernel), al_mc al_c6 180 rfl (by decide +kernel), al_mc al_c1 3 rfl (by decide +kernel)⟩
set_option maxRecDepth 20000 in
theorem cd_J9_floorMod_7cf53 : Cond.code yJ9_floorMod_7cf53 cJ9_floorMod_7cf53 3 (some .int) ∈ AL := al_mc al_c6 181 rfl (by decide +kernel)
set_option maxRecDepth 20000 in
theorem ml_X3_76 : lkV RX3 76 yX3_turnedRow := ⟨al_mc al_c6 182 rfl (by decide +kernel), al_mc al_c6 183 rfl (by decide +kernel), al_mc al_c6 184 rfl (by decide +kernel), al_mc al_c1 7 rfl (by decide +kernel)⟩
set_option maxRecDepth 20000 in
theorem cd_X3_turnedRow : Cond.code yX3_turnedRow cX3_turnedRow 8 (some .long) ∈ AL := al_mc al_c6 185 rfl (by decide +kernel)
set_option maxRecDepth 20000 in
theorem ml_L_286 : lkV RL 286 yX9_transpose := ⟨al_mc al_c6 186 rfl (by decide +kernel), al_mc al_c6 187 rfl (by decide +kernel), al_mc al_c6 188 rfl (by decide +kernel), al_mc al_c1 1 rfl (by decide +kernel)⟩
set_option maxRecDepth 20000 in
theorem cd_X9_transpose : Cond.code yX9_transpose cX9_transpose 3 (some .int) ∈ AL := al_mc al_c6 189 rfl (by decide +kernel)
set_option maxRecDepth 20000 in
theorem ml_X9_316 : lkV RX9 316 yX0_movePinsFault := ⟨al_mc al_c6 190 rfl (by decide +kernel), al_mc al_c6 191 rfl (by decide +kernel), al_mc al_c6 192 rfl (by decide +kernel), al_mc al_c1 6 rfl (by decide +kernel)⟩
set_option maxRecDepth 20000 in
theorem cd_X0_movePinsFault : Cond.code yX0_movePinsFault cX0_movePinsFault 4 (some .int) ∈ AL := al_mc al_c6 193 rfl (by decide +kernel)
set_option maxRecDepth 20000 in
theorem ml_X9_319 : lkV RX9 319 yX3_movePins := ⟨al_mc al_c6 194 rfl (by decide +kernel), al_mc al_c6 195 rfl (by decide +kernel), al_mc al_c6 196 rfl (by decide +kernel), al_mc al_c1 7 rfl (by decide +kernel)⟩
set_option maxRecDepth 20000 in
theorem cd_X3_movePins : Cond.code yX3_movePins cX3_movePins 5 none ∈ AL := al_mc al_c6 197 rfl (by decide +kernel)
set_option maxRecDepth 20000 in
theorem ml_L_289 : lkV RL 289 yX9_copyTune := ⟨al_mc al_c6 198 rfl (by decide +kernel), al_mc al_c6 199 rfl (by decide +kernel), al_mc al_c6 200 rfl (by decide +kernel), al_mc al_c1 1 rfl (by decide +kernel)⟩
set_option maxRecDepth 20000 in
theorem cd_X9_copyTune : Cond.code yX9_copyTune cX9_copyTune 3 (some .int) ∈ AL := al_mc al_c6 201 rfl (by decide +kernel)
set_option maxRecDepth 20000 in
theorem ml_X9_322 : lkV RX9 322 yX3_copyPins := ⟨al_mc al_c6 202 rfl (by decide +kernel), al_mc al_c6 203 rfl (by decide +kernel), al_mc al_c6 204 rfl (by decide +kernel), al_mc al_c1 7 rfl (by decide +kernel)⟩
set_option maxRecDepth 20000 in
theorem cd_X3_copyPins : Cond.code yX3_copyPins cX3_copyPins 4 none ∈ AL := al_mc al_c6 205 rfl (by decide +kernel)
set_option maxRecDepth 20000 in
theorem ml_L_292 : lkV RL 292 yX9_selectTune := ⟨al_mc al_c6 206 rfl (by decide +kernel), al_mc al_c6 207 rfl (by decide +kernel), al_mc al_c6 208 rfl (by decide +kernel), al_mc al_c1 1 rfl (by decide +kernel)⟩
set_option maxRecDepth 20000 in
theorem cd_X9_selectTune : Cond.code yX9_selectTune cX9_selectTune 3 (some .int) ∈ AL := al_mc al_c6 209 rfl (by decide +kernel)
set_option maxRecDepth 20000 in
theorem ml_L_324 : lkS RL 324 yL_combs := ⟨al_mc al_c6 210 rfl (by decide +kernel), al_mc al_c6 211 rfl (by decide +kernel), al_mc al_c1 0 rfl (by decide +kernel)⟩
set_option maxRecDepth 20000 in
theorem cd_L_combs : Cond.code yL_combs cL_combs 6 (some .int) ∈ AL := al_mc al_c6 212 rfl (by decide +kernel)
set_option maxRecDepth 20000 in
theorem ml_L_295 : lkV RL 295 yX9_setGap := ⟨al_mc al_c6 213 rfl (by decide +kernel), al_mc al_c6 214 rfl (by decide +kernel), al_mc al_c6 215 rfl (by decide +kernel), al_mc al_c1 1 rfl (by decide +kernel)⟩
set_option maxRecDepth 20000 in
theorem cd_X9_setGap : Cond.code yX9_setGap cX9_setGap 4 (some .int) ∈ AL := al_mc al_c6 216 rfl (by decide +kernel)
set_option maxRecDepth 20000 in
theorem ml_X9_325 : lkV RX9 325 yX0_gapFault := ⟨al_mc al_c6 217 rfl (by decide +kernel), al_mc al_c6 218 rfl (by decide +kernel), al_mc al_c6 219 rfl (by decide +kernel), al_mc al_c1 6 rfl (by decide +kernel)⟩
set_option maxRecDepth 20000 in
theorem cd_X0_gapFault : Cond.code yX0_gapFault cX0_gapFault 3 (some .int) ∈ AL := al_mc al_c6 220 rfl (by decide +kernel)
set_option maxRecDepth 20000 in
theorem ml_X0_95 : lkM RX0 95 yX9_rangeFault "MusicBoxEditor" := ⟨by decide +kernel, al_mc al_c6 130 rfl (by decide +kernel), al_mc al_c1 1 rfl (by decide +kernel)⟩
set_option maxRecDepth 20000 in
theorem ml_L_298 : lkS RL 298 yJ9_abs_0f7a4 := ⟨al_mc al_c6 222 rfl (by decide +kernel), al_mc al_c5 147 rfl (by decide +kernel), al_mc al_c1 3 rfl (by decide +kernel)⟩
set_option maxRecDepth 20000 in
theorem ml_L_304 : lkV RL 304 yX9_bend := ⟨al_mc al_c6 223 rfl (by decide +kernel), al_mc al_c6 224 rfl (by decide +kernel), al_mc al_c6 225 rfl (by decide +kernel), al_mc al_c1 1 rfl (by decide +kernel)⟩
set_option maxRecDepth 20000 in
theorem cd_X9_bend : Cond.code yX9_bend cX9_bend 3 (some .int) ∈ AL := al_mc al_c6 226 rfl (by decide +kernel)
set_option maxRecDepth 20000 in
theorem ml_X9_328 : lkV RX9 328 yX0_bendFault := ⟨al_mc al_c6 227 rfl (by decide +kernel), al_mc al_c6 228 rfl (by decide +kernel), al_mc al_c6 229 rfl (by decide +kernel), al_mc al_c1 6 rfl (by decide +kernel)⟩
set_option maxRecDepth 20000 in
theorem cd_X0_bendFault : Cond.code yX0_bendFault cX0_bendFault 4 (some .int) ∈ AL := al_mc al_c6 230 rfl (by decide +kernel)
set_option maxRecDepth 20000 in
theorem ml_X9_331 : lkV RX9 331 yX0_bendTooth := ⟨al_mc al_c6 231 rfl (by decide +kernel), al_mc al_c6 232 rfl (by decide +kernel), al_mc al_c6 233 rfl (by decide +kernel), al_mc al_c1 6 rfl (by decide +kernel)⟩
set_option maxRecDepth 20000 in
theorem cd_X0_bendTooth : Cond.code yX0_bendTooth cX0_bendTooth 3 none ∈ AL := al_mc al_c6 234 rfl (by decide +kernel)
set_option maxRecDepth 20000 in
theorem ml_L_313 : lkV RL 313 yX9_replaceTooth := ⟨al_mc al_c6 235 rfl (by decide +kernel), al_mc al_c6 236 rfl (by decide +kernel), al_mc al_c6 237 rfl (by decide +kernel), al_mc al_c1 1 rfl (by decide +kernel)⟩
set_option maxRecDepth 20000 in
theorem cd_X9_replaceTooth : Cond.code yX9_replaceTooth cX9_replaceTooth 3 (some .int) ∈ AL := al_mc al_c6 238 rfl (by decide +kernel)
set_option maxRecDepth 20000 in
theorem ml_X9_334 : lkV RX9 334 yX0_mendTooth := ⟨al_mc al_c6 239 rfl (by decide +kernel), al_mc al_c7 0 rfl (by decide +kernel), al_mc al_c7 1 rfl (by decide +kernel), al_mc al_c1 6 rfl (by decide +kernel)⟩
set_option maxRecDepth 20000 in
theorem cd_X0_mendTooth : Cond.code yX0_mendTooth cX0_mendTooth 2 none ∈ AL := al_mc al_c7 2 rfl (by decide +kernel)
set_option maxRecDepth 20000 in
theorem ml_X0_108 : lkV RX0 108 yX8_renew := ⟨al_mc al_c7 3 rfl (by decide +kernel), al_mc al_c2 186 rfl (by decide +kernel), al_mc al_c2 187 rfl (by decide +kernel), al_mc al_c1 8 rfl (by decide +kernel)⟩
set_option maxRecDepth 20000 in
theorem ml_L_327 : lkV RL 327 yX9_setVane := ⟨al_mc al_c7 4 rfl (by decide +kernel), al_mc al_c7 5 rfl (by decide +kernel), al_mc al_c7 6 rfl (by decide +kernel), al_mc al_c1 1 rfl (by decide +kernel)⟩
set_option maxRecDepth 20000 in
theorem cd_X9_setVane : Cond.code yX9_setVane cX9_setVane 3 (some .int) ∈ AL := al_mc al_c7 7 rfl (by decide +kernel)
set_option maxRecDepth 20000 in
theorem ml_L_330 : lkV RL 330 yX9_wind := ⟨al_mc al_c7 8 rfl (by decide +kernel), al_mc al_c7 9 rfl (by decide +kernel), al_mc al_c7 10 rfl (by decide +kernel), al_mc al_c1 1 rfl (by decide +kernel)⟩
set_option maxRecDepth 20000 in
theorem cd_X9_wind : Cond.code yX9_wind cX9_wind 2 (some .int) ∈ AL := al_mc al_c7 11 rfl (by decide +kernel)
set_option maxRecDepth 20000 in
theorem ml_X9_337 : lkV RX9 337 yX0_windFault := ⟨al_mc al_c7 12 rfl (by decide +kernel), al_mc al_c7 13 rfl (by decide +kernel), al_mc al_c7 14 rfl (by decide +kernel), al_mc al_c1 6 rfl (by decide +kernel)⟩
set_option maxRecDepth 20000 in
theorem cd_X0_windFault : Cond.code yX0_windFault cX0_windFault 2 (some .int) ∈ AL := al_mc al_c7 15 rfl (by decide +kernel)
set_option maxRecDepth 20000 in
theorem ml_L_333 : lkV RL 333 yX9_play := ⟨al_mc al_c7 16 rfl (by decide +kernel), al_mc al_c7 17 rfl (by decide +kernel), al_mc al_c7 18 rfl (by decide +kernel), al_mc al_c1 1 rfl (by decide +kernel)⟩
set_option maxRecDepth 20000 in
theorem cd_X9_play : Cond.code yX9_play cX9_play 2 (some .int) ∈ AL := al_mc al_c7 19 rfl (by decide +kernel)
set_option maxRecDepth 20000 in
theorem ml_X9_340 : lkV RX9 340 yX0_playFault := ⟨al_mc al_c7 20 rfl (by decide +kernel), al_mc al_c7 21 rfl (by decide +kernel), al_mc al_c7 22 rfl (by decide +kernel), al_mc al_c1 6 rfl (by decide +kernel)⟩
set_option maxRecDepth 20000 in
theorem cd_X0_playFault : Cond.code yX0_playFault cX0_playFault 2 (some .int) ∈ AL := al_mc al_c7 23 rfl (by decide +kernel)
set_option maxRecDepth 20000 in
theorem ml_L_360 : lkS RL 360 yL_begins := ⟨al_mc al_c7 24 rfl (by decide +kernel), al_mc al_c7 25 rfl (by decide +kernel), al_mc al_c1 0 rfl (by decide +kernel)⟩
set_option maxRecDepth 20000 in
theorem cd_L_begins : Cond.code yL_begins cL_begins 8 (some .boolean) ∈ AL := al_mc al_c7 26 rfl (by decide +kernel)
set_option maxRecDepth 20000 in
theorem ml_L_338 : lkI RL 338 yJ4_init_a7421 := ⟨al_mc al_c7 28 rfl (by decide +kernel), al_mc al_c7 29 rfl (by decide +kernel), al_mc al_c1 20 rfl (by decide +kernel)⟩
set_option maxRecDepth 20000 in
theorem cd_J4_init_a7421 : Cond.code yJ4_init_a7421 cJ4_init_a7421 2 none ∈ AL := al_mc al_c7 30 rfl (by decide +kernel)
set_option maxRecDepth 20000 in
theorem ml_J4_7 : lkI RJ4 7 yJ5_init_a7421 := ⟨al_mc al_c7 31 rfl (by decide +kernel), al_mc al_c7 32 rfl (by decide +kernel), al_mc al_c1 19 rfl (by decide +kernel)⟩
set_option maxRecDepth 20000 in
theorem cd_J5_init_a7421 : Cond.code yJ5_init_a7421 cJ5_init_a7421 5 none ∈ AL := al_mc al_c7 33 rfl (by decide +kernel)
set_option maxRecDepth 20000 in
theorem cd_J4_append_cf1ce : Cond.code yJ4_append_cf1ce cJ4_append_cf1ce 2 (some (.object "java/lang/AbstractStringBuilder")) ∈ AL := al_mc al_c7 37 rfl (by decide +kernel)
set_option maxRecDepth 20000 in
theorem ml_J4_23 : lkV RJ4 23 yJ4_append_15ec4 := ⟨al_mc al_c7 38 rfl (by decide +kernel), al_mc al_c4 46 rfl (by decide +kernel), al_mc al_c4 47 rfl (by decide +kernel), al_mc al_c1 20 rfl (by decide +kernel)⟩
set_option maxRecDepth 20000 in
theorem ml_L_348 : lkS RL 348 yL_feeds := ⟨al_mc al_c7 41 rfl (by decide +kernel), al_mc al_c7 42 rfl (by decide +kernel), al_mc al_c1 0 rfl (by decide +kernel)⟩
set_option maxRecDepth 20000 in
theorem cd_L_feeds : Cond.code yL_feeds cL_feeds 4 (some .boolean) ∈ AL := al_mc al_c7 43 rfl (by decide +kernel)
set_option maxRecDepth 20000 in
theorem ml_L_25 : lkS RL 25 yL_four := ⟨al_mc al_c7 44 rfl (by decide +kernel), al_mc al_c7 45 rfl (by decide +kernel), al_mc al_c1 0 rfl (by decide +kernel)⟩
set_option maxRecDepth 20000 in
theorem cd_L_four : Cond.code yL_four cL_four 4 (some .int) ∈ AL := al_mc al_c7 46 rfl (by decide +kernel)
set_option maxRecDepth 20000 in
theorem ml_L_29 : lkV RL 29 yX9_append := ⟨al_mc al_c7 47 rfl (by decide +kernel), al_mc al_c7 48 rfl (by decide +kernel), al_mc al_c7 49 rfl (by decide +kernel), al_mc al_c1 1 rfl (by decide +kernel)⟩
set_option maxRecDepth 20000 in
theorem cd_X9_append : Cond.code yX9_append cX9_append 7 (some .int) ∈ AL := al_mc al_c7 50 rfl (by decide +kernel)
set_option maxRecDepth 20000 in
theorem ml_X9_98 : lkS RX9 98 yX9_bytesIn := ⟨al_mc al_c7 51 rfl (by decide +kernel), al_mc al_c7 52 rfl (by decide +kernel), al_mc al_c1 1 rfl (by decide +kernel)⟩
set_option maxRecDepth 20000 in
theorem cd_X9_bytesIn : Cond.code yX9_bytesIn cX9_bytesIn 3 (some .int) ∈ AL := al_mc al_c7 53 rfl (by decide +kernel)
set_option maxRecDepth 20000 in
theorem ml_X9_112 : lkV RX9 112 yX9_putBytes := ⟨al_mc al_c7 55 rfl (by decide +kernel), al_mc al_c7 57 rfl (by decide +kernel), al_mem 2 (by decide +kernel) (by decide +kernel), al_mc al_c1 1 rfl (by decide +kernel)⟩
set_option maxRecDepth 20000 in
theorem cd_X9_putBytes : Cond.code yX9_putBytes cX9_putBytes 4 none ∈ AL := al_mc al_c7 58 rfl (by decide +kernel)
set_option maxRecDepth 20000 in
theorem ml_L_352 : lkV RL 352 yX9_load := ⟨al_mc al_c7 59 rfl (by decide +kernel), al_mc al_c7 60 rfl (by decide +kernel), al_mc al_c7 61 rfl (by decide +kernel), al_mc al_c1 1 rfl (by decide +kernel)⟩
set_option maxRecDepth 20000 in
theorem cd_X9_load : Cond.code yX9_load cX9_load 1 (some .int) ∈ AL := al_mc al_c7 62 rfl (by decide +kernel)
set_option maxRecDepth 20000 in
theorem ml_L_355 : lkV RL 355 yX9_errorPosition := ⟨al_mc al_c7 63 rfl (by decide +kernel), al_mc al_c7 64 rfl (by decide +kernel), al_mc al_c7 65 rfl (by decide +kernel), al_mc al_c1 1 rfl (by decide +kernel)⟩
set_option maxRecDepth 20000 in
theorem cd_X9_errorPosition : Cond.code yX9_errorPosition cX9_errorPosition 1 (some .int) ∈ AL := al_mc al_c7 66 rfl (by decide +kernel)
set_option maxRecDepth 20000 in
theorem ml_L_378 : lkS RL 378 yJ9_min_7cf53 := ⟨al_mc al_c7 67 rfl (by decide +kernel), al_mc al_c2 118 rfl (by decide +kernel), al_mc al_c1 3 rfl (by decide +kernel)⟩
theorem gw_inst {C : String} {n : Nat} : goodWord (.instantiable C n) = true := by rfl
theorem gw_init {C : String} : goodWord (.initialized C) = true := by rfl
theorem gw_nat {y : MethodName} : goodWord (.native y) = true := by rfl
theorem gw_cl {C D : String} {n : Nat} : goodWord (.classLink C n D) = true := by rfl
theorem gw_c2 {C : String} {n : Nat} {v : Int64} : goodWord (.constantLong C n v) = true := by rfl
theorem gw_cw {y : MethodName} {c n r h} : goodWord (.codeWith y c n r h) = true := by rfl
