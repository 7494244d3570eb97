/-! the constructors -/
theorem TriN.go {y : MethodName} {own nme : String} {cc : ByteArray} {nL : Nat} {d mc ms : Nat} {av : List MV} {M M' : Mm} {rs rs' : List Rf} {sh sh' : Sh} {ls : List (Option MV)} {n : Nat}
    (hy : plainFor y = true) (ho : y.cls = own) (hm : y.name = nme) (hls : els av ++ List.replicate n none = ls) (hn : (els av).length.ble nL = true)
    (k : Z own cc nL none [] nme (rmD d mc ms) (QMN rs rs' sh' M' mc ms) rs sh 0 0 0 ls [] M) : TriN y cc nL d mc ms rs sh av M rs' sh' M' :=
  TriN.of hy ho hm ls (fun ad => ⟨by rw [els_len]; exact Nat.le_of_ble_eq_true hn, fun i v h => els_pad ad (n := n) (by rw [hls]; exact h)⟩) k
theorem inr_ne {a b : Rf} (h : a.1 ≠ b.1) : (.inr a : MV) ≠ .inr b := fun c => h (congrArg Prod.fst (Sum.inr.inj c))
theorem inl_ne {x : Value} {b : Rf} : (.inl x : MV) ≠ .inr b := fun c => nomatch c
theorem ls_1 {a : MV} {P : MV → Prop} (h : P a) : ∀ (i : Nat) (v : MV), [some a][i]? = some (some v) → P v := by
  intro i v hi
  match i with
  | 0 => cases hi; exact h
theorem st_1 {a : MV} {P : MV → Prop} (h : P a) : ∀ v ∈ [a], P v := fun v hv => by rw [List.mem_singleton.mp hv]; exact h
theorem ow_i : Cond.instanceMethod Lib.objectInit ∈ AL := al_mc al_c1 40 rfl (by decide +kernel)
theorem ow_c : Cond.code Lib.objectInit ⟨#[0xb1]⟩ 1 none ∈ AL := al_mc al_c1 41 rfl (by decide +kernel)
theorem ow_8 : Cond.methodLink RX8 3 Lib.objectInit ∈ AL := al_mc al_c1 161 rfl (by decide +kernel)
theorem ow_3 : Cond.methodLink RX3 3 Lib.objectInit ∈ AL := al_mc al_c1 133 rfl (by decide +kernel)
theorem ac_l : Cond.arrayClass (newarray.typeOf .long) ∈ AL := al_mc al_c1 154 rfl (by decide +kernel)

theorem dX8_init_0 : decode cX8_init 0 = .ok (.aload_n 0, 1) := by decide +kernel
theorem dX8_init_1 : decode cX8_init 1 = .ok (.invokespecial 3, 3) := by decide +kernel
theorem dX8_init_4 : decode cX8_init 4 = .ok (.return_, 1) := by decide +kernel
theorem same3 {sh : Sh} {M : Mm} {x : Rf} : (∀ j, sh x j = sh x j) ∧ (∀ j, M.1 x j = M.1 x j) ∧ ∀ j, M.2 x j = M.2 x j := ⟨fun _ => rfl, fun _ => rfl, fun _ => rfl⟩
theorem nX8 {rs : List Rf} {sh : Sh} {M : Mm} {r : Rf} : TriN yX8_init cX8_init 1 1 0 0 rs sh [.inr r] M rs sh M := by
  refine TriN.go (own := RX8) (nme := "<init>") (n := 0) (ls := [some (.inr r)]) (by decide) rfl rfl rfl rfl ?_
  refine z_aload_n (i := 0) dX8_init_0 rfl rfl ?_
  refine z_objI dX8_init_1 ⟨ow_8, ow_i, ow_c⟩ (Nat.le_refl _) (Nat.le_of_ble_eq_true rfl) ?_
  exact z_nret dX8_init_4 rfl (Nat.le_refl _) (Nat.le_refl _) (List.Perm.refl _) (fun x _ => same3)
theorem dX3_init_0 : decode cX3_init 0 = .ok (.aload_n 0, 1) := by decide +kernel
theorem dX3_init_1 : decode cX3_init 1 = .ok (.invokespecial 3, 3) := by decide +kernel
theorem dX3_init_4 : decode cX3_init 4 = .ok (.aload_n 0, 1) := by decide +kernel
theorem dX3_init_5 : decode cX3_init 5 = .ok (.bipush 36, 2) := by decide +kernel
theorem dX3_init_7 : decode cX3_init 7 = .ok (.newarray .long, 2) := by decide +kernel
theorem dX3_init_9 : decode cX3_init 9 = .ok (.putfield 9, 3) := by decide +kernel
theorem dX3_init_12 : decode cX3_init 12 = .ok (.aload_n 0, 1) := by decide +kernel
theorem dX3_init_13 : decode cX3_init 13 = .ok (.iconst 4, 1) := by decide +kernel
theorem dX3_init_14 : decode cX3_init 14 = .ok (.putfield 15, 3) := by decide +kernel
theorem dX3_init_17 : decode cX3_init 17 = .ok (.return_, 1) := by decide +kernel
theorem he_L {tc : Nat → ClassId} {ad : Rf → Nat} {sh : Sh} {M : Mm} {r : Rf} {n : Nat} (hk : kd r = .inr (2, n)) : ent tc ad (shN sh r) (mN M r) r = .inl (tc 2, n, .inr (.inl fun _ => 0)) := by
  unfold ent
  rw [hk]
  show Sum.inl (tc 2, n, Sum.inr (Sum.inl ((mN M r).2 r))) = _
  rw [show (mN M r).2 r = fun _ => 0 from funext fun j => if_pos rfl]
theorem nX3 {rs : List Rf} {sh : Sh} {M : Mm} {i : Nat} (hn : rs.Nodup) (hc : shC sh rs) (hr : (10, i, 0) ∈ rs) (h1 : (11, i, 0) ∉ rs) : TriN yX3_init cX3_init 1 1 1 36 rs sh [.inr (10, i, 0)] M (rs ++ [(11, i, 0)]) (shP (shN sh (11, i, 0)) (10, i, 0) 0 (some (11, i, 0))) (putI (mN M (11, i, 0)) (10, i, 0) 1 4) := by
  have n1 := nd_snoc hn h1
  refine TriN.go (own := RX3) (nme := "<init>") (n := 0) (ls := [some (.inr (10, i, 0))]) (by decide) rfl rfl rfl rfl ?_
  refine z_aload_n (i := 0) dX3_init_0 rfl rfl ?_
  refine z_objI dX3_init_1 ⟨ow_3, ow_i, ow_c⟩ (Nat.le_refl _) (Nat.le_of_ble_eq_true rfl) ?_
  refine z_aload_n (i := 0) dX3_init_4 rfl rfl ?_
  refine z_bipush (v := (36 : Int32)) dX3_init_5 (by decide) ?_
  refine z_newa (atype := .long) (ty := .long) (t := 2) (N := 36) (a0 := (36, .inr (.inl fun _ => 0))) (r := (11, i, 0)) hn h1 (by show 11 < 30; decide) dX3_init_7 ac_l rfl (fun _ => rfl) (fun _ => rfl) (fun tc ad => he_L rfl) (by decide) (by decide) (Nat.le_of_ble_eq_true rfl) hc (qmn_G fun x h => h) (ls_1 (P := fun v => v ≠ .inr (11, i, 0)) (inr_ne (by show 10 ≠ 11; decide))) (st_1 (P := fun v => v ≠ .inr (11, i, 0)) (inr_ne (by show 10 ≠ 11; decide))) (Nat.le_of_ble_eq_true rfl) (Nat.le_of_ble_eq_true rfl) ?_
  refine z_putR (ci := 3) (j := 0) (r := (10, i, 0)) (y := (11, i, 0)) n1 dX3_init_9 fl_X3_9 (m_l hr) rfl rfl rfl rfl (fun _ => rfl) (fun _ => rfl) ?_
  refine z_aload_n (i := 0) dX3_init_12 rfl rfl ?_
  refine z_iconst (v := (4 : Int32)) dX3_init_13 (by decide) ?_
  refine z_putI n1 dX3_init_14 fl_X3_15 (m_l hr) rfl rfl ?_
  exact z_nret dX3_init_17 rfl (Nat.le_of_ble_eq_true rfl) (Nat.le_of_ble_eq_true rfl) (List.Perm.refl _) (fun x _ => same3)

