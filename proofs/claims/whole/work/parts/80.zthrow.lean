def nms : List String := ["java/lang/RuntimeException", "java/lang/Exception"]
theorem hat_109 : ∀ w ∈ vx_atS RX9 109 "java/lang/IllegalStateException" nms, w ∈ AL ∨ (w ∈ nsw ∧ w.onTables = true) := by decide +kernel
theorem gd_109 : ∀ w ∈ Cond.classLink RX9 105 "java/lang/IllegalStateException" :: Cond.initialized "java/lang/IllegalStateException" :: vx_atS RX9 109 "java/lang/IllegalStateException" nms, vx_ot w = true := by decide +kernel
theorem cl_105 : Cond.classLink RX9 105 "java/lang/IllegalStateException" ∈ AL := al_mem 922 (by decide +kernel) (by decide +kernel)
theorem in_109 : Cond.initialized "java/lang/IllegalStateException" ∈ AL := al_mem 90 (by decide +kernel) (by decide +kernel)
theorem ft_109 : Bundle.fit "java/lang/IllegalStateException" = true := by decide +kernel
theorem hat_119 : ∀ w ∈ vx_atS RX9 119 "java/lang/IllegalArgumentException" nms, w ∈ AL ∨ (w ∈ nsw ∧ w.onTables = true) := by decide +kernel
theorem gd_119 : ∀ w ∈ Cond.classLink RX9 115 "java/lang/IllegalArgumentException" :: Cond.initialized "java/lang/IllegalArgumentException" :: vx_atS RX9 119 "java/lang/IllegalArgumentException" nms, vx_ot w = true := by decide +kernel
theorem cl_115 : Cond.classLink RX9 115 "java/lang/IllegalArgumentException" ∈ AL := al_mem 1002 (by decide +kernel) (by decide +kernel)
theorem in_119 : Cond.initialized "java/lang/IllegalArgumentException" ∈ AL := al_mem 91 (by decide +kernel) (by decide +kernel)
theorem ft_119 : Bundle.fit "java/lang/IllegalArgumentException" = true := by decide +kernel
theorem hat_367 : ∀ w ∈ vx_atS RX9 367 "java/lang/IndexOutOfBoundsException" nms, w ∈ AL ∨ (w ∈ nsw ∧ w.onTables = true) := by decide +kernel
theorem gd_367 : ∀ w ∈ Cond.classLink RX9 363 "java/lang/IndexOutOfBoundsException" :: Cond.initialized "java/lang/IndexOutOfBoundsException" :: vx_atS RX9 367 "java/lang/IndexOutOfBoundsException" nms, vx_ot w = true := by decide +kernel
theorem cl_363 : Cond.classLink RX9 363 "java/lang/IndexOutOfBoundsException" ∈ AL := al_mem 1030 (by decide +kernel) (by decide +kernel)
theorem in_367 : Cond.initialized "java/lang/IndexOutOfBoundsException" ∈ AL := al_mem 92 (by decide +kernel) (by decide +kernel)
theorem ft_367 : Bundle.fit "java/lang/IndexOutOfBoundsException" = true := by decide +kernel
theorem cl_197 : Cond.classLink RX9 197 "java/util/NoSuchElementException" ∈ AL := al_mem 1089 (by decide +kernel) (by decide +kernel)
theorem in_201 : Cond.initialized "java/util/NoSuchElementException" ∈ AL := al_mem 95 (by decide +kernel) (by decide +kernel)
theorem ft_201 : Bundle.fit "java/util/NoSuchElementException" = true := by decide +kernel
theorem nms_fit : ∀ n ∈ nms, Bundle.fit n = true := by decide +kernel
theorem z_thrS {wv : Nat} {cc : ByteArray} {nL : Nat} {rt : Option FieldType} {xt : List ExceptionTableEntry} {nme : String} {R : Room} {cells slots pc : Nat} {ls : List (Option MV)} {st : List MV} {M : Mm} {ik is ic j mc ms : Nat} {cls text : String} {PR : Option Value → Mm → Prop} {PX : String → Mm → Prop}
    (d0 : decode cc pc = .ok (.new ik, 3)) (d3 : decode cc (pc + 3) = .ok (.dup, 1)) (d4 : decode cc (pc + 4) = .ok (.ldc is, 2)) (d6 : decode cc (pc + 6) = .ok (.invokespecial ic, 3)) (d9 : decode cc (pc + 9) = .ok (.athrow, 1))
    (hcl : Cond.classLink RX9 ik cls ∈ AL) (hini : Cond.initialized cls ∈ AL) (hstr : (RX9, is, text, j) ∈ stt) (hat : ∀ w ∈ vx_atS RX9 ic cls nms, w ∈ AL ∨ (w ∈ nsw ∧ w.onTables = true)) (hg : ∀ w ∈ Cond.classLink RX9 ik cls :: Cond.initialized cls :: vx_atS RX9 ic cls nms, vx_ot w = true) (hfit : Bundle.fit cls = true) (hxt : xt = [])
    (hR : (Nat.ble 6 R.frames && Nat.ble (mcs st + 82) R.locals && Nat.ble (cells + 1) R.cells && Nat.ble (slots + 6) R.slots && Nat.ble (cells + 1) mc && Nat.ble (slots + 6) ms) = true) (hp : PX cls M) : Z RX9 cc nL rt xt nme R (QM SH (allR wv) mc ms PR PX) (allR wv) SH cells slots pc ls st M := by
  intro p l e s m args below meth c D tc ad A H locs lsA C hP hS hl
  simp only [Bool.and_eq_true, Nat.ble_eq] at hR
  obtain ⟨⟨⟨⟨⟨r1, r2⟩, r3⟩, r4⟩, r5⟩, r6⟩ := hR
  have hts := C.2.2.2.2.1
  have hF := C.2.2.2.2.2.2.2.2.2.2.2.1
  have hsa := hF.2.2.1 _ hstr
  refine vx_throwS (names := nms) C.1 C.2.1 hF.1 C.2.2.2.1 hfit nms_fit (hts _ hcl) (hts _ hini) hsa (fun w hw => ?_) hg hF.2.2.2.1 hF.2.2.2.2.1 hS (hl.1.trans C.2.2.1.symm) d0 d3 d4 d6 d9 (fun x hx => ?_)
    (by show 2 + 3 < R.frames; omega) (by rw [mcs_map]; show mcs st + (13 * (2 + 1) + 43) ≤ R.locals; omega) r3 r4 C.2.2.2.2.2.1 (fun t hvm h1 h2 => ⟨⟨M, hp, fun k q hq => (hP k q hq).kept (h2 q.1 (hP k q hq).lt)⟩, Nat.le_trans hS.1 h1, fun q a b => (h2 q (Nat.lt_of_lt_of_le a hS.1)).trans (hS.2.1 q a b)⟩) hS.2.2 r5 r6
  · rcases hat w hw with h | h
    · exact hts w h
    · exact va_Nw.use h.2 (C_nw hF h.1)
  · rw [C.2.2.2.2.2.2.2.1, hxt] at hx
    cases hx
theorem z_thrW {wv : Nat} {cc : ByteArray} {nL : Nat} {rt : Option FieldType} {xt : List ExceptionTableEntry} {nme : String} {R : Room} {cells slots pc : Nat} {ls : List (Option MV)} {st : List MV} {M : Mm} {ik is ic j mc ms : Nat} {cls text : String} {PR : Option Value → Mm → Prop} {PX : String → Mm → Prop}
    (d0 : decode cc pc = .ok (.new ik, 3)) (d3 : decode cc (pc + 3) = .ok (.dup, 1)) (d4 : decode cc (pc + 4) = .ok (.ldc_w is, 3)) (d6 : decode cc (pc + 7) = .ok (.invokespecial ic, 3)) (d9 : decode cc (pc + 10) = .ok (.athrow, 1))
    (hcl : Cond.classLink RX9 ik cls ∈ AL) (hini : Cond.initialized cls ∈ AL) (hstr : (RX9, is, text, j) ∈ stt) (hat : ∀ w ∈ vx_atS RX9 ic cls nms, w ∈ AL ∨ (w ∈ nsw ∧ w.onTables = true)) (hg : ∀ w ∈ Cond.classLink RX9 ik cls :: Cond.initialized cls :: vx_atS RX9 ic cls nms, vx_ot w = true) (hfit : Bundle.fit cls = true) (hxt : xt = [])
    (hR : (Nat.ble 6 R.frames && Nat.ble (mcs st + 82) R.locals && Nat.ble (cells + 1) R.cells && Nat.ble (slots + 6) R.slots && Nat.ble (cells + 1) mc && Nat.ble (slots + 6) ms) = true) (hp : PX cls M) : Z RX9 cc nL rt xt nme R (QM SH (allR wv) mc ms PR PX) (allR wv) SH cells slots pc ls st M := by
  intro p l e s m args below meth c D tc ad A H locs lsA C hP hS hl
  simp only [Bool.and_eq_true, Nat.ble_eq] at hR
  obtain ⟨⟨⟨⟨⟨r1, r2⟩, r3⟩, r4⟩, r5⟩, r6⟩ := hR
  have hts := C.2.2.2.2.1
  have hF := C.2.2.2.2.2.2.2.2.2.2.2.1
  have hsa := hF.2.2.1 _ hstr
  refine vx_throwSW (names := nms) C.1 C.2.1 hF.1 C.2.2.2.1 hfit nms_fit (hts _ hcl) (hts _ hini) hsa (fun w hw => ?_) hg hF.2.2.2.1 hF.2.2.2.2.1 hS (hl.1.trans C.2.2.1.symm) d0 d3 d4 d6 d9 (fun x hx => ?_)
    (by show 2 + 3 < R.frames; omega) (by rw [mcs_map]; show mcs st + (13 * (2 + 1) + 43) ≤ R.locals; omega) r3 r4 C.2.2.2.2.2.1 (fun t hvm h1 h2 => ⟨⟨M, hp, fun k q hq => (hP k q hq).kept (h2 q.1 (hP k q hq).lt)⟩, Nat.le_trans hS.1 h1, fun q a b => (h2 q (Nat.lt_of_lt_of_le a hS.1)).trans (hS.2.1 q a b)⟩) hS.2.2 r5 r6
  · rcases hat w hw with h | h
    · exact hts w h
    · exact va_Nw.use h.2 (C_nw hF h.1)
  · rw [C.2.2.2.2.2.2.2.1, hxt] at hx
    cases hx
/-- which throw (its place in exs) a refusal's number means -/
def rfz (x : Int32) : Option Nat := if x = 1 then some 2 else if x = 2 then some 1 else if x = 3 then some 0 else none
def thr {α : Type} (o : Option Nat) (M : Mm) (k : Option ((α ⊕ Nat) × Mm)) : Option ((α ⊕ Nat) × Mm) := match o with
  | some e => some (.inr e, M)
  | none => k
theorem thr_n {α : Type} {o : Option Nat} {M : Mm} {k r : Option ((α ⊕ Nat) × Mm)} (h : thr o M k = r) (ho : o = none) : k = r := by rw [ho] at h; exact h
theorem thr_s {α : Type} {o : Option Nat} {M : Mm} {k r : Option ((α ⊕ Nat) × Mm)} {e : Nat} (h : thr o M k = r) (ho : o = some e) : some (.inr e, M) = r := by rw [ho] at h; exact h
theorem Tri.go {wv : Nat} {y : MethodName} {own nme : String} {cc : ByteArray} {nL : Nat} {rt : Option FieldType} {d mc ms : Nat} {av : List MV} {M : Mm} {PR : Option Value → Mm → Prop} {PX : String → Mm → Prop} {ls : List (Option MV)} {n : Nat}
    (hy : plainFor y = true) (ho : y.cls = own) (hm : y.name = nme) (hls : els av ++ List.replicate n none = ls) (hn : (els av).length.ble nL = true)
    (k : Z own cc nL rt [] nme (rmD d mc ms) (QM SH (allR wv) mc ms PR PX) (allR wv) SH 0 0 0 ls [] M) : Tri y (.code y cc nL rt) d mc ms SH (allR wv) av M PR PX :=
  Tri.of hy ho hm ls (fun ad => ⟨by rw [els_len]; exact Nat.le_of_ble_eq_true hn, fun i v h => els_pad ad (n := n) (by rw [hls]; exact h)⟩) k
theorem dX9_refuse_0 : decode cX9_refuse 0 = .ok (.iload_n 0, 1) := by decide +kernel
theorem dX9_refuse_1 : decode cX9_refuse 1 = .ok (.iconst 1, 1) := by decide +kernel
theorem dX9_refuse_2 : decode cX9_refuse 2 = .ok (.if_icmp .ne 14, 3) := by decide +kernel
theorem dX9_refuse_5 : decode cX9_refuse 5 = .ok (.new 363, 3) := by decide +kernel
theorem dX9_refuse_8 : decode cX9_refuse 8 = .ok (.dup, 1) := by decide +kernel
theorem dX9_refuse_9 : decode cX9_refuse 9 = .ok (.ldc_w 365, 3) := by decide +kernel
theorem dX9_refuse_12 : decode cX9_refuse 12 = .ok (.invokespecial 367, 3) := by decide +kernel
theorem dX9_refuse_15 : decode cX9_refuse 15 = .ok (.athrow, 1) := by decide +kernel
theorem dX9_refuse_16 : decode cX9_refuse 16 = .ok (.iload_n 0, 1) := by decide +kernel
theorem dX9_refuse_17 : decode cX9_refuse 17 = .ok (.iconst 2, 1) := by decide +kernel
theorem dX9_refuse_18 : decode cX9_refuse 18 = .ok (.if_icmp .ne 14, 3) := by decide +kernel
theorem dX9_refuse_21 : decode cX9_refuse 21 = .ok (.new 115, 3) := by decide +kernel
theorem dX9_refuse_24 : decode cX9_refuse 24 = .ok (.dup, 1) := by decide +kernel
theorem dX9_refuse_25 : decode cX9_refuse 25 = .ok (.ldc_w 368, 3) := by decide +kernel
theorem dX9_refuse_28 : decode cX9_refuse 28 = .ok (.invokespecial 119, 3) := by decide +kernel
theorem dX9_refuse_31 : decode cX9_refuse 31 = .ok (.athrow, 1) := by decide +kernel
theorem dX9_refuse_32 : decode cX9_refuse 32 = .ok (.iload_n 0, 1) := by decide +kernel
theorem dX9_refuse_33 : decode cX9_refuse 33 = .ok (.iconst 3, 1) := by decide +kernel
theorem dX9_refuse_34 : decode cX9_refuse 34 = .ok (.if_icmp .ne 14, 3) := by decide +kernel
theorem dX9_refuse_37 : decode cX9_refuse 37 = .ok (.new 105, 3) := by decide +kernel
theorem dX9_refuse_40 : decode cX9_refuse 40 = .ok (.dup, 1) := by decide +kernel
theorem dX9_refuse_41 : decode cX9_refuse 41 = .ok (.ldc_w 370, 3) := by decide +kernel
theorem dX9_refuse_44 : decode cX9_refuse 44 = .ok (.invokespecial 109, 3) := by decide +kernel
theorem dX9_refuse_47 : decode cX9_refuse 47 = .ok (.athrow, 1) := by decide +kernel
theorem dX9_refuse_48 : decode cX9_refuse 48 = .ok (.return_, 1) := by decide +kernel
theorem kr_1 : Int32.ofInt 1 = (1 : Int32) := by decide
theorem kr_2 : Int32.ofInt 2 = (2 : Int32) := by decide
theorem kr_3 : Int32.ofInt 3 = (3 : Int32) := by decide
theorem sr_365 : (RX9, 365, "there is no such tune, tooth, step or slot", 17) ∈ stt := by decide +kernel
theorem sr_368 : (RX9, 368, "an argument is out of range", 18) ∈ stt := by decide +kernel
theorem sr_370 : (RX9, 370, "not possible in this state", 19) ∈ stt := by decide +kernel
theorem sr_107 : (RX9, 107, "the text buffer would be too long", 15) ∈ stt := by decide +kernel
theorem sr_117 : (RX9, 117, "length out of range", 16) ∈ stt := by decide +kernel
theorem sr_199 : (RX9, 199, "there is no pin", 20) ∈ stt := by decide +kernel
theorem sr_361 : (RX9, 361, "the slot is empty", 21) ∈ stt := by decide +kernel
set_option maxRecDepth 20000 in
set_option maxHeartbeats 2000000 in
theorem S_refuse {wv : Nat} (M : Mm) (x : Int32) : Tri yX9_refuse (.code yX9_refuse cX9_refuse 1 none) 6 1 6 SH (allR wv) [.inl (.int x)] M (fun v M' => v = none ∧ M' = M ∧ rfz x = none) (fun E M' => ∃ e, rfz x = some e ∧ exs[e]? = some E ∧ M' = M) := by
  refine Tri.go (n := 0) (ls := [some (.inl (.int x))]) rfl rfl rfl rfl rfl ?_
  refine z_iload_n (i := 0) dX9_refuse_0 rfl rfl ?_
  refine z_iconst (v := (1 : Int32)) dX9_refuse_1 kr_1 ?_
  refine z_icmp_ne (tgt := 16) dX9_refuse_2 rfl (fun h1 => ?_) (fun h1 => ?_)
  · refine z_iload_n (i := 0) dX9_refuse_16 rfl rfl ?_
    refine z_iconst (v := (2 : Int32)) dX9_refuse_17 kr_2 ?_
    refine z_icmp_ne (tgt := 32) dX9_refuse_18 rfl (fun h2 => ?_) (fun h2 => ?_)
    · refine z_iload_n (i := 0) dX9_refuse_32 rfl rfl ?_
      refine z_iconst (v := (3 : Int32)) dX9_refuse_33 kr_3 ?_
      refine z_icmp_ne (tgt := 48) dX9_refuse_34 rfl (fun h3 => ?_) (fun h3 => ?_)
      · exact z_vret dX9_refuse_48 rfl (Nat.le_of_ble_eq_true rfl) (Nat.le_of_ble_eq_true rfl) ⟨rfl, rfl, by simp [rfz, h1, h2, h3]⟩
      · exact z_thrW dX9_refuse_37 dX9_refuse_40 dX9_refuse_41 dX9_refuse_44 dX9_refuse_47 cl_105 in_109 sr_370 hat_109 gd_109 ft_109 rfl rfl ⟨0, by simp [rfz, h3], rfl, rfl⟩
    · exact z_thrW dX9_refuse_21 dX9_refuse_24 dX9_refuse_25 dX9_refuse_28 dX9_refuse_31 cl_115 in_119 sr_368 hat_119 gd_119 ft_119 rfl rfl ⟨1, by simp [rfz, h2], rfl, rfl⟩
  · exact z_thrW dX9_refuse_5 dX9_refuse_8 dX9_refuse_9 dX9_refuse_12 dX9_refuse_15 cl_363 in_367 sr_365 hat_367 gd_367 ft_367 rfl rfl ⟨2, by simp [rfz, h1], rfl, rfl⟩
theorem z_refuse {wv : Nat} {cc : ByteArray} {nL : Nat} {rt : Option FieldType} {nme : String} {R : Room} {cells slots pc idx : Nat} {ls : List (Option MV)} {st : List MV} {M : Mm} {mc ms : Nat} {PR : Option Value → Mm → Prop} {PX : String → Mm → Prop} {x : Int32}
    (hd : decode cc pc = .ok (.invokestatic idx, 3)) (hw : lkS RX9 idx yX9_refuse) (hrm : rmk 6 1 R (cells + 1) (slots + 6) = true) (hc : (Nat.ble (cells + 1) mc && Nat.ble (slots + 6) ms) = true) (hst : (mcs st).ble 8 = true)
    (kk : rfz x = none → Z RX9 cc nL rt [] nme R (QM SH (allR wv) mc ms PR PX) (allR wv) SH (cells + 1) (slots + 6) (pc + 3) ls st M)
    (kx : ∀ (e : Nat) (E : String), rfz x = some e → exs[e]? = some E → PX E M) : Z RX9 cc nL rt [] nme R (QM SH (allR wv) mc ms PR PX) (allR wv) SH cells slots pc ls (.inl (.int x) :: st) M := by
  simp only [Bool.and_eq_true, Nat.ble_eq] at hc
  have h9 := rmk_spec hrm
  refine z_callS (S_refuse M x) hd hw cd_X9_refuse rfl ⟨h9.1, h9.2.1, h9.2.2.1, h9.2.2.2⟩ (Nat.le_of_ble_eq_true hst) rfl (fun v M1 h => ?_) (fun E M1 h => ?_)
  · obtain ⟨rfl, rfl, h3⟩ := h
    exact kk h3
  · obtain ⟨e, h1, h2, rfl⟩ := h
    exact zx_out rfl hc.1 hc.2 (kx e E h1 h2)

theorem z_thrNS {wv : Nat} {cc : ByteArray} {nL : Nat} {rt : Option FieldType} {xt : List ExceptionTableEntry} {nme : String} {R : Room} {cells slots pc : Nat} {ls : List (Option MV)} {st : List MV} {M : Mm} {is j mc ms : Nat} {text : String} {PR : Option Value → Mm → Prop} {PX : String → Mm → Prop}
    (d0 : decode cc pc = .ok (.new 197, 3)) (d3 : decode cc (pc + 3) = .ok (.dup, 1)) (d4 : decode cc (pc + 4) = .ok (.ldc is, 2)) (d6 : decode cc (pc + 6) = .ok (.invokespecial 201, 3)) (d9 : decode cc (pc + 9) = .ok (.athrow, 1))
    (hstr : (RX9, is, text, j) ∈ stt) (hxt : xt = [])
    (hR : (Nat.ble 6 R.frames && Nat.ble (mcs st + 82) R.locals && Nat.ble (cells + 1) R.cells && Nat.ble (slots + 6) R.slots && Nat.ble (cells + 1) mc && Nat.ble (slots + 6) ms) = true) (hp : PX "java/util/NoSuchElementException" M) : Z RX9 cc nL rt xt nme R (QM SH (allR wv) mc ms PR PX) (allR wv) SH cells slots pc ls st M := by
  intro p l e s m args below meth c D tc ad A H locs lsA C hP hS hl
  simp only [Bool.and_eq_true, Nat.ble_eq] at hR
  obtain ⟨⟨⟨⟨⟨r1, r2⟩, r3⟩, r4⟩, r5⟩, r6⟩ := hR
  have hts := C.2.2.2.2.1
  have hF := C.2.2.2.2.2.2.2.2.2.2.2.1
  have hsa := hF.2.2.1 _ hstr
  refine nx_throw (Y := "java/lang/RuntimeException") (r := ["java/lang/Exception"]) C.1 C.2.1 hF.1 nse_0 nse_1 nse_2 nse_5 C.2.2.2.1 nse_f1 nse_f2 nse_f3 (hts _ cl_197) (hts _ in_201) hsa (fun w hw => ?_) nse_gd hF.2.2.2.1 hF.2.2.2.2.1 hS (hl.1.trans C.2.2.1.symm) d0 d3 d4 d6 d9 (fun x hx => ?_) C.2.2.2.2.2.1
    (by show 1 + 1 + 3 < R.frames; omega) (by rw [mcs_map]; show mcs st + (13 * (1 + 1 + 1) + 43) ≤ R.locals; omega) r3 r4 (fun t hvm h1 h2 => ⟨⟨M, hp, fun k q hq => (hP k q hq).kept (h2 q.1 (hP k q hq).lt)⟩, Nat.le_trans hS.1 h1, fun q a b => (h2 q (Nat.lt_of_lt_of_le a hS.1)).trans (hS.2.1 q a b)⟩) hS.2.2 r5 r6
  · rcases nse_hat w hw with h | h
    · exact hts w h
    · exact va_Nw.use h.2 (C_nw hF h.1)
  · rw [C.2.2.2.2.2.2.2.1, hxt] at hx
    cases hx
theorem z_thrNW {wv : Nat} {cc : ByteArray} {nL : Nat} {rt : Option FieldType} {xt : List ExceptionTableEntry} {nme : String} {R : Room} {cells slots pc : Nat} {ls : List (Option MV)} {st : List MV} {M : Mm} {is j mc ms : Nat} {text : String} {PR : Option Value → Mm → Prop} {PX : String → Mm → Prop}
    (d0 : decode cc pc = .ok (.new 197, 3)) (d3 : decode cc (pc + 3) = .ok (.dup, 1)) (d4 : decode cc (pc + 4) = .ok (.ldc_w is, 3)) (d6 : decode cc (pc + 7) = .ok (.invokespecial 201, 3)) (d9 : decode cc (pc + 10) = .ok (.athrow, 1))
    (hstr : (RX9, is, text, j) ∈ stt) (hxt : xt = [])
    (hR : (Nat.ble 6 R.frames && Nat.ble (mcs st + 82) R.locals && Nat.ble (cells + 1) R.cells && Nat.ble (slots + 6) R.slots && Nat.ble (cells + 1) mc && Nat.ble (slots + 6) ms) = true) (hp : PX "java/util/NoSuchElementException" M) : Z RX9 cc nL rt xt nme R (QM SH (allR wv) mc ms PR PX) (allR wv) SH cells slots pc ls st M := by
  intro p l e s m args below meth c D tc ad A H locs lsA C hP hS hl
  simp only [Bool.and_eq_true, Nat.ble_eq] at hR
  obtain ⟨⟨⟨⟨⟨r1, r2⟩, r3⟩, r4⟩, r5⟩, r6⟩ := hR
  have hts := C.2.2.2.2.1
  have hF := C.2.2.2.2.2.2.2.2.2.2.2.1
  have hsa := hF.2.2.1 _ hstr
  refine nx_throwW (Y := "java/lang/RuntimeException") (r := ["java/lang/Exception"]) C.1 C.2.1 hF.1 nse_0 nse_1 nse_2 nse_5 C.2.2.2.1 nse_f1 nse_f2 nse_f3 (hts _ cl_197) (hts _ in_201) hsa (fun w hw => ?_) nse_gd hF.2.2.2.1 hF.2.2.2.2.1 hS (hl.1.trans C.2.2.1.symm) d0 d3 d4 d6 d9 (fun x hx => ?_) C.2.2.2.2.2.1
    (by show 1 + 1 + 3 < R.frames; omega) (by rw [mcs_map]; show mcs st + (13 * (1 + 1 + 1) + 43) ≤ R.locals; omega) r3 r4 (fun t hvm h1 h2 => ⟨⟨M, hp, fun k q hq => (hP k q hq).kept (h2 q.1 (hP k q hq).lt)⟩, Nat.le_trans hS.1 h1, fun q a b => (h2 q (Nat.lt_of_lt_of_le a hS.1)).trans (hS.2.1 q a b)⟩) hS.2.2 r5 r6
  · rcases nse_hat w hw with h | h
    · exact hts w h
    · exact va_Nw.use h.2 (C_nw hF h.1)
  · rw [C.2.2.2.2.2.2.2.1, hxt] at hx
    cases hx
