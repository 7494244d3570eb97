section ZR
variable {own : String} {cc : ByteArray} {nL : Nat} {rt : Option FieldType} {xt : List ExceptionTableEntry} {nme : String} {R : Room} {Q : QF} {rs : List Rf} {sh : Sh} {cells slots pc : Nat} {ls : List (Option MV)} {st : List MV} {M : Mm}
theorem z_iconst {n : Int} {v : Int32} (hd : decode cc pc = .ok (.iconst n, 1)) (hv : Int32.ofInt n = v) (k : Z own cc nL rt xt nme R Q rs sh cells slots (pc + 1) ls (.inl (.int v) :: st) M) : Z own cc nL rt xt nme R Q rs sh cells slots pc ls st M := fun p l e s m args below meth c D tc ad A H locs lsA C hP hS hl => lv_iconst C.1 C.2.1 hd hv (k p l e s m args below meth c D tc ad A H locs lsA C hP hS hl)
theorem z_bipush {n : Int} {v : Int32} (hd : decode cc pc = .ok (.bipush n, 2)) (hv : (Int8.ofInt n).toInt32 = v) (k : Z own cc nL rt xt nme R Q rs sh cells slots (pc + 2) ls (.inl (.int v) :: st) M) : Z own cc nL rt xt nme R Q rs sh cells slots pc ls st M := fun p l e s m args below meth c D tc ad A H locs lsA C hP hS hl => lv_bipush C.1 C.2.1 hd hv (k p l e s m args below meth c D tc ad A H locs lsA C hP hS hl)
theorem z_sipush {n : Int} {v : Int32} (hd : decode cc pc = .ok (.sipush n, 3)) (hv : (Int16.ofInt n).toInt32 = v) (k : Z own cc nL rt xt nme R Q rs sh cells slots (pc + 3) ls (.inl (.int v) :: st) M) : Z own cc nL rt xt nme R Q rs sh cells slots pc ls st M := fun p l e s m args below meth c D tc ad A H locs lsA C hP hS hl => lv_sipush C.1 C.2.1 hd hv (k p l e s m args below meth c D tc ad A H locs lsA C hP hS hl)
theorem z_lconst {n : Fin 2} {v : Int64} (hd : decode cc pc = .ok (.lconst n, 1)) (hv : Int64.ofNat (n : Nat) = v) (k : Z own cc nL rt xt nme R Q rs sh cells slots (pc + 1) ls (.inl (.long v) :: st) M) : Z own cc nL rt xt nme R Q rs sh cells slots pc ls st M := fun p l e s m args below meth c D tc ad A H locs lsA C hP hS hl => lv_lconst C.1 C.2.1 hd hv (k p l e s m args below meth c D tc ad A H locs lsA C hP hS hl)
theorem z_fconst0  (hd : decode cc pc = .ok (.fconst 0, 1))  (k : Z own cc nL rt xt nme R Q rs sh cells slots (pc + 1) ls (.inl (.float FP.fconst0) :: st) M) : Z own cc nL rt xt nme R Q rs sh cells slots pc ls st M := fun p l e s m args below meth c D tc ad A H locs lsA C hP hS hl => lv_fconst0 C.1 C.2.1 hd  (k p l e s m args below meth c D tc ad A H locs lsA C hP hS hl)
theorem z_dconst0  (hd : decode cc pc = .ok (.dconst 0, 1))  (k : Z own cc nL rt xt nme R Q rs sh cells slots (pc + 1) ls (.inl (.double FP.dconst0) :: st) M) : Z own cc nL rt xt nme R Q rs sh cells slots pc ls st M := fun p l e s m args below meth c D tc ad A H locs lsA C hP hS hl => lv_dconst0 C.1 C.2.1 hd  (k p l e s m args below meth c D tc ad A H locs lsA C hP hS hl)
theorem z_dconst1  (hd : decode cc pc = .ok (.dconst 1, 1))  (k : Z own cc nL rt xt nme R Q rs sh cells slots (pc + 1) ls (.inl (.double FP.dconst1) :: st) M) : Z own cc nL rt xt nme R Q rs sh cells slots pc ls st M := fun p l e s m args below meth c D tc ad A H locs lsA C hP hS hl => lv_dconst1 C.1 C.2.1 hd  (k p l e s m args below meth c D tc ad A H locs lsA C hP hS hl)
theorem z_iload_n {k : Fin 4} {i : Nat} {x : Int32} (hd : decode cc pc = .ok (.iload_n k, 1)) (hi : (k : Nat) = i) (hv : ls[i]? = some (some (.inl (.int x)))) (k : Z own cc nL rt xt nme R Q rs sh cells slots (pc + 1) ls (.inl (.int x) :: st) M) : Z own cc nL rt xt nme R Q rs sh cells slots pc ls st M := fun p l e s m args below meth c D tc ad A H locs lsA C hP hS hl => lv_iload_n C.1 C.2.1 hd hi (hl.2.2 i _ hv) (k p l e s m args below meth c D tc ad A H locs lsA C hP hS hl)
theorem z_iload {i : Nat} {x : Int32} (hd : decode cc pc = .ok (.iload i, 2)) (hv : ls[i]? = some (some (.inl (.int x)))) (k : Z own cc nL rt xt nme R Q rs sh cells slots (pc + 2) ls (.inl (.int x) :: st) M) : Z own cc nL rt xt nme R Q rs sh cells slots pc ls st M := fun p l e s m args below meth c D tc ad A H locs lsA C hP hS hl => lv_iload C.1 C.2.1 hd (hl.2.2 i _ hv) (k p l e s m args below meth c D tc ad A H locs lsA C hP hS hl)
theorem z_lload_n {k : Fin 4} {i : Nat} {x : Int64} (hd : decode cc pc = .ok (.lload_n k, 1)) (hi : (k : Nat) = i) (hv : ls[i]? = some (some (.inl (.long x)))) (k : Z own cc nL rt xt nme R Q rs sh cells slots (pc + 1) ls (.inl (.long x) :: st) M) : Z own cc nL rt xt nme R Q rs sh cells slots pc ls st M := fun p l e s m args below meth c D tc ad A H locs lsA C hP hS hl => lv_lload_n C.1 C.2.1 hd hi (hl.2.2 i _ hv) (k p l e s m args below meth c D tc ad A H locs lsA C hP hS hl)
theorem z_lload {i : Nat} {x : Int64} (hd : decode cc pc = .ok (.lload i, 2)) (hv : ls[i]? = some (some (.inl (.long x)))) (k : Z own cc nL rt xt nme R Q rs sh cells slots (pc + 2) ls (.inl (.long x) :: st) M) : Z own cc nL rt xt nme R Q rs sh cells slots pc ls st M := fun p l e s m args below meth c D tc ad A H locs lsA C hP hS hl => lv_lload C.1 C.2.1 hd (hl.2.2 i _ hv) (k p l e s m args below meth c D tc ad A H locs lsA C hP hS hl)
theorem z_fload_n {k : Fin 4} {i : Nat} {x : UInt32} (hd : decode cc pc = .ok (.fload_n k, 1)) (hi : (k : Nat) = i) (hv : ls[i]? = some (some (.inl (.float x)))) (k : Z own cc nL rt xt nme R Q rs sh cells slots (pc + 1) ls (.inl (.float x) :: st) M) : Z own cc nL rt xt nme R Q rs sh cells slots pc ls st M := fun p l e s m args below meth c D tc ad A H locs lsA C hP hS hl => lv_fload_n C.1 C.2.1 hd hi (hl.2.2 i _ hv) (k p l e s m args below meth c D tc ad A H locs lsA C hP hS hl)
theorem z_fload {i : Nat} {x : UInt32} (hd : decode cc pc = .ok (.fload i, 2)) (hv : ls[i]? = some (some (.inl (.float x)))) (k : Z own cc nL rt xt nme R Q rs sh cells slots (pc + 2) ls (.inl (.float x) :: st) M) : Z own cc nL rt xt nme R Q rs sh cells slots pc ls st M := fun p l e s m args below meth c D tc ad A H locs lsA C hP hS hl => lv_fload C.1 C.2.1 hd (hl.2.2 i _ hv) (k p l e s m args below meth c D tc ad A H locs lsA C hP hS hl)
theorem z_dload_n {k : Fin 4} {i : Nat} {x : UInt64} (hd : decode cc pc = .ok (.dload_n k, 1)) (hi : (k : Nat) = i) (hv : ls[i]? = some (some (.inl (.double x)))) (k : Z own cc nL rt xt nme R Q rs sh cells slots (pc + 1) ls (.inl (.double x) :: st) M) : Z own cc nL rt xt nme R Q rs sh cells slots pc ls st M := fun p l e s m args below meth c D tc ad A H locs lsA C hP hS hl => lv_dload_n C.1 C.2.1 hd hi (hl.2.2 i _ hv) (k p l e s m args below meth c D tc ad A H locs lsA C hP hS hl)
theorem z_dload {i : Nat} {x : UInt64} (hd : decode cc pc = .ok (.dload i, 2)) (hv : ls[i]? = some (some (.inl (.double x)))) (k : Z own cc nL rt xt nme R Q rs sh cells slots (pc + 2) ls (.inl (.double x) :: st) M) : Z own cc nL rt xt nme R Q rs sh cells slots pc ls st M := fun p l e s m args below meth c D tc ad A H locs lsA C hP hS hl => lv_dload C.1 C.2.1 hd (hl.2.2 i _ hv) (k p l e s m args below meth c D tc ad A H locs lsA C hP hS hl)
theorem z_aload_n {k : Fin 4} {i : Nat} {r : Rf} (hd : decode cc pc = .ok (.aload_n k, 1)) (hi : (k : Nat) = i) (hv : ls[i]? = some (some (.inr r))) (k : Z own cc nL rt xt nme R Q rs sh cells slots (pc + 1) ls (.inr r :: st) M) : Z own cc nL rt xt nme R Q rs sh cells slots pc ls st M := fun p l e s m args below meth c D tc ad A H locs lsA C hP hS hl => lv_aload_n C.1 C.2.1 hd hi (hl.2.2 i _ hv) (k p l e s m args below meth c D tc ad A H locs lsA C hP hS hl)
theorem z_aload {i : Nat} {r : Rf} (hd : decode cc pc = .ok (.aload i, 2)) (hv : ls[i]? = some (some (.inr r))) (k : Z own cc nL rt xt nme R Q rs sh cells slots (pc + 2) ls (.inr r :: st) M) : Z own cc nL rt xt nme R Q rs sh cells slots pc ls st M := fun p l e s m args below meth c D tc ad A H locs lsA C hP hS hl => lv_aload C.1 C.2.1 hd (hl.2.2 i _ hv) (k p l e s m args below meth c D tc ad A H locs lsA C hP hS hl)
theorem z_istore_n {i : Nat} {x : Int32} {k : Fin 4} (hd : decode cc pc = .ok (.istore_n k, 1)) (hi : (k : Nat) = i) (hn : i < nL) (hk : lok ls i = true) (k : Z own cc nL rt xt nme R Q rs sh cells slots (pc + 1) (ls.set i (some (.inl (.int x)))) st M) : Z own cc nL rt xt nme R Q rs sh cells slots pc ls (.inl (.int x) :: st) M := fun p l e s m args below meth c D tc ad A H locs lsA C hP hS hl => lv_istore_n C.1 C.2.1 hd hi (zl_lv hl) hn rfl (fun ls9 hl9 => k p l e s m args below meth c D tc ad A H locs ls9 C hP hS (zl_set1 (v := .inl (.int x)) hk hl9))
theorem z_istore {i : Nat} {x : Int32}  (hd : decode cc pc = .ok (.istore i, 2))  (hn : i < nL) (hk : lok ls i = true) (k : Z own cc nL rt xt nme R Q rs sh cells slots (pc + 2) (ls.set i (some (.inl (.int x)))) st M) : Z own cc nL rt xt nme R Q rs sh cells slots pc ls (.inl (.int x) :: st) M := fun p l e s m args below meth c D tc ad A H locs lsA C hP hS hl => lv_istore C.1 C.2.1 hd  (zl_lv hl) hn rfl (fun ls9 hl9 => k p l e s m args below meth c D tc ad A H locs ls9 C hP hS (zl_set1 (v := .inl (.int x)) hk hl9))
theorem z_fstore {i : Nat} {x : UInt32}  (hd : decode cc pc = .ok (.fstore i, 2))  (hn : i < nL) (hk : lok ls i = true) (k : Z own cc nL rt xt nme R Q rs sh cells slots (pc + 2) (ls.set i (some (.inl (.float x)))) st M) : Z own cc nL rt xt nme R Q rs sh cells slots pc ls (.inl (.float x) :: st) M := fun p l e s m args below meth c D tc ad A H locs lsA C hP hS hl => lv_fstore C.1 C.2.1 hd  (zl_lv hl) hn rfl (fun ls9 hl9 => k p l e s m args below meth c D tc ad A H locs ls9 C hP hS (zl_set1 (v := .inl (.float x)) hk hl9))
theorem z_astore_n {i : Nat} {x : Rf} {k : Fin 4} (hd : decode cc pc = .ok (.astore_n k, 1)) (hi : (k : Nat) = i) (hn : i < nL) (hk : lok ls i = true) (k : Z own cc nL rt xt nme R Q rs sh cells slots (pc + 1) (ls.set i (some (.inr x))) st M) : Z own cc nL rt xt nme R Q rs sh cells slots pc ls (.inr x :: st) M := fun p l e s m args below meth c D tc ad A H locs lsA C hP hS hl => lv_astore_n C.1 C.2.1 hd hi (zl_lv hl) hn rfl (fun ls9 hl9 => k p l e s m args below meth c D tc ad A H locs ls9 C hP hS (zl_set1 (v := .inr x) hk hl9))
theorem z_astore {i : Nat} {x : Rf}  (hd : decode cc pc = .ok (.astore i, 2))  (hn : i < nL) (hk : lok ls i = true) (k : Z own cc nL rt xt nme R Q rs sh cells slots (pc + 2) (ls.set i (some (.inr x))) st M) : Z own cc nL rt xt nme R Q rs sh cells slots pc ls (.inr x :: st) M := fun p l e s m args below meth c D tc ad A H locs lsA C hP hS hl => lv_astore C.1 C.2.1 hd  (zl_lv hl) hn rfl (fun ls9 hl9 => k p l e s m args below meth c D tc ad A H locs ls9 C hP hS (zl_set1 (v := .inr x) hk hl9))
theorem z_lstore_n {i : Nat} {x : Int64} {k : Fin 4} (hd : decode cc pc = .ok (.lstore_n k, 1)) (hi : (k : Nat) = i) (hn : i + 1 < nL) (hk : lok ls i = true) (k : Z own cc nL rt xt nme R Q rs sh cells slots (pc + 1) ((ls.set (i + 1) none).set i (some (.inl (.long x)))) st M) : Z own cc nL rt xt nme R Q rs sh cells slots pc ls (.inl (.long x) :: st) M := fun p l e s m args below meth c D tc ad A H locs lsA C hP hS hl => lv_lstore_n C.1 C.2.1 hd hi (zl_lv hl) hn rfl (fun ls9 hl9 => k p l e s m args below meth c D tc ad A H locs ls9 C hP hS (zl_set2 (v := .inl (.long x)) hk hl9))
theorem z_lstore {i : Nat} {x : Int64}  (hd : decode cc pc = .ok (.lstore i, 2))  (hn : i + 1 < nL) (hk : lok ls i = true) (k : Z own cc nL rt xt nme R Q rs sh cells slots (pc + 2) ((ls.set (i + 1) none).set i (some (.inl (.long x)))) st M) : Z own cc nL rt xt nme R Q rs sh cells slots pc ls (.inl (.long x) :: st) M := fun p l e s m args below meth c D tc ad A H locs lsA C hP hS hl => lv_lstore C.1 C.2.1 hd  (zl_lv hl) hn rfl (fun ls9 hl9 => k p l e s m args below meth c D tc ad A H locs ls9 C hP hS (zl_set2 (v := .inl (.long x)) hk hl9))
theorem z_dstore_n {i : Nat} {x : UInt64} {k : Fin 4} (hd : decode cc pc = .ok (.dstore_n k, 1)) (hi : (k : Nat) = i) (hn : i + 1 < nL) (hk : lok ls i = true) (k : Z own cc nL rt xt nme R Q rs sh cells slots (pc + 1) ((ls.set (i + 1) none).set i (some (.inl (.double x)))) st M) : Z own cc nL rt xt nme R Q rs sh cells slots pc ls (.inl (.double x) :: st) M := fun p l e s m args below meth c D tc ad A H locs lsA C hP hS hl => lv_dstore_n C.1 C.2.1 hd hi (zl_lv hl) hn rfl (fun ls9 hl9 => k p l e s m args below meth c D tc ad A H locs ls9 C hP hS (zl_set2 (v := .inl (.double x)) hk hl9))
theorem z_dstore {i : Nat} {x : UInt64}  (hd : decode cc pc = .ok (.dstore i, 2))  (hn : i + 1 < nL) (hk : lok ls i = true) (k : Z own cc nL rt xt nme R Q rs sh cells slots (pc + 2) ((ls.set (i + 1) none).set i (some (.inl (.double x)))) st M) : Z own cc nL rt xt nme R Q rs sh cells slots pc ls (.inl (.double x) :: st) M := fun p l e s m args below meth c D tc ad A H locs lsA C hP hS hl => lv_dstore C.1 C.2.1 hd  (zl_lv hl) hn rfl (fun ls9 hl9 => k p l e s m args below meth c D tc ad A H locs ls9 C hP hS (zl_set2 (v := .inl (.double x)) hk hl9))
theorem z_iinc {i : Nat} {n : Int} {x v : Int32} (hd : decode cc pc = .ok (.iinc i n, 3)) (hx : ls[i]? = some (some (.inl (.int x)))) (hv : x + Int32.ofInt n = v) (hn : i < nL) (hk : lok ls i = true) (k : Z own cc nL rt xt nme R Q rs sh cells slots (pc + 3) (ls.set i (some (.inl (.int v)))) st M) : Z own cc nL rt xt nme R Q rs sh cells slots pc ls st M := by
  intro p l e s m args below meth c D tc ad A H locs lsA C hP hS hl
  have hm := lvl_mem (ad := ad) ls 0 i _ hx
  rw [Nat.zero_add] at hm
  obtain ⟨q, hq⟩ := List.getElem?_of_mem hm
  exact lv_iinc (x := x) C.1 C.2.1 hd (zl_lv hl) hq hv hn rfl (fun ls9 hl9 => k p l e s m args below meth c D tc ad A H locs ls9 C hP hS (zl_set1 (v := .inl (.int v)) hk hl9))
theorem z_iadd {x y : Int32} (hd : decode cc pc = .ok (.iadd, 1))  (k : Z own cc nL rt xt nme R Q rs sh cells slots (pc + 1) ls (.inl (.int (x + y)) :: st) M) : Z own cc nL rt xt nme R Q rs sh cells slots pc ls (.inl (.int y) :: .inl (.int x) :: st) M := fun p l e s m args below meth c D tc ad A H locs lsA C hP hS hl => lv_iadd C.1 C.2.1 hd  (k p l e s m args below meth c D tc ad A H locs lsA C hP hS hl)
theorem z_isub {x y : Int32} (hd : decode cc pc = .ok (.isub, 1))  (k : Z own cc nL rt xt nme R Q rs sh cells slots (pc + 1) ls (.inl (.int (x - y)) :: st) M) : Z own cc nL rt xt nme R Q rs sh cells slots pc ls (.inl (.int y) :: .inl (.int x) :: st) M := fun p l e s m args below meth c D tc ad A H locs lsA C hP hS hl => lv_isub C.1 C.2.1 hd  (k p l e s m args below meth c D tc ad A H locs lsA C hP hS hl)
theorem z_imul {x y : Int32} (hd : decode cc pc = .ok (.imul, 1))  (k : Z own cc nL rt xt nme R Q rs sh cells slots (pc + 1) ls (.inl (.int (x * y)) :: st) M) : Z own cc nL rt xt nme R Q rs sh cells slots pc ls (.inl (.int y) :: .inl (.int x) :: st) M := fun p l e s m args below meth c D tc ad A H locs lsA C hP hS hl => lv_imul C.1 C.2.1 hd  (k p l e s m args below meth c D tc ad A H locs lsA C hP hS hl)
theorem z_iand {x y : Int32} (hd : decode cc pc = .ok (.iand, 1))  (k : Z own cc nL rt xt nme R Q rs sh cells slots (pc + 1) ls (.inl (.int (x &&& y)) :: st) M) : Z own cc nL rt xt nme R Q rs sh cells slots pc ls (.inl (.int y) :: .inl (.int x) :: st) M := fun p l e s m args below meth c D tc ad A H locs lsA C hP hS hl => lv_iand C.1 C.2.1 hd  (k p l e s m args below meth c D tc ad A H locs lsA C hP hS hl)
theorem z_ior {x y : Int32} (hd : decode cc pc = .ok (.ior, 1))  (k : Z own cc nL rt xt nme R Q rs sh cells slots (pc + 1) ls (.inl (.int (x ||| y)) :: st) M) : Z own cc nL rt xt nme R Q rs sh cells slots pc ls (.inl (.int y) :: .inl (.int x) :: st) M := fun p l e s m args below meth c D tc ad A H locs lsA C hP hS hl => lv_ior C.1 C.2.1 hd  (k p l e s m args below meth c D tc ad A H locs lsA C hP hS hl)
theorem z_ixor {x y : Int32} (hd : decode cc pc = .ok (.ixor, 1))  (k : Z own cc nL rt xt nme R Q rs sh cells slots (pc + 1) ls (.inl (.int (x ^^^ y)) :: st) M) : Z own cc nL rt xt nme R Q rs sh cells slots pc ls (.inl (.int y) :: .inl (.int x) :: st) M := fun p l e s m args below meth c D tc ad A H locs lsA C hP hS hl => lv_ixor C.1 C.2.1 hd  (k p l e s m args below meth c D tc ad A H locs lsA C hP hS hl)
theorem z_ishl {x y : Int32} (hd : decode cc pc = .ok (.ishl, 1))  (k : Z own cc nL rt xt nme R Q rs sh cells slots (pc + 1) ls (.inl (.int (x <<< (y &&& 31))) :: st) M) : Z own cc nL rt xt nme R Q rs sh cells slots pc ls (.inl (.int y) :: .inl (.int x) :: st) M := fun p l e s m args below meth c D tc ad A H locs lsA C hP hS hl => lv_ishl C.1 C.2.1 hd  (k p l e s m args below meth c D tc ad A H locs lsA C hP hS hl)
theorem z_ishr {x y : Int32} (hd : decode cc pc = .ok (.ishr, 1))  (k : Z own cc nL rt xt nme R Q rs sh cells slots (pc + 1) ls (.inl (.int (x >>> (y &&& 31))) :: st) M) : Z own cc nL rt xt nme R Q rs sh cells slots pc ls (.inl (.int y) :: .inl (.int x) :: st) M := fun p l e s m args below meth c D tc ad A H locs lsA C hP hS hl => lv_ishr C.1 C.2.1 hd  (k p l e s m args below meth c D tc ad A H locs lsA C hP hS hl)
theorem z_iushr {x y : Int32} (hd : decode cc pc = .ok (.iushr, 1))  (k : Z own cc nL rt xt nme R Q rs sh cells slots (pc + 1) ls (.inl (.int ((x.toUInt32 >>> (y.toUInt32 &&& Int32.toUInt32 31)).toInt32)) :: st) M) : Z own cc nL rt xt nme R Q rs sh cells slots pc ls (.inl (.int y) :: .inl (.int x) :: st) M := fun p l e s m args below meth c D tc ad A H locs lsA C hP hS hl => lv_iushr C.1 C.2.1 hd rfl (k p l e s m args below meth c D tc ad A H locs lsA C hP hS hl)
theorem z_ineg {x : Int32} (hd : decode cc pc = .ok (.ineg, 1))  (k : Z own cc nL rt xt nme R Q rs sh cells slots (pc + 1) ls (.inl (.int (-x)) :: st) M) : Z own cc nL rt xt nme R Q rs sh cells slots pc ls (.inl (.int x) :: st) M := fun p l e s m args below meth c D tc ad A H locs lsA C hP hS hl => lv_ineg C.1 C.2.1 hd  (k p l e s m args below meth c D tc ad A H locs lsA C hP hS hl)
theorem z_idiv {x y : Int32} (hd : decode cc pc = .ok (.idiv, 1)) (hne : ¬ y = 0) (k : Z own cc nL rt xt nme R Q rs sh cells slots (pc + 1) ls (.inl (.int (x / y)) :: st) M) : Z own cc nL rt xt nme R Q rs sh cells slots pc ls (.inl (.int y) :: .inl (.int x) :: st) M := fun p l e s m args below meth c D tc ad A H locs lsA C hP hS hl => lv_idiv C.1 C.2.1 hd hne (k p l e s m args below meth c D tc ad A H locs lsA C hP hS hl)
theorem z_irem {x y : Int32} (hd : decode cc pc = .ok (.irem, 1)) (hne : ¬ y = 0) (k : Z own cc nL rt xt nme R Q rs sh cells slots (pc + 1) ls (.inl (.int (x - x / y * y)) :: st) M) : Z own cc nL rt xt nme R Q rs sh cells slots pc ls (.inl (.int y) :: .inl (.int x) :: st) M := fun p l e s m args below meth c D tc ad A H locs lsA C hP hS hl => lv_irem C.1 C.2.1 hd hne (k p l e s m args below meth c D tc ad A H locs lsA C hP hS hl)
theorem z_ladd {x y : Int64} (hd : decode cc pc = .ok (.ladd, 1))  (k : Z own cc nL rt xt nme R Q rs sh cells slots (pc + 1) ls (.inl (.long (x + y)) :: st) M) : Z own cc nL rt xt nme R Q rs sh cells slots pc ls (.inl (.long y) :: .inl (.long x) :: st) M := fun p l e s m args below meth c D tc ad A H locs lsA C hP hS hl => lv_ladd C.1 C.2.1 hd  (k p l e s m args below meth c D tc ad A H locs lsA C hP hS hl)
theorem z_lsub {x y : Int64} (hd : decode cc pc = .ok (.lsub, 1))  (k : Z own cc nL rt xt nme R Q rs sh cells slots (pc + 1) ls (.inl (.long (x - y)) :: st) M) : Z own cc nL rt xt nme R Q rs sh cells slots pc ls (.inl (.long y) :: .inl (.long x) :: st) M := fun p l e s m args below meth c D tc ad A H locs lsA C hP hS hl => lv_lsub C.1 C.2.1 hd  (k p l e s m args below meth c D tc ad A H locs lsA C hP hS hl)
theorem z_land {x y : Int64} (hd : decode cc pc = .ok (.land, 1))  (k : Z own cc nL rt xt nme R Q rs sh cells slots (pc + 1) ls (.inl (.long (x &&& y)) :: st) M) : Z own cc nL rt xt nme R Q rs sh cells slots pc ls (.inl (.long y) :: .inl (.long x) :: st) M := fun p l e s m args below meth c D tc ad A H locs lsA C hP hS hl => lv_land C.1 C.2.1 hd  (k p l e s m args below meth c D tc ad A H locs lsA C hP hS hl)
theorem z_lor {x y : Int64} (hd : decode cc pc = .ok (.lor, 1))  (k : Z own cc nL rt xt nme R Q rs sh cells slots (pc + 1) ls (.inl (.long (x ||| y)) :: st) M) : Z own cc nL rt xt nme R Q rs sh cells slots pc ls (.inl (.long y) :: .inl (.long x) :: st) M := fun p l e s m args below meth c D tc ad A H locs lsA C hP hS hl => lv_lor C.1 C.2.1 hd  (k p l e s m args below meth c D tc ad A H locs lsA C hP hS hl)
theorem z_lxor {x y : Int64} (hd : decode cc pc = .ok (.lxor, 1))  (k : Z own cc nL rt xt nme R Q rs sh cells slots (pc + 1) ls (.inl (.long (x ^^^ y)) :: st) M) : Z own cc nL rt xt nme R Q rs sh cells slots pc ls (.inl (.long y) :: .inl (.long x) :: st) M := fun p l e s m args below meth c D tc ad A H locs lsA C hP hS hl => lv_lxor C.1 C.2.1 hd  (k p l e s m args below meth c D tc ad A H locs lsA C hP hS hl)
theorem z_lshl {x : Int64} {y : Int32} (hd : decode cc pc = .ok (.lshl, 1))  (k : Z own cc nL rt xt nme R Q rs sh cells slots (pc + 1) ls (.inl (.long (x <<< (y.toInt64 &&& 63))) :: st) M) : Z own cc nL rt xt nme R Q rs sh cells slots pc ls (.inl (.int y) :: .inl (.long x) :: st) M := fun p l e s m args below meth c D tc ad A H locs lsA C hP hS hl => lv_lshl C.1 C.2.1 hd rfl (k p l e s m args below meth c D tc ad A H locs lsA C hP hS hl)
theorem z_lushr {x : Int64} {y : Int32} (hd : decode cc pc = .ok (.lushr, 1))  (k : Z own cc nL rt xt nme R Q rs sh cells slots (pc + 1) ls (.inl (.long ((x.toUInt64 >>> (y.toInt64.toUInt64 &&& Int64.toUInt64 63)).toInt64)) :: st) M) : Z own cc nL rt xt nme R Q rs sh cells slots pc ls (.inl (.int y) :: .inl (.long x) :: st) M := fun p l e s m args below meth c D tc ad A H locs lsA C hP hS hl => lv_lushr C.1 C.2.1 hd rfl (k p l e s m args below meth c D tc ad A H locs lsA C hP hS hl)
theorem z_i2l {x : Int32} (hd : decode cc pc = .ok (.i2l, 1))  (k : Z own cc nL rt xt nme R Q rs sh cells slots (pc + 1) ls (.inl (.long x.toInt64) :: st) M) : Z own cc nL rt xt nme R Q rs sh cells slots pc ls (.inl (.int x) :: st) M := fun p l e s m args below meth c D tc ad A H locs lsA C hP hS hl => lv_i2l C.1 C.2.1 hd rfl (k p l e s m args below meth c D tc ad A H locs lsA C hP hS hl)
theorem z_l2i {x : Int64} (hd : decode cc pc = .ok (.l2i, 1))  (k : Z own cc nL rt xt nme R Q rs sh cells slots (pc + 1) ls (.inl (.int x.toInt32) :: st) M) : Z own cc nL rt xt nme R Q rs sh cells slots pc ls (.inl (.long x) :: st) M := fun p l e s m args below meth c D tc ad A H locs lsA C hP hS hl => lv_l2i C.1 C.2.1 hd rfl (k p l e s m args below meth c D tc ad A H locs lsA C hP hS hl)
theorem z_i2d {x : Int32} (hd : decode cc pc = .ok (.i2d, 1))  (k : Z own cc nL rt xt nme R Q rs sh cells slots (pc + 1) ls (.inl (.double (FP.i2d x)) :: st) M) : Z own cc nL rt xt nme R Q rs sh cells slots pc ls (.inl (.int x) :: st) M := fun p l e s m args below meth c D tc ad A H locs lsA C hP hS hl => lv_i2d C.1 C.2.1 hd  (k p l e s m args below meth c D tc ad A H locs lsA C hP hS hl)
theorem z_i2f {x : Int32} (hd : decode cc pc = .ok (.i2f, 1))  (k : Z own cc nL rt xt nme R Q rs sh cells slots (pc + 1) ls (.inl (.float (FP.i2f x)) :: st) M) : Z own cc nL rt xt nme R Q rs sh cells slots pc ls (.inl (.int x) :: st) M := fun p l e s m args below meth c D tc ad A H locs lsA C hP hS hl => lv_i2f C.1 C.2.1 hd  (k p l e s m args below meth c D tc ad A H locs lsA C hP hS hl)
theorem z_f2d {x : UInt32} (hd : decode cc pc = .ok (.f2d, 1)) (hne : vf_n64 (FP.f2d x)) (k : Z own cc nL rt xt nme R Q rs sh cells slots (pc + 1) ls (.inl (.double (FP.f2d x)) :: st) M) : Z own cc nL rt xt nme R Q rs sh cells slots pc ls (.inl (.float x) :: st) M := fun p l e s m args below meth c D tc ad A H locs lsA C hP hS hl => lv_f2d C.1 C.2.1 hd hne (k p l e s m args below meth c D tc ad A H locs lsA C hP hS hl)
theorem z_d2l {x : UInt64} (hd : decode cc pc = .ok (.d2l, 1))  (k : Z own cc nL rt xt nme R Q rs sh cells slots (pc + 1) ls (.inl (.long (FP.d2l x)) :: st) M) : Z own cc nL rt xt nme R Q rs sh cells slots pc ls (.inl (.double x) :: st) M := fun p l e s m args below meth c D tc ad A H locs lsA C hP hS hl => lv_d2l C.1 C.2.1 hd  (k p l e s m args below meth c D tc ad A H locs lsA C hP hS hl)
theorem z_ddiv {x y : UInt64} (hd : decode cc pc = .ok (.ddiv, 1)) (hne : vf_n64 (FP.ddiv x y)) (k : Z own cc nL rt xt nme R Q rs sh cells slots (pc + 1) ls (.inl (.double (FP.ddiv x y)) :: st) M) : Z own cc nL rt xt nme R Q rs sh cells slots pc ls (.inl (.double y) :: .inl (.double x) :: st) M := fun p l e s m args below meth c D tc ad A H locs lsA C hP hS hl => lv_ddiv C.1 C.2.1 hd hne (k p l e s m args below meth c D tc ad A H locs lsA C hP hS hl)
theorem z_dmul {x y : UInt64} (hd : decode cc pc = .ok (.dmul, 1)) (hne : vf_n64 (FP.dmul x y)) (k : Z own cc nL rt xt nme R Q rs sh cells slots (pc + 1) ls (.inl (.double (FP.dmul x y)) :: st) M) : Z own cc nL rt xt nme R Q rs sh cells slots pc ls (.inl (.double y) :: .inl (.double x) :: st) M := fun p l e s m args below meth c D tc ad A H locs lsA C hP hS hl => lv_dmul C.1 C.2.1 hd hne (k p l e s m args below meth c D tc ad A H locs lsA C hP hS hl)
theorem z_dsub {x y : UInt64} (hd : decode cc pc = .ok (.dsub, 1)) (hne : vf_n64 (FP.dsub x y)) (k : Z own cc nL rt xt nme R Q rs sh cells slots (pc + 1) ls (.inl (.double (FP.dsub x y)) :: st) M) : Z own cc nL rt xt nme R Q rs sh cells slots pc ls (.inl (.double y) :: .inl (.double x) :: st) M := fun p l e s m args below meth c D tc ad A H locs lsA C hP hS hl => lv_dsub C.1 C.2.1 hd hne (k p l e s m args below meth c D tc ad A H locs lsA C hP hS hl)
theorem z_fdiv {x y : UInt32} (hd : decode cc pc = .ok (.fdiv, 1)) (hne : vf_n32 (FP.fdiv x y)) (k : Z own cc nL rt xt nme R Q rs sh cells slots (pc + 1) ls (.inl (.float (FP.fdiv x y)) :: st) M) : Z own cc nL rt xt nme R Q rs sh cells slots pc ls (.inl (.float y) :: .inl (.float x) :: st) M := fun p l e s m args below meth c D tc ad A H locs lsA C hP hS hl => lv_fdiv C.1 C.2.1 hd hne (k p l e s m args below meth c D tc ad A H locs lsA C hP hS hl)
theorem z_dcmp {x y : UInt64} {op : CmpOp} (hd : decode cc pc = .ok (.dcmp op, 1))  (k : Z own cc nL rt xt nme R Q rs sh cells slots (pc + 1) ls (.inl (.int (Op.cmpValue (FP.dcmp x y) op)) :: st) M) : Z own cc nL rt xt nme R Q rs sh cells slots pc ls (.inl (.double y) :: .inl (.double x) :: st) M := fun p l e s m args below meth c D tc ad A H locs lsA C hP hS hl => lv_dcmp C.1 C.2.1 hd  (k p l e s m args below meth c D tc ad A H locs lsA C hP hS hl)
theorem z_fcmp {x y : UInt32} {op : CmpOp} (hd : decode cc pc = .ok (.fcmp op, 1))  (k : Z own cc nL rt xt nme R Q rs sh cells slots (pc + 1) ls (.inl (.int (Op.cmpValue (FP.fcmp x y) op)) :: st) M) : Z own cc nL rt xt nme R Q rs sh cells slots pc ls (.inl (.float y) :: .inl (.float x) :: st) M := fun p l e s m args below meth c D tc ad A H locs lsA C hP hS hl => lv_fcmp C.1 C.2.1 hd  (k p l e s m args below meth c D tc ad A H locs lsA C hP hS hl)
theorem rv_cat {ad : Rf → Nat} {v : MV} (h : (match v with | .inl x => x.category == 1 | .inr _ => true) = true) : (rv ad v).category = 1 := by
  cases v with
  | inl x =>
    show x.category = 1
    simpa using h
  | inr r => rfl
theorem z_dup {v : MV} (hd : decode cc pc = .ok (.dup, 1)) (hc : (match v with | .inl x => x.category == 1 | .inr _ => true) = true) (k : Z own cc nL rt xt nme R Q rs sh cells slots (pc + 1) ls (v :: v :: st) M) : Z own cc nL rt xt nme R Q rs sh cells slots pc ls (v :: st) M := fun p l e s m args below meth c D tc ad A H locs lsA C hP hS hl => lv_dup C.1 C.2.1 hd (rv_cat hc) (k p l e s m args below meth c D tc ad A H locs lsA C hP hS hl)
theorem z_pop {v : MV} (hd : decode cc pc = .ok (.pop, 1)) (hc : (match v with | .inl x => x.category == 1 | .inr _ => true) = true) (k : Z own cc nL rt xt nme R Q rs sh cells slots (pc + 1) ls st M) : Z own cc nL rt xt nme R Q rs sh cells slots pc ls (v :: st) M := fun p l e s m args below meth c D tc ad A H locs lsA C hP hS hl => lv_pop C.1 C.2.1 hd (rv_cat hc) (k p l e s m args below meth c D tc ad A H locs lsA C hP hS hl)
theorem z_dup2 {v w : MV} (hd : decode cc pc = .ok (.dup2, 1)) (hc : (match v with | .inl x => x.category == 1 | .inr _ => true) = true) (hc2 : (match w with | .inl x => x.category == 1 | .inr _ => true) = true) (k : Z own cc nL rt xt nme R Q rs sh cells slots (pc + 1) ls (v :: w :: v :: w :: st) M) : Z own cc nL rt xt nme R Q rs sh cells slots pc ls (v :: w :: st) M := fun p l e s m args below meth c D tc ad A H locs lsA C hP hS hl => lv_dup2_11 C.1 C.2.1 hd (rv_cat hc) (rv_cat hc2) (k p l e s m args below meth c D tc ad A H locs lsA C hP hS hl)
theorem z_if_eq {off : Int} {tgt : Nat} {x : Int32} (hd : decode cc pc = .ok (.ifCond .eq off, 3)) (ht : (pc : Int) + off = (tgt : Int)) (kt : x = 0 → Z own cc nL rt xt nme R Q rs sh cells slots tgt ls st M) (kf : ¬ x = 0 → Z own cc nL rt xt nme R Q rs sh cells slots (pc + 3) ls st M) : Z own cc nL rt xt nme R Q rs sh cells slots pc ls (.inl (.int x) :: st) M := fun p l e s m args below meth c D tc ad A H locs lsA C hP hS hl => lv_if_eq C.1 C.2.1 hd ht (fun h => kt h p l e s m args below meth c D tc ad A H locs lsA C hP hS hl) (fun h => kf h p l e s m args below meth c D tc ad A H locs lsA C hP hS hl)
theorem z_if_ne {off : Int} {tgt : Nat} {x : Int32} (hd : decode cc pc = .ok (.ifCond .ne off, 3)) (ht : (pc : Int) + off = (tgt : Int)) (kt : ¬ x = 0 → Z own cc nL rt xt nme R Q rs sh cells slots tgt ls st M) (kf : x = 0 → Z own cc nL rt xt nme R Q rs sh cells slots (pc + 3) ls st M) : Z own cc nL rt xt nme R Q rs sh cells slots pc ls (.inl (.int x) :: st) M := fun p l e s m args below meth c D tc ad A H locs lsA C hP hS hl => lv_if_ne C.1 C.2.1 hd ht (fun h => kt h p l e s m args below meth c D tc ad A H locs lsA C hP hS hl) (fun h => kf h p l e s m args below meth c D tc ad A H locs lsA C hP hS hl)
theorem z_if_lt {off : Int} {tgt : Nat} {x : Int32} (hd : decode cc pc = .ok (.ifCond .lt off, 3)) (ht : (pc : Int) + off = (tgt : Int)) (kt : x < 0 → Z own cc nL rt xt nme R Q rs sh cells slots tgt ls st M) (kf : ¬ x < 0 → Z own cc nL rt xt nme R Q rs sh cells slots (pc + 3) ls st M) : Z own cc nL rt xt nme R Q rs sh cells slots pc ls (.inl (.int x) :: st) M := fun p l e s m args below meth c D tc ad A H locs lsA C hP hS hl => lv_if_lt C.1 C.2.1 hd ht (fun h => kt h p l e s m args below meth c D tc ad A H locs lsA C hP hS hl) (fun h => kf h p l e s m args below meth c D tc ad A H locs lsA C hP hS hl)
theorem z_if_ge {off : Int} {tgt : Nat} {x : Int32} (hd : decode cc pc = .ok (.ifCond .ge off, 3)) (ht : (pc : Int) + off = (tgt : Int)) (kt : 0 ≤ x → Z own cc nL rt xt nme R Q rs sh cells slots tgt ls st M) (kf : ¬ 0 ≤ x → Z own cc nL rt xt nme R Q rs sh cells slots (pc + 3) ls st M) : Z own cc nL rt xt nme R Q rs sh cells slots pc ls (.inl (.int x) :: st) M := fun p l e s m args below meth c D tc ad A H locs lsA C hP hS hl => lv_if_ge C.1 C.2.1 hd ht (fun h => kt h p l e s m args below meth c D tc ad A H locs lsA C hP hS hl) (fun h => kf h p l e s m args below meth c D tc ad A H locs lsA C hP hS hl)
theorem z_if_gt {off : Int} {tgt : Nat} {x : Int32} (hd : decode cc pc = .ok (.ifCond .gt off, 3)) (ht : (pc : Int) + off = (tgt : Int)) (kt : 0 < x → Z own cc nL rt xt nme R Q rs sh cells slots tgt ls st M) (kf : ¬ 0 < x → Z own cc nL rt xt nme R Q rs sh cells slots (pc + 3) ls st M) : Z own cc nL rt xt nme R Q rs sh cells slots pc ls (.inl (.int x) :: st) M := fun p l e s m args below meth c D tc ad A H locs lsA C hP hS hl => lv_if_gt C.1 C.2.1 hd ht (fun h => kt h p l e s m args below meth c D tc ad A H locs lsA C hP hS hl) (fun h => kf h p l e s m args below meth c D tc ad A H locs lsA C hP hS hl)
theorem z_if_le {off : Int} {tgt : Nat} {x : Int32} (hd : decode cc pc = .ok (.ifCond .le off, 3)) (ht : (pc : Int) + off = (tgt : Int)) (kt : x ≤ 0 → Z own cc nL rt xt nme R Q rs sh cells slots tgt ls st M) (kf : ¬ x ≤ 0 → Z own cc nL rt xt nme R Q rs sh cells slots (pc + 3) ls st M) : Z own cc nL rt xt nme R Q rs sh cells slots pc ls (.inl (.int x) :: st) M := fun p l e s m args below meth c D tc ad A H locs lsA C hP hS hl => lv_if_le C.1 C.2.1 hd ht (fun h => kt h p l e s m args below meth c D tc ad A H locs lsA C hP hS hl) (fun h => kf h p l e s m args below meth c D tc ad A H locs lsA C hP hS hl)
theorem z_icmp_eq {off : Int} {tgt : Nat} {x y : Int32} (hd : decode cc pc = .ok (.if_icmp .eq off, 3)) (ht : (pc : Int) + off = (tgt : Int)) (kt : x = y → Z own cc nL rt xt nme R Q rs sh cells slots tgt ls st M) (kf : ¬ x = y → Z own cc nL rt xt nme R Q rs sh cells slots (pc + 3) ls st M) : Z own cc nL rt xt nme R Q rs sh cells slots pc ls (.inl (.int y) :: .inl (.int x) :: st) M := fun p l e s m args below meth c D tc ad A H locs lsA C hP hS hl => lv_icmp_eq C.1 C.2.1 hd ht (fun h => kt h p l e s m args below meth c D tc ad A H locs lsA C hP hS hl) (fun h => kf h p l e s m args below meth c D tc ad A H locs lsA C hP hS hl)
theorem z_icmp_ne {off : Int} {tgt : Nat} {x y : Int32} (hd : decode cc pc = .ok (.if_icmp .ne off, 3)) (ht : (pc : Int) + off = (tgt : Int)) (kt : ¬ x = y → Z own cc nL rt xt nme R Q rs sh cells slots tgt ls st M) (kf : x = y → Z own cc nL rt xt nme R Q rs sh cells slots (pc + 3) ls st M) : Z own cc nL rt xt nme R Q rs sh cells slots pc ls (.inl (.int y) :: .inl (.int x) :: st) M := fun p l e s m args below meth c D tc ad A H locs lsA C hP hS hl => lv_icmp_ne C.1 C.2.1 hd ht (fun h => kt h p l e s m args below meth c D tc ad A H locs lsA C hP hS hl) (fun h => kf h p l e s m args below meth c D tc ad A H locs lsA C hP hS hl)
theorem z_icmp_lt {off : Int} {tgt : Nat} {x y : Int32} (hd : decode cc pc = .ok (.if_icmp .lt off, 3)) (ht : (pc : Int) + off = (tgt : Int)) (kt : x < y → Z own cc nL rt xt nme R Q rs sh cells slots tgt ls st M) (kf : ¬ x < y → Z own cc nL rt xt nme R Q rs sh cells slots (pc + 3) ls st M) : Z own cc nL rt xt nme R Q rs sh cells slots pc ls (.inl (.int y) :: .inl (.int x) :: st) M := fun p l e s m args below meth c D tc ad A H locs lsA C hP hS hl => lv_icmp_lt C.1 C.2.1 hd ht (fun h => kt h p l e s m args below meth c D tc ad A H locs lsA C hP hS hl) (fun h => kf h p l e s m args below meth c D tc ad A H locs lsA C hP hS hl)
theorem z_icmp_ge {off : Int} {tgt : Nat} {x y : Int32} (hd : decode cc pc = .ok (.if_icmp .ge off, 3)) (ht : (pc : Int) + off = (tgt : Int)) (kt : y ≤ x → Z own cc nL rt xt nme R Q rs sh cells slots tgt ls st M) (kf : ¬ y ≤ x → Z own cc nL rt xt nme R Q rs sh cells slots (pc + 3) ls st M) : Z own cc nL rt xt nme R Q rs sh cells slots pc ls (.inl (.int y) :: .inl (.int x) :: st) M := fun p l e s m args below meth c D tc ad A H locs lsA C hP hS hl => lv_icmp_ge C.1 C.2.1 hd ht (fun h => kt h p l e s m args below meth c D tc ad A H locs lsA C hP hS hl) (fun h => kf h p l e s m args below meth c D tc ad A H locs lsA C hP hS hl)
theorem z_icmp_gt {off : Int} {tgt : Nat} {x y : Int32} (hd : decode cc pc = .ok (.if_icmp .gt off, 3)) (ht : (pc : Int) + off = (tgt : Int)) (kt : y < x → Z own cc nL rt xt nme R Q rs sh cells slots tgt ls st M) (kf : ¬ y < x → Z own cc nL rt xt nme R Q rs sh cells slots (pc + 3) ls st M) : Z own cc nL rt xt nme R Q rs sh cells slots pc ls (.inl (.int y) :: .inl (.int x) :: st) M := fun p l e s m args below meth c D tc ad A H locs lsA C hP hS hl => lv_icmp_gt C.1 C.2.1 hd ht (fun h => kt h p l e s m args below meth c D tc ad A H locs lsA C hP hS hl) (fun h => kf h p l e s m args below meth c D tc ad A H locs lsA C hP hS hl)
theorem z_icmp_le {off : Int} {tgt : Nat} {x y : Int32} (hd : decode cc pc = .ok (.if_icmp .le off, 3)) (ht : (pc : Int) + off = (tgt : Int)) (kt : x ≤ y → Z own cc nL rt xt nme R Q rs sh cells slots tgt ls st M) (kf : ¬ x ≤ y → Z own cc nL rt xt nme R Q rs sh cells slots (pc + 3) ls st M) : Z own cc nL rt xt nme R Q rs sh cells slots pc ls (.inl (.int y) :: .inl (.int x) :: st) M := fun p l e s m args below meth c D tc ad A H locs lsA C hP hS hl => lv_icmp_le C.1 C.2.1 hd ht (fun h => kt h p l e s m args below meth c D tc ad A H locs lsA C hP hS hl) (fun h => kf h p l e s m args below meth c D tc ad A H locs lsA C hP hS hl)
theorem z_goto {off : Int} {tgt : Nat} (hd : decode cc pc = .ok (.goto off, 3)) (ht : (pc : Int) + off = (tgt : Int)) (k : Z own cc nL rt xt nme R Q rs sh cells slots tgt ls st M) : Z own cc nL rt xt nme R Q rs sh cells slots pc ls st M := fun p l e s m args below meth c D tc ad A H locs lsA C hP hS hl => lv_goto C.1 C.2.1 hd ht (k p l e s m args below meth c D tc ad A H locs lsA C hP hS hl)
theorem z_tin {dflt lo hi : Int} {offs : Array Int} {len : Nat} {x : Int32} {off : Int} {tgt : Nat} (hd : decode cc pc = .ok (.tableswitch dflt lo hi offs, len)) (h1 : ¬ x.toInt < lo) (h2 : ¬ hi < x.toInt) (ho : offs[(x.toInt - lo).toNat]? = some off) (ht : (pc : Int) + off = (tgt : Int)) (k : Z own cc nL rt xt nme R Q rs sh cells slots tgt ls st M) : Z own cc nL rt xt nme R Q rs sh cells slots pc ls (.inl (.int x) :: st) M := fun p l e s m args below meth c D tc ad A H locs lsA C hP hS hl => lv_tableIn C.1 C.2.1 hd h1 h2 ho ht (k p l e s m args below meth c D tc ad A H locs lsA C hP hS hl)
theorem z_tout {dflt lo hi : Int} {offs : Array Int} {len : Nat} {x : Int32} {tgt : Nat} (hd : decode cc pc = .ok (.tableswitch dflt lo hi offs, len)) (h1 : x.toInt < lo ∨ hi < x.toInt) (ht : (pc : Int) + dflt = (tgt : Int)) (k : Z own cc nL rt xt nme R Q rs sh cells slots tgt ls st M) : Z own cc nL rt xt nme R Q rs sh cells slots pc ls (.inl (.int x) :: st) M := fun p l e s m args below meth c D tc ad A H locs lsA C hP hS hl => lv_tableOut C.1 C.2.1 hd h1 ht (k p l e s m args below meth c D tc ad A H locs lsA C hP hS hl)
theorem z_ldc {idx : Nat} {v : Int32} (hd : decode cc pc = .ok (.ldc idx, 2)) (hw : Cond.constant own idx v ∈ AL) (k : Z own cc nL rt xt nme R Q rs sh cells slots (pc + 2) ls (.inl (.int v) :: st) M) : Z own cc nL rt xt nme R Q rs sh cells slots pc ls st M := fun p l e s m args below meth c D tc ad A H locs lsA C hP hS hl => lv_ldc C.1 C.2.1 C.2.2.2.1 (C.2.2.2.2.1 _ hw) hd (k p l e s m args below meth c D tc ad A H locs lsA C hP hS hl)
theorem z_ldc2 {idx : Nat} {v : Int64} (hd : decode cc pc = .ok (.ldc2_w idx, 3)) (hw : Cond.constantLong own idx v ∈ AL) (k : Z own cc nL rt xt nme R Q rs sh cells slots (pc + 3) ls (.inl (.long v) :: st) M) : Z own cc nL rt xt nme R Q rs sh cells slots pc ls st M := fun p l e s m args below meth c D tc ad A H locs lsA C hP hS hl => lv_ldc2 C.1 C.2.1 C.2.2.2.1 (C.2.2.2.2.1 _ hw) hd (k p l e s m args below meth c D tc ad A H locs lsA C hP hS hl)
theorem z_ldc2d {idx : Nat} {v : UInt64} (hd : decode cc pc = .ok (.ldc2_w idx, 3)) (hw : Cond.constantDouble own idx v ∈ AL) (k : Z own cc nL rt xt nme R Q rs sh cells slots (pc + 3) ls (.inl (.double v) :: st) M) : Z own cc nL rt xt nme R Q rs sh cells slots pc ls st M := fun p l e s m args below meth c D tc ad A H locs lsA C hP hS hl => lv_ldc2d C.1 C.2.1 C.2.2.2.1 (C.2.2.2.2.1 _ hw) hd (k p l e s m args below meth c D tc ad A H locs lsA C hP hS hl)
theorem z_lcmp {x y : Int64} (hd : decode cc pc = .ok (.lcmp, 1)) (k : Z own cc nL rt xt nme R Q rs sh cells slots (pc + 1) ls (.inl (.int (lg_cmp x y)) :: st) M) : Z own cc nL rt xt nme R Q rs sh cells slots pc ls (.inl (.long y) :: .inl (.long x) :: st) M := fun p l e s m args below meth c D tc ad A H locs lsA C hP hS hl => W.lcmp C.1 C.2.1 hd (k p l e s m args below meth c D tc ad A H locs lsA C hP hS hl)
def okF (b : Bool) (r : Rf) (ci j : Nat) : Bool := match kd r with
  | .inl (c, ks) => c == ci && ks[j]? == some b && decide (ci < 13) && decide (j < Nc ci)
  | .inr _ => false
theorem okF_spec {b : Bool} {r : Rf} {ci j : Nat} (h : okF b r ci j = true) : ∃ ks : List Bool, kd r = .inl (ci, ks) ∧ ks[j]? = some b ∧ ci < 13 ∧ j < Nc ci := by
  unfold okF at h
  split at h
  · rename_i c ks hk
    simp only [Bool.and_eq_true, beq_iff_eq, decide_eq_true_eq] at h
    obtain ⟨⟨⟨h1, h2⟩, h3⟩, h4⟩ := h
    subst h1
    exact ⟨ks, hk, h2, h3, h4⟩
  · cases h
theorem ent_o {tc : Nat → ClassId} {ad : Rf → Nat} {sh : Sh} {M : Mm} {r : Rf} {ci : Nat} {ks : List Bool} (h : kd r = .inl (ci, ks)) : ent tc ad sh M r = .inr (ci, fv ad sh M r 0 ks) := by
  unfold ent; rw [h]
theorem z_getI {x : Int32} {ci j idx : Nat} {r : Rf} (hd : decode cc pc = .ok (.getfield idx, 3)) (hw : lkF own idx ci j) (hr : r ∈ rs) (hk : okF false r ci j = true)
    (hx : M.1 r j = x) (k : Z own cc nL rt xt nme R Q rs sh cells slots (pc + 3) ls (.inl (.int x) :: st) M) : Z own cc nL rt xt nme R Q rs sh cells slots pc ls (.inr r :: st) M := by
  subst hx
  intro p l e s m args below meth c D tc ad A H locs lsA C hP hS hl
  obtain ⟨ks, h1, h2, h3, h4⟩ := okF_spec hk
  obtain ⟨q, -, hq⟩ := wl_at (tc := tc) (ad := ad) (sh := sh) (M := M) hr
  have hv := fv_get (ad := ad) (sh := sh) (M := M) (r := r) ks 0 j false h2
  rw [Nat.zero_add] at hv
  rw [ent_o h1] at hq
  exact va_get (C := Rc ci) (T := Tc ci) (N := Nc ci) C.1 C.2.1 C.2.2.2.2.1 (inC ci h3) C.2.2.2.1 C.2.2.2.2.2.2.2.2.2.1 hP q hq (clC ci h3) j h4 (C.2.2.2.2.1 _ hw) (fun _ h => h) hv hd (k p l e s m args below meth c D tc ad A H locs lsA C hP hS hl)
theorem z_getR {ci j idx : Nat} {r r' : Rf} (hd : decode cc pc = .ok (.getfield idx, 3)) (hw : lkF own idx ci j) (hr : r ∈ rs) (hk : okF true r ci j = true) (hs : sh r j = some r')
    (k : Z own cc nL rt xt nme R Q rs sh cells slots (pc + 3) ls (.inr r' :: st) M) : Z own cc nL rt xt nme R Q rs sh cells slots pc ls (.inr r :: st) M := by
  intro p l e s m args below meth c D tc ad A H locs lsA C hP hS hl
  obtain ⟨ks, h1, h2, h3, h4⟩ := okF_spec hk
  obtain ⟨q, -, hq⟩ := wl_at (tc := tc) (ad := ad) (sh := sh) (M := M) hr
  have hv := fv_get (ad := ad) (sh := sh) (M := M) (r := r) ks 0 j true h2
  rw [Nat.zero_add, hs] at hv
  rw [ent_o h1] at hq
  exact va_get (C := Rc ci) (T := Tc ci) (N := Nc ci) C.1 C.2.1 C.2.2.2.2.1 (inC ci h3) C.2.2.2.1 C.2.2.2.2.2.2.2.2.2.1 hP q hq (clC ci h3) j h4 (C.2.2.2.2.1 _ hw) (fun _ h => h) hv hd (k p l e s m args below meth c D tc ad A H locs lsA C hP hS hl)
theorem z_putX {ci j idx : Nat} {r : Rf} {v : Int32} (hn : rs.Nodup) (hd : decode cc pc = .ok (.putfield idx, 3)) (hw : lkF own idx ci j) (hr : r ∈ rs) (hk : okF false r ci j = true) (hf : (Tc ci j).2.2.2 = false) (hv1 : narrow (tyc ci j) (.int v) = .int v) (hv2 : fits (tyc ci j) (.int v) = true)
    (k : Z own cc nL rt xt nme R Q rs sh cells slots (pc + 3) ls st (putI M r j v)) : Z own cc nL rt xt nme R Q rs sh cells slots pc ls (.inl (.int v) :: .inr r :: st) M := by
  intro p l e s m args below meth c D tc ad A H locs lsA C hP hS hl
  obtain ⟨ks, h1, h2, h3, h4⟩ := okF_spec hk
  obtain ⟨q, hq0, hq⟩ := wl_at (tc := tc) (ad := ad) (sh := sh) (M := M) hr
  have hvs := fv_put (ad := ad) (sh := sh) (M := M) (r := r) (v := v) ks 0 j (Nat.zero_add j) h2
  have hq2 := hq
  rw [ent_o h1] at hq
  refine va_put (C := Rc ci) (T := Tc ci) (N := Nc ci) (ty := tyc ci j) C.1 C.2.1 C.2.2.2.2.1 (inC ci h3) (tyc ci) (tyC ci h3) (nmC ci h3) C.2.2.2.1 C.2.2.2.2.2.2.2.2.2.1 hP (Wd.D hn C sh M) hS q hq (clC ci h3) j h4 (C.2.2.2.2.1 _ hw) (fun _ h => h) hf (tyC ci h3 j h4) hv1 hv2 (by rw [fv_len]; exact (List.getElem?_eq_some_iff.mp h2).1) hd (fun H1 locs1 hP1 _ hS1 => ?_)
  have hP1 : va_P D vwCl (List.set (wl tc ad sh M rs) q (ad r, .inr (ci, (fv ad sh M r 0 ks).set j (.int v)))) H1 := hP1
  rw [hvs] at hP1
  rw [wl_set (M := M) (M' := putI M r j v) hn hq0 (ent_o h1) (fun r' h => ent_other (putI_ne h) rfl)] at hP1
  exact k p l e s m args below meth c D tc ad A H1 locs1 lsA C hP1 hS1 hl
theorem z_putI {ci j idx : Nat} {r : Rf} {v : Int32} (hn : rs.Nodup) (hd : decode cc pc = .ok (.putfield idx, 3)) (hw : lkF own idx ci j) (hr : r ∈ rs) (hk : okF false r ci j = true) (hf : ((Tc ci j).2.2.2 == false && tyc ci j == .int) = true)
    (k : Z own cc nL rt xt nme R Q rs sh cells slots (pc + 3) ls st (putI M r j v)) : Z own cc nL rt xt nme R Q rs sh cells slots pc ls (.inl (.int v) :: .inr r :: st) M := by
  simp only [Bool.and_eq_true, beq_iff_eq] at hf
  exact z_putX hn hd hw hr hk hf.1 (by rw [hf.2]; rfl) (by rw [hf.2]; rfl) k
theorem z_iald {x : Int32} {n : Nat} {r : Rf} {i : Int32} (hd : decode cc pc = .ok (.iaload, 1)) (hr : r ∈ rs) (hk : kd r = .inr (0, n)) (hin : ¬ (i < 0 ∨ n ≤ i.toNatClampNeg))
    (hx : M.1 r i.toNatClampNeg = x) (k : Z own cc nL rt xt nme R Q rs sh cells slots (pc + 1) ls (.inl (.int x) :: st) M) : Z own cc nL rt xt nme R Q rs sh cells slots pc ls (.inl (.int i) :: .inr r :: st) M := by
  subst hx
  intro p l e s m args below meth c D tc ad A H locs lsA C hP hS hl
  obtain ⟨q, -, hq⟩ := wl_at (tc := tc) (ad := ad) (sh := sh) (M := M) hr
  rw [show ent tc ad sh M r = .inl (tc 0, n, .inl (M.1 r)) by unfold ent; rw [hk]] at hq
  exact va_iald C.1 C.2.1 C.2.2.2.2.2.2.2.2.2.1 hP q 0 hq rfl hin hd (k p l e s m args below meth c D tc ad A H locs lsA C hP hS hl)
theorem z_zald {x : Int32} {n : Nat} {r : Rf} {i : Int32} (hd : decode cc pc = .ok (.baload, 1)) (hr : r ∈ rs) (hk : kd r = .inr (1, n)) (hin : ¬ (i < 0 ∨ n ≤ i.toNatClampNeg))
    (hx : M.1 r i.toNatClampNeg = x) (k : Z own cc nL rt xt nme R Q rs sh cells slots (pc + 1) ls (.inl (.int x) :: st) M) : Z own cc nL rt xt nme R Q rs sh cells slots pc ls (.inl (.int i) :: .inr r :: st) M := by
  subst hx
  intro p l e s m args below meth c D tc ad A H locs lsA C hP hS hl
  obtain ⟨q, -, hq⟩ := wl_at (tc := tc) (ad := ad) (sh := sh) (M := M) hr
  rw [show ent tc ad sh M r = .inl (tc 1, n, .inl (M.1 r)) by unfold ent; rw [hk]] at hq
  exact va_zald C.1 C.2.1 C.2.2.2.2.2.2.2.2.2.1 hP q 1 hq rfl hin hd (k p l e s m args below meth c D tc ad A H locs lsA C hP hS hl)
theorem z_lald {x : Int64} {n : Nat} {r : Rf} {i : Int32} (hd : decode cc pc = .ok (.laload, 1)) (hr : r ∈ rs) (hk : kd r = .inr (2, n)) (hin : ¬ (i < 0 ∨ n ≤ i.toNatClampNeg))
    (hx : M.2 r i.toNatClampNeg = x) (k : Z own cc nL rt xt nme R Q rs sh cells slots (pc + 1) ls (.inl (.long x) :: st) M) : Z own cc nL rt xt nme R Q rs sh cells slots pc ls (.inl (.int i) :: .inr r :: st) M := by
  subst hx
  intro p l e s m args below meth c D tc ad A H locs lsA C hP hS hl
  obtain ⟨q, -, hq⟩ := wl_at (tc := tc) (ad := ad) (sh := sh) (M := M) hr
  rw [show ent tc ad sh M r = .inl (tc 2, n, .inr (.inl (M.2 r))) by unfold ent; rw [hk]] at hq
  exact va_lald C.1 C.2.1 C.2.2.2.2.2.2.2.2.2.1 hP q 2 hq rfl hin hd (k p l e s m args below meth c D tc ad A H locs lsA C hP hS hl)
theorem z_aald {n t : Nat} {r r' : Rf} {i : Int32} (hd : decode cc pc = .ok (.aaload, 1)) (hr : r ∈ rs) (hk : kd r = .inr (t + 4, n)) (ht : t < 2) (hin : ¬ (i < 0 ∨ n ≤ i.toNatClampNeg)) (hs : sh r i.toNatClampNeg = some r')
    (k : Z own cc nL rt xt nme R Q rs sh cells slots (pc + 1) ls (.inr r' :: st) M) : Z own cc nL rt xt nme R Q rs sh cells slots pc ls (.inl (.int i) :: .inr r :: st) M := by
  intro p l e s m args below meth c D tc ad A H locs lsA C hP hS hl
  obtain ⟨q, -, hq⟩ := wl_at (tc := tc) (ad := ad) (sh := sh) (M := M) hr
  rw [show ent tc ad sh M r = .inl (tc (t + 4), n, .inr (.inr (.inr (.inr (fun j => if j < n then (sh r j).map ad else none))))) by unfold ent; rw [hk]] at hq
  have ht2 : ∃ C0 : String, (tys tc)[t + 4]? = some (tc (t + 4), .object C0) := by
    match t, ht with
    | 0, _ => exact ⟨_, rfl⟩
    | 1, _ => exact ⟨_, rfl⟩
  obtain ⟨C0, ht2⟩ := ht2
  refine va_aldq C.1 C.2.1 C.2.2.2.2.2.2.2.2.2.1 hP q (t + 4) hq ht2 hin hd ?_
  rw [if_pos (Nat.lt_of_not_le fun h2 => hin (Or.inr h2)), hs]
  exact k p l e s m args below meth c D tc ad A H locs lsA C hP hS hl
theorem z_alen {n t : Nat} {r : Rf} {v : Int32} (hd : decode cc pc = .ok (.arraylength, 1)) (hr : r ∈ rs) (hk : kd r = .inr (t, n)) (ht : t < 3) (hv : Int32.ofNat n = v)
    (k : Z own cc nL rt xt nme R Q rs sh cells slots (pc + 1) ls (.inl (.int v) :: st) M) : Z own cc nL rt xt nme R Q rs sh cells slots pc ls (.inr r :: st) M := by
  intro p l e s m args below meth c D tc ad A H locs lsA C hP hS hl
  obtain ⟨q, -, hq⟩ := wl_at (tc := tc) (ad := ad) (sh := sh) (M := M) hr
  have h1 : ∃ x : (Nat → Int32) ⊕ (Nat → Int64) ⊕ (Nat → UInt32) ⊕ (Nat → UInt64) ⊕ (Nat → Option Nat), ent tc ad sh M r = .inl (tc t, n, x) := by
    unfold ent
    rw [hk]
    match t, ht with
    | 0, _ => exact ⟨_, rfl⟩
    | 1, _ => exact ⟨_, rfl⟩
    | 2, _ => exact ⟨_, rfl⟩
  have h2 : ∃ ty : FieldType, (tys tc)[t]? = some (tc t, ty) := by
    match t, ht with
    | 0, _ => exact ⟨_, rfl⟩
    | 1, _ => exact ⟨_, rfl⟩
    | 2, _ => exact ⟨_, rfl⟩
  obtain ⟨x, hx⟩ := h1
  obtain ⟨ty, hty⟩ := h2
  rw [hx] at hq
  exact va_alen C.1 C.2.1 C.2.2.2.2.2.2.2.2.2.1 hP q t hq hty hv hd (k p l e s m args below meth c D tc ad A H locs lsA C hP hS hl)
theorem upd_put {M : Mm} {r : Rf} {j : Nat} {v : Int32} : upd (M.1 r) j v = (putI M r j v).1 r := by
  funext q
  by_cases h : q = j <;> simp [upd, putI, h]
theorem updL_put {M : Mm} {r : Rf} {j : Nat} {v : Int64} : vp_updL (M.2 r) j v = (putL M r j v).2 r := by
  funext q
  by_cases h : q = j <;> simp [vp_updL, putL, h]
theorem z_iast {n j : Nat} {r : Rf} {i v : Int32} (hn : rs.Nodup) (hd : decode cc pc = .ok (.iastore, 1)) (hr : r ∈ rs) (hk : kd r = .inr (0, n)) (hin : ¬ (i < 0 ∨ n ≤ i.toNatClampNeg)) (hj : i.toNatClampNeg = j)
    (k : Z own cc nL rt xt nme R Q rs sh cells slots (pc + 1) ls st (putI M r j v)) : Z own cc nL rt xt nme R Q rs sh cells slots pc ls (.inl (.int v) :: .inl (.int i) :: .inr r :: st) M := by
  subst hj
  intro p l e s m args below meth c D tc ad A H locs lsA C hP hS hl
  obtain ⟨q, hq0, hq⟩ := wl_at (tc := tc) (ad := ad) (sh := sh) (M := M) hr
  have he : ∀ M : Mm, ent tc ad sh M r = .inl (tc 0, n, .inl (M.1 r)) := fun M => by unfold ent; rw [hk]
  rw [he] at hq
  refine va_iast C.1 C.2.1 C.2.2.2.2.2.2.2.2.2.1 hP (Wd.D hn C sh M) hS q 0 hq rfl hin hd (fun H1 locs1 hP1 _ hS1 => ?_)
  rw [upd_put, wl_set (M := M) (M' := putI M r i.toNatClampNeg v) hn hq0 (he _) (fun r' h => ent_other (putI_ne h) rfl)] at hP1
  exact k p l e s m args below meth c D tc ad A H1 locs1 lsA C hP1 hS1 hl
theorem z_zast {n j : Nat} {r : Rf} {i v : Int32} (hn : rs.Nodup) (hd : decode cc pc = .ok (.bastore, 1)) (hr : r ∈ rs) (hk : kd r = .inr (1, n)) (hin : ¬ (i < 0 ∨ n ≤ i.toNatClampNeg)) (hj : i.toNatClampNeg = j) (hv : vp_nar .boolean v = v)
    (k : Z own cc nL rt xt nme R Q rs sh cells slots (pc + 1) ls st (putI M r j v)) : Z own cc nL rt xt nme R Q rs sh cells slots pc ls (.inl (.int v) :: .inl (.int i) :: .inr r :: st) M := by
  subst hj
  intro p l e s m args below meth c D tc ad A H locs lsA C hP hS hl
  obtain ⟨q, hq0, hq⟩ := wl_at (tc := tc) (ad := ad) (sh := sh) (M := M) hr
  have he : ∀ M : Mm, ent tc ad sh M r = .inl (tc 1, n, .inl (M.1 r)) := fun M => by unfold ent; rw [hk]
  rw [he] at hq
  refine va_zast C.1 C.2.1 C.2.2.2.2.2.2.2.2.2.1 hP (Wd.D hn C sh M) hS q 1 hq rfl hin hd (fun H1 locs1 hP1 _ hS1 => ?_)
  rw [hv, upd_put, wl_set (M := M) (M' := putI M r i.toNatClampNeg v) hn hq0 (he _) (fun r' h => ent_other (putI_ne h) rfl)] at hP1
  exact k p l e s m args below meth c D tc ad A H1 locs1 lsA C hP1 hS1 hl
theorem z_last {n j : Nat} {r : Rf} {i : Int32} {v : Int64} (hn : rs.Nodup) (hd : decode cc pc = .ok (.lastore, 1)) (hr : r ∈ rs) (hk : kd r = .inr (2, n)) (hin : ¬ (i < 0 ∨ n ≤ i.toNatClampNeg)) (hj : i.toNatClampNeg = j)
    (k : Z own cc nL rt xt nme R Q rs sh cells slots (pc + 1) ls st (putL M r j v)) : Z own cc nL rt xt nme R Q rs sh cells slots pc ls (.inl (.long v) :: .inl (.int i) :: .inr r :: st) M := by
  subst hj
  intro p l e s m args below meth c D tc ad A H locs lsA C hP hS hl
  obtain ⟨q, hq0, hq⟩ := wl_at (tc := tc) (ad := ad) (sh := sh) (M := M) hr
  have he : ∀ M : Mm, ent tc ad sh M r = .inl (tc 2, n, .inr (.inl (M.2 r))) := fun M => by unfold ent; rw [hk]
  rw [he] at hq
  refine va_last C.1 C.2.1 C.2.2.2.2.2.2.2.2.2.1 hP (Wd.D hn C sh M) hS q 2 hq rfl hin hd (fun H1 locs1 hP1 _ hS1 => ?_)
  rw [updL_put, wl_set (M := M) (M' := putL M r i.toNatClampNeg v) hn hq0 (he _) (fun r' h => ent_other rfl (putL_ne h))] at hP1
  exact k p l e s m args below meth c D tc ad A H1 locs1 lsA C hP1 hS1 hl
theorem z_ldcS {idx j : Nat} {tx : String} (hd : decode cc pc = .ok (.ldc idx, 2)) (hw : (own, idx, tx, j) ∈ stt) (k : Z own cc nL rt xt nme R Q rs sh cells slots (pc + 2) ls (.inr (30, j, 0) :: st) M) : Z own cc nL rt xt nme R Q rs sh cells slots pc ls st M := fun p l e s m args below meth c D tc ad A H locs lsA C hP hS hl =>
  va_ldcS C.1 C.2.1 C.2.2.2.1 (C.2.2.2.2.2.2.2.2.2.2.2.1.2.1 _ hw) hd (k p l e s m args below meth c D tc ad A H locs lsA C hP hS hl)

theorem z_getIG {x : Int32} {ci j idx : Nat} {r : Rf} (hd : decode cc pc = .ok (.getfield idx, 3)) (hw : lkG own idx ci j) (hr : r ∈ rs) (hk : okF false r ci j = true)
    (hx : M.1 r j = x) (k : Z own cc nL rt xt nme R Q rs sh cells slots (pc + 3) ls (.inl (.int x) :: st) M) : Z own cc nL rt xt nme R Q rs sh cells slots pc ls (.inr r :: st) M := by
  subst hx
  intro p l e s m args below meth c D tc ad A H locs lsA C hP hS hl
  obtain ⟨ks, h1, h2, h3, h4⟩ := okF_spec hk
  obtain ⟨q, -, hq⟩ := wl_at (tc := tc) (ad := ad) (sh := sh) (M := M) hr
  have hv := fv_get (ad := ad) (sh := sh) (M := M) (r := r) ks 0 j false h2
  rw [Nat.zero_add] at hv
  rw [ent_o h1] at hq
  exact va_getN (host := RL) (C := Rc ci) (T := Tc ci) (N := Nc ci) C.1 C.2.1 C.2.2.2.2.1 (inC ci h3) C.2.2.2.1 C.2.2.2.2.2.2.2.2.2.1 hP q hq (clC ci h3) j h4 (va_Nw.use rfl (C.2.2.2.2.2.2.2.2.2.2.2.1.2.2.2.2 _ (fns_in _ hw))) (fun _ h => h) hv hd (k p l e s m args below meth c D tc ad A H locs lsA C hP hS hl)
theorem z_getRG {ci j idx : Nat} {r r' : Rf} (hd : decode cc pc = .ok (.getfield idx, 3)) (hw : lkG own idx ci j) (hr : r ∈ rs) (hk : okF true r ci j = true) (hs : sh r j = some r')
    (k : Z own cc nL rt xt nme R Q rs sh cells slots (pc + 3) ls (.inr r' :: st) M) : Z own cc nL rt xt nme R Q rs sh cells slots pc ls (.inr r :: st) M := by
  intro p l e s m args below meth c D tc ad A H locs lsA C hP hS hl
  obtain ⟨ks, h1, h2, h3, h4⟩ := okF_spec hk
  obtain ⟨q, -, hq⟩ := wl_at (tc := tc) (ad := ad) (sh := sh) (M := M) hr
  have hv := fv_get (ad := ad) (sh := sh) (M := M) (r := r) ks 0 j true h2
  rw [Nat.zero_add, hs] at hv
  rw [ent_o h1] at hq
  exact va_getN (host := RL) (C := Rc ci) (T := Tc ci) (N := Nc ci) C.1 C.2.1 C.2.2.2.2.1 (inC ci h3) C.2.2.2.1 C.2.2.2.2.2.2.2.2.2.1 hP q hq (clC ci h3) j h4 (va_Nw.use rfl (C.2.2.2.2.2.2.2.2.2.2.2.1.2.2.2.2 _ (fns_in _ hw))) (fun _ h => h) hv hd (k p l e s m args below meth c D tc ad A H locs lsA C hP hS hl)
theorem z_putIG {ci j idx : Nat} {r : Rf} {v : Int32} (hn : rs.Nodup) (hd : decode cc pc = .ok (.putfield idx, 3)) (hw : lkG own idx ci j) (hr : r ∈ rs) (hk : okF false r ci j = true) (hf : ((Tc ci j).2.2.2 == false && tyc ci j == .int) = true)
    (k : Z own cc nL rt xt nme R Q rs sh cells slots (pc + 3) ls st (putI M r j v)) : Z own cc nL rt xt nme R Q rs sh cells slots pc ls (.inl (.int v) :: .inr r :: st) M := by
  simp only [Bool.and_eq_true, beq_iff_eq] at hf
  intro p l e s m args below meth c D tc ad A H locs lsA C hP hS hl
  obtain ⟨ks, h1, h2, h3, h4⟩ := okF_spec hk
  obtain ⟨q, hq0, hq⟩ := wl_at (tc := tc) (ad := ad) (sh := sh) (M := M) hr
  have hvs := fv_put (ad := ad) (sh := sh) (M := M) (r := r) (v := v) ks 0 j (Nat.zero_add j) h2
  rw [ent_o h1] at hq
  refine va_putN (host := RL) (C := Rc ci) (T := Tc ci) (N := Nc ci) (ty := tyc ci j) C.1 C.2.1 C.2.2.2.2.1 (inC ci h3) (tyc ci) (tyC ci h3) (nmC ci h3) C.2.2.2.1 C.2.2.2.2.2.2.2.2.2.1 hP (Wd.D hn C sh M) hS q hq (clC ci h3) j h4 (va_Nw.use rfl (C.2.2.2.2.2.2.2.2.2.2.2.1.2.2.2.2 _ (fns_in _ hw))) (fun _ h => h) hf.1 (tyC ci h3 j h4) (by rw [hf.2]; rfl) (by rw [hf.2]; rfl) (by rw [fv_len]; exact (List.getElem?_eq_some_iff.mp h2).1) hd (fun H1 locs1 hP1 _ hS1 => ?_)
  have hP1 : va_P D vwCl (List.set (wl tc ad sh M rs) q (ad r, .inr (ci, (fv ad sh M r 0 ks).set j (.int v)))) H1 := hP1
  rw [hvs] at hP1
  rw [wl_set (M := M) (M' := putI M r j v) hn hq0 (ent_o h1) (fun r' h => ent_other (putI_ne h) rfl)] at hP1
  exact k p l e s m args below meth c D tc ad A H1 locs1 lsA C hP1 hS1 hl
/-- rows of bytes: their length is kept in the model -/
theorem ent_b {tc : Nat → ClassId} {ad : Rf → Nat} {sh : Sh} {M : Mm} {r : Rf} (h : kd r = .inr (3, 0)) : ent tc ad sh M r = .inl (tc 3, (M.1 r LG).toNatClampNeg, .inl (M.1 r)) := by
  unfold ent; rw [h]
theorem z_bald {x : Int32} {r : Rf} {i : Int32} (hd : decode cc pc = .ok (.baload, 1)) (hr : r ∈ rs) (hk : kd r = .inr (3, 0)) (hin : ¬ (i < 0 ∨ (M.1 r LG).toNatClampNeg ≤ i.toNatClampNeg))
    (hx : M.1 r i.toNatClampNeg = x) (k : Z own cc nL rt xt nme R Q rs sh cells slots (pc + 1) ls (.inl (.int x) :: st) M) : Z own cc nL rt xt nme R Q rs sh cells slots pc ls (.inl (.int i) :: .inr r :: st) M := by
  subst hx
  intro p l e s m args below meth c D tc ad A H locs lsA C hP hS hl
  obtain ⟨q, -, hq⟩ := wl_at (tc := tc) (ad := ad) (sh := sh) (M := M) hr
  rw [ent_b hk] at hq
  exact va_bald C.1 C.2.1 C.2.2.2.2.2.2.2.2.2.1 hP q 3 hq rfl hin hd (k p l e s m args below meth c D tc ad A H locs lsA C hP hS hl)
theorem z_bast {j : Nat} {r : Rf} {i v : Int32} (hn : rs.Nodup) (hd : decode cc pc = .ok (.bastore, 1)) (hr : r ∈ rs) (hk : kd r = .inr (3, 0)) (hin : ¬ (i < 0 ∨ (M.1 r LG).toNatClampNeg ≤ i.toNatClampNeg)) (hL : (M.1 r LG).toNatClampNeg ≤ LG) (hj : i.toNatClampNeg = j) (hv : vp_nar .byte v = v)
    (k : Z own cc nL rt xt nme R Q rs sh cells slots (pc + 1) ls st (putI M r j v)) : Z own cc nL rt xt nme R Q rs sh cells slots pc ls (.inl (.int v) :: .inl (.int i) :: .inr r :: st) M := by
  subst hj
  intro p l e s m args below meth c D tc ad A H locs lsA C hP hS hl
  obtain ⟨q, hq0, hq⟩ := wl_at (tc := tc) (ad := ad) (sh := sh) (M := M) hr
  rw [ent_b hk] at hq
  have hne : ¬ LG = i.toNatClampNeg := fun h => hin (Or.inr (by omega))
  have e1 : (putI M r i.toNatClampNeg v).1 r LG = M.1 r LG := by simp [putI, hne]
  refine va_bast C.1 C.2.1 C.2.2.2.2.2.2.2.2.2.1 hP (Wd.D hn C sh M) hS q 3 hq rfl hin hd (fun H1 locs1 hP1 _ hS1 => ?_)
  rw [hv, upd_put, wl_set (M := M) (M' := putI M r i.toNatClampNeg v) hn hq0 (by rw [ent_b hk, e1]) (fun r' h => ent_other (putI_ne h) rfl)] at hP1
  exact k p l e s m args below meth c D tc ad A H1 locs1 lsA C hP1 hS1 hl
theorem z_alenB {r : Rf} (hd : decode cc pc = .ok (.arraylength, 1)) (hr : r ∈ rs) (hk : kd r = .inr (3, 0)) (h0 : 0 ≤ M.1 r LG)
    (k : Z own cc nL rt xt nme R Q rs sh cells slots (pc + 1) ls (.inl (.int (M.1 r LG)) :: st) M) : Z own cc nL rt xt nme R Q rs sh cells slots pc ls (.inr r :: st) M := by
  intro p l e s m args below meth c D tc ad A H locs lsA C hP hS hl
  obtain ⟨q, -, hq⟩ := wl_at (tc := tc) (ad := ad) (sh := sh) (M := M) hr
  rw [ent_b hk] at hq
  refine va_alen C.1 C.2.1 C.2.2.2.2.2.2.2.2.2.1 hP q 3 hq (ty := .byte) rfl (v := M.1 r LG) ?_ hd (k p l e s m args below meth c D tc ad A H locs lsA C hP hS hl)
  obtain ⟨n, hn, e⟩ := nI_of (Int32.not_lt.mpr h0)
  show Int32.ofNat (M.1 r LG).toNatClampNeg = M.1 r LG
  rw [e, nI_clamp hn]
  rfl

theorem z_ldcwS {idx j : Nat} {tx : String} (hd : decode cc pc = .ok (.ldc_w idx, 3)) (hw : (own, idx, tx, j) ∈ stt) (k : Z own cc nL rt xt nme R Q rs sh cells slots (pc + 3) ls (.inr (30, j, 0) :: st) M) : Z own cc nL rt xt nme R Q rs sh cells slots pc ls st M := by
  intro p l e s m args below meth c D tc ad A H locs lsA C hP hS hl
  have hZ := C.2.2.2.2.2.2.2.2.2.2.2.1.2.1 _ hw
  intro T hT X
  obtain ⟨t, a1, b1⟩ := k p l e s m args below meth c D tc ad A H locs lsA C hP hS hl T hT X
  exact ⟨t, X.ldcStringW C.1 C.2.2.2.1 (text := tx) (a := ad (30, j, 0)) hZ.1 hZ.2 (g := F0 m pc lsA (st.map (rv ad))) rfl (by rw [C.2.1]; exact hd) t a1, b1⟩

end ZR
