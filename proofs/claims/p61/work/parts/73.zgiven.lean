/-! the start: the Statement's conditions by their places -/
def subC : Cond → List Bool → Cond
  | c, [] => c
  | c, false :: q => match c with
    | .and a _ => subC a q
    | _ => c
  | c, true :: q => match c with
    | .and _ b => subC b q
    | _ => c
theorem subC_b {args : Array Value} {s : State} : ∀ (p : List Bool) (c : Cond), c.before args s = true → (subC c p).before args s = true := by
  intro p
  induction p with
  | nil => intro c h; unfold subC; exact h
  | cons b q ih =>
    intro c h
    cases b with
    | false =>
      unfold subC
      split
      · rename_i a b
        rw [Cond.before_and, Bool.and_eq_true] at h
        exact ih _ h.1
      · exact h
    | true =>
      unfold subC
      split
      · rename_i a b
        rw [Cond.before_and, Bool.and_eq_true] at h
        exact ih _ h.2
      · exact h
def pth : Nat → Nat → Nat → List Bool
  | 0, _, _ => []
  | f + 1, n, i => if n ≤ 1 then [] else if i < n / 2 then false :: pth f (n / 2) i else true :: pth f (n - n / 2) (i - n / 2)
theorem nar {args : Array Value} {s : State} (h : narrow_1.before args s = true) (i : Nat) {w : Cond} (e : subC narrow_1 (pth 11 741 i) = w) : w.before args s = true := e ▸ subC_b _ _ h
def trm : Nat → Term := fun j => match j with
  | 0 => .string RX9 80
  | 1 => .string RX6 48
  | 2 => .string RX6 31
  | 3 => .string RX6 37
  | 4 => .string RX9 365
  | 5 => .string RX9 368
  | 6 => .string RX9 370
  | 7 => .string RL 132
  | 8 => .string RL 134
  | 9 => .string RL 139
  | 10 => .string RX9 199
  | 11 => .string RL 336
  | 12 => .string RL 344
  | 13 => .string RL 346
  | _ => .string RX9 107
theorem sn_0 : (subC narrow_1 (pth 11 741 266) = Cond.exactly (trm 0) "java/lang/String" ∧ subC narrow_1 (pth 11 741 267) = Cond.eq (.field (trm 0) "java/lang/String" "coder" "B") (.int 0) ∧ subC narrow_1 (pth 11 741 268) = Cond.arrayOf (.field (trm 0) "java/lang/String" "value" "[B") .byte ∧ subC narrow_1 (pth 11 741 269) = Cond.eq (.length (.field (trm 0) "java/lang/String" "value" "[B")) (.int (Int32.ofNat (sby 0).length))) ∧ ∀ i, i < (sby 0).length → subC narrow_1 (pth 11 741 (270 + i)) = Cond.eq (.elem (.field (trm 0) "java/lang/String" "value" "[B") (.int (Int32.ofNat i))) (.int ((sby 0).getD i 0)) := by decide +kernel
theorem sn_1 : (subC narrow_1 (pth 11 741 393) = Cond.exactly (trm 1) "java/lang/String" ∧ subC narrow_1 (pth 11 741 394) = Cond.eq (.field (trm 1) "java/lang/String" "coder" "B") (.int 0) ∧ subC narrow_1 (pth 11 741 395) = Cond.arrayOf (.field (trm 1) "java/lang/String" "value" "[B") .byte ∧ subC narrow_1 (pth 11 741 396) = Cond.eq (.length (.field (trm 1) "java/lang/String" "value" "[B")) (.int (Int32.ofNat (sby 1).length))) ∧ ∀ i, i < (sby 1).length → subC narrow_1 (pth 11 741 (397 + i)) = Cond.eq (.elem (.field (trm 1) "java/lang/String" "value" "[B") (.int (Int32.ofNat i))) (.int ((sby 1).getD i 0)) := by decide +kernel
theorem sn_2 : (subC narrow_1 (pth 11 741 401) = Cond.exactly (trm 2) "java/lang/String" ∧ subC narrow_1 (pth 11 741 402) = Cond.eq (.field (trm 2) "java/lang/String" "coder" "B") (.int 0) ∧ subC narrow_1 (pth 11 741 403) = Cond.arrayOf (.field (trm 2) "java/lang/String" "value" "[B") .byte ∧ subC narrow_1 (pth 11 741 404) = Cond.eq (.length (.field (trm 2) "java/lang/String" "value" "[B")) (.int (Int32.ofNat (sby 2).length))) ∧ ∀ i, i < (sby 2).length → subC narrow_1 (pth 11 741 (405 + i)) = Cond.eq (.elem (.field (trm 2) "java/lang/String" "value" "[B") (.int (Int32.ofNat i))) (.int ((sby 2).getD i 0)) := by decide +kernel
theorem sn_3 : (subC narrow_1 (pth 11 741 412) = Cond.exactly (trm 3) "java/lang/String" ∧ subC narrow_1 (pth 11 741 413) = Cond.eq (.field (trm 3) "java/lang/String" "coder" "B") (.int 0) ∧ subC narrow_1 (pth 11 741 414) = Cond.arrayOf (.field (trm 3) "java/lang/String" "value" "[B") .byte ∧ subC narrow_1 (pth 11 741 415) = Cond.eq (.length (.field (trm 3) "java/lang/String" "value" "[B")) (.int (Int32.ofNat (sby 3).length))) ∧ ∀ i, i < (sby 3).length → subC narrow_1 (pth 11 741 (416 + i)) = Cond.eq (.elem (.field (trm 3) "java/lang/String" "value" "[B") (.int (Int32.ofNat i))) (.int ((sby 3).getD i 0)) := by decide +kernel
theorem sn_4 : (subC narrow_1 (pth 11 741 422) = Cond.exactly (trm 4) "java/lang/String" ∧ subC narrow_1 (pth 11 741 423) = Cond.eq (.field (trm 4) "java/lang/String" "coder" "B") (.int 0) ∧ subC narrow_1 (pth 11 741 424) = Cond.arrayOf (.field (trm 4) "java/lang/String" "value" "[B") .byte ∧ subC narrow_1 (pth 11 741 425) = Cond.eq (.length (.field (trm 4) "java/lang/String" "value" "[B")) (.int (Int32.ofNat (sby 4).length))) ∧ ∀ i, i < (sby 4).length → subC narrow_1 (pth 11 741 (426 + i)) = Cond.eq (.elem (.field (trm 4) "java/lang/String" "value" "[B") (.int (Int32.ofNat i))) (.int ((sby 4).getD i 0)) := by decide +kernel
theorem sn_5 : (subC narrow_1 (pth 11 741 472) = Cond.exactly (trm 5) "java/lang/String" ∧ subC narrow_1 (pth 11 741 473) = Cond.eq (.field (trm 5) "java/lang/String" "coder" "B") (.int 0) ∧ subC narrow_1 (pth 11 741 474) = Cond.arrayOf (.field (trm 5) "java/lang/String" "value" "[B") .byte ∧ subC narrow_1 (pth 11 741 475) = Cond.eq (.length (.field (trm 5) "java/lang/String" "value" "[B")) (.int (Int32.ofNat (sby 5).length))) ∧ ∀ i, i < (sby 5).length → subC narrow_1 (pth 11 741 (476 + i)) = Cond.eq (.elem (.field (trm 5) "java/lang/String" "value" "[B") (.int (Int32.ofNat i))) (.int ((sby 5).getD i 0)) := by decide +kernel
theorem sn_6 : (subC narrow_1 (pth 11 741 508) = Cond.exactly (trm 6) "java/lang/String" ∧ subC narrow_1 (pth 11 741 509) = Cond.eq (.field (trm 6) "java/lang/String" "coder" "B") (.int 0) ∧ subC narrow_1 (pth 11 741 510) = Cond.arrayOf (.field (trm 6) "java/lang/String" "value" "[B") .byte ∧ subC narrow_1 (pth 11 741 511) = Cond.eq (.length (.field (trm 6) "java/lang/String" "value" "[B")) (.int (Int32.ofNat (sby 6).length))) ∧ ∀ i, i < (sby 6).length → subC narrow_1 (pth 11 741 (512 + i)) = Cond.eq (.elem (.field (trm 6) "java/lang/String" "value" "[B") (.int (Int32.ofNat i))) (.int ((sby 6).getD i 0)) := by decide +kernel
theorem sn_7 : (subC narrow_1 (pth 11 741 544) = Cond.exactly (trm 7) "java/lang/String" ∧ subC narrow_1 (pth 11 741 545) = Cond.eq (.field (trm 7) "java/lang/String" "coder" "B") (.int 0) ∧ subC narrow_1 (pth 11 741 546) = Cond.arrayOf (.field (trm 7) "java/lang/String" "value" "[B") .byte ∧ subC narrow_1 (pth 11 741 547) = Cond.eq (.length (.field (trm 7) "java/lang/String" "value" "[B")) (.int (Int32.ofNat (sby 7).length))) ∧ ∀ i, i < (sby 7).length → subC narrow_1 (pth 11 741 (548 + i)) = Cond.eq (.elem (.field (trm 7) "java/lang/String" "value" "[B") (.int (Int32.ofNat i))) (.int ((sby 7).getD i 0)) := by decide +kernel
theorem sn_8 : (subC narrow_1 (pth 11 741 556) = Cond.exactly (trm 8) "java/lang/String" ∧ subC narrow_1 (pth 11 741 557) = Cond.eq (.field (trm 8) "java/lang/String" "coder" "B") (.int 0) ∧ subC narrow_1 (pth 11 741 558) = Cond.arrayOf (.field (trm 8) "java/lang/String" "value" "[B") .byte ∧ subC narrow_1 (pth 11 741 559) = Cond.eq (.length (.field (trm 8) "java/lang/String" "value" "[B")) (.int (Int32.ofNat (sby 8).length))) ∧ ∀ i, i < (sby 8).length → subC narrow_1 (pth 11 741 (0 + i)) = Cond.eq (.elem (.field (trm 8) "java/lang/String" "value" "[B") (.int (Int32.ofNat i))) (.int ((sby 8).getD i 0)) := by decide +kernel
theorem sn_9 : (subC narrow_1 (pth 11 741 568) = Cond.exactly (trm 9) "java/lang/String" ∧ subC narrow_1 (pth 11 741 569) = Cond.eq (.field (trm 9) "java/lang/String" "coder" "B") (.int 0) ∧ subC narrow_1 (pth 11 741 570) = Cond.arrayOf (.field (trm 9) "java/lang/String" "value" "[B") .byte ∧ subC narrow_1 (pth 11 741 571) = Cond.eq (.length (.field (trm 9) "java/lang/String" "value" "[B")) (.int (Int32.ofNat (sby 9).length))) ∧ ∀ i, i < (sby 9).length → subC narrow_1 (pth 11 741 (572 + i)) = Cond.eq (.elem (.field (trm 9) "java/lang/String" "value" "[B") (.int (Int32.ofNat i))) (.int ((sby 9).getD i 0)) := by decide +kernel
theorem sn_10 : (subC narrow_1 (pth 11 741 582) = Cond.exactly (trm 10) "java/lang/String" ∧ subC narrow_1 (pth 11 741 583) = Cond.eq (.field (trm 10) "java/lang/String" "coder" "B") (.int 0) ∧ subC narrow_1 (pth 11 741 584) = Cond.arrayOf (.field (trm 10) "java/lang/String" "value" "[B") .byte ∧ subC narrow_1 (pth 11 741 585) = Cond.eq (.length (.field (trm 10) "java/lang/String" "value" "[B")) (.int (Int32.ofNat (sby 10).length))) ∧ ∀ i, i < (sby 10).length → subC narrow_1 (pth 11 741 (586 + i)) = Cond.eq (.elem (.field (trm 10) "java/lang/String" "value" "[B") (.int (Int32.ofNat i))) (.int ((sby 10).getD i 0)) := by decide +kernel
theorem sn_11 : (subC narrow_1 (pth 11 741 611) = Cond.exactly (trm 11) "java/lang/String" ∧ subC narrow_1 (pth 11 741 612) = Cond.eq (.field (trm 11) "java/lang/String" "coder" "B") (.int 0) ∧ subC narrow_1 (pth 11 741 613) = Cond.arrayOf (.field (trm 11) "java/lang/String" "value" "[B") .byte ∧ subC narrow_1 (pth 11 741 614) = Cond.eq (.length (.field (trm 11) "java/lang/String" "value" "[B")) (.int (Int32.ofNat (sby 11).length))) ∧ ∀ i, i < (sby 11).length → subC narrow_1 (pth 11 741 (615 + i)) = Cond.eq (.elem (.field (trm 11) "java/lang/String" "value" "[B") (.int (Int32.ofNat i))) (.int ((sby 11).getD i 0)) := by decide +kernel
theorem sn_12 : (subC narrow_1 (pth 11 741 630) = Cond.exactly (trm 12) "java/lang/String" ∧ subC narrow_1 (pth 11 741 631) = Cond.eq (.field (trm 12) "java/lang/String" "coder" "B") (.int 0) ∧ subC narrow_1 (pth 11 741 632) = Cond.arrayOf (.field (trm 12) "java/lang/String" "value" "[B") .byte ∧ subC narrow_1 (pth 11 741 633) = Cond.eq (.length (.field (trm 12) "java/lang/String" "value" "[B")) (.int (Int32.ofNat (sby 12).length))) ∧ ∀ i, i < (sby 12).length → subC narrow_1 (pth 11 741 (634 + i)) = Cond.eq (.elem (.field (trm 12) "java/lang/String" "value" "[B") (.int (Int32.ofNat i))) (.int ((sby 12).getD i 0)) := by decide +kernel
theorem sn_13 : (subC narrow_1 (pth 11 741 652) = Cond.exactly (trm 13) "java/lang/String" ∧ subC narrow_1 (pth 11 741 653) = Cond.eq (.field (trm 13) "java/lang/String" "coder" "B") (.int 0) ∧ subC narrow_1 (pth 11 741 654) = Cond.arrayOf (.field (trm 13) "java/lang/String" "value" "[B") .byte ∧ subC narrow_1 (pth 11 741 655) = Cond.eq (.length (.field (trm 13) "java/lang/String" "value" "[B")) (.int (Int32.ofNat (sby 13).length))) ∧ ∀ i, i < (sby 13).length → subC narrow_1 (pth 11 741 (656 + i)) = Cond.eq (.elem (.field (trm 13) "java/lang/String" "value" "[B") (.int (Int32.ofNat i))) (.int ((sby 13).getD i 0)) := by decide +kernel
theorem sn_14 : (subC narrow_1 (pth 11 741 673) = Cond.exactly (trm 14) "java/lang/String" ∧ subC narrow_1 (pth 11 741 674) = Cond.eq (.field (trm 14) "java/lang/String" "coder" "B") (.int 0) ∧ subC narrow_1 (pth 11 741 675) = Cond.arrayOf (.field (trm 14) "java/lang/String" "value" "[B") .byte ∧ subC narrow_1 (pth 11 741 676) = Cond.eq (.length (.field (trm 14) "java/lang/String" "value" "[B")) (.int (Int32.ofNat (sby 14).length))) ∧ ∀ i, i < (sby 14).length → subC narrow_1 (pth 11 741 (677 + i)) = Cond.eq (.elem (.field (trm 14) "java/lang/String" "value" "[B") (.int (Int32.ofNat i))) (.int ((sby 14).getD i 0)) := by decide +kernel
/-- a String constant: its cells -/
def SP (j : Nat) (args : Array Value) (s : State) (A : Nat → Prop) (q : Nat × Nat) : Prop := (trm j).eval args s none [] s = some (.ref q.1) ∧ va_O "java/lang/String" q.1 A s s.heap ∧ va_OF "java/lang/String" "coder" "B" (.int 0) q.1 A s s.heap ∧ va_OF "java/lang/String" "value" "[B" (.ref q.2) q.1 A s s.heap ∧ va_T .byte q.2 (sby j).length (fun i => .int ((sby j).getD i 0)) A s s.heap
theorem sp_of {args : Array Value} {s : State} {A : Nat → Prop} (hA : ∀ a : Nat, a < s.heap.size → ¬ A a) (hn : narrow_1.before args s = true) {j e c a l b : Nat} (hL : (sby j).length < 2 ^ 31)
    (h : (subC narrow_1 (pth 11 741 e) = Cond.exactly (trm j) "java/lang/String" ∧ subC narrow_1 (pth 11 741 c) = Cond.eq (.field (trm j) "java/lang/String" "coder" "B") (.int 0) ∧ subC narrow_1 (pth 11 741 a) = Cond.arrayOf (.field (trm j) "java/lang/String" "value" "[B") .byte ∧ subC narrow_1 (pth 11 741 l) = Cond.eq (.length (.field (trm j) "java/lang/String" "value" "[B")) (.int (Int32.ofNat (sby j).length))) ∧ ∀ i, i < (sby j).length → subC narrow_1 (pth 11 741 (b + i)) = Cond.eq (.elem (.field (trm j) "java/lang/String" "value" "[B") (.int (Int32.ofNat i))) (.int ((sby j).getD i 0))) : ∃ q, SP j args s A q := by
  obtain ⟨⟨h1, h2, h3, h4⟩, h5⟩ := h
  obtain ⟨adK, adV, hS, hE⟩ := vk_Sof (args := args) (s := s) (N := 1) (tm := fun _ => trm j) (len := [(sby j).length]) (byt := [sby j]) (A := A) (fun i hi => by
      have : i = 0 := by omega
      subst this
      exact hL) (fun i _ => nar hn e h1) (fun i _ => nar hn c h2) (fun i _ => nar hn a h3) (fun i hi => by
      have : i = 0 := by omega
      subst this
      exact nar hn l h4) (fun i hi k hk => by
      have : i = 0 := by omega
      subst this
      exact nar hn (b + k) (h5 k hk)) (fun i k hi hk hne => absurd (by omega) hne) hA
  obtain ⟨q1, q2, q3, q4⟩ := hS.1 0 (by decide)
  exact ⟨(adK 0, adV 0), hE 0 (by decide), q1, q2, q3, q4⟩
theorem sp_all {args : Array Value} {s : State} {A : Nat → Prop} (hA : ∀ a : Nat, a < s.heap.size → ¬ A a) (hn : narrow_1.before args s = true) : ∀ j, j < 15 → ∃ q, SP j args s A q
  | 0, _ => sp_of hA hn (by decide +kernel) sn_0
  | 1, _ => sp_of hA hn (by decide +kernel) sn_1
  | 2, _ => sp_of hA hn (by decide +kernel) sn_2
  | 3, _ => sp_of hA hn (by decide +kernel) sn_3
  | 4, _ => sp_of hA hn (by decide +kernel) sn_4
  | 5, _ => sp_of hA hn (by decide +kernel) sn_5
  | 6, _ => sp_of hA hn (by decide +kernel) sn_6
  | 7, _ => sp_of hA hn (by decide +kernel) sn_7
  | 8, _ => sp_of hA hn (by decide +kernel) sn_8
  | 9, _ => sp_of hA hn (by decide +kernel) sn_9
  | 10, _ => sp_of hA hn (by decide +kernel) sn_10
  | 11, _ => sp_of hA hn (by decide +kernel) sn_11
  | 12, _ => sp_of hA hn (by decide +kernel) sn_12
  | 13, _ => sp_of hA hn (by decide +kernel) sn_13
  | 14, _ => sp_of hA hn (by decide +kernel) sn_14
  | n + 15, h => absurd h (by omega)
theorem eq_ref {args : Array Value} {s : State} {t u : Term} {a : Nat} (h : (Cond.eq t u).before args s = true) (ht : t.eval args s none [] s = some (.ref a)) : u.eval args s none [] s = some (.ref a) := by
  cases hu : u.eval args s none [] s with
  | none => simp [Cond.before, Cond.holds, Cond.value, ht, hu] at h
  | some w =>
    cases w with
    | ref x =>
      simp [Cond.before, Cond.holds, Cond.value, ht, hu] at h
      rw [h]
    | _ => simp [Cond.before, Cond.holds, Cond.value, ht, hu] at h
theorem swx_RX9_80 : lw_tbl[279]? = some (Cond.stringRef RX9 80 "box 8 5 40; tooth 10 3 30; tooth 14 2 12; tooth 17 4 100; pin 0 0 0; pin 0 1 2; pin 0 2 4; pin 0 1 3; pin 1 0 1; pin 1 0 5;") := by decide +kernel
theorem swx_RX6_48 : lw_tbl[367]? = some (Cond.stringRef RX6 48 "box") := by decide +kernel
theorem swx_RX6_31 : lw_tbl[417]? = some (Cond.stringRef RX6 31 "tooth") := by decide +kernel
theorem swx_RX6_37 : lw_tbl[432]? = some (Cond.stringRef RX6 37 "pin") := by decide +kernel
theorem swx_RX9_365 : lw_tbl[573]? = some (Cond.stringRef RX9 365 "there is no such tune, tooth, step or slot") := by decide +kernel
theorem swx_RX9_368 : lw_tbl[608]? = some (Cond.stringRef RX9 368 "an argument is out of range") := by decide +kernel
theorem swx_RX9_370 : lw_tbl[624]? = some (Cond.stringRef RX9 370 "not possible in this state") := by decide +kernel
theorem swx_RL_132 : lw_tbl[766]? = some (Cond.stringRef RL 132 " ") := by decide +kernel
theorem swx_RL_134 : lw_tbl[767]? = some (Cond.stringRef RL 134 "") := by decide +kernel
theorem swx_RL_139 : lw_tbl[863]? = some (Cond.stringRef RL 139 "x") := by decide +kernel
theorem swx_RX9_199 : lw_tbl[1177]? = some (Cond.stringRef RX9 199 "there is no pin") := by decide +kernel
theorem swx_RL_336 : lw_tbl[1470]? = some (Cond.stringRef RL 336 "box ") := by decide +kernel
theorem swx_RL_344 : lw_tbl[1482]? = some (Cond.stringRef RL 344 "tooth ") := by decide +kernel
theorem swx_RL_346 : lw_tbl[1483]? = some (Cond.stringRef RL 346 "pin ") := by decide +kernel
theorem swx_RX9_107 : lw_tbl[1497]? = some (Cond.stringRef RX9 107 "the text buffer would be too long") := by decide +kernel
theorem stt_all {args : Array Value} {s : State} {A : Nat → Prop} {ad : Rf → Nat} (hts : ∀ w ∈ lw_tbl, w.before args s = true) (hn : narrow_1.before args s = true) (hs : ∀ j, j < 15 → (trm j).eval args s none [] s = some (.ref (ad (30, j, 0)))) : ∀ q ∈ stt, vk_R q.1 q.2.1 q.2.2.1 (ad (30, q.2.2.2, 0)) s := by
  unfold stt
  simp only [List.forall_mem_cons]
  exact ⟨vk_R.of (hts _ (List.mem_of_getElem? swx_RX9_80)) (hs 0 (by decide)), vk_R.of (hts _ (List.mem_of_getElem? swx_RX6_48)) (hs 1 (by decide)), vk_R.of (hts _ (List.mem_of_getElem? swx_RX6_31)) (hs 2 (by decide)), vk_R.of (hts _ (List.mem_of_getElem? swx_RX6_37)) (hs 3 (by decide)), vk_R.of (hts _ (List.mem_of_getElem? swx_RX9_365)) (hs 4 (by decide)), vk_R.of (hts _ (List.mem_of_getElem? swx_RX9_368)) (hs 5 (by decide)), vk_R.of (hts _ (List.mem_of_getElem? swx_RX9_370)) (hs 6 (by decide)), vk_R.of (hts _ (List.mem_of_getElem? swx_RL_132)) (hs 7 (by decide)), vk_R.of (hts _ (List.mem_of_getElem? swx_RL_134)) (hs 8 (by decide)), vk_R.of (hts _ (List.mem_of_getElem? swx_RL_139)) (hs 9 (by decide)), vk_R.of (hts _ (List.mem_of_getElem? swx_RX9_199)) (hs 10 (by decide)), vk_R.of (hts _ (List.mem_of_getElem? swx_RL_336)) (hs 11 (by decide)), vk_R.of (hts _ (List.mem_of_getElem? swx_RL_344)) (hs 12 (by decide)), vk_R.of (hts _ (List.mem_of_getElem? swx_RL_346)) (hs 13 (by decide)), vk_R.of (hts _ (List.mem_of_getElem? swx_RX9_107)) (hs 14 (by decide)), fun _ h => absurd h List.not_mem_nil⟩
theorem sx_com : subC narrow_1 (pth 11 741 2) = Cond.eq (.static "java/lang/String" "COMPACT_STRINGS" "Z") (.int 1) := by decide +kernel
theorem sx_fmt : subC narrow_1 (pth 11 741 3) = Cond.isRef (.static "jdk/internal/util/Preconditions" "SIOOBE_FORMATTER" "Ljava/util/function/BiFunction;") := by decide +kernel
theorem sd_0 : (subC narrow_1 (pth 11 741 10) = Cond.arrayOf (.static "java/lang/Integer" "DigitOnes" "[B") .byte ∧ subC narrow_1 (pth 11 741 11) = Cond.eq (.length (.static "java/lang/Integer" "DigitOnes" "[B")) (.int (Int32.ofNat 100))) ∧ ∀ i, i < 100 → subC narrow_1 (pth 11 741 (12 + i)) = Cond.eq (.elem (.static "java/lang/Integer" "DigitOnes" "[B") (.int (Int32.ofNat i))) (.int (dgt 0 i)) := by decide +kernel
theorem sd_1 : (subC narrow_1 (pth 11 741 113) = Cond.arrayOf (.static "java/lang/Integer" "DigitTens" "[B") .byte ∧ subC narrow_1 (pth 11 741 114) = Cond.eq (.length (.static "java/lang/Integer" "DigitTens" "[B")) (.int (Int32.ofNat 100))) ∧ ∀ i, i < 100 → subC narrow_1 (pth 11 741 (115 + i)) = Cond.eq (.elem (.static "java/lang/Integer" "DigitTens" "[B") (.int (Int32.ofNat i))) (.int (dgt 1 i)) := by decide +kernel
theorem sl_1 : lw_tbl[289]? = some (Cond.laysStatic "java/lang/String" "COMPACT_STRINGS" "Z") := by decide +kernel
theorem sl_2 : lw_tbl[305]? = some (Cond.laysStatic "jdk/internal/util/Preconditions" "SIOOBE_FORMATTER" "Ljava/util/function/BiFunction;") := by decide +kernel
theorem sl_3 : lw_tbl[878]? = some (Cond.laysStatic "java/lang/Integer" "DigitOnes" "[B") := by decide +kernel
theorem sl_4 : lw_tbl[880]? = some (Cond.laysStatic "java/lang/Integer" "DigitTens" "[B") := by decide +kernel
theorem si_1 : lw_tbl[15]? = some (Cond.initialized "java/lang/String") := by decide +kernel
theorem si_2 : lw_tbl[17]? = some (Cond.initialized "jdk/internal/util/Preconditions") := by decide +kernel
theorem si_3 : lw_tbl[26]? = some (Cond.initialized "java/lang/Integer") := by decide +kernel
theorem sv_0 : lw_tbl[102]? = some (Cond.methodLinkNest RX9 32 yX4_init "MusicBoxEditor") := by decide +kernel
theorem sv_1 : lw_tbl[133]? = some (Cond.methodLinkNest RX0 11 yX3_init "MusicBoxEditor") := by decide +kernel
theorem sv_2 : lw_tbl[161]? = some (Cond.methodLinkNest RX0 24 yX8_init "MusicBoxEditor") := by decide +kernel
theorem sv_3 : lw_tbl[533]? = some (Cond.castable "java/lang/IndexOutOfBoundsException" "java/lang/IndexOutOfBoundsException") := by decide +kernel
theorem sv_4 : lw_tbl[534]? = some (Cond.declares ⟨"java/lang/RuntimeException", "<init>", "()V"⟩) := by decide +kernel
theorem sv_5 : lw_tbl[535]? = some (Cond.declares ⟨"java/lang/RuntimeException", "<init>", "(Ljava/lang/String;)V"⟩) := by decide +kernel
theorem sv_6 : lw_tbl[536]? = some (Cond.declares ⟨"java/lang/Exception", "<init>", "()V"⟩) := by decide +kernel
theorem sv_7 : lw_tbl[537]? = some (Cond.declares ⟨"java/lang/Exception", "<init>", "(Ljava/lang/String;)V"⟩) := by decide +kernel
theorem sv_8 : lw_tbl[538]? = some (Cond.declares ⟨"java/lang/Throwable", "<init>", "()V"⟩) := by decide +kernel
theorem sv_9 : lw_tbl[539]? = some (Cond.declares ⟨"java/lang/Throwable", "<init>", "(Ljava/lang/String;)V"⟩) := by decide +kernel
theorem sv_10 : lw_tbl[601]? = some (Cond.castable "java/lang/IllegalArgumentException" "java/lang/IllegalArgumentException") := by decide +kernel
theorem sv_11 : lw_tbl[617]? = some (Cond.castable "java/lang/IllegalStateException" "java/lang/IllegalStateException") := by decide +kernel
theorem sv_12 : lw_tbl[638]? = some (Cond.methodLinkNest RL 359 yX10_init "MusicBoxEditorLaw") := by decide +kernel
theorem sv_13 : lw_tbl[804]? = some (Cond.castable "[B" "java/lang/Cloneable") := by decide +kernel
theorem sv_14 : lw_tbl[1170]? = some (Cond.castable "java/util/NoSuchElementException" "java/util/NoSuchElementException") := by decide +kernel
theorem sv_15 : lw_tbl[1424]? = some (Cond.methodLinkNest RX0 95 yX9_rangeFault "MusicBoxEditor") := by decide +kernel
theorem sv_16 : lw_tbl[1523]? = some (Cond.castable "MusicBoxEditor" "java/lang/Object") := by decide +kernel
theorem sv_17 : lw_tbl[1524]? = some (Cond.castable "MusicBoxEditor$Bytes" "java/lang/Object") := by decide +kernel
theorem sv_18 : lw_tbl[1525]? = some (Cond.castable "MusicBoxEditor$Tokens" "java/lang/Object") := by decide +kernel
theorem sv_19 : lw_tbl[1526]? = some (Cond.castable "MusicBoxEditor$Script" "java/lang/Object") := by decide +kernel
theorem sv_20 : lw_tbl[1527]? = some (Cond.castable "MusicBoxEditor$Box" "java/lang/Object") := by decide +kernel
theorem sv_21 : lw_tbl[1528]? = some (Cond.castable "MusicBoxEditor$Roll" "java/lang/Object") := by decide +kernel
theorem sv_22 : lw_tbl[1529]? = some (Cond.castable "MusicBoxEditor$Tooth" "java/lang/Object") := by decide +kernel
theorem sv_23 : lw_tbl[1530]? = some (Cond.castable "MusicBoxEditor$SetupReader" "java/lang/Object") := by decide +kernel
theorem sv_24 : lw_tbl[1531]? = some (Cond.castable "MusicBoxEditor$ScriptReader" "java/lang/Object") := by decide +kernel
theorem sv_25 : lw_tbl[1532]? = some (Cond.castable "MusicBoxEditor$History" "java/lang/Object") := by decide +kernel
theorem sv_26 : lw_tbl[1533]? = some (Cond.castable "MusicBoxEditorLaw$Own" "java/lang/Object") := by decide +kernel
theorem sv_27 : lw_tbl[1534]? = some (Cond.castable "java/lang/StringBuilder" "java/lang/Object") := by decide +kernel
theorem sv_28 : lw_tbl[1535]? = some (Cond.castable "java/lang/String" "java/lang/Object") := by decide +kernel
theorem sv_29 : lw_tbl[1536]? = some (Cond.castable "java/lang/IllegalStateException" "java/lang/Object") := by decide +kernel
theorem sv_30 : lw_tbl[1537]? = some (Cond.castable "java/lang/IndexOutOfBoundsException" "java/lang/Object") := by decide +kernel
theorem sv_31 : lw_tbl[1538]? = some (Cond.castable "java/lang/IllegalArgumentException" "java/lang/Object") := by decide +kernel
theorem sv_32 : lw_tbl[1539]? = some (Cond.castable "java/util/NoSuchElementException" "java/lang/Object") := by decide +kernel
theorem sv_33 : lw_tbl[1540]? = some (Cond.castable "java/lang/Throwable" "java/lang/Object") := by decide +kernel
theorem sv_34 : lw_tbl[643]? = some (Cond.fieldLinkNest RL 51 "MusicBoxEditorLaw$Own" "steps" "I" "MusicBoxEditorLaw") := by decide +kernel
theorem sv_35 : lw_tbl[645]? = some (Cond.fieldLinkNest RL 122 "MusicBoxEditorLaw$Own" "turns" "I" "MusicBoxEditorLaw") := by decide +kernel
theorem sv_36 : lw_tbl[647]? = some (Cond.fieldLinkNest RL 125 "MusicBoxEditorLaw$Own" "angle" "I" "MusicBoxEditorLaw") := by decide +kernel
theorem sv_37 : lw_tbl[649]? = some (Cond.fieldLinkNest RL 44 "MusicBoxEditorLaw$Own" "teeth" "I" "MusicBoxEditorLaw") := by decide +kernel
theorem sv_38 : lw_tbl[651]? = some (Cond.fieldLinkNest RL 179 "MusicBoxEditorLaw$Own" "tune" "I" "MusicBoxEditorLaw") := by decide +kernel
theorem sv_39 : lw_tbl[653]? = some (Cond.fieldLinkNest RL 185 "MusicBoxEditorLaw$Own" "at" "I" "MusicBoxEditorLaw") := by decide +kernel
theorem sv_40 : lw_tbl[655]? = some (Cond.fieldLinkNest RL 219 "MusicBoxEditorLaw$Own" "notes" "I" "MusicBoxEditorLaw") := by decide +kernel
theorem sv_41 : lw_tbl[657]? = some (Cond.fieldLinkNest RL 225 "MusicBoxEditorLaw$Own" "squeaks" "I" "MusicBoxEditorLaw") := by decide +kernel
theorem sv_42 : lw_tbl[659]? = some (Cond.fieldLinkNest RL 231 "MusicBoxEditorLaw$Own" "played" "I" "MusicBoxEditorLaw") := by decide +kernel
theorem sv_43 : lw_tbl[661]? = some (Cond.fieldLinkNest RL 301 "MusicBoxEditorLaw$Own" "bends" "I" "MusicBoxEditorLaw") := by decide +kernel
theorem sv_44 : lw_tbl[663]? = some (Cond.fieldLinkNest RL 307 "MusicBoxEditorLaw$Own" "replaced" "I" "MusicBoxEditorLaw") := by decide +kernel
theorem sv_45 : lw_tbl[665]? = some (Cond.fieldLinkNest RL 58 "MusicBoxEditorLaw$Own" "pitch" "[I" "MusicBoxEditorLaw") := by decide +kernel
theorem sv_46 : lw_tbl[667]? = some (Cond.fieldLinkNest RL 62 "MusicBoxEditorLaw$Own" "bent" "[I" "MusicBoxEditorLaw") := by decide +kernel
theorem sv_47 : lw_tbl[669]? = some (Cond.fieldLinkNest RL 153 "MusicBoxEditorLaw$Own" "gap" "[I" "MusicBoxEditorLaw") := by decide +kernel
theorem sv_48 : lw_tbl[671]? = some (Cond.fieldLinkNest RL 341 "MusicBoxEditorLaw$Own" "strength" "[I" "MusicBoxEditorLaw") := by decide +kernel
theorem sv_49 : lw_tbl[673]? = some (Cond.fieldLinkNest RL 158 "MusicBoxEditorLaw$Own" "wear" "[I" "MusicBoxEditorLaw") := by decide +kernel
theorem sv_50 : lw_tbl[675]? = some (Cond.fieldLinkNest RL 310 "MusicBoxEditorLaw$Own" "since" "[I" "MusicBoxEditorLaw") := by decide +kernel
theorem sv_51 : lw_tbl[677]? = some (Cond.fieldLinkNest RL 273 "MusicBoxEditorLaw$Own" "pins" "[Z" "MusicBoxEditorLaw") := by decide +kernel
theorem sv_52 : lw_tbl[776]? = some (Cond.privateMethod yJ5_appendNull_278bc) := by decide +kernel
theorem sv_53 : lw_tbl[780]? = some (Cond.privateMethod yJ5_ensureCapacityInternal_d00df) := by decide +kernel
theorem sv_54 : lw_tbl[784]? = some (Cond.privateMethod yJ5_newCapacity_0f7a4) := by decide +kernel
theorem sv_55 : lw_tbl[830]? = some (Cond.privateMethod yJ5_putStringAt_47b60) := by decide +kernel
theorem sv_56 : lw_tbl[834]? = some (Cond.privateMethod yJ5_inflateIfNeededFor_a7421) := by decide +kernel
theorem sv_57 : lw_tbl[839]? = some (Cond.privateMethod yJ5_inflate_da8c8) := by decide +kernel
theorem sv_58 : lw_tbl[159]? = some (Cond.arrayOver (.object RX8)) := by decide +kernel
theorem sv_59 : lw_tbl[266]? = some (Cond.arrayOver (.object RX0)) := by decide +kernel
theorem sv_60 : lw_tbl[1511]? = some (Cond.arrayOver (.object RX10)) := by decide +kernel
theorem nsw_all {args : Array Value} {s : State} (hts : ∀ w ∈ lw_tbl, w.before args s = true) : ∀ w ∈ nsw, va_Nw w s := by
  unfold nsw
  simp only [List.forall_mem_cons]
  exact ⟨va_Nw.of rfl (hts _ (List.mem_of_getElem? sv_0)), va_Nw.of rfl (hts _ (List.mem_of_getElem? sv_1)), va_Nw.of rfl (hts _ (List.mem_of_getElem? sv_2)), va_Nw.of rfl (hts _ (List.mem_of_getElem? sv_3)), va_Nw.of rfl (hts _ (List.mem_of_getElem? sv_4)), va_Nw.of rfl (hts _ (List.mem_of_getElem? sv_5)), va_Nw.of rfl (hts _ (List.mem_of_getElem? sv_6)), va_Nw.of rfl (hts _ (List.mem_of_getElem? sv_7)), va_Nw.of rfl (hts _ (List.mem_of_getElem? sv_8)), va_Nw.of rfl (hts _ (List.mem_of_getElem? sv_9)), va_Nw.of rfl (hts _ (List.mem_of_getElem? sv_10)), va_Nw.of rfl (hts _ (List.mem_of_getElem? sv_11)), va_Nw.of rfl (hts _ (List.mem_of_getElem? sv_12)), va_Nw.of rfl (hts _ (List.mem_of_getElem? sv_13)), va_Nw.of rfl (hts _ (List.mem_of_getElem? sv_14)), va_Nw.of rfl (hts _ (List.mem_of_getElem? sv_15)), va_Nw.of rfl (hts _ (List.mem_of_getElem? sv_16)), va_Nw.of rfl (hts _ (List.mem_of_getElem? sv_17)), va_Nw.of rfl (hts _ (List.mem_of_getElem? sv_18)), va_Nw.of rfl (hts _ (List.mem_of_getElem? sv_19)), va_Nw.of rfl (hts _ (List.mem_of_getElem? sv_20)), va_Nw.of rfl (hts _ (List.mem_of_getElem? sv_21)), va_Nw.of rfl (hts _ (List.mem_of_getElem? sv_22)), va_Nw.of rfl (hts _ (List.mem_of_getElem? sv_23)), va_Nw.of rfl (hts _ (List.mem_of_getElem? sv_24)), va_Nw.of rfl (hts _ (List.mem_of_getElem? sv_25)), va_Nw.of rfl (hts _ (List.mem_of_getElem? sv_26)), va_Nw.of rfl (hts _ (List.mem_of_getElem? sv_27)), va_Nw.of rfl (hts _ (List.mem_of_getElem? sv_28)), va_Nw.of rfl (hts _ (List.mem_of_getElem? sv_29)), va_Nw.of rfl (hts _ (List.mem_of_getElem? sv_30)), va_Nw.of rfl (hts _ (List.mem_of_getElem? sv_31)), va_Nw.of rfl (hts _ (List.mem_of_getElem? sv_32)), va_Nw.of rfl (hts _ (List.mem_of_getElem? sv_33)), va_Nw.of rfl (hts _ (List.mem_of_getElem? sv_34)), va_Nw.of rfl (hts _ (List.mem_of_getElem? sv_35)), va_Nw.of rfl (hts _ (List.mem_of_getElem? sv_36)), va_Nw.of rfl (hts _ (List.mem_of_getElem? sv_37)), va_Nw.of rfl (hts _ (List.mem_of_getElem? sv_38)), va_Nw.of rfl (hts _ (List.mem_of_getElem? sv_39)), va_Nw.of rfl (hts _ (List.mem_of_getElem? sv_40)), va_Nw.of rfl (hts _ (List.mem_of_getElem? sv_41)), va_Nw.of rfl (hts _ (List.mem_of_getElem? sv_42)), va_Nw.of rfl (hts _ (List.mem_of_getElem? sv_43)), va_Nw.of rfl (hts _ (List.mem_of_getElem? sv_44)), va_Nw.of rfl (hts _ (List.mem_of_getElem? sv_45)), va_Nw.of rfl (hts _ (List.mem_of_getElem? sv_46)), va_Nw.of rfl (hts _ (List.mem_of_getElem? sv_47)), va_Nw.of rfl (hts _ (List.mem_of_getElem? sv_48)), va_Nw.of rfl (hts _ (List.mem_of_getElem? sv_49)), va_Nw.of rfl (hts _ (List.mem_of_getElem? sv_50)), va_Nw.of rfl (hts _ (List.mem_of_getElem? sv_51)), va_Nw.of rfl (hts _ (List.mem_of_getElem? sv_52)), va_Nw.of rfl (hts _ (List.mem_of_getElem? sv_53)), va_Nw.of rfl (hts _ (List.mem_of_getElem? sv_54)), va_Nw.of rfl (hts _ (List.mem_of_getElem? sv_55)), va_Nw.of rfl (hts _ (List.mem_of_getElem? sv_56)), va_Nw.of rfl (hts _ (List.mem_of_getElem? sv_57)), va_AO.of (hts _ (List.mem_of_getElem? sv_58)), va_AO.of (hts _ (List.mem_of_getElem? sv_59)), va_AO.of (hts _ (List.mem_of_getElem? sv_60)), fun _ h => absurd h List.not_mem_nil⟩
theorem sk_0 : Cond.instantiable (Rc 0) (Nc 0) ∈ AL := al_mc al_c1 123 rfl (by decide +kernel)
theorem sk_1 : Cond.instantiable (Rc 1) (Nc 1) ∈ AL := al_mc al_c1 43 rfl (by decide +kernel)
theorem sk_2 : Cond.instantiable (Rc 2) (Nc 2) ∈ AL := al_mc al_c2 17 rfl (by decide +kernel)
theorem sk_3 : Cond.instantiable (Rc 3) (Nc 3) ∈ AL := al_mc al_c1 129 rfl (by decide +kernel)
theorem sk_4 : Cond.instantiable (Rc 4) (Nc 4) ∈ AL := al_mc al_c1 98 rfl (by decide +kernel)
theorem sk_5 : Cond.instantiable (Rc 5) (Nc 5) ∈ AL := al_mc al_c2 4 rfl (by decide +kernel)
theorem sk_6 : Cond.instantiable (Rc 6) (Nc 6) ∈ AL := al_mc al_c1 231 rfl (by decide +kernel)
theorem sk_7 : Cond.instantiable (Rc 7) (Nc 7) ∈ AL := al_mc al_c1 62 rfl (by decide +kernel)
theorem sk_8 : Cond.instantiable (Rc 8) (Nc 8) ∈ AL := al_mc al_c1 157 rfl (by decide +kernel)
theorem sk_9 : Cond.instantiable (Rc 9) (Nc 9) ∈ AL := al_mc al_c1 35 rfl (by decide +kernel)
theorem sk_10 : Cond.instantiable (Rc 10) (Nc 10) ∈ AL := al_mc al_c3 154 rfl (by decide +kernel)
theorem sk_11 : Cond.instantiable (Rc 11) (Nc 11) ∈ AL := al_mc al_c4 171 rfl (by decide +kernel)
theorem sk_12 : Cond.instantiable (Rc 12) (Nc 12) ∈ AL := al_mc al_c4 10 rfl (by decide +kernel)
theorem kn_all {args : Array Value} {s : State} (h : ∀ w ∈ AL, w.before args s = true) : ∃ D : va_G, ∀ (k : Nat) (q : vw_C), vwCl[k]? = some q → u_Kn s q.1 q.2.1 q.2.2 (D.1 k) (D.2 k) := by
  have h0 : ∀ k : Nat, ∃ z : ClassId × (Nat → Nat), k < 13 → u_Kn s (Rc k) (Tc k) (Nc k) z.1 z.2 := by
    intro k
    by_cases hk : k < 13
    · have hi : Cond.instantiable (Rc k) (Nc k) ∈ AL := match k, hk with
        | 0, _ => sk_0
        | 1, _ => sk_1
        | 2, _ => sk_2
        | 3, _ => sk_3
        | 4, _ => sk_4
        | 5, _ => sk_5
        | 6, _ => sk_6
        | 7, _ => sk_7
        | 8, _ => sk_8
        | 9, _ => sk_9
        | 10, _ => sk_10
        | 11, _ => sk_11
        | 12, _ => sk_12
        | n + 13, h => absurd h (by omega)
      obtain ⟨c, i, hc⟩ := u_known (C := Rc k) (T := Tc k) (N := Nc k) h (inC k hk) (h _ hi)
      exact ⟨(c, i), fun _ => hc⟩
    · exact ⟨(0, fun _ => 0), fun h => absurd h hk⟩
  obtain ⟨f, hf⟩ := Classical.axiomOfChoice h0
  refine ⟨(fun k => (f k).1, fun k => (f k).2), fun k q hq => ?_⟩
  have hk : k < 13 := (List.getElem?_eq_some_iff.mp hq).1
  have h2 := clC k hk
  rw [hq] at h2
  cases h2
  exact hf k hk
theorem ar_all {args : Array Value} {s : State} (h : ∀ w ∈ AL, w.before args s = true) (hn : ∀ w ∈ nsw, va_Nw w s) : ∃ tc : Nat → ClassId, ∀ (k : Nat) (q : ClassId × FieldType), (tys tc)[k]? = some q → ArrOfT s q.1 q.2 ∧ va_RA s q.1 q.2 := by
  have p1 : ∀ ty : FieldType, Cond.arrayClass ty ∈ AL → ∃ c, ArrOfT s c ty ∧ s.vm.findClass ("[" ++ ty.toString) = some c := fun ty hw => by
    obtain ⟨c, k, comp, h1, h2, h3⟩ := Cond.arrayClass_spec (h _ hw)
    exact ⟨c, fun n z => ⟨fun k h => (by cases h), k, h2, comp, h3⟩, h1⟩
  have p2 : ∀ C : String, Cond.arrayOver (.object C) ∈ nsw → ∃ c, ArrOfT s c (.object C) ∧ va_RA s c (.object C) := fun C hw => by
    have hw2 : va_AO C s := hn _ hw
    obtain ⟨comp, c, k, h1, h2, h3, h4, h5⟩ := Cond.arrayOver_spec (va_AO.use (A := #[]) hw2)
    exact ⟨c, fun n z => ⟨fun k h => (by cases h), k, h3, comp, h4⟩, k, comp, h3, h4, h1, h5⟩
  obtain ⟨c0, a0, b0⟩ := p1 .int ac_i
  obtain ⟨c1, a1, b1⟩ := p1 .boolean ac_z
  obtain ⟨c2, a2, b2⟩ := p1 .long (al_mc al_c1 154 rfl (by decide +kernel))
  obtain ⟨c3, a3, b3⟩ := p1 .byte arr_b
  obtain ⟨c6, a6, b6⟩ := p2 RX10 cq_L_40.2
  obtain ⟨c4, a4, b4⟩ := p2 RX8 cq_0_18.2
  obtain ⟨c5, a5, b5⟩ := p2 RX0 cq_2_9.2
  refine ⟨fun k => match k with | 0 => c0 | 1 => c1 | 2 => c2 | 3 => c3 | 4 => c4 | 5 => c5 | _ => c6, fun k q hq => ?_⟩
  match k, hq with
  | 0, hq => cases hq; exact ⟨a0, b0⟩
  | 1, hq => cases hq; exact ⟨a1, b1⟩
  | 2, hq => cases hq; exact ⟨a2, b2⟩
  | 3, hq => cases hq; exact ⟨a3, b3⟩
  | 4, hq => cases hq; exact ⟨a4, b4⟩
  | 5, hq => cases hq; exact ⟨a5, b5⟩
  | 6, hq => cases hq; exact ⟨a6, b6⟩
  | k + 7, hq => cases hq
