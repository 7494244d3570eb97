/-! the start: the Statement's conditions by their places -/
def subC : Cond → List Bool → Cond
  | c, [] => c
  | c, false :: q => match c with
    | .and a _ => subC a q
    | _ => c
  | c, true :: q => match c with
    | .and _ b => subC b q
    | _ => c
theorem subC_b {args : Array Value} {s : State} : ∀ (p : List Bool) (c : Cond), c.before args s = true → (subC c p).before args s = true := by
  intro p
  induction p with
  | nil => intro c h; unfold subC; exact h
  | cons b q ih =>
    intro c h
    cases b with
    | false =>
      unfold subC
      split
      · rename_i a b
        rw [Cond.before_and, Bool.and_eq_true] at h
        exact ih _ h.1
      · exact h
    | true =>
      unfold subC
      split
      · rename_i a b
        rw [Cond.before_and, Bool.and_eq_true] at h
        exact ih _ h.2
      · exact h
def pth : Nat → Nat → Nat → List Bool
  | 0, _, _ => []
  | f + 1, n, i => if n ≤ 1 then [] else if i < n / 2 then false :: pth f (n / 2) i else true :: pth f (n - n / 2) (i - n / 2)
theorem nar {args : Array Value} {s : State} (h : narrow_1.before args s = true) (i : Nat) {w : Cond} (e : subC narrow_1 (pth 11 804 i) = w) : w.before args s = true := e ▸ subC_b _ _ h
def trm : Nat → Term := fun j => match j with
  | 0 => .string RX9 80
  | 1 => .string RX6 48
  | 2 => .string RX6 31
  | 3 => .string RX6 37
  | 4 => .string RX5 86
  | 5 => .string RX5 88
  | 6 => .string RX5 90
  | 7 => .string RX5 92
  | 8 => .string RX5 94
  | 9 => .string RX5 96
  | 10 => .string RX5 98
  | 11 => .string RX5 100
  | 12 => .string RX5 102
  | 13 => .string RX5 114
  | 14 => .string RX5 116
  | 15 => .string RX9 107
  | 16 => .string RX9 117
  | 17 => .string RX9 365
  | 18 => .string RX9 368
  | 19 => .string RX9 370
  | 20 => .string RX9 199
  | _ => .string RX9 361
theorem sn_0 : (subC narrow_1 (pth 11 804 97) = Cond.exactly (trm 0) "java/lang/String" ∧ subC narrow_1 (pth 11 804 98) = Cond.eq (.field (trm 0) "java/lang/String" "coder" "B") (.int 0) ∧ subC narrow_1 (pth 11 804 99) = Cond.arrayOf (.field (trm 0) "java/lang/String" "value" "[B") .byte ∧ subC narrow_1 (pth 11 804 100) = Cond.eq (.length (.field (trm 0) "java/lang/String" "value" "[B")) (.int (Int32.ofNat (sby 0).length))) ∧ ∀ i, i < (sby 0).length → subC narrow_1 (pth 11 804 (101 + i)) = Cond.eq (.elem (.field (trm 0) "java/lang/String" "value" "[B") (.int (Int32.ofNat i))) (.int ((sby 0).getD i 0)) := by decide +kernel
theorem sn_1 : (subC narrow_1 (pth 11 804 224) = Cond.exactly (trm 1) "java/lang/String" ∧ subC narrow_1 (pth 11 804 225) = Cond.eq (.field (trm 1) "java/lang/String" "coder" "B") (.int 0) ∧ subC narrow_1 (pth 11 804 226) = Cond.arrayOf (.field (trm 1) "java/lang/String" "value" "[B") .byte ∧ subC narrow_1 (pth 11 804 227) = Cond.eq (.length (.field (trm 1) "java/lang/String" "value" "[B")) (.int (Int32.ofNat (sby 1).length))) ∧ ∀ i, i < (sby 1).length → subC narrow_1 (pth 11 804 (228 + i)) = Cond.eq (.elem (.field (trm 1) "java/lang/String" "value" "[B") (.int (Int32.ofNat i))) (.int ((sby 1).getD i 0)) := by decide +kernel
theorem sn_2 : (subC narrow_1 (pth 11 804 231) = Cond.exactly (trm 2) "java/lang/String" ∧ subC narrow_1 (pth 11 804 232) = Cond.eq (.field (trm 2) "java/lang/String" "coder" "B") (.int 0) ∧ subC narrow_1 (pth 11 804 233) = Cond.arrayOf (.field (trm 2) "java/lang/String" "value" "[B") .byte ∧ subC narrow_1 (pth 11 804 234) = Cond.eq (.length (.field (trm 2) "java/lang/String" "value" "[B")) (.int (Int32.ofNat (sby 2).length))) ∧ ∀ i, i < (sby 2).length → subC narrow_1 (pth 11 804 (235 + i)) = Cond.eq (.elem (.field (trm 2) "java/lang/String" "value" "[B") (.int (Int32.ofNat i))) (.int ((sby 2).getD i 0)) := by decide +kernel
theorem sn_3 : (subC narrow_1 (pth 11 804 240) = Cond.exactly (trm 3) "java/lang/String" ∧ subC narrow_1 (pth 11 804 241) = Cond.eq (.field (trm 3) "java/lang/String" "coder" "B") (.int 0) ∧ subC narrow_1 (pth 11 804 242) = Cond.arrayOf (.field (trm 3) "java/lang/String" "value" "[B") .byte ∧ subC narrow_1 (pth 11 804 243) = Cond.eq (.length (.field (trm 3) "java/lang/String" "value" "[B")) (.int (Int32.ofNat (sby 3).length))) ∧ ∀ i, i < (sby 3).length → subC narrow_1 (pth 11 804 (244 + i)) = Cond.eq (.elem (.field (trm 3) "java/lang/String" "value" "[B") (.int (Int32.ofNat i))) (.int ((sby 3).getD i 0)) := by decide +kernel
theorem sn_4 : (subC narrow_1 (pth 11 804 255) = Cond.exactly (trm 4) "java/lang/String" ∧ subC narrow_1 (pth 11 804 256) = Cond.eq (.field (trm 4) "java/lang/String" "coder" "B") (.int 0) ∧ subC narrow_1 (pth 11 804 257) = Cond.arrayOf (.field (trm 4) "java/lang/String" "value" "[B") .byte ∧ subC narrow_1 (pth 11 804 258) = Cond.eq (.length (.field (trm 4) "java/lang/String" "value" "[B")) (.int (Int32.ofNat (sby 4).length))) ∧ ∀ i, i < (sby 4).length → subC narrow_1 (pth 11 804 (259 + i)) = Cond.eq (.elem (.field (trm 4) "java/lang/String" "value" "[B") (.int (Int32.ofNat i))) (.int ((sby 4).getD i 0)) := by decide +kernel
theorem sn_5 : (subC narrow_1 (pth 11 804 264) = Cond.exactly (trm 5) "java/lang/String" ∧ subC narrow_1 (pth 11 804 265) = Cond.eq (.field (trm 5) "java/lang/String" "coder" "B") (.int 0) ∧ subC narrow_1 (pth 11 804 266) = Cond.arrayOf (.field (trm 5) "java/lang/String" "value" "[B") .byte ∧ subC narrow_1 (pth 11 804 267) = Cond.eq (.length (.field (trm 5) "java/lang/String" "value" "[B")) (.int (Int32.ofNat (sby 5).length))) ∧ ∀ i, i < (sby 5).length → subC narrow_1 (pth 11 804 (268 + i)) = Cond.eq (.elem (.field (trm 5) "java/lang/String" "value" "[B") (.int (Int32.ofNat i))) (.int ((sby 5).getD i 0)) := by decide +kernel
theorem sn_6 : (subC narrow_1 (pth 11 804 271) = Cond.exactly (trm 6) "java/lang/String" ∧ subC narrow_1 (pth 11 804 272) = Cond.eq (.field (trm 6) "java/lang/String" "coder" "B") (.int 0) ∧ subC narrow_1 (pth 11 804 273) = Cond.arrayOf (.field (trm 6) "java/lang/String" "value" "[B") .byte ∧ subC narrow_1 (pth 11 804 274) = Cond.eq (.length (.field (trm 6) "java/lang/String" "value" "[B")) (.int (Int32.ofNat (sby 6).length))) ∧ ∀ i, i < (sby 6).length → subC narrow_1 (pth 11 804 (275 + i)) = Cond.eq (.elem (.field (trm 6) "java/lang/String" "value" "[B") (.int (Int32.ofNat i))) (.int ((sby 6).getD i 0)) := by decide +kernel
theorem sn_7 : (subC narrow_1 (pth 11 804 279) = Cond.exactly (trm 7) "java/lang/String" ∧ subC narrow_1 (pth 11 804 280) = Cond.eq (.field (trm 7) "java/lang/String" "coder" "B") (.int 0) ∧ subC narrow_1 (pth 11 804 281) = Cond.arrayOf (.field (trm 7) "java/lang/String" "value" "[B") .byte ∧ subC narrow_1 (pth 11 804 282) = Cond.eq (.length (.field (trm 7) "java/lang/String" "value" "[B")) (.int (Int32.ofNat (sby 7).length))) ∧ ∀ i, i < (sby 7).length → subC narrow_1 (pth 11 804 (283 + i)) = Cond.eq (.elem (.field (trm 7) "java/lang/String" "value" "[B") (.int (Int32.ofNat i))) (.int ((sby 7).getD i 0)) := by decide +kernel
theorem sn_8 : (subC narrow_1 (pth 11 804 287) = Cond.exactly (trm 8) "java/lang/String" ∧ subC narrow_1 (pth 11 804 288) = Cond.eq (.field (trm 8) "java/lang/String" "coder" "B") (.int 0) ∧ subC narrow_1 (pth 11 804 289) = Cond.arrayOf (.field (trm 8) "java/lang/String" "value" "[B") .byte ∧ subC narrow_1 (pth 11 804 290) = Cond.eq (.length (.field (trm 8) "java/lang/String" "value" "[B")) (.int (Int32.ofNat (sby 8).length))) ∧ ∀ i, i < (sby 8).length → subC narrow_1 (pth 11 804 (291 + i)) = Cond.eq (.elem (.field (trm 8) "java/lang/String" "value" "[B") (.int (Int32.ofNat i))) (.int ((sby 8).getD i 0)) := by decide +kernel
theorem sn_9 : (subC narrow_1 (pth 11 804 295) = Cond.exactly (trm 9) "java/lang/String" ∧ subC narrow_1 (pth 11 804 296) = Cond.eq (.field (trm 9) "java/lang/String" "coder" "B") (.int 0) ∧ subC narrow_1 (pth 11 804 297) = Cond.arrayOf (.field (trm 9) "java/lang/String" "value" "[B") .byte ∧ subC narrow_1 (pth 11 804 298) = Cond.eq (.length (.field (trm 9) "java/lang/String" "value" "[B")) (.int (Int32.ofNat (sby 9).length))) ∧ ∀ i, i < (sby 9).length → subC narrow_1 (pth 11 804 (299 + i)) = Cond.eq (.elem (.field (trm 9) "java/lang/String" "value" "[B") (.int (Int32.ofNat i))) (.int ((sby 9).getD i 0)) := by decide +kernel
theorem sn_10 : (subC narrow_1 (pth 11 804 303) = Cond.exactly (trm 10) "java/lang/String" ∧ subC narrow_1 (pth 11 804 304) = Cond.eq (.field (trm 10) "java/lang/String" "coder" "B") (.int 0) ∧ subC narrow_1 (pth 11 804 305) = Cond.arrayOf (.field (trm 10) "java/lang/String" "value" "[B") .byte ∧ subC narrow_1 (pth 11 804 306) = Cond.eq (.length (.field (trm 10) "java/lang/String" "value" "[B")) (.int (Int32.ofNat (sby 10).length))) ∧ ∀ i, i < (sby 10).length → subC narrow_1 (pth 11 804 (307 + i)) = Cond.eq (.elem (.field (trm 10) "java/lang/String" "value" "[B") (.int (Int32.ofNat i))) (.int ((sby 10).getD i 0)) := by decide +kernel
theorem sn_11 : (subC narrow_1 (pth 11 804 311) = Cond.exactly (trm 11) "java/lang/String" ∧ subC narrow_1 (pth 11 804 312) = Cond.eq (.field (trm 11) "java/lang/String" "coder" "B") (.int 0) ∧ subC narrow_1 (pth 11 804 313) = Cond.arrayOf (.field (trm 11) "java/lang/String" "value" "[B") .byte ∧ subC narrow_1 (pth 11 804 314) = Cond.eq (.length (.field (trm 11) "java/lang/String" "value" "[B")) (.int (Int32.ofNat (sby 11).length))) ∧ ∀ i, i < (sby 11).length → subC narrow_1 (pth 11 804 (315 + i)) = Cond.eq (.elem (.field (trm 11) "java/lang/String" "value" "[B") (.int (Int32.ofNat i))) (.int ((sby 11).getD i 0)) := by decide +kernel
theorem sn_12 : (subC narrow_1 (pth 11 804 319) = Cond.exactly (trm 12) "java/lang/String" ∧ subC narrow_1 (pth 11 804 320) = Cond.eq (.field (trm 12) "java/lang/String" "coder" "B") (.int 0) ∧ subC narrow_1 (pth 11 804 321) = Cond.arrayOf (.field (trm 12) "java/lang/String" "value" "[B") .byte ∧ subC narrow_1 (pth 11 804 322) = Cond.eq (.length (.field (trm 12) "java/lang/String" "value" "[B")) (.int (Int32.ofNat (sby 12).length))) ∧ ∀ i, i < (sby 12).length → subC narrow_1 (pth 11 804 (323 + i)) = Cond.eq (.elem (.field (trm 12) "java/lang/String" "value" "[B") (.int (Int32.ofNat i))) (.int ((sby 12).getD i 0)) := by decide +kernel
theorem sn_13 : (subC narrow_1 (pth 11 804 329) = Cond.exactly (trm 13) "java/lang/String" ∧ subC narrow_1 (pth 11 804 330) = Cond.eq (.field (trm 13) "java/lang/String" "coder" "B") (.int 0) ∧ subC narrow_1 (pth 11 804 331) = Cond.arrayOf (.field (trm 13) "java/lang/String" "value" "[B") .byte ∧ subC narrow_1 (pth 11 804 332) = Cond.eq (.length (.field (trm 13) "java/lang/String" "value" "[B")) (.int (Int32.ofNat (sby 13).length))) ∧ ∀ i, i < (sby 13).length → subC narrow_1 (pth 11 804 (333 + i)) = Cond.eq (.elem (.field (trm 13) "java/lang/String" "value" "[B") (.int (Int32.ofNat i))) (.int ((sby 13).getD i 0)) := by decide +kernel
theorem sn_14 : (subC narrow_1 (pth 11 804 335) = Cond.exactly (trm 14) "java/lang/String" ∧ subC narrow_1 (pth 11 804 336) = Cond.eq (.field (trm 14) "java/lang/String" "coder" "B") (.int 0) ∧ subC narrow_1 (pth 11 804 337) = Cond.arrayOf (.field (trm 14) "java/lang/String" "value" "[B") .byte ∧ subC narrow_1 (pth 11 804 338) = Cond.eq (.length (.field (trm 14) "java/lang/String" "value" "[B")) (.int (Int32.ofNat (sby 14).length))) ∧ ∀ i, i < (sby 14).length → subC narrow_1 (pth 11 804 (339 + i)) = Cond.eq (.elem (.field (trm 14) "java/lang/String" "value" "[B") (.int (Int32.ofNat i))) (.int ((sby 14).getD i 0)) := by decide +kernel
theorem sn_15 : (subC narrow_1 (pth 11 804 343) = Cond.exactly (trm 15) "java/lang/String" ∧ subC narrow_1 (pth 11 804 344) = Cond.eq (.field (trm 15) "java/lang/String" "coder" "B") (.int 0) ∧ subC narrow_1 (pth 11 804 345) = Cond.arrayOf (.field (trm 15) "java/lang/String" "value" "[B") .byte ∧ subC narrow_1 (pth 11 804 346) = Cond.eq (.length (.field (trm 15) "java/lang/String" "value" "[B")) (.int (Int32.ofNat (sby 15).length))) ∧ ∀ i, i < (sby 15).length → subC narrow_1 (pth 11 804 (347 + i)) = Cond.eq (.elem (.field (trm 15) "java/lang/String" "value" "[B") (.int (Int32.ofNat i))) (.int ((sby 15).getD i 0)) := by decide +kernel
theorem sn_16 : (subC narrow_1 (pth 11 804 380) = Cond.exactly (trm 16) "java/lang/String" ∧ subC narrow_1 (pth 11 804 381) = Cond.eq (.field (trm 16) "java/lang/String" "coder" "B") (.int 0) ∧ subC narrow_1 (pth 11 804 382) = Cond.arrayOf (.field (trm 16) "java/lang/String" "value" "[B") .byte ∧ subC narrow_1 (pth 11 804 383) = Cond.eq (.length (.field (trm 16) "java/lang/String" "value" "[B")) (.int (Int32.ofNat (sby 16).length))) ∧ ∀ i, i < (sby 16).length → subC narrow_1 (pth 11 804 (384 + i)) = Cond.eq (.elem (.field (trm 16) "java/lang/String" "value" "[B") (.int (Int32.ofNat i))) (.int ((sby 16).getD i 0)) := by decide +kernel
theorem sn_17 : (subC narrow_1 (pth 11 804 403) = Cond.exactly (trm 17) "java/lang/String" ∧ subC narrow_1 (pth 11 804 404) = Cond.eq (.field (trm 17) "java/lang/String" "coder" "B") (.int 0) ∧ subC narrow_1 (pth 11 804 405) = Cond.arrayOf (.field (trm 17) "java/lang/String" "value" "[B") .byte ∧ subC narrow_1 (pth 11 804 406) = Cond.eq (.length (.field (trm 17) "java/lang/String" "value" "[B")) (.int (Int32.ofNat (sby 17).length))) ∧ ∀ i, i < (sby 17).length → subC narrow_1 (pth 11 804 (407 + i)) = Cond.eq (.elem (.field (trm 17) "java/lang/String" "value" "[B") (.int (Int32.ofNat i))) (.int ((sby 17).getD i 0)) := by decide +kernel
theorem sn_18 : (subC narrow_1 (pth 11 804 449) = Cond.exactly (trm 18) "java/lang/String" ∧ subC narrow_1 (pth 11 804 450) = Cond.eq (.field (trm 18) "java/lang/String" "coder" "B") (.int 0) ∧ subC narrow_1 (pth 11 804 451) = Cond.arrayOf (.field (trm 18) "java/lang/String" "value" "[B") .byte ∧ subC narrow_1 (pth 11 804 452) = Cond.eq (.length (.field (trm 18) "java/lang/String" "value" "[B")) (.int (Int32.ofNat (sby 18).length))) ∧ ∀ i, i < (sby 18).length → subC narrow_1 (pth 11 804 (453 + i)) = Cond.eq (.elem (.field (trm 18) "java/lang/String" "value" "[B") (.int (Int32.ofNat i))) (.int ((sby 18).getD i 0)) := by decide +kernel
theorem sn_19 : (subC narrow_1 (pth 11 804 480) = Cond.exactly (trm 19) "java/lang/String" ∧ subC narrow_1 (pth 11 804 481) = Cond.eq (.field (trm 19) "java/lang/String" "coder" "B") (.int 0) ∧ subC narrow_1 (pth 11 804 482) = Cond.arrayOf (.field (trm 19) "java/lang/String" "value" "[B") .byte ∧ subC narrow_1 (pth 11 804 483) = Cond.eq (.length (.field (trm 19) "java/lang/String" "value" "[B")) (.int (Int32.ofNat (sby 19).length))) ∧ ∀ i, i < (sby 19).length → subC narrow_1 (pth 11 804 (484 + i)) = Cond.eq (.elem (.field (trm 19) "java/lang/String" "value" "[B") (.int (Int32.ofNat i))) (.int ((sby 19).getD i 0)) := by decide +kernel
theorem sn_20 : (subC narrow_1 (pth 11 804 510) = Cond.exactly (trm 20) "java/lang/String" ∧ subC narrow_1 (pth 11 804 511) = Cond.eq (.field (trm 20) "java/lang/String" "coder" "B") (.int 0) ∧ subC narrow_1 (pth 11 804 512) = Cond.arrayOf (.field (trm 20) "java/lang/String" "value" "[B") .byte ∧ subC narrow_1 (pth 11 804 513) = Cond.eq (.length (.field (trm 20) "java/lang/String" "value" "[B")) (.int (Int32.ofNat (sby 20).length))) ∧ ∀ i, i < (sby 20).length → subC narrow_1 (pth 11 804 (514 + i)) = Cond.eq (.elem (.field (trm 20) "java/lang/String" "value" "[B") (.int (Int32.ofNat i))) (.int ((sby 20).getD i 0)) := by decide +kernel
theorem sn_21 : (subC narrow_1 (pth 11 804 529) = Cond.exactly (trm 21) "java/lang/String" ∧ subC narrow_1 (pth 11 804 530) = Cond.eq (.field (trm 21) "java/lang/String" "coder" "B") (.int 0) ∧ subC narrow_1 (pth 11 804 531) = Cond.arrayOf (.field (trm 21) "java/lang/String" "value" "[B") .byte ∧ subC narrow_1 (pth 11 804 532) = Cond.eq (.length (.field (trm 21) "java/lang/String" "value" "[B")) (.int (Int32.ofNat (sby 21).length))) ∧ ∀ i, i < (sby 21).length → subC narrow_1 (pth 11 804 (533 + i)) = Cond.eq (.elem (.field (trm 21) "java/lang/String" "value" "[B") (.int (Int32.ofNat i))) (.int ((sby 21).getD i 0)) := by decide +kernel
/-- a String constant: its cells -/
def SP (j : Nat) (args : Array Value) (s : State) (A : Nat → Prop) (q : Nat × Nat) : Prop := (trm j).eval args s none [] s = some (.ref q.1) ∧ va_O "java/lang/String" q.1 A s s.heap ∧ va_OF "java/lang/String" "coder" "B" (.int 0) q.1 A s s.heap ∧ va_OF "java/lang/String" "value" "[B" (.ref q.2) q.1 A s s.heap ∧ va_T .byte q.2 (sby j).length (fun i => .int ((sby j).getD i 0)) A s s.heap
theorem sp_of {args : Array Value} {s : State} {A : Nat → Prop} (hA : ∀ a : Nat, a < s.heap.size → ¬ A a) (hn : narrow_1.before args s = true) {j e c a l b : Nat} (hL : (sby j).length < 2 ^ 31)
    (h : (subC narrow_1 (pth 11 804 e) = Cond.exactly (trm j) "java/lang/String" ∧ subC narrow_1 (pth 11 804 c) = Cond.eq (.field (trm j) "java/lang/String" "coder" "B") (.int 0) ∧ subC narrow_1 (pth 11 804 a) = Cond.arrayOf (.field (trm j) "java/lang/String" "value" "[B") .byte ∧ subC narrow_1 (pth 11 804 l) = Cond.eq (.length (.field (trm j) "java/lang/String" "value" "[B")) (.int (Int32.ofNat (sby j).length))) ∧ ∀ i, i < (sby j).length → subC narrow_1 (pth 11 804 (b + i)) = Cond.eq (.elem (.field (trm j) "java/lang/String" "value" "[B") (.int (Int32.ofNat i))) (.int ((sby j).getD i 0))) : ∃ q, SP j args s A q := by
  obtain ⟨⟨h1, h2, h3, h4⟩, h5⟩ := h
  obtain ⟨adK, adV, hS, hE⟩ := vk_Sof (args := args) (s := s) (N := 1) (tm := fun _ => trm j) (len := [(sby j).length]) (byt := [sby j]) (A := A) (fun i hi => by
      have : i = 0 := by omega
      subst this
      exact hL) (fun i _ => nar hn e h1) (fun i _ => nar hn c h2) (fun i _ => nar hn a h3) (fun i hi => by
      have : i = 0 := by omega
      subst this
      exact nar hn l h4) (fun i hi k hk => by
      have : i = 0 := by omega
      subst this
      exact nar hn (b + k) (h5 k hk)) (fun i k hi hk hne => absurd (by omega) hne) hA
  obtain ⟨q1, q2, q3, q4⟩ := hS.1 0 (by decide)
  exact ⟨(adK 0, adV 0), hE 0 (by decide), q1, q2, q3, q4⟩
theorem sp_all {args : Array Value} {s : State} {A : Nat → Prop} (hA : ∀ a : Nat, a < s.heap.size → ¬ A a) (hn : narrow_1.before args s = true) : ∀ j, j < 22 → ∃ q, SP j args s A q
  | 0, _ => sp_of hA hn (by decide +kernel) sn_0
  | 1, _ => sp_of hA hn (by decide +kernel) sn_1
  | 2, _ => sp_of hA hn (by decide +kernel) sn_2
  | 3, _ => sp_of hA hn (by decide +kernel) sn_3
  | 4, _ => sp_of hA hn (by decide +kernel) sn_4
  | 5, _ => sp_of hA hn (by decide +kernel) sn_5
  | 6, _ => sp_of hA hn (by decide +kernel) sn_6
  | 7, _ => sp_of hA hn (by decide +kernel) sn_7
  | 8, _ => sp_of hA hn (by decide +kernel) sn_8
  | 9, _ => sp_of hA hn (by decide +kernel) sn_9
  | 10, _ => sp_of hA hn (by decide +kernel) sn_10
  | 11, _ => sp_of hA hn (by decide +kernel) sn_11
  | 12, _ => sp_of hA hn (by decide +kernel) sn_12
  | 13, _ => sp_of hA hn (by decide +kernel) sn_13
  | 14, _ => sp_of hA hn (by decide +kernel) sn_14
  | 15, _ => sp_of hA hn (by decide +kernel) sn_15
  | 16, _ => sp_of hA hn (by decide +kernel) sn_16
  | 17, _ => sp_of hA hn (by decide +kernel) sn_17
  | 18, _ => sp_of hA hn (by decide +kernel) sn_18
  | 19, _ => sp_of hA hn (by decide +kernel) sn_19
  | 20, _ => sp_of hA hn (by decide +kernel) sn_20
  | 21, _ => sp_of hA hn (by decide +kernel) sn_21
  | n + 22, h => absurd h (by omega)
theorem eq_ref {args : Array Value} {s : State} {t u : Term} {a : Nat} (h : (Cond.eq t u).before args s = true) (ht : t.eval args s none [] s = some (.ref a)) : u.eval args s none [] s = some (.ref a) := by
  cases hu : u.eval args s none [] s with
  | none => simp [Cond.before, Cond.holds, Cond.value, ht, hu] at h
  | some w =>
    cases w with
    | ref x =>
      simp [Cond.before, Cond.holds, Cond.value, ht, hu] at h
      rw [h]
    | _ => simp [Cond.before, Cond.holds, Cond.value, ht, hu] at h
theorem se_RX10_54 : subC narrow_1 (pth 11 804 677) = Cond.eq (trm 0) (.string RX10 54) := by decide +kernel
theorem se_RX10_188 : subC narrow_1 (pth 11 804 685) = Cond.eq (trm 1) (.string RX10 188) := by decide +kernel
theorem se_RX10_171 : subC narrow_1 (pth 11 804 695) = Cond.eq (trm 2) (.string RX10 171) := by decide +kernel
theorem se_RX5_80 : subC narrow_1 (pth 11 804 254) = Cond.eq (trm 3) (.string RX5 80) := by decide +kernel
theorem se_RX10_183 : subC narrow_1 (pth 11 804 703) = Cond.eq (trm 3) (.string RX10 183) := by decide +kernel
theorem se_RX10_203 : subC narrow_1 (pth 11 804 714) = Cond.eq (trm 4) (.string RX10 203) := by decide +kernel
theorem se_RX10_205 : subC narrow_1 (pth 11 804 722) = Cond.eq (trm 5) (.string RX10 205) := by decide +kernel
theorem se_RX10_207 : subC narrow_1 (pth 11 804 731) = Cond.eq (trm 6) (.string RX10 207) := by decide +kernel
theorem se_RX10_209 : subC narrow_1 (pth 11 804 740) = Cond.eq (trm 7) (.string RX10 209) := by decide +kernel
theorem se_RX10_211 : subC narrow_1 (pth 11 804 749) = Cond.eq (trm 8) (.string RX10 211) := by decide +kernel
theorem se_RX10_213 : subC narrow_1 (pth 11 804 758) = Cond.eq (trm 9) (.string RX10 213) := by decide +kernel
theorem se_RX10_215 : subC narrow_1 (pth 11 804 767) = Cond.eq (trm 10) (.string RX10 215) := by decide +kernel
theorem se_RX10_217 : subC narrow_1 (pth 11 804 776) = Cond.eq (trm 11) (.string RX10 217) := by decide +kernel
theorem se_RX10_219 : subC narrow_1 (pth 11 804 787) = Cond.eq (trm 12) (.string RX10 219) := by decide +kernel
theorem se_RX10_227 : subC narrow_1 (pth 11 804 794) = Cond.eq (trm 13) (.string RX10 227) := by decide +kernel
theorem se_RX10_229 : subC narrow_1 (pth 11 804 803) = Cond.eq (trm 14) (.string RX10 229) := by decide +kernel
theorem swx_RX9_80 : lw_tbl[351]? = some (Cond.stringRef RX9 80 "box 8 5 40; tooth 10 3 30; tooth 14 2 12; tooth 17 4 100; pin 0 0 0; pin 0 1 2; pin 0 2 4; pin 0 1 3; pin 1 0 1; pin 1 0 5;") := by decide +kernel
theorem swx_RX10_54 : lw_tbl[1394]? = some (Cond.stringRef RX10 54 "box 8 5 40; tooth 10 3 30; tooth 14 2 12; tooth 17 4 100; pin 0 0 0; pin 0 1 2; pin 0 2 4; pin 0 1 3; pin 1 0 1; pin 1 0 5;") := by decide +kernel
theorem swx_RX6_48 : lw_tbl[439]? = some (Cond.stringRef RX6 48 "box") := by decide +kernel
theorem swx_RX10_188 : lw_tbl[1421]? = some (Cond.stringRef RX10 188 "box") := by decide +kernel
theorem swx_RX6_31 : lw_tbl[489]? = some (Cond.stringRef RX6 31 "tooth") := by decide +kernel
theorem swx_RX10_171 : lw_tbl[1454]? = some (Cond.stringRef RX10 171 "tooth") := by decide +kernel
theorem swx_RX6_37 : lw_tbl[504]? = some (Cond.stringRef RX6 37 "pin") := by decide +kernel
theorem swx_RX5_80 : lw_tbl[621]? = some (Cond.stringRef RX5 80 "pin") := by decide +kernel
theorem swx_RX10_183 : lw_tbl[1463]? = some (Cond.stringRef RX10 183 "pin") := by decide +kernel
theorem swx_RX5_86 : lw_tbl[623]? = some (Cond.stringRef RX5 86 "unpin") := by decide +kernel
theorem swx_RX10_203 : lw_tbl[1613]? = some (Cond.stringRef RX10 203 "unpin") := by decide +kernel
theorem swx_RX5_88 : lw_tbl[624]? = some (Cond.stringRef RX5 88 "gap") := by decide +kernel
theorem swx_RX10_205 : lw_tbl[1614]? = some (Cond.stringRef RX10 205 "gap") := by decide +kernel
theorem swx_RX5_90 : lw_tbl[625]? = some (Cond.stringRef RX5 90 "bend") := by decide +kernel
theorem swx_RX10_207 : lw_tbl[1615]? = some (Cond.stringRef RX10 207 "bend") := by decide +kernel
theorem swx_RX5_92 : lw_tbl[626]? = some (Cond.stringRef RX5 92 "mend") := by decide +kernel
theorem swx_RX10_209 : lw_tbl[1616]? = some (Cond.stringRef RX10 209 "mend") := by decide +kernel
theorem swx_RX5_94 : lw_tbl[627]? = some (Cond.stringRef RX5 94 "vane") := by decide +kernel
theorem swx_RX10_211 : lw_tbl[1617]? = some (Cond.stringRef RX10 211 "vane") := by decide +kernel
theorem swx_RX5_96 : lw_tbl[628]? = some (Cond.stringRef RX5 96 "wind") := by decide +kernel
theorem swx_RX10_213 : lw_tbl[1618]? = some (Cond.stringRef RX10 213 "wind") := by decide +kernel
theorem swx_RX5_98 : lw_tbl[629]? = some (Cond.stringRef RX5 98 "tune") := by decide +kernel
theorem swx_RX10_215 : lw_tbl[1619]? = some (Cond.stringRef RX10 215 "tune") := by decide +kernel
theorem swx_RX5_100 : lw_tbl[630]? = some (Cond.stringRef RX5 100 "play") := by decide +kernel
theorem swx_RX10_217 : lw_tbl[1620]? = some (Cond.stringRef RX10 217 "play") := by decide +kernel
theorem swx_RX5_102 : lw_tbl[631]? = some (Cond.stringRef RX5 102 "repeat") := by decide +kernel
theorem swx_RX10_219 : lw_tbl[1621]? = some (Cond.stringRef RX10 219 "repeat") := by decide +kernel
theorem swx_RX5_114 : lw_tbl[665]? = some (Cond.stringRef RX5 114 "up") := by decide +kernel
theorem swx_RX10_227 : lw_tbl[1634]? = some (Cond.stringRef RX10 227 "up") := by decide +kernel
theorem swx_RX5_116 : lw_tbl[666]? = some (Cond.stringRef RX5 116 "down") := by decide +kernel
theorem swx_RX10_229 : lw_tbl[1635]? = some (Cond.stringRef RX10 229 "down") := by decide +kernel
theorem swx_RX9_107 : lw_tbl[964]? = some (Cond.stringRef RX9 107 "the text buffer would be too long") := by decide +kernel
theorem swx_RX9_117 : lw_tbl[1011]? = some (Cond.stringRef RX9 117 "length out of range") := by decide +kernel
theorem swx_RX9_365 : lw_tbl[1039]? = some (Cond.stringRef RX9 365 "there is no such tune, tooth, step or slot") := by decide +kernel
theorem swx_RX9_368 : lw_tbl[1046]? = some (Cond.stringRef RX9 368 "an argument is out of range") := by decide +kernel
theorem swx_RX9_370 : lw_tbl[1047]? = some (Cond.stringRef RX9 370 "not possible in this state") := by decide +kernel
theorem swx_RX9_199 : lw_tbl[1098]? = some (Cond.stringRef RX9 199 "there is no pin") := by decide +kernel
theorem swx_RX9_361 : lw_tbl[1387]? = some (Cond.stringRef RX9 361 "the slot is empty") := by decide +kernel
theorem stt_all {args : Array Value} {s : State} {A : Nat → Prop} {ad : Rf → Nat} (hts : ∀ w ∈ lw_tbl, w.before args s = true) (hn : narrow_1.before args s = true) (hs : ∀ j, j < 22 → (trm j).eval args s none [] s = some (.ref (ad (30, j, 0)))) : ∀ q ∈ stt, vk_R q.1 q.2.1 q.2.2.1 (ad (30, q.2.2.2, 0)) s := by
  unfold stt
  simp only [List.forall_mem_cons]
  exact ⟨vk_R.of (hts _ (List.mem_of_getElem? swx_RX9_80)) (hs 0 (by decide)), vk_R.of (hts _ (List.mem_of_getElem? swx_RX10_54)) (eq_ref (nar hn _ se_RX10_54) (hs 0 (by decide))), vk_R.of (hts _ (List.mem_of_getElem? swx_RX6_48)) (hs 1 (by decide)), vk_R.of (hts _ (List.mem_of_getElem? swx_RX10_188)) (eq_ref (nar hn _ se_RX10_188) (hs 1 (by decide))), vk_R.of (hts _ (List.mem_of_getElem? swx_RX6_31)) (hs 2 (by decide)), vk_R.of (hts _ (List.mem_of_getElem? swx_RX10_171)) (eq_ref (nar hn _ se_RX10_171) (hs 2 (by decide))), vk_R.of (hts _ (List.mem_of_getElem? swx_RX6_37)) (hs 3 (by decide)), vk_R.of (hts _ (List.mem_of_getElem? swx_RX5_80)) (eq_ref (nar hn _ se_RX5_80) (hs 3 (by decide))), vk_R.of (hts _ (List.mem_of_getElem? swx_RX10_183)) (eq_ref (nar hn _ se_RX10_183) (hs 3 (by decide))), vk_R.of (hts _ (List.mem_of_getElem? swx_RX5_86)) (hs 4 (by decide)), vk_R.of (hts _ (List.mem_of_getElem? swx_RX10_203)) (eq_ref (nar hn _ se_RX10_203) (hs 4 (by decide))), vk_R.of (hts _ (List.mem_of_getElem? swx_RX5_88)) (hs 5 (by decide)), vk_R.of (hts _ (List.mem_of_getElem? swx_RX10_205)) (eq_ref (nar hn _ se_RX10_205) (hs 5 (by decide))), vk_R.of (hts _ (List.mem_of_getElem? swx_RX5_90)) (hs 6 (by decide)), vk_R.of (hts _ (List.mem_of_getElem? swx_RX10_207)) (eq_ref (nar hn _ se_RX10_207) (hs 6 (by decide))), vk_R.of (hts _ (List.mem_of_getElem? swx_RX5_92)) (hs 7 (by decide)), vk_R.of (hts _ (List.mem_of_getElem? swx_RX10_209)) (eq_ref (nar hn _ se_RX10_209) (hs 7 (by decide))), vk_R.of (hts _ (List.mem_of_getElem? swx_RX5_94)) (hs 8 (by decide)), vk_R.of (hts _ (List.mem_of_getElem? swx_RX10_211)) (eq_ref (nar hn _ se_RX10_211) (hs 8 (by decide))), vk_R.of (hts _ (List.mem_of_getElem? swx_RX5_96)) (hs 9 (by decide)), vk_R.of (hts _ (List.mem_of_getElem? swx_RX10_213)) (eq_ref (nar hn _ se_RX10_213) (hs 9 (by decide))), vk_R.of (hts _ (List.mem_of_getElem? swx_RX5_98)) (hs 10 (by decide)), vk_R.of (hts _ (List.mem_of_getElem? swx_RX10_215)) (eq_ref (nar hn _ se_RX10_215) (hs 10 (by decide))), vk_R.of (hts _ (List.mem_of_getElem? swx_RX5_100)) (hs 11 (by decide)), vk_R.of (hts _ (List.mem_of_getElem? swx_RX10_217)) (eq_ref (nar hn _ se_RX10_217) (hs 11 (by decide))), vk_R.of (hts _ (List.mem_of_getElem? swx_RX5_102)) (hs 12 (by decide)), vk_R.of (hts _ (List.mem_of_getElem? swx_RX10_219)) (eq_ref (nar hn _ se_RX10_219) (hs 12 (by decide))), vk_R.of (hts _ (List.mem_of_getElem? swx_RX5_114)) (hs 13 (by decide)), vk_R.of (hts _ (List.mem_of_getElem? swx_RX10_227)) (eq_ref (nar hn _ se_RX10_227) (hs 13 (by decide))), vk_R.of (hts _ (List.mem_of_getElem? swx_RX5_116)) (hs 14 (by decide)), vk_R.of (hts _ (List.mem_of_getElem? swx_RX10_229)) (eq_ref (nar hn _ se_RX10_229) (hs 14 (by decide))), vk_R.of (hts _ (List.mem_of_getElem? swx_RX9_107)) (hs 15 (by decide)), vk_R.of (hts _ (List.mem_of_getElem? swx_RX9_117)) (hs 16 (by decide)), vk_R.of (hts _ (List.mem_of_getElem? swx_RX9_365)) (hs 17 (by decide)), vk_R.of (hts _ (List.mem_of_getElem? swx_RX9_368)) (hs 18 (by decide)), vk_R.of (hts _ (List.mem_of_getElem? swx_RX9_370)) (hs 19 (by decide)), vk_R.of (hts _ (List.mem_of_getElem? swx_RX9_199)) (hs 20 (by decide)), vk_R.of (hts _ (List.mem_of_getElem? swx_RX9_361)) (hs 21 (by decide)), fun _ h => absurd h List.not_mem_nil⟩
theorem sc_0_1 : subC narrow_1 (pth 11 804 34) = Cond.not (.castable "java/lang/IllegalStateException" "java/lang/IllegalArgumentException") := by decide +kernel
theorem sc_0_2 : subC narrow_1 (pth 11 804 48) = Cond.not (.castable "java/lang/IllegalStateException" "java/lang/IndexOutOfBoundsException") := by decide +kernel
theorem sc_0_3 : subC narrow_1 (pth 11 804 62) = Cond.not (.castable "java/lang/IllegalStateException" "java/util/NoSuchElementException") := by decide +kernel
theorem sc_1_0 : subC narrow_1 (pth 11 804 20) = Cond.not (.castable "java/lang/IllegalArgumentException" "java/lang/IllegalStateException") := by decide +kernel
theorem sc_1_2 : subC narrow_1 (pth 11 804 49) = Cond.not (.castable "java/lang/IllegalArgumentException" "java/lang/IndexOutOfBoundsException") := by decide +kernel
theorem sc_1_3 : subC narrow_1 (pth 11 804 63) = Cond.not (.castable "java/lang/IllegalArgumentException" "java/util/NoSuchElementException") := by decide +kernel
theorem sc_2_0 : subC narrow_1 (pth 11 804 21) = Cond.not (.castable "java/lang/IndexOutOfBoundsException" "java/lang/IllegalStateException") := by decide +kernel
theorem sc_2_1 : subC narrow_1 (pth 11 804 35) = Cond.not (.castable "java/lang/IndexOutOfBoundsException" "java/lang/IllegalArgumentException") := by decide +kernel
theorem sc_2_3 : subC narrow_1 (pth 11 804 64) = Cond.not (.castable "java/lang/IndexOutOfBoundsException" "java/util/NoSuchElementException") := by decide +kernel
theorem sc_3_0 : subC narrow_1 (pth 11 804 22) = Cond.not (.castable "java/util/NoSuchElementException" "java/lang/IllegalStateException") := by decide +kernel
theorem sc_3_1 : subC narrow_1 (pth 11 804 36) = Cond.not (.castable "java/util/NoSuchElementException" "java/lang/IllegalArgumentException") := by decide +kernel
theorem sc_3_2 : subC narrow_1 (pth 11 804 50) = Cond.not (.castable "java/util/NoSuchElementException" "java/lang/IndexOutOfBoundsException") := by decide +kernel
theorem exs_nc {args : Array Value} {s : State} (hn : narrow_1.before args s = true) : ∀ x ∈ exs, ∀ y ∈ exs, x ≠ y → va_Nc x y s := by
  unfold exs
  simp only [List.forall_mem_cons]
  exact ⟨⟨fun h => absurd rfl h, fun _ => va_Nc.of (nar hn _ sc_0_1), fun _ => va_Nc.of (nar hn _ sc_0_2), fun _ => va_Nc.of (nar hn _ sc_0_3), fun _ h => absurd h List.not_mem_nil⟩, ⟨fun _ => va_Nc.of (nar hn _ sc_1_0), fun h => absurd rfl h, fun _ => va_Nc.of (nar hn _ sc_1_2), fun _ => va_Nc.of (nar hn _ sc_1_3), fun _ h => absurd h List.not_mem_nil⟩, ⟨fun _ => va_Nc.of (nar hn _ sc_2_0), fun _ => va_Nc.of (nar hn _ sc_2_1), fun h => absurd rfl h, fun _ => va_Nc.of (nar hn _ sc_2_3), fun _ h => absurd h List.not_mem_nil⟩, ⟨fun _ => va_Nc.of (nar hn _ sc_3_0), fun _ => va_Nc.of (nar hn _ sc_3_1), fun _ => va_Nc.of (nar hn _ sc_3_2), fun h => absurd rfl h, fun _ h => absurd h List.not_mem_nil⟩, fun _ h => absurd h List.not_mem_nil⟩
theorem sx_com : subC narrow_1 (pth 11 804 2) = Cond.eq (.static "java/lang/String" "COMPACT_STRINGS" "Z") (.int 1) := by decide +kernel
theorem sx_fmt : subC narrow_1 (pth 11 804 3) = Cond.isRef (.static "jdk/internal/util/Preconditions" "SIOOBE_FORMATTER" "Ljava/util/function/BiFunction;") := by decide +kernel
theorem sx_uns : subC narrow_1 (pth 11 804 7) = Cond.isRef (.static Bundle.tN "UNASSIGNED_STACK" Bundle.steD) := by decide +kernel
theorem sx_sup : subC narrow_1 (pth 11 804 8) = Cond.isRef (.static Bundle.tN "SUPPRESSED_SENTINEL" Bundle.listD) := by decide +kernel
theorem sl_1 : lw_tbl[361]? = some (Cond.laysStatic "java/lang/String" "COMPACT_STRINGS" "Z") := by decide +kernel
theorem sl_2 : lw_tbl[377]? = some (Cond.laysStatic "jdk/internal/util/Preconditions" "SIOOBE_FORMATTER" "Ljava/util/function/BiFunction;") := by decide +kernel
theorem sl_3 : lw_tbl[949]? = some (Cond.laysStatic Bundle.tN "UNASSIGNED_STACK" Bundle.steD) := by decide +kernel
theorem sl_4 : lw_tbl[951]? = some (Cond.laysStatic Bundle.tN "SUPPRESSED_SENTINEL" Bundle.listD) := by decide +kernel
theorem si_1 : lw_tbl[80]? = some (Cond.initialized "java/lang/String") := by decide +kernel
theorem si_2 : lw_tbl[82]? = some (Cond.initialized "jdk/internal/util/Preconditions") := by decide +kernel
theorem si_3 : lw_tbl[87]? = some (Cond.initialized "java/lang/Throwable") := by decide +kernel
theorem sv_0 : lw_tbl[162]? = some (Cond.methodLinkNest RX9 32 yX4_init "MusicBoxEditor") := by decide +kernel
theorem sv_1 : lw_tbl[199]? = some (Cond.methodLinkNest RX0 11 yX3_init "MusicBoxEditor") := by decide +kernel
theorem sv_2 : lw_tbl[228]? = some (Cond.methodLinkNest RX0 24 yX8_init "MusicBoxEditor") := by decide +kernel
theorem sv_3 : lw_tbl[674]? = some (Cond.methodLinkNest RX9 143 yX4_runPart "MusicBoxEditor") := by decide +kernel
theorem sv_4 : lw_tbl[719]? = some (Cond.methodLinkNest RX0 95 yX9_rangeFault "MusicBoxEditor") := by decide +kernel
theorem sv_5 : lw_tbl[731]? = some (Cond.methodLinkNest RX4 78 yX9_rangeFault "MusicBoxEditor") := by decide +kernel
theorem sv_6 : lw_tbl[924]? = some (Cond.castable "java/lang/IllegalStateException" "java/lang/IllegalStateException") := by decide +kernel
theorem sv_7 : lw_tbl[925]? = some (Cond.declares ⟨"java/lang/RuntimeException", "<init>", "()V"⟩) := by decide +kernel
theorem sv_8 : lw_tbl[926]? = some (Cond.declares ⟨"java/lang/RuntimeException", "<init>", "(Ljava/lang/String;)V"⟩) := by decide +kernel
theorem sv_9 : lw_tbl[927]? = some (Cond.declares ⟨"java/lang/Exception", "<init>", "()V"⟩) := by decide +kernel
theorem sv_10 : lw_tbl[928]? = some (Cond.declares ⟨"java/lang/Exception", "<init>", "(Ljava/lang/String;)V"⟩) := by decide +kernel
theorem sv_11 : lw_tbl[929]? = some (Cond.declares ⟨"java/lang/Throwable", "<init>", "()V"⟩) := by decide +kernel
theorem sv_12 : lw_tbl[930]? = some (Cond.declares ⟨"java/lang/Throwable", "<init>", "(Ljava/lang/String;)V"⟩) := by decide +kernel
theorem sv_13 : lw_tbl[1004]? = some (Cond.castable "java/lang/IllegalArgumentException" "java/lang/IllegalArgumentException") := by decide +kernel
theorem sv_14 : lw_tbl[1032]? = some (Cond.castable "java/lang/IndexOutOfBoundsException" "java/lang/IndexOutOfBoundsException") := by decide +kernel
theorem sv_15 : lw_tbl[1091]? = some (Cond.castable "java/util/NoSuchElementException" "java/util/NoSuchElementException") := by decide +kernel
theorem sv_16 : lw_tbl[1999]? = some (Cond.castable "MusicBoxEditor" "java/lang/Object") := by decide +kernel
theorem sv_17 : lw_tbl[2000]? = some (Cond.castable "MusicBoxEditor$Bytes" "java/lang/Object") := by decide +kernel
theorem sv_18 : lw_tbl[2001]? = some (Cond.castable "MusicBoxEditor$Tokens" "java/lang/Object") := by decide +kernel
theorem sv_19 : lw_tbl[2002]? = some (Cond.castable "MusicBoxEditor$Script" "java/lang/Object") := by decide +kernel
theorem sv_20 : lw_tbl[2003]? = some (Cond.castable "MusicBoxEditor$Box" "java/lang/Object") := by decide +kernel
theorem sv_21 : lw_tbl[2004]? = some (Cond.castable "MusicBoxEditor$Roll" "java/lang/Object") := by decide +kernel
theorem sv_22 : lw_tbl[2005]? = some (Cond.castable "MusicBoxEditor$Tooth" "java/lang/Object") := by decide +kernel
theorem sv_23 : lw_tbl[2006]? = some (Cond.castable "MusicBoxEditor$SetupReader" "java/lang/Object") := by decide +kernel
theorem sv_24 : lw_tbl[2007]? = some (Cond.castable "MusicBoxEditor$ScriptReader" "java/lang/Object") := by decide +kernel
theorem sv_25 : lw_tbl[2008]? = some (Cond.castable "MusicBoxEditor$History" "java/lang/Object") := by decide +kernel
theorem sv_26 : lw_tbl[2009]? = some (Cond.castable "MusicBoxEditorModel" "java/lang/Object") := by decide +kernel
theorem sv_27 : lw_tbl[2010]? = some (Cond.castable "java/lang/IllegalStateException" "java/lang/Object") := by decide +kernel
theorem sv_28 : lw_tbl[2011]? = some (Cond.castable "java/lang/IllegalArgumentException" "java/lang/Object") := by decide +kernel
theorem sv_29 : lw_tbl[2012]? = some (Cond.castable "java/lang/IndexOutOfBoundsException" "java/lang/Object") := by decide +kernel
theorem sv_30 : lw_tbl[2013]? = some (Cond.castable "java/util/NoSuchElementException" "java/lang/Object") := by decide +kernel
theorem sv_31 : lw_tbl[2014]? = some (Cond.castable "java/lang/Throwable" "java/lang/Object") := by decide +kernel
theorem sv_32 : lw_tbl[2015]? = some (Cond.castable "java/lang/String" "java/lang/Object") := by decide +kernel
theorem sv_33 : lw_tbl[226]? = some (Cond.arrayOver (.object RX8)) := by decide +kernel
theorem sv_34 : lw_tbl[338]? = some (Cond.arrayOver (.object RX0)) := by decide +kernel
theorem nsw_all {args : Array Value} {s : State} (hts : ∀ w ∈ lw_tbl, w.before args s = true) : ∀ w ∈ nsw, va_Nw w s := by
  unfold nsw
  simp only [List.forall_mem_cons]
  exact ⟨va_Nw.of rfl (hts _ (List.mem_of_getElem? sv_0)), va_Nw.of rfl (hts _ (List.mem_of_getElem? sv_1)), va_Nw.of rfl (hts _ (List.mem_of_getElem? sv_2)), va_Nw.of rfl (hts _ (List.mem_of_getElem? sv_3)), va_Nw.of rfl (hts _ (List.mem_of_getElem? sv_4)), va_Nw.of rfl (hts _ (List.mem_of_getElem? sv_5)), va_Nw.of rfl (hts _ (List.mem_of_getElem? sv_6)), va_Nw.of rfl (hts _ (List.mem_of_getElem? sv_7)), va_Nw.of rfl (hts _ (List.mem_of_getElem? sv_8)), va_Nw.of rfl (hts _ (List.mem_of_getElem? sv_9)), va_Nw.of rfl (hts _ (List.mem_of_getElem? sv_10)), va_Nw.of rfl (hts _ (List.mem_of_getElem? sv_11)), va_Nw.of rfl (hts _ (List.mem_of_getElem? sv_12)), va_Nw.of rfl (hts _ (List.mem_of_getElem? sv_13)), va_Nw.of rfl (hts _ (List.mem_of_getElem? sv_14)), va_Nw.of rfl (hts _ (List.mem_of_getElem? sv_15)), va_Nw.of rfl (hts _ (List.mem_of_getElem? sv_16)), va_Nw.of rfl (hts _ (List.mem_of_getElem? sv_17)), va_Nw.of rfl (hts _ (List.mem_of_getElem? sv_18)), va_Nw.of rfl (hts _ (List.mem_of_getElem? sv_19)), va_Nw.of rfl (hts _ (List.mem_of_getElem? sv_20)), va_Nw.of rfl (hts _ (List.mem_of_getElem? sv_21)), va_Nw.of rfl (hts _ (List.mem_of_getElem? sv_22)), va_Nw.of rfl (hts _ (List.mem_of_getElem? sv_23)), va_Nw.of rfl (hts _ (List.mem_of_getElem? sv_24)), va_Nw.of rfl (hts _ (List.mem_of_getElem? sv_25)), va_Nw.of rfl (hts _ (List.mem_of_getElem? sv_26)), va_Nw.of rfl (hts _ (List.mem_of_getElem? sv_27)), va_Nw.of rfl (hts _ (List.mem_of_getElem? sv_28)), va_Nw.of rfl (hts _ (List.mem_of_getElem? sv_29)), va_Nw.of rfl (hts _ (List.mem_of_getElem? sv_30)), va_Nw.of rfl (hts _ (List.mem_of_getElem? sv_31)), va_Nw.of rfl (hts _ (List.mem_of_getElem? sv_32)), va_AO.of (hts _ (List.mem_of_getElem? sv_33)), va_AO.of (hts _ (List.mem_of_getElem? sv_34)), fun _ h => absurd h List.not_mem_nil⟩
theorem sk_0 : Cond.instantiable (Rc 0) (Nc 0) ∈ AL := al_mem 192 (by decide +kernel) (by decide +kernel)
theorem sk_1 : Cond.instantiable (Rc 1) (Nc 1) ∈ AL := al_mem 106 (by decide +kernel) (by decide +kernel)
theorem sk_2 : Cond.instantiable (Rc 2) (Nc 2) ∈ AL := al_mem 332 (by decide +kernel) (by decide +kernel)
theorem sk_3 : Cond.instantiable (Rc 3) (Nc 3) ∈ AL := al_mem 198 (by decide +kernel) (by decide +kernel)
theorem sk_4 : Cond.instantiable (Rc 4) (Nc 4) ∈ AL := al_mem 161 (by decide +kernel) (by decide +kernel)
theorem sk_5 : Cond.instantiable (Rc 5) (Nc 5) ∈ AL := al_mem 319 (by decide +kernel) (by decide +kernel)
theorem sk_6 : Cond.instantiable (Rc 6) (Nc 6) ∈ AL := al_mem 306 (by decide +kernel) (by decide +kernel)
theorem sk_7 : Cond.instantiable (Rc 7) (Nc 7) ∈ AL := al_mem 125 (by decide +kernel) (by decide +kernel)
theorem sk_8 : Cond.instantiable (Rc 8) (Nc 8) ∈ AL := al_mem 227 (by decide +kernel) (by decide +kernel)
theorem sk_9 : Cond.instantiable (Rc 9) (Nc 9) ∈ AL := al_mem 98 (by decide +kernel) (by decide +kernel)
theorem sk_10 : Cond.instantiable (Rc 10) (Nc 10) ∈ AL := al_mem 1389 (by decide +kernel) (by decide +kernel)
theorem kn_all {args : Array Value} {s : State} (h : ∀ w ∈ AL, w.before args s = true) : ∃ D : va_G, ∀ (k : Nat) (q : vw_C), vwCl[k]? = some q → u_Kn s q.1 q.2.1 q.2.2 (D.1 k) (D.2 k) := by
  have h0 : ∀ k : Nat, ∃ z : ClassId × (Nat → Nat), k < 11 → u_Kn s (Rc k) (Tc k) (Nc k) z.1 z.2 := by
    intro k
    by_cases hk : k < 11
    · have hi : Cond.instantiable (Rc k) (Nc k) ∈ AL := match k, hk with
        | 0, _ => sk_0
        | 1, _ => sk_1
        | 2, _ => sk_2
        | 3, _ => sk_3
        | 4, _ => sk_4
        | 5, _ => sk_5
        | 6, _ => sk_6
        | 7, _ => sk_7
        | 8, _ => sk_8
        | 9, _ => sk_9
        | 10, _ => sk_10
        | n + 11, h => absurd h (by omega)
      obtain ⟨c, i, hc⟩ := u_known (C := Rc k) (T := Tc k) (N := Nc k) h (inC k hk) (h _ hi)
      exact ⟨(c, i), fun _ => hc⟩
    · exact ⟨(0, fun _ => 0), fun h => absurd h hk⟩
  obtain ⟨f, hf⟩ := Classical.axiomOfChoice h0
  refine ⟨(fun k => (f k).1, fun k => (f k).2), fun k q hq => ?_⟩
  have hk : k < 11 := (List.getElem?_eq_some_iff.mp hq).1
  have h2 := clC k hk
  rw [hq] at h2
  cases h2
  exact hf k hk
theorem ar_all {args : Array Value} {s : State} (h : ∀ w ∈ AL, w.before args s = true) (hn : ∀ w ∈ nsw, va_Nw w s) : ∃ tc : Nat → ClassId, ∀ (k : Nat) (q : ClassId × FieldType), (tys tc)[k]? = some q → ArrOfT s q.1 q.2 ∧ va_RA s q.1 q.2 := by
  have p1 : ∀ ty : FieldType, Cond.arrayClass ty ∈ AL → ∃ c, ArrOfT s c ty ∧ s.vm.findClass ("[" ++ ty.toString) = some c := fun ty hw => by
    obtain ⟨c, k, comp, h1, h2, h3⟩ := Cond.arrayClass_spec (h _ hw)
    exact ⟨c, fun n z => ⟨fun k h => (by cases h), k, h2, comp, h3⟩, h1⟩
  have p2 : ∀ C : String, Cond.arrayOver (.object C) ∈ nsw → ∃ c, ArrOfT s c (.object C) ∧ va_RA s c (.object C) := fun C hw => by
    have hw2 : va_AO C s := hn _ hw
    obtain ⟨comp, c, k, h1, h2, h3, h4, h5⟩ := Cond.arrayOver_spec (va_AO.use (A := #[]) hw2)
    exact ⟨c, fun n z => ⟨fun k h => (by cases h), k, h3, comp, h4⟩, k, comp, h3, h4, h1, h5⟩
  obtain ⟨c0, a0, b0⟩ := p1 .int ac_i
  obtain ⟨c1, a1, b1⟩ := p1 .boolean ac_z
  obtain ⟨c2, a2, b2⟩ := p1 .long ac_l
  obtain ⟨c3, a3, b3⟩ := p1 .double (al_mem 1997 (by decide +kernel) (by decide +kernel))
  obtain ⟨c4, a4, b4⟩ := p2 RX8 cq_0_18.2
  obtain ⟨c5, a5, b5⟩ := p2 RX0 cq_2_9.2
  refine ⟨fun k => match k with | 0 => c0 | 1 => c1 | 2 => c2 | 3 => c3 | 4 => c4 | _ => c5, fun k q hq => ?_⟩
  match k, hq with
  | 0, hq => cases hq; exact ⟨a0, b0⟩
  | 1, hq => cases hq; exact ⟨a1, b1⟩
  | 2, hq => cases hq; exact ⟨a2, b2⟩
  | 3, hq => cases hq; exact ⟨a3, b3⟩
  | 4, hq => cases hq; exact ⟨a4, b4⟩
  | 5, hq => cases hq; exact ⟨a5, b5⟩
  | k + 6, hq => cases hq
