/-! a text builder, as a list of bytes -/
def Off (zs : List Rf) (M M' : Mm) : Prop := ∀ r, r ∉ zs → M'.1 r = M.1 r ∧ M'.2 r = M.2 r
theorem Off.tr {zs : List Rf} {M M1 M2 : Mm} (h : Off zs M M1) (g : Off zs M1 M2) : Off zs M M2 := fun r hr => ⟨(g r hr).1.trans (h r hr).1, (g r hr).2.trans (h r hr).2⟩
theorem Off.rf {zs : List Rf} {M : Mm} : Off zs M M := fun _ _ => ⟨rfl, rfl⟩
theorem Off.put {zs : List Rf} {M M1 : Mm} {r : Rf} {j : Nat} {v : Int32} (h : Off zs M M1) (hr : r ∈ zs) : Off zs M (putI M1 r j v) := fun x hx => by
  have hne : x ≠ r := fun e => hx (e ▸ hr)
  exact ⟨(putI_ne hne).trans (h x hx).1, (h x hx).2⟩
def TX (M : Mm) (z : Nat) (bs : List Int32) (cap : Nat) : Prop :=
  M.1 (24, z, 0) 1 = 0 ∧ M.1 (24, z, 0) 3 = nI bs.length ∧ M.1 (25, z, 0) LG = nI cap ∧ bs.length ≤ cap ∧ cap < LG ∧ (∀ i, i < bs.length → M.1 (25, z, 0) i = bs.getD i 0) ∧ fitB (M.1 (25, z, 0)) cap = true
def ZB (z : Nat) : List Rf := [(24, z, 0), (25, z, 0), (27, 0, 0)]
theorem nIinj {a b : Nat} (ha : a < 2 ^ 31) (hb : b < 2 ^ 31) (h : nI a = nI b) : a = b := by
  have := congrArg Int32.toNatClampNeg h
  rwa [nI_clamp ha, nI_clamp hb] at this
theorem nIlt {a b : Nat} (ha : a < 2 ^ 31) (hb : b < 2 ^ 31) : nI a < nI b ↔ a < b := Int32.ofNat_lt_ofNat ha hb
theorem nIle {a b : Nat} (ha : a < 2 ^ 31) (hb : b < 2 ^ 31) : nI a ≤ nI b ↔ a ≤ b := by
  rw [← Int32.not_lt, nIlt hb ha]
  omega
theorem nI_0le {a : Nat} (ha : a < 2 ^ 31) : (0 : Int32) ≤ nI a := (nIle (a := 0) (by decide) ha).mpr (Nat.zero_le a)
theorem fitB_of {f : Nat → Int32} {n : Nat} (h : ∀ i, i < n → fits .byte (.int (f i)) = true) : fitB f n = true := List.all_eq_true.mpr fun i hi => h i (List.mem_range.mp hi)
theorem LGv : LG = 1000000 := rfl
theorem cpB_L {M : Mm} {f : Nat → Int32} {r : Rf} {dp n : Nat} : (cpB M f r dp n).1 r LG = M.1 r LG := if_neg (fun c => c.2 rfl)
theorem cpB_at {M : Mm} {f : Nat → Int32} {r : Rf} {dp n j : Nat} (hj : j < LG) : (cpB M f r dp n).1 r j = if dp ≤ j ∧ j < dp + n then f (j - dp) else M.1 r j := by
  show (if r = r ∧ j ≠ LG then va_cpy f (M.1 r) 0 dp n j else M.1 r j) = _
  rw [if_pos ⟨rfl, by omega⟩]
  unfold va_cpy
  simp only [Nat.zero_add]
theorem cpB_o {M : Mm} {f : Nat → Int32} {r x : Rf} {dp n : Nat} (h : x ≠ r) : (cpB M f r dp n).1 x = M.1 x ∧ (cpB M f r dp n).2 x = M.2 x := ⟨funext fun j => if_neg (fun c => h c.1), rfl⟩
theorem copyOf_ok {M : Mm} {z n B cap : Nat} {bs : List Int32} (h : TX M z bs cap) (hn : cap < n) (hB : n ≤ B) (hL : B ≤ LG) :
    ∃ M', fJ7_copyOf_9075b M z (nI n) B = some M' ∧ M'.1 (27, 0, 0) LG = nI n ∧ (∀ i, i < bs.length → M'.1 (27, 0, 0) i = bs.getD i 0) ∧ fitB (M'.1 (27, 0, 0)) n = true ∧ Off [(27, 0, 0)] M M' := by
  obtain ⟨t1, t2, t3, t4, t5, t6, t7⟩ := h
  have hLG := LGv
  have h25 : (nB M (27, 0, 0) (nI n)).1 (25, z, 0) = M.1 (25, z, 0) := (nB_o _ (by simp)).1
  have c31 : cap < 2 ^ 31 := by omega
  have n31 : n < 2 ^ 31 := by omega
  have hmin : ∀ M2 : Mm, fJ9_min_7cf53 M2 (nI cap) (nI n) = nI cap := fun M2 => by
    unfold fJ9_min_7cf53
    rw [if_neg (by rw [nIlt n31 c31]; omega)]
  have hab : abOk (nB M (27, 0, 0) (nI n)) (25, z, 0) (27, 0, 0) 0 (nI cap) = true := by
    unfold abOk
    rw [h25, t3, nB_L, nI_clamp c31, nI_clamp n31]
    simp only [Bool.and_eq_true, decide_eq_true_eq]
    exact ⟨⟨⟨⟨⟨by decide, nI_pos c31⟩, Nat.le_refl _⟩, by show 0 + cap ≤ n; omega⟩, by omega⟩, t7⟩
  refine ⟨cpB (nB M (27, 0, 0) (nI n)) (M.1 (25, z, 0)) (27, 0, 0) 0 cap, ?_, ?_, fun i hi => ?_, ?_, fun r hr => ?_⟩
  · unfold fJ7_copyOf_9075b
    rw [h25, t3, if_pos (nI_0le c31), if_neg (fun e => by have := nIinj n31 c31 e; omega), if_pos ⟨nI_pos n31, by rw [nI_clamp n31]; exact hB⟩, if_pos (nI_0le c31), hmin, if_pos hab, nI_clamp c31]
  · rw [cpB_L, nB_L]
  · rw [cpB_at (by omega), if_pos ⟨Nat.zero_le _, by omega⟩, Nat.sub_zero, t6 i hi]
  · refine fitB_of fun i hi => ?_
    rw [cpB_at (by omega)]
    by_cases hc : 0 ≤ i ∧ i < 0 + cap
    · rw [if_pos hc, Nat.sub_zero]
      exact fitB_s t7 i (by omega)
    · rw [if_neg hc, nB_0 (by omega)]
      decide
  · have hne : r ≠ (27, 0, 0) := fun e => hr (by rw [e]; exact List.mem_cons_self)
    have h1 := cpB_o (M := nB M (27, 0, 0) (nI n)) (f := M.1 (25, z, 0)) (dp := 0) (n := cap) hne
    have h2 := nB_o (M := M) (n := nI n) r hne
    exact ⟨h1.1.trans h2.1, h1.2.trans h2.2⟩
theorem sub_le0 {n cap : Nat} (n31 : n < 2 ^ 31) (c31 : cap < 2 ^ 31) (hc : n ≤ cap) : nI n - nI cap ≤ 0 := by
  rw [Int32.le_iff_toInt_le, Int32.toInt_sub, show (nI n).toInt = n from Int32.toInt_ofNat_of_lt n31, show (nI cap).toInt = cap from Int32.toInt_ofNat_of_lt c31, Int.bmod_eq_of_le (by omega) (by omega)]
  show (n : Int) - cap ≤ 0
  omega
/-- room for n bytes -/
theorem ensure_ok {M : Mm} {z n B cap : Nat} {bs : List Int32} (h : TX M z bs cap) (hn : n ≤ B) (h2 : 2 * cap + 2 ≤ B) (hL : B < LG) :
    ∃ M' cap', fJ5_ensureCapacityInternal_d00df M z (nI n) B = some M' ∧ TX M' z bs cap' ∧ n ≤ cap' ∧ cap ≤ cap' ∧ cap' ≤ max cap (max n (2 * cap + 2)) ∧ Off (ZB z) M M' ∧ M'.1 (24, z, 0) = M.1 (24, z, 0) := by
  obtain ⟨t1, t2, t3, t4, t5, t6, t7⟩ := id h
  have hLG := LGv
  have c31 : cap < 2 ^ 31 := by omega
  have n31 : n < 2 ^ 31 := by omega
  unfold fJ5_ensureCapacityInternal_d00df
  rw [t3, if_pos (nI_0le c31), if_pos t1]
  by_cases hc : n ≤ cap
  · have e1 : nI n - nI cap ≤ 0 := by
      rw [Int32.le_iff_toInt_le, Int32.toInt_sub, show (nI n).toInt = n from Int32.toInt_ofNat_of_lt n31, show (nI cap).toInt = cap from Int32.toInt_ofNat_of_lt c31, Int.bmod_eq_of_le (by omega) (by omega)]
      show (n : Int) - cap ≤ 0
      omega
    rw [if_pos e1]
    exact ⟨M, cap, rfl, h, hc, Nat.le_refl _, by omega, Off.rf, rfl⟩
  · have e1 : nI n - nI cap = nI (n - cap) := (Int32.ofNat_sub n cap (by omega)).symm
    rw [e1, if_neg (fun c => by rw [show (0 : Int32) = nI 0 from rfl, nIle (by omega) (by decide)] at c; omega)]
    have hm : ∀ M2 : Mm, fJ9_max_7cf53 M2 (nI (n - cap)) (nI (cap + 2)) = nI (max (n - cap) (cap + 2)) := fun M2 => by
      unfold fJ9_max_7cf53
      by_cases hh : n - cap < cap + 2
      · rw [if_pos ((nIlt (by omega) (by omega)).mpr hh), Nat.max_eq_right (by omega)]
      · rw [if_neg (fun c => hh ((nIlt (by omega) (by omega)).mp c)), Nat.max_eq_left (by omega)]
    have hk : cap + max (n - cap) (cap + 2) ≤ B := by omega
    have hnl : fJ8_newLength_cabcc M (nI cap) (nI (n - cap)) (nI (cap + 2)) = some (nI (cap + max (n - cap) (cap + 2))) := by
      unfold fJ8_newLength_cabcc
      rw [hm, nI_add, if_neg (fun c => by rw [show (0 : Int32) = nI 0 from rfl, nIle (by omega) (by decide)] at c; omega), if_neg (fun c => by rw [show (2147483639 : Int32) = nI 2147483639 from rfl, nIlt (by decide) (by omega)] at c; omega)]
    have hnc : fJ5_newCapacity_0f7a4 M z (nI n) = some (nI (cap + max (n - cap) (cap + 2))) := by
      unfold fJ5_newCapacity_0f7a4
      rw [t3, if_pos (nI_0le c31), if_pos t1, if_pos t1, e1, show nI cap + (2 : Int32) = nI (cap + 2) from nI_add cap 2, hnl]
      show (if nI (cap + max (n - cap) (cap + 2)) = (2147483647 : Int32) then none else if M.1 (24, z, 0) 1 = (0 : Int32) then some (nI (cap + max (n - cap) (cap + 2))) else none) = _
      rw [if_neg (fun c => by have := nIinj (b := 2147483647) (by omega) (by decide) c; omega), if_pos t1]
    obtain ⟨M1, g1, g2, g3, g4, g5⟩ := copyOf_ok (n := cap + max (n - cap) (cap + 2)) h (by omega) hk (by omega)
    rw [hnc]
    show ∃ M' cap', (if M.1 (24, z, 0) 1 = (0 : Int32) then ((fJ7_copyOf_9075b M z (nI (cap + max (n - cap) (cap + 2))) B).bind fun q7 => some (mvR q7 (27, 0, 0) (25, z, 0))) else none) = some M' ∧ _
    rw [if_pos t1, g1]
    have mv_o : ∀ r : Rf, r ≠ (25, z, 0) → (mvR M1 (27, 0, 0) (25, z, 0)).1 r = M1.1 r ∧ (mvR M1 (27, 0, 0) (25, z, 0)).2 r = M1.2 r := fun r hr => ⟨funext fun j => if_neg hr, funext fun j => if_neg hr⟩
    have o24 : (mvR M1 (27, 0, 0) (25, z, 0)).1 (24, z, 0) = M.1 (24, z, 0) := (mv_o (24, z, 0) (by simp)).1.trans (g5 (24, z, 0) (by simp)).1
    have o25 : (mvR M1 (27, 0, 0) (25, z, 0)).1 (25, z, 0) = M1.1 (27, 0, 0) := funext fun j => if_pos rfl
    refine ⟨mvR M1 (27, 0, 0) (25, z, 0), cap + max (n - cap) (cap + 2), rfl, ⟨?_, ?_, ?_, by omega, by omega, ?_, ?_⟩, by omega, by omega, by omega, fun r hr => ?_, o24⟩
    · rw [o24]; exact t1
    · rw [o24]; exact t2
    · rw [o25]; exact g2
    · rw [o25]; exact g3
    · rw [o25]; exact g4
    · simp only [ZB, List.mem_cons, List.not_mem_nil, or_false, not_or] at hr
      have h5 := g5 r (by simp [hr.2.2])
      exact ⟨(mv_o r hr.2.1).1.trans h5.1, (mv_o r hr.2.1).2.trans h5.2⟩
theorem gd_l {l l2 : List Int32} {i : Nat} (h : i < l.length) : (l ++ l2).getD i 0 = l.getD i 0 := by
  rw [List.getD_eq_getElem?_getD, List.getD_eq_getElem?_getD, List.getElem?_append_left h]
theorem gd_r {l l2 : List Int32} {i : Nat} (h : l.length ≤ i) : (l ++ l2).getD i 0 = l2.getD (i - l.length) 0 := by
  rw [List.getD_eq_getElem?_getD, List.getD_eq_getElem?_getD, List.getElem?_append_right h]
theorem gd_e {l : List Int32} {c : Int32} : (l ++ [c]).getD l.length 0 = c := by
  rw [gd_r (Nat.le_refl _), Nat.sub_self]
  rfl
/-- a sign of one byte -/
def b7 (c : Int32) : Prop := 0 ≤ c ∧ c < 128
theorem b7_n {c : Int32} (h : b7 c) : ∃ k : Nat, k < 128 ∧ c = nI k := by
  obtain ⟨n, hn, e⟩ := nI_of (Int32.not_lt.mpr h.1)
  refine ⟨n, ?_, e⟩
  have h2 := h.2
  rw [e, show (128 : Int32) = nI 128 from rfl, nIlt hn (by decide)] at h2
  exact h2
theorem b7_b {c : Int32} (h : b7 c) : c.toInt8.toInt32 = c ∧ vp_nar .byte c = c ∧ fits .byte (.int c) = true ∧ ¬ (255 : Int32) < c := by
  obtain ⟨k, hk, rfl⟩ := b7_n h
  exact (by decide +kernel : ∀ k, k < 128 → (nI k).toInt8.toInt32 = nI k ∧ vp_nar .byte (nI k) = nI k ∧ fits .byte (.int (nI k)) = true ∧ ¬ (255 : Int32) < nI k) k hk
theorem lat_ok {M : Mm} {z cap : Nat} {bs : List Int32} (h : TX M z bs cap) : fJ5_isLatin1_aae02 M z = some 1 := by
  unfold fJ5_isLatin1_aae02
  rw [if_pos h.1]
theorem apC_ok {M : Mm} {z B cap : Nat} {bs : List Int32} {c : Int32} (h : TX M z bs cap) (hc : b7 c) (hn : bs.length + 1 ≤ B) (h2 : 2 * cap + 2 ≤ B ∨ bs.length + 1 ≤ cap) (hcB : cap ≤ B) (hL : B < LG) :
    ∃ M' cap', fJ4_append_cf468 M z c B = some M' ∧ TX M' z (bs ++ [c]) cap' ∧ cap ≤ cap' ∧ cap' ≤ max cap (max (bs.length + 1) (2 * cap + 2)) ∧ cap' ≤ B ∧ Off (ZB z) M M' := by
  obtain ⟨e1, e2, e3, e4⟩ := b7_b hc
  have hLG := LGv
  obtain ⟨t1, t2, t3, t4, t5, t6, t7⟩ := id h
  have l31 : bs.length < 2 ^ 31 := by omega
  obtain ⟨M1, cap1, g1, g2, g3, g4, g5, g5B, g6, g7⟩ : ∃ M' cap', fJ5_ensureCapacityInternal_d00df M z (nI (bs.length + 1)) B = some M' ∧ TX M' z bs cap' ∧ bs.length + 1 ≤ cap' ∧ cap ≤ cap' ∧ cap' ≤ max cap (max (bs.length + 1) (2 * cap + 2)) ∧ cap' ≤ B ∧ Off (ZB z) M M' ∧ M'.1 (24, z, 0) = M.1 (24, z, 0) := by
    rcases h2 with h2 | h2
    · obtain ⟨M', cap', a1, a2, a3, a4, a5, a6, a7⟩ := ensure_ok h hn h2 hL
      exact ⟨M', cap', a1, a2, a3, a4, a5, by omega, a6, a7⟩
    · refine ⟨M, cap, ?_, h, h2, Nat.le_refl _, by omega, hcB, Off.rf, rfl⟩
      unfold fJ5_ensureCapacityInternal_d00df
      rw [t3, if_pos (nI_0le (by omega)), if_pos t1, if_pos (sub_le0 (by omega) (by omega) h2)]
  obtain ⟨s1, s2, s3, s4, s5, s6, s7⟩ := id g2
  have c31 : cap1 < 2 ^ 31 := by omega
  have p25 : ∀ v : Int32, (putI M1 (24, z, 0) 3 v).1 (25, z, 0) = M1.1 (25, z, 0) := fun v => putI_ne (by simp)
  have hbs : ∀ v : Int32, bsOk (putI M1 (24, z, 0) 3 v) (25, z, 0) (nI bs.length) c = true := fun v => by
    unfold bsOk
    rw [p25, s3, nI_clamp c31, nI_clamp l31]
    simp only [Bool.and_eq_true, decide_eq_true_eq]
    exact ⟨⟨fun hh => by rcases hh with hh | hh; exact nI_pos l31 hh; omega, by omega⟩, e2⟩
  refine ⟨putI (putI M1 (24, z, 0) 3 (nI (bs.length + 1))) (25, z, 0) bs.length c, cap1, ?_, ⟨?_, ?_, ?_, ?_, s5, fun i hi => ?_, ?_⟩, g4, g5, g5B, ?_⟩
  · unfold fJ4_append_cf468 fJ5_append_3fe6f
    rw [t2, show nI bs.length + (1 : Int32) = nI (bs.length + 1) from nI_add bs.length 1, g1]
    show (((fJ5_isLatin1_aae02 M1 z).bind _).bind _) = _
    rw [lat_ok g2]
    show (((fJ1_canEncode_fc78d M1 c).bind _).bind _) = _
    unfold fJ1_canEncode_fc78d
    rw [if_neg e4]
    show ((if bsOk (putI M1 (24, z, 0) 3 (M1.1 (24, z, 0) 3 + (1 : Int32))) (25, z, 0) (M1.1 (24, z, 0) 3) c.toInt8.toInt32 = true then some (putI (putI M1 (24, z, 0) 3 (M1.1 (24, z, 0) 3 + (1 : Int32))) (25, z, 0) (M1.1 (24, z, 0) 3).toNatClampNeg c.toInt8.toInt32) else none).bind _) = _
    rw [s2, e1, show nI bs.length + (1 : Int32) = nI (bs.length + 1) from nI_add bs.length 1, if_pos (hbs _), nI_clamp l31]
    rfl
  · rw [show (putI (putI M1 (24, z, 0) 3 (nI (bs.length + 1))) (25, z, 0) bs.length c).1 (24, z, 0) = (putI M1 (24, z, 0) 3 (nI (bs.length + 1))).1 (24, z, 0) from putI_ne (by simp), g_row, upd_o (by decide)]
    exact s1
  · rw [show (putI (putI M1 (24, z, 0) 3 (nI (bs.length + 1))) (25, z, 0) bs.length c).1 (24, z, 0) = (putI M1 (24, z, 0) 3 (nI (bs.length + 1))).1 (24, z, 0) from putI_ne (by simp), g_row, upd_s, List.length_append]
    rfl
  · rw [g_row, upd_o (by omega), p25]
    exact s3
  · rw [List.length_append]
    exact g3
  · rw [g_row, p25]
    rw [List.length_append] at hi
    by_cases hh : i = bs.length
    · rw [hh, upd_s, gd_e]
    · have hi2 : i < bs.length + 1 := hi
      rw [upd_o hh, s6 i (by omega), gd_l (by omega)]
  · refine fitB_of fun i hi => ?_
    rw [g_row, p25]
    by_cases hh : i = bs.length
    · rw [hh, upd_s]; exact e3
    · rw [upd_o hh]; exact fitB_s s7 i hi
  · exact (g6.put (by simp [ZB])).put (by simp [ZB])
