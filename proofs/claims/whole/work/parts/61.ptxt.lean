/-! the text: bytes that are appended -/
def TV (tb : Nat → Nat) (n : Nat) : Prop := n ≤ 800 ∧ ∀ k, k < n → 1 ≤ tb k ∧ tb k < 256
def TC (M : Mm) (tb : Nat → Nat) (n : Nat) : Prop := M.1 (1, 0, 0) 1 = nI n ∧ ∀ k, k < n → M.1 (2, 0, 0) k = nI (tb k)
def TR (M : Mm) (tb : Nat → Nat) (n : Nat) : Prop := M.1 R8 10 = nI n ∧ ∀ k, k < n → k < 800 → M.1 (19, 6, 0) k = nI (tb k)
def sTx (r : Rf) : Bool := r == (1, 0, 0) || r == (2, 0, 0)
def sTr (r : Rf) : Bool := r == R8 || r == (19, 6, 0)
theorem cl_at {M : Mm} {tb : Nat → Nat} {n k : Nat} (h : TC M tb n) (hn : n ≤ 800) (hk : k < n) : fX1_at M 0 (nI k) = some (nI (tb k)) := by
  rw [fX1_at, h.1, if_neg (nI_pos (by omega)), if_neg (nI_ge hk (by omega)), if_neg (show ¬ (Int32.ofNat (bl 0)) ≤ nI k from nI_ge (b := 800) (by omega) (by decide)), if_neg (show ¬ (nI k < 0 ∨ bl 0 ≤ (nI k).toNatClampNeg) from nI_in (N := 800) (by omega) (by decide)), nI_clamp (by omega), h.2 k hk]
theorem cl_at_o {M : Mm} {tb : Nat → Nat} {n k : Nat} (h : TC M tb n) (hn : n ≤ k) (hk : k < 2 ^ 31) : fX1_at M 0 (nI k) = some (-1) := by
  rw [fX1_at, h.1, if_neg (nI_pos (by omega)), if_pos (nI_le hn (by omega))]
theorem rf_seen {M : Mm} {tb : Nat → Nat} {n k : Nat} (h : TR M tb n) (hn : n ≤ 800) (hk : k < n) : fX10_seen M (nI k) = some (nI (tb k)) := by
  rw [fX10_seen, h.1, if_neg (nI_ge hk (by omega)), if_neg (nI_in (by omega) (by decide)), nI_clamp (by omega), h.2 k hk (by omega)]
theorem rf_seen_o {M : Mm} {tb : Nat → Nat} {n k : Nat} (h : TR M tb n) (hn : n ≤ k) (hk : k < 2 ^ 31) : fX10_seen M (nI k) = some (-1) := by
  rw [fX10_seen, h.1, if_pos (nI_le hn (by omega))]
/-- a byte of an int -/
def byN (x : Int32) (k : Nat) : Nat := x.toBitVec.toNat / 2 ^ k % 256
theorem byN_lt (x : Int32) (k : Nat) : byN x k < 256 := Nat.mod_lt _ (by decide)
theorem nI_toNat (x : Int32) : x = nI x.toBitVec.toNat := by
  apply Int32.toBitVec_inj.1
  show x.toBitVec = BitVec.ofNat 32 x.toBitVec.toNat
  simp
theorem by_c (x : Int32) (k : Nat) (hk : k < 32) : (((x.toUInt32 >>> ((nI k).toUInt32 &&& Int32.toUInt32 31)).toInt32) &&& 255) = nI (byN x k) := by
  rw [pk_and _ 8 (by decide)]
  have e : ((x.toUInt32 >>> ((nI k).toUInt32 &&& Int32.toUInt32 31)).toInt32).toBitVec.toNat = x.toBitVec.toNat / 2 ^ k := by
    show ((x.toUInt32 >>> ((nI k).toUInt32 &&& Int32.toUInt32 31)).toBitVec).toNat = x.toUInt32.toBitVec.toNat / 2 ^ k
    rw [UInt32.toBitVec_shiftRight]
    show (x.toUInt32.toBitVec >>> (((nI k).toUInt32 &&& Int32.toUInt32 31).toBitVec % 32).toNat).toNat = _
    rw [s_u k hk, BitVec.toNat_ushiftRight, Nat.shiftRight_eq_div_pow]
  rw [e]
  rfl
theorem by_r (x : Int32) (k : Nat) (hk : k ≤ 24) : ((x >>> (nI k &&& 31)) &&& 255) = nI (byN x k) := by
  rw [← by_c x k (by omega)]
  refine b_ext fun i hi => ?_
  rw [b_and, b_and, b_sshr k (by omega) x hi, b_ushr k (by omega) x i, b_255]
  by_cases h : i < 8
  · rw [if_pos (by omega)]
  · rw [decide_eq_false h, Bool.and_false, Bool.and_false]
def ap1 (q : (Nat → Nat) × Nat) (b : Nat) : (Nat → Nat) × Nat := if b = 0 then q else (fun k => if k = q.2 then b else q.1 k, q.2 + 1)
def apW (q : (Nat → Nat) × Nat) (x : Int32) : (Nat → Nat) × Nat := ap1 (ap1 (ap1 (ap1 q (byN x 24)) (byN x 16)) (byN x 8)) (byN x 0)
def nzN (b : Nat) : Nat := if b = 0 then 0 else 1
def cnW (x : Int32) : Nat := nzN (byN x 24) + nzN (byN x 16) + nzN (byN x 8) + nzN (byN x 0)
theorem ap1_n (q : (Nat → Nat) × Nat) (b : Nat) : (ap1 q b).2 = q.2 + nzN b := by
  unfold ap1 nzN
  split <;> rfl
theorem apW_n (q : (Nat → Nat) × Nat) (x : Int32) : (apW q x).2 = q.2 + cnW x := by
  unfold apW cnW
  rw [ap1_n, ap1_n, ap1_n, ap1_n]
  omega
theorem nzN_le (b : Nat) : nzN b ≤ 1 := by unfold nzN; split <;> omega
theorem cnW_le (x : Int32) : cnW x ≤ 4 := by
  have h1 := nzN_le (byN x 24)
  have h2 := nzN_le (byN x 16)
  have h3 := nzN_le (byN x 8)
  have h4 := nzN_le (byN x 0)
  unfold cnW
  omega
theorem ap1_lo {q : (Nat → Nat) × Nat} {b k : Nat} (h : k < q.2) : (ap1 q b).1 k = q.1 k := by
  unfold ap1
  split
  · rfl
  · show (if k = q.2 then b else q.1 k) = _
    rw [if_neg (by omega)]
theorem apW_lo {q : (Nat → Nat) × Nat} {x : Int32} {k : Nat} (h : k < q.2) : (apW q x).1 k = q.1 k := by
  unfold apW
  rw [ap1_lo (by rw [ap1_n, ap1_n, ap1_n]; omega), ap1_lo (by rw [ap1_n, ap1_n]; omega), ap1_lo (by rw [ap1_n]; omega), ap1_lo h]
theorem ap1_v {q : (Nat → Nat) × Nat} {b : Nat} (hb : b < 256) (h : ∀ k, k < q.2 → 1 ≤ q.1 k ∧ q.1 k < 256) : ∀ k, k < (ap1 q b).2 → 1 ≤ (ap1 q b).1 k ∧ (ap1 q b).1 k < 256 := by
  intro k hk
  unfold ap1 at *
  split at hk
  · rename_i e; rw [if_pos e]; exact h k hk
  · rename_i e
    rw [if_neg e]
    show 1 ≤ (if k = q.2 then b else q.1 k) ∧ (if k = q.2 then b else q.1 k) < 256
    by_cases e2 : k = q.2
    · rw [if_pos e2]; omega
    · rw [if_neg e2]
      have hk2 : k < q.2 + 1 := hk
      exact h k (by omega)
theorem apW_v {q : (Nat → Nat) × Nat} {x : Int32} (h : ∀ k, k < q.2 → 1 ≤ q.1 k ∧ q.1 k < 256) : ∀ k, k < (apW q x).2 → 1 ≤ (apW q x).1 k ∧ (apW q x).1 k < 256 :=
  ap1_v (byN_lt _ _) (ap1_v (byN_lt _ _) (ap1_v (byN_lt _ _) (ap1_v (byN_lt _ _) h)))
theorem nI_z {b : Nat} (hb : b < 256) : nI b = 0 ↔ b = 0 := by
  rw [← nI_0, nI_eq (by omega) (by omega)]
/-! the class puts bytes -/
theorem cl_put {M : Mm} {q : (Nat → Nat) × Nat} {b : Nat} (h : TC M q.1 q.2) (hn : q.2 < 800) : ∃ M', fX1_put M 0 (nI b) = some M' ∧ TC M' (fun k => if k = q.2 then b else q.1 k) (q.2 + 1) ∧ Fr sTx M M' := by
  rw [fX1_put, h.1, if_neg (nI_pos (by omega)), if_neg (show ¬ (Int32.ofNat (bl 0)) ≤ nI q.2 from nI_ge (b := 800) (by omega) (by decide)), if_neg (show ¬ (nI q.2 < 0 ∨ bl 0 ≤ (nI q.2).toNatClampNeg) from nI_in (N := 800) (by omega) (by decide)), nI_clamp (by omega), ← nI_succ]
  refine ⟨_, rfl, ⟨by rw [g_row, upd_s], fun k hk => ?_⟩, fr_pI (fr_putI rfl) rfl⟩
  rw [putI_ne (by decide), g_row]
  dsimp only
  by_cases e : k = q.2
  · rw [if_pos e, e, upd_s]
  · rw [if_neg e, upd_o e]; exact h.2 k (by omega)
theorem cl_put1 {M : Mm} {q : (Nat → Nat) × Nat} {x : Int32} {s : Nat} {v : Int32} {K : Int32 → Mm → Option Mm} {n : Nat} (hs : s < 32) (hv : v = nI s) (h : TC M q.1 q.2) (hn : (ap1 q (byN x s)).2 ≤ 800) : ∃ M', TC M' (ap1 q (byN x s)).1 (ap1 q (byN x s)).2 ∧ Fr sTx M M' ∧ fX9_putBytes_L3 x K (n + 1) v M = fX9_putBytes_L3 x K n (v + -8) M' := by
  subst hv
  rw [fX9_putBytes_L3, if_neg (nI_pos (by omega)), by_c x s hs]
  unfold ap1 at *
  by_cases e : byN x s = 0
  · rw [if_pos e] at *
    exact ⟨M, h, fr_rf, by rw [if_pos ((nI_z (byN_lt _ _)).mpr e)]⟩
  · rw [if_neg e] at *
    have hn2 : q.2 + 1 ≤ 800 := hn
    obtain ⟨M', a1, a2, a3⟩ := cl_put (b := byN x s) h (by omega)
    exact ⟨M', a2, a3, by rw [if_neg (fun c => e ((nI_z (byN_lt _ _)).mp c)), a1, Option.bind_some]⟩
theorem cl_putW {M : Mm} {q : (Nat → Nat) × Nat} {x : Int32} (h : TC M q.1 q.2) (hn : (apW q x).2 ≤ 800) : ∃ M', fX9_putBytes M x = some M' ∧ TC M' (apW q x).1 (apW q x).2 ∧ Fr sTx M M' := by
  have h0 := ap1_n (ap1 (ap1 (ap1 q (byN x 24)) (byN x 16)) (byN x 8)) (byN x 0)
  have h1 := ap1_n (ap1 (ap1 q (byN x 24)) (byN x 16)) (byN x 8)
  have h2 := ap1_n (ap1 q (byN x 24)) (byN x 16)
  unfold apW at *
  obtain ⟨M1, a1, a2, a3⟩ := cl_put1 (x := x) (s := 24) (v := 24) (K := fun w5 M6 => some M6) (n := 4999) (by decide) rfl h (by omega)
  obtain ⟨M2, b1, b2, b3⟩ := cl_put1 (x := x) (s := 16) (v := 24 + -8) (K := fun w5 M6 => some M6) (n := 4998) (by decide) (by decide) a1 (by omega)
  obtain ⟨M3, c1, c2, c3⟩ := cl_put1 (x := x) (s := 8) (v := 24 + -8 + -8) (K := fun w5 M6 => some M6) (n := 4997) (by decide) (by decide) b1 (by omega)
  obtain ⟨M4, d1, d2, d3⟩ := cl_put1 (x := x) (s := 0) (v := 24 + -8 + -8 + -8) (K := fun w5 M6 => some M6) (n := 4996) (by decide) (by decide) c1 hn
  refine ⟨M4, ?_, d1, fr_tr (fr_tr (fr_tr a2 b2) c2) d2⟩
  have e5 : fX9_putBytes_L3 x (fun w5 M6 => some M6) 4996 (24 + -8 + -8 + -8 + -8) M4 = some M4 := by
    rw [show 4996 = 4995 + 1 from rfl, fX9_putBytes_L3, if_pos (by decide)]
  exact a3.trans (b3.trans (c3.trans (d3.trans e5)))
theorem cl_byte1 {M : Mm} {x v : Int32} {a s n : Nat} {K : Int32 → Int32 → Option Int32} (hs : s < 32) (hv : v = nI s) : fX9_bytesIn_L5 M x K (n + 1) (nI a) v = fX9_bytesIn_L5 M x K n (nI (a + nzN (byN x s))) (v + -8) := by
  subst hv
  rw [fX9_bytesIn_L5, if_neg (nI_pos (by omega)), by_c x s hs]
  unfold nzN
  by_cases e : byN x s = 0
  · rw [if_pos e, if_pos ((nI_z (byN_lt _ _)).mpr e)]; rfl
  · rw [if_neg e, if_neg (fun c => e ((nI_z (byN_lt _ _)).mp c)), ← nI_succ]
theorem cl_bytesIn (M : Mm) (x : Int32) : fX9_bytesIn M x = some (nI (cnW x)) := by
  have a := cl_byte1 (M := M) (x := x) (v := 24) (a := 0) (s := 24) (n := 4999) (K := fun w3 w4 => some w3) (by decide) rfl
  have b := cl_byte1 (M := M) (x := x) (v := 24 + -8) (a := 0 + nzN (byN x 24)) (s := 16) (n := 4998) (K := fun w3 w4 => some w3) (by decide) (by decide)
  have c := cl_byte1 (M := M) (x := x) (v := 24 + -8 + -8) (a := 0 + nzN (byN x 24) + nzN (byN x 16)) (s := 8) (n := 4997) (K := fun w3 w4 => some w3) (by decide) (by decide)
  have d := cl_byte1 (M := M) (x := x) (v := 24 + -8 + -8 + -8) (a := 0 + nzN (byN x 24) + nzN (byN x 16) + nzN (byN x 8)) (s := 0) (n := 4996) (K := fun w3 w4 => some w3) (by decide) (by decide)
  have e5 : fX9_bytesIn_L5 M x (fun w3 w4 => some w3) 4996 (nI (0 + nzN (byN x 24) + nzN (byN x 16) + nzN (byN x 8) + nzN (byN x 0))) (24 + -8 + -8 + -8 + -8) = some (nI (cnW x)) := by
    rw [show 4996 = 4995 + 1 from rfl, fX9_bytesIn_L5, if_pos (by decide), cnW, Nat.zero_add]
  exact a.trans (b.trans (c.trans (d.trans e5)))
/-! the reference feeds on bytes -/
theorem rf_feed1 {M : Mm} {q : (Nat → Nat) × Nat} {x : Int32} {s : Nat} {v : Int32} {K : Int32 → Mm → Option Mm} {n : Nat} (hs : s ≤ 24) (hv : v = nI s) (h : TR M q.1 q.2) (hn : q.2 < 2000) : ∃ M', TR M' (ap1 q (byN x s)).1 (ap1 q (byN x s)).2 ∧ Fr sTr M M' ∧ fX10_feeds_L3 x K (n + 1) v M = fX10_feeds_L3 x K n (v + -8) M' ∧ ∀ j, j ≠ 10 → M'.1 R8 j = M.1 R8 j := by
  subst hv
  rw [fX10_feeds_L3, if_neg (nI_pos (by omega)), by_r x s hs]
  unfold ap1
  by_cases e : byN x s = 0
  · rw [if_pos e]
    exact ⟨M, h, fr_rf, by rw [if_pos ((nI_z (byN_lt _ _)).mpr e)], fun _ _ => rfl⟩
  · rw [if_neg e, if_neg (fun c => e ((nI_z (byN_lt _ _)).mp c)), h.1, ← nI_succ]
    by_cases c : 800 ≤ q.2
    · rw [if_pos (show (800 : Int32) ≤ nI q.2 from nI_le (a := 800) c (by omega))]
      refine ⟨_, ⟨by rw [g_row, upd_s], fun k hk h8 => ?_⟩, fr_putI rfl, rfl, fun j hj => by rw [g_row, upd_o hj]⟩
      have hk2 : k < q.2 + 1 := hk
      rw [putI_ne (by decide)]
      dsimp only
      rw [if_neg (by omega)]
      exact h.2 k (by omega) h8
    · rw [if_neg (show ¬ (800 : Int32) ≤ nI q.2 from nI_ge (b := 800) (by omega) (by decide)), if_neg (nI_in (by omega) (by decide)), nI_clamp (by omega)]
      refine ⟨_, ⟨by rw [g_row, upd_s], fun k hk h8 => ?_⟩, fr_pI (fr_putI rfl) rfl, rfl, fun j hj => by rw [g_row, upd_o hj, putI_ne (by decide)]⟩
      rw [putI_ne (by decide), g_row]
      dsimp only
      by_cases e2 : k = q.2
      · rw [if_pos e2, e2, upd_s]
      · rw [if_neg e2, upd_o e2]
        have hk2 : k < q.2 + 1 := hk
        exact h.2 k (by omega) h8
theorem rf_feedW {M : Mm} {q : (Nat → Nat) × Nat} {x : Int32} (h : TR M q.1 q.2) (hn : q.2 < 1000) : ∃ M', fX10_feeds M x = some M' ∧ TR M' (apW q x).1 (apW q x).2 ∧ Fr sTr M M' ∧ ∀ j, j ≠ 10 → M'.1 R8 j = M.1 R8 j := by
  have h0 := ap1_n (ap1 (ap1 q (byN x 24)) (byN x 16)) (byN x 8)
  have h1 := ap1_n (ap1 q (byN x 24)) (byN x 16)
  have h2 := ap1_n q (byN x 24)
  have l1 := nzN_le (byN x 24)
  have l2 := nzN_le (byN x 16)
  have l3 := nzN_le (byN x 8)
  unfold apW
  obtain ⟨M1, a1, a2, a3, a4⟩ := rf_feed1 (x := x) (s := 24) (v := 24) (K := fun w5 M6 => some M6) (n := 4999) (by decide) rfl h (by omega)
  obtain ⟨M2, b1, b2, b3, b4⟩ := rf_feed1 (x := x) (s := 16) (v := 24 + -8) (K := fun w5 M6 => some M6) (n := 4998) (by decide) (by decide) a1 (by omega)
  obtain ⟨M3, c1, c2, c3, c4⟩ := rf_feed1 (x := x) (s := 8) (v := 24 + -8 + -8) (K := fun w5 M6 => some M6) (n := 4997) (by decide) (by decide) b1 (by omega)
  obtain ⟨M4, d1, d2, d3, d4⟩ := rf_feed1 (x := x) (s := 0) (v := 24 + -8 + -8 + -8) (K := fun w5 M6 => some M6) (n := 4996) (by decide) (by decide) c1 (by omega)
  refine ⟨M4, ?_, d1, fr_tr (fr_tr (fr_tr a2 b2) c2) d2, fun j hj => by rw [d4 j hj, c4 j hj, b4 j hj, a4 j hj]⟩
  have e5 : fX10_feeds_L3 x (fun w5 M6 => some M6) 4996 (24 + -8 + -8 + -8 + -8) M4 = some M4 := by
    rw [show 4996 = 4995 + 1 from rfl, fX10_feeds_L3, if_pos (by decide)]
  exact a3.trans (b3.trans (c3.trans (d3.trans e5)))
