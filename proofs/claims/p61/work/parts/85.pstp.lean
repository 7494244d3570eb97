/-! Own's step, a tooth -/
def stM (M : Mm) (k v : Nat) (r : Int32) : Mm := putI (putI (putI (putI M (18, k, 0) 6 (M.1 (18, k, 0) 6 + (if r = 2 then 1 else 0))) (18, k, 0) 7 (M.1 (18, k, 0) 7 + (if r = 3 then 1 else 0))) (19, k, 4) v (M.1 (19, k, 4) v + (if r = 2 then 1 else if r = 3 then 5 else 0))) (19, k, 5) v (if r ≤ 1 then M.1 (19, k, 5) v else M.1 (18, k, 0) 8)
set_option maxHeartbeats 2000000 in
theorem stp_1 {M : Mm} {k v n : Nat} {K : Int32 → Mm → Option (Int32 × Mm)} {r : Int32} (hT : ¬ M.1 (18, k, 0) 3 ≤ nI v) (hv : v < 12) (hs : fX10_sound M k (nI v) = some r) (hr : r = 0 ∨ r = 1 ∨ r = 2 ∨ r = 3) :
    fX10_step_L11 k K (n + 1) (nI v) M = fX10_step_L11 k K n (nI (v + 1)) (stM M k v r) := by
  have hg : ¬ (nI v < 0 ∨ 12 ≤ v) := fun c => by rcases c with c | c; exact nI_pos (by omega) c; omega
  have e : nI v + (1 : Int32) = nI (v + 1) := nI_add v 1
  have p5 : ∀ a b c : Int32, (putI (putI (putI M (18, k, 0) 6 a) (18, k, 0) 7 b) (19, k, 4) v c).1 (19, k, 5) v = M.1 (19, k, 5) v := fun a b c => by simp [putI]
  rw [fX10_step_L11, if_neg hT, hs]
  simp only [Option.bind_some, nI_clamp (show v < 2 ^ 31 by omega), if_neg hg, e, p5]
  unfold stM
  rcases hr with rfl | rfl | rfl | rfl
  · rfl
  · rfl
  · rfl
  · rfl
