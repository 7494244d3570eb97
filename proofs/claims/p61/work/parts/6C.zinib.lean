/-! the class: its constructor, the first text and its setup -/
theorem stt_80 : (RX9, 80, "box 8 5 40; tooth 10 3 30; tooth 14 2 12; tooth 17 4 100; pin 0 0 0; pin 0 1 2; pin 0 2 4; pin 0 1 3; pin 1 0 1; pin 1 0 5;", 0) ∈ stt := by decide +kernel
def MT (t : Nat) : Mm := (fun x j => if x = (2, 0, 0) ∧ j < t then (sby 0).getD j 0 else if x = (1, 0, 0) ∧ j = 1 then nI t else MI.1 x j, MI.2)
theorem MT_0 : MT 0 = MI := by
  refine Prod.ext (funext fun x => funext fun j => ?_) rfl
  show (if x = (2, 0, 0) ∧ j < 0 then (sby 0).getD j 0 else if x = (1, 0, 0) ∧ j = 1 then nI 0 else MI.1 x j) = MI.1 x j
  rw [if_neg (fun c => absurd c.2 (Nat.not_lt_zero j))]
  by_cases e : x = (1, 0, 0) ∧ j = 1
  · rw [if_pos e, e.1, mi_0 (by decide)]; rfl
  · rw [if_neg e]
theorem MT_len {t : Nat} : (MT t).1 (1, 0, 0) 1 = nI t := by
  show (if ((1, 0, 0) : Rf) = (2, 0, 0) ∧ 1 < t then (sby 0).getD 1 0 else if ((1, 0, 0) : Rf) = (1, 0, 0) ∧ 1 = 1 then nI t else MI.1 (1, 0, 0) 1) = nI t
  rw [if_neg (fun c => absurd c.1 (by decide)), if_pos ⟨rfl, rfl⟩]
theorem MT_s {t : Nat} : putI (putI (MT t) (2, 0, 0) t ((sby 0).getD t 0)) (1, 0, 0) 1 (nI t + 1) = MT (t + 1) := by
  refine Prod.ext (funext fun x => funext fun j => ?_) rfl
  by_cases e1 : x = (1, 0, 0)
  · subst e1
    rw [g_row]
    by_cases ej : j = 1
    · subst ej
      rw [upd_s, MT_len, nI_succ]
    · rw [upd_o ej, putI_ne (by decide)]
      show (if ((1, 0, 0) : Rf) = (2, 0, 0) ∧ j < t then (sby 0).getD j 0 else if ((1, 0, 0) : Rf) = (1, 0, 0) ∧ j = 1 then nI t else MI.1 (1, 0, 0) j) = (if ((1, 0, 0) : Rf) = (2, 0, 0) ∧ j < t + 1 then (sby 0).getD j 0 else if ((1, 0, 0) : Rf) = (1, 0, 0) ∧ j = 1 then nI (t + 1) else MI.1 (1, 0, 0) j)
      rw [if_neg (fun c => absurd c.1 (by decide)), if_neg (fun c => ej c.2), if_neg (fun c => absurd c.1 (by decide)), if_neg (fun c => ej c.2)]
  · rw [putI_ne e1]
    by_cases e2 : x = (2, 0, 0)
    · subst e2
      rw [g_row]
      by_cases ej : j = t
      · subst ej
        rw [upd_s]
        exact (if_pos ⟨rfl, Nat.lt_succ_self _⟩).symm
      · rw [upd_o ej]
        show (if ((2, 0, 0) : Rf) = (2, 0, 0) ∧ j < t then (sby 0).getD j 0 else if ((2, 0, 0) : Rf) = (1, 0, 0) ∧ j = 1 then nI t else MI.1 (2, 0, 0) j) = (if ((2, 0, 0) : Rf) = (2, 0, 0) ∧ j < t + 1 then (sby 0).getD j 0 else if ((2, 0, 0) : Rf) = (1, 0, 0) ∧ j = 1 then nI (t + 1) else MI.1 (2, 0, 0) j)
        by_cases el : j < t
        · rw [if_pos ⟨rfl, el⟩, if_pos ⟨rfl, by omega⟩]
        · rw [if_neg (fun c => el c.2), if_neg (fun c => absurd c.1 (by decide)), if_neg (fun c => absurd c.2 (by omega)), if_neg (fun c => absurd c.1 (by decide))]
    · rw [putI_ne e2]
      show (if x = (2, 0, 0) ∧ j < t then (sby 0).getD j 0 else if x = (1, 0, 0) ∧ j = 1 then nI t else MI.1 x j) = (if x = (2, 0, 0) ∧ j < t + 1 then (sby 0).getD j 0 else if x = (1, 0, 0) ∧ j = 1 then nI (t + 1) else MI.1 x j)
      rw [if_neg (fun c => e2 c.1), if_neg (fun c => e1 c.1), if_neg (fun c => e2 c.1), if_neg (fun c => e1 c.1)]
theorem slen_0 : slen 0 = nI 123 := by
  unfold slen
  rw [first_len]
  rfl
theorem sch_0 {t : Nat} (h : t < 123) : sch 0 (nI t) = some ((sby 0).getD t 0) := by
  unfold sch
  rw [first_len, if_neg (nI_in h (by decide)), nI_clamp (by omega)]
theorem put_t {t : Nat} (h : t < 123) : fX1_put (MT t) 0 ((sby 0).getD t 0) = some (MT (t + 1)) := by
  unfold fX1_put
  rw [MT_len, if_neg (nI_pos (by omega)), if_neg (show ¬ Int32.ofNat (bl 0) ≤ nI t from nI_ge (b := 800) (by omega) (by decide)), if_neg (show ¬ (nI t < 0 ∨ bl 0 ≤ (nI t).toNatClampNeg) from nI_in (N := 800) (by omega) (by decide)), nI_clamp (by omega), MT_s]
set_option maxRecDepth 20000 in
set_option maxHeartbeats 2000000 in
theorem x9_text {Q : QF} (kk : Z RX9 cX9_init 2 none [] "<init>" (rmD 12 212 5895) Q (allR wvC) SH 212 5895 199 (LX (nI 123)) [] (MT 123)) : ∀ n t, t + n = 123 →
    Z RX9 cX9_init 2 none [] "<init>" (rmD 12 212 5895) Q (allR wvC) SH 212 5895 171 (LX (nI t)) [] (MT t) := by
  intro n
  induction n with
  | zero =>
    intro t ht
    have e : t = 123 := by omega
    subst e
    refine z_iload_n (i := 1) dX9_init_171 rfl rfl ?_
    refine z_ldcS dX9_init_172 stt_80 ?_
    refine z_fTi (n := 0) (S_length (MT 123) 0 (by decide)) dX9_init_174 ml_X9_82 cd_J0_length_8abf5 (by decide) rfl rfl rfl rfl rfl ?_
    refine z_icmp_ge (tgt := 199) dX9_init_177 rfl (fun _ => kk) (fun h => absurd (by rw [slen_0]; decide) h)
  | succ n ih =>
    intro t ht
    have ht1 : t < 123 := by omega
    refine z_iload_n (i := 1) dX9_init_171 rfl rfl ?_
    refine z_ldcS dX9_init_172 stt_80 ?_
    refine z_fTi (n := 0) (S_length (MT t) 0 (by decide)) dX9_init_174 ml_X9_82 cd_J0_length_8abf5 (by decide) rfl rfl rfl rfl rfl ?_
    refine z_icmp_ge (tgt := 199) dX9_init_177 rfl (fun h => absurd h (by rw [slen_0]; exact nI_ge (b := 123) ht1 (by decide))) (fun _ => ?_)
    refine z_aload_n (i := 0) dX9_init_180 rfl rfl ?_
    refine z_getR (r := (0, 0, 0)) (r' := (1, 0, 0)) (ci := 9) (j := 0) dX9_init_181 fl_X9_14 mk0 rfl rfl ?_
    refine z_ldcS dX9_init_184 stt_80 ?_
    refine z_iload_n (i := 1) dX9_init_186 rfl rfl ?_
    refine z_fTi (n := 1) (S_charAt (MT t) 0 (nI t) (by decide) (sch_0 ht1)) dX9_init_187 ml_X9_88 cd_J0_charAt_5068e (by decide) rfl rfl rfl rfl rfl ?_
    refine z_fVv (n := 1) (sX1_put (MT t) 0 _ (by decide) (put_t ht1)) dX9_init_190 ml_X9_92 cd_X1_put (m1 0 (by decide)) rfl rfl rfl rfl rfl rfl ?_
    refine z_iinc (i := 1) (v := nI (t + 1)) dX9_init_193 rfl (nI_succ t).symm (by decide) rfl ?_
    refine z_goto (tgt := 171) dX9_init_196 rfl ?_
    exact ih (t + 1) (by omega)
theorem nY9 {res : Mm} (h : fX9_takeSetup (MT 123) = some res) : TriN yX9_init cX9_init 2 12 212 5895 K0 (shM K0) [.inr (0, 0, 0)] MI (allR wvC) SH res := by
  refine TriN.go (own := RX9) (nme := "<init>") (n := 1) (ls := [some (.inr (0, 0, 0)), none]) (by decide) rfl rfl rfl rfl ?_
  refine x9_made ?_
  rw [← MT_0]
  refine x9_text ?_ 123 0 rfl
  refine z_aload_n (i := 0) dX9_init_199 rfl rfl ?_
  refine z_fVv (n := 0) (sX9_takeSetup (MT 123) h) dX9_init_200 ml_X9_95 cd_X9_takeSetup mk0 rfl rfl rfl rfl rfl rfl ?_
  exact z_nret dX9_init_203 rfl (Nat.le_refl _) (Nat.le_refl _) (List.Perm.refl _) (fun x _ => same3)

