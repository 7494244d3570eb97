/-! constructors of nest mates, references put into rows -/
section ZJ
variable {own : String} {cc : ByteArray} {nL : Nat} {rt : Option FieldType} {xt : List ExceptionTableEntry} {nme : String} {R : Room} {Q : QF} {rs rs' : List Rf} {sh sh' : Sh} {cells slots pc : Nat} {ls : List (Option MV)} {st stk : List MV} {M M' : Mm}
theorem z_callIN {idx n1 d mc ms : Nat} {y : MethodName} {host : String} {c1 : ByteArray} {av : List MV} {r : Rf} (hT : TriN y c1 n1 d mc ms rs sh (.inr r :: av) M rs' sh' M') (hd : decode cc pc = .ok (.invokespecial idx, 3)) (hw : lkN own idx y host) (hcd : Cond.code y c1 n1 none ∈ AL) (hyn : y.name = "<init>") (hy : mhOk y av.length = true)
    (hroom : d + 1 ≤ R.frames ∧ 8 + (n1 + 11) + 31 * d ≤ R.locals ∧ cells + mc ≤ R.cells ∧ slots + ms ≤ R.slots) (hmc : mcs st ≤ 8) (hstk : stk = av.reverse ++ .inr r :: st) (hQ : QG Q rs) (hls : ∀ (i : Nat) (v : MV), ls[i]? = some (some v) → inR rs v) (hst : ∀ v ∈ st, inR rs v)
    (kk : Z own cc nL rt xt nme R Q rs' sh' (cells + mc) (slots + ms) (pc + 3) ls st M') : Z own cc nL rt xt nme R Q rs sh cells slots pc ls stk M := by
  intro p l e s m args below meth c D tc ad A H locs lsA C hP hS hl
  have hts := C.2.2.2.2.1
  have haf := C.af hS
  obtain ⟨y1, y2, y3⟩ := mhOk_spec hy
  have h9 := mcs_map (ad := ad) st
  have hR := va_runIN (host := host) (g := F0 m pc lsA (stk.map (rv ad))) (rest := st.map (rv ad)) (locs := locs) (cells := cells) (slots := slots) (p := p) (l := l) (e := e) (below := below) (meth := meth) (Ts := AL) (As := av.map (rv ad)) (b := ad r) ⟨C.1, C.2.1, C.2.2.1, C.2.2.2.1, hts⟩ (hT.met l D tc ad H.size)
    ⟨va_cnB av.length hts (al_code hcd) rfl rfl rfl (C_nw C.2.2.2.2.2.2.2.2.2.2.2.1 (nst_in _ hw.1)) (hts _ hw.2.2) ⟨y1, y2, y3⟩ ⟨hroom.1, hroom.2.1⟩, hyn, hts _ hw.2.1⟩
    ⟨Ps.blind, C.pre hP hS _⟩ rfl (by rw [List.length_map]) hl.1 (by rw [hstk]; show (av.reverse ++ .inr r :: st).map (rv ad) = _; rw [List.map_append, List.map_reverse]; rfl) (lv_room (by rw [h9]; exact hmc)) hd ⟨hroom.2.2.1, hroom.2.2.2⟩
  intro T hT X
  obtain ⟨v, st₀, t, T', L, h0, X', hL, e1, e2, ⟨⟨hv, ad', g1, g2, g3, g4, hb⟩, hF⟩, go⟩ := hR T hT X
  cases hv
  obtain ⟨k1, k2, k3⟩ := vx_keep h0 e1 hS (fun q _ h => haf q h) haf hL hF
  have hk := kk p l e s m args below meth c D tc ad' A T'.heap (locs ++ L) lsA (C.to g2 (fun x hx => haf _ (g3 x hx)) g4) (by rw [e1]; exact hb) k3 ⟨hl.1, hl.2.1, fun i v hi => by rw [rv_in g1 g2 (hls i v hi)]; exact hl.2.2 i v hi⟩
  rw [show st.map (rv ad') = st.map (rv ad) from List.map_congr_left fun v hv => rv_in g1 g2 (hst v hv)] at hk
  obtain ⟨t2, a1, b1⟩ := hk T' rfl X'
  exact ⟨t2, go t2 a1, hQ below args s D tc ad ad' A t2 g1 g2 b1⟩
theorem z_aast {n t : Nat} {r y : Rf} {i : Int32} {j ci : Nat} {ks : List Bool} (hn : rs.Nodup) (hd : decode cc pc = .ok (.aastore, 1)) (hr : r ∈ rs) (hy : y ∈ rs) (hk : kd r = .inr (t + 4, n)) (hky : kd y = .inl (ci, ks)) (hci : ci < 13) (ht : ∀ tc : Nat → ClassId, (tys tc)[t + 4]? = some (tc (t + 4), .object (Rc ci))) (hin : ¬ (i < 0 ∨ n ≤ i.toNatClampNeg)) (hj : i.toNatClampNeg = j)
    (k : Z own cc nL rt xt nme R Q rs (shP sh r j (some y)) cells slots (pc + 1) ls st M) : Z own cc nL rt xt nme R Q rs sh cells slots pc ls (.inr y :: .inl (.int i) :: .inr r :: st) M := by
  subst hj
  intro p l e s m args below meth c D tc ad A H locs lsA C hP hS hl
  obtain ⟨q, hq0, hq⟩ := wl_at (tc := tc) (ad := ad) (sh := sh) (M := M) hr
  obtain ⟨q2, -, hq2⟩ := wl_at (tc := tc) (ad := ad) (sh := sh) (M := M) hy
  rw [ent_o hky] at hq2
  have he : ∀ sh : Sh, ent tc ad sh M r = .inl (tc (t + 4), n, .inr (.inr (.inr (.inr (fun j => if j < n then (sh r j).map ad else none))))) := fun sh => by unfold ent; rw [hk]
  rw [he] at hq
  refine va_astq C.1 C.2.1 C.2.2.2.2.2.2.2.2.2.1 hP (Wd.D hn C sh M) hS q (t + 4) q2 ci hq (ht tc) hq2 (clC ci hci) hin hd (fun H1 locs1 hP1 _ hS1 => ?_)
  have hlt := ltN hin
  have hf : va_up (fun j => if j < n then (sh r j).map ad else none) i.toNatClampNeg (some (ad y)) = fun j => if j < n then (shP sh r i.toNatClampNeg (some y) r j).map ad else none := by
    funext x
    unfold va_up shP
    by_cases e : x = i.toNatClampNeg
    · simp [e, hlt]
    · simp [e]
  rw [hf, wl_setS (sh' := shP sh r i.toNatClampNeg (some y)) hn hq0 (he _) (fun r' h => ent_P h)] at hP1
  exact k p l e s m args below meth c D tc ad A H1 locs1 lsA C hP1 hS1 hl
end ZJ

