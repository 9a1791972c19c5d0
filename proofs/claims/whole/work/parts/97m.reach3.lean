/-! THE SEARCH: the reference's, whole -/
section
variable {n : Nat} {S : rvS} {m : Nat → Nat} {s0 : St}
theorem m_clear205 (hn : 390630 ≤ n) (hB : rv_B S) (x1 x2 x3 : Int32) : ∃ S', cX13_reach_3 n n S 189 x1 x2 x3 (nI 0) = cX13_reach_24 n S' 189 x1 x2 x3 ∧ rvf [205] S S' ∧ ∀ x, x < 390625 → S'.2.1 205 x = iM := by
  refine lp (F := fun q (x : rvS × Int32) => cX13_reach_3 n q x.1 189 x1 x2 x3 x.2) (fun i x => x.2 = nI i ∧ rvf [205] S x.1 ∧ ∀ y, y < i → x.1.2.1 205 y = iM) (fun o => ∃ S', o = cX13_reach_24 n S' 189 x1 x2 x3 ∧ rvf [205] S S' ∧ ∀ x, x < 390625 → S'.2.1 205 x = iM) 390625 (fun i x q hi hx => Or.inr ?_) (fun x q hx => ?_) (i := 0) (x := (S, nI 0)) (q := n) (Nat.zero_le _) ⟨rfl, rvf.rf _ _, fun y hy => absurd hy (Nat.not_lt_zero y)⟩ (by omega)
  · obtain ⟨S1, x⟩ := x
    obtain ⟨rfl, f, g⟩ := hx
    have f : rvf [205] S S1 := f
    have g : ∀ y, y < i → S1.2.1 205 y = iM := g
    have hB1 := f.B hB
    have ni : ¬ nI 390625 ≤ nI i := by rw [n_le (by omega) (by omega)]; omega
    refine ⟨(rv_sI S1 205 i iM, nI (i + 1)), ?_, rfl, f.w rfl rfl, fun y hy => ?_⟩
    · show cX13_reach_3 n (q + 1) S1 189 x1 x2 x3 (nI i) = cX13_reach_3 n q _ 189 x1 x2 x3 (nI (i + 1))
      rw [cX13_reach_3, z390625, if_neg ni]
      repeat (first | (conv => (lhs; arg 1; simp (disch := first | assumption | omega) only [tk_gI, tk_gL, tk_gR, tk_pI, tk_pL, rv_aI, rv_aL, rv_aR, rv_uI, rv_uL, rv_uB, rv_uZ, pu_ckI, pu_ckL, pu_lnI, pu_lnL, tk_rI, tk_rL, Option.bind_some, Option.map_some, rv_lt, tk_ix, z0, z1, z2, z3, z4, z5, z6, z7, z8, z9, z10, z11, z12, z13, z15, z16, z17, z18, z20, z21, z23, z24, z25, z31, z32, z39, z40, z41, z46, z48, z50, z57, z59, z60, z61, z62, z63, z64, z97, z98, z99, z100, z101, z102, z103, z104, z105, z106, z107, z108, z109, z110, z111, z112, z113, z114, z115, z116, z117, z118, z119, z120, z121, z122, z128, z132, z200, z240, z255, z372, z390625, z400, z420, z421, z422, z662, z900, z940, z999, z1000, z1024, z2000, z5860, z10000, z12345, z15625, z266240, z1048575, z1064960, z1103515245, z_m1, n_le, n_lt, n_eq, n_bit0, n_bit1, n_sbit0, n_shl, z_ltM, z_Mlt, z_leM, z_Mle, z_eqM, z_Meq, bI0, bI1, bI_01, bI_01t, bI_10, bI_10f, if_true, if_false, eq_self, reduceCtorEq, rc_189 hB1, rf_of hB1 (show (189, 31, 205) ∈ rv_rf0 by decide), rn_205 hB1])); first | rw [Option.bind_some] | rw [bp_s] | rw [if_true] | rw [if_false] | rw [rv_lt_eq] | rw [if_pos (by omega)] | rw [if_neg (by omega)])
      rw [nI_add]
    · show (rv_sI S1 205 i iM).2.1 205 y = iM
      by_cases e : y = i
      · rw [e, rv_sI_eq]
      · rw [rv_sI_k _ _ e]; exact g y (by omega)
  · obtain ⟨S1, x⟩ := x
    obtain ⟨rfl, f, g⟩ := hx
    refine ⟨S1, ?_, f, g⟩
    show cX13_reach_3 n (q + 1) S1 189 x1 x2 x3 (nI 390625) = _
    rw [cX13_reach_3, z390625, if_pos (by rw [n_le (by omega) (by omega)]; omega)]
theorem m_rbegin (hn : 390630 ≤ n) (hB : rv_B S) (hM : MR S m) (hk : okm m) {c : Nat} (hc : c < vC m) (x2 x3 : Int32) : ∃ S', fnX13_reach n S 189 (nI c) x2 x3 = cX13_reach_60 n n S' 189 x2 x3 (nI 0) ∧ rvf RD S S' ∧ RQ S' (bfs m (ow m c, rl m c) 0) := by
  obtain ⟨hp, hcc, hd⟩ := id hk
  have h40 := hcc.1
  obtain ⟨q1, q2, q3, q4, q5⟩ := hcc.2.2 c hc
  obtain ⟨S1, e1, f1, g1⟩ := m_clear205 hn hB (nI c) x2 x3
  have hB1 := f1.B hB
  have hM1 := hM.f f1 rfl
  obtain ⟨S2, e2, f2, g2⟩ := m_hold (n := n) (by omega) hB1 hM1 (c := c) (by omega)
  have hB2 := f2.B hB1
  have hs : okS m (ow m c, rl m c) := ⟨q3, hcc.l hc⟩
  have H2 := HR_of g2 (by have := hcc.2.1; omega)
  have kc := m_code (n := n) (by omega) hB2 hp H2 hs.1 hs.2
  have lt := cd_lt hp hs.1 hs.2
  obtain ⟨v, ev⟩ : ∃ v, v = cd (ow m c) (rl m c) := ⟨_, rfl⟩
  rw [← ev] at kc lt
  obtain ⟨S3, eS3⟩ : ∃ S3, S3 = rv_sI (rv_sI (rv_sI S2 205 v (nI v)) 206 0 (nI v)) 189 35 (nI 1) := ⟨_, rfl⟩
  have f3 : rvf RD S2 S3 := by
    rw [eS3]
    exact (((rvf.rf RD S2).w rfl rfl).w rfl rfl).tr ((rvf.sI _ 189 35 _).mono rfl)
  refine ⟨S3, ?_, (f1.mono rfl).tr ((f2.mono rfl).tr f3), ?_, fun i hi => ?_, fun i hi => ?_, fun x hx hno => ?_⟩
  · rw [fnX13_reach, z0, e1, cX13_reach_24]
    repeat (first | (conv => (lhs; arg 1; simp (disch := first | assumption | omega) only [tk_gI, tk_gL, tk_gR, tk_pI, tk_pL, rv_aI, rv_aL, rv_aR, rv_uI, rv_uL, rv_uB, rv_uZ, pu_ckI, pu_ckL, pu_lnI, pu_lnL, tk_rI, tk_rL, Option.bind_some, Option.map_some, rv_lt, tk_ix, z0, z1, z2, z3, z4, z5, z6, z7, z8, z9, z10, z11, z12, z13, z15, z16, z17, z18, z20, z21, z23, z24, z25, z31, z32, z39, z40, z41, z46, z48, z50, z57, z59, z60, z61, z62, z63, z64, z97, z98, z99, z100, z101, z102, z103, z104, z105, z106, z107, z108, z109, z110, z111, z112, z113, z114, z115, z116, z117, z118, z119, z120, z121, z122, z128, z132, z200, z240, z255, z372, z390625, z400, z420, z421, z422, z662, z900, z940, z999, z1000, z1024, z2000, z5860, z10000, z12345, z15625, z266240, z1048575, z1064960, z1103515245, z_m1, n_le, n_lt, n_eq, n_bit0, n_bit1, n_sbit0, n_shl, z_ltM, z_Mlt, z_leM, z_Mle, z_eqM, z_Meq, bI0, bI1, bI_01, bI_01t, bI_10, bI_10f, if_true, if_false, eq_self, reduceCtorEq, rc_189 hB1, e2, rc_189 hB2, kc, rf_of hB2 (show (189, 31, 205) ∈ rv_rf0 by decide), rf_of hB2 (show (189, 32, 206) ∈ rv_rf0 by decide), rn_205 hB2, rn_206 hB2, ← eS3])); first | rw [Option.bind_some] | rw [bp_s] | rw [if_true] | rw [if_false] | rw [rv_lt_eq] | rw [if_pos (by omega)] | rw [if_neg (by omega)])
    rw [z0]
  · rw [eS3, rv_sI_eq]; rfl
  · have hi : i < 1 := hi
    have e : i = 0 := by omega
    rw [e, eS3, rv_sI_a _ _ _ (by decide), rv_sI_eq, ev]
    rfl
  · rw [eS3, rv_sI_a _ _ _ (by decide), rv_sI_a _ _ _ (by decide)]
    show (rv_sI S2 205 v (nI v)).2.1 205 (cd (ow m c) (rl m c)) = nI (cd (ow m c) (rl m c))
    rw [← ev, rv_sI_eq]
  · have := hno 0 (Nat.lt_succ_self 0)
    have : v ≠ x := by rw [ev]; exact this
    rw [eS3, rv_sI_a _ _ _ (by decide), rv_sI_a _ _ _ (by decide), rv_sI_k _ _ (fun z => this z.symm), f2.row rfl rfl]
    exact g1 x hx
/-- none owned by w -/
def NoW (w : Nat) (c : Cf) : Prop := ∀ i, i < c.1 → (c.2.1 i).1 ≠ w
theorem stp_No {w h j : Nat} {c : Cf} (hc : NoW w c) (h2 : j = w → ¬ gok m (c.2.1 h) j) : NoW w (stp m h c j) := by
  rw [stp]
  by_cases cg : gok m (c.2.1 h) j
  · rw [if_pos cg]
    split
    · exact hc
    · obtain ⟨-, x2⟩ := push_ext c (nx m (c.2.1 h) j) h
      obtain ⟨y1, -⟩ := push_new c (nx m (c.2.1 h) j) h
      intro i hi
      have hi : i < c.1 + 1 := hi
      by_cases e : i = c.1
      · rw [e, y1]
        exact fun z => h2 z cg
      · rw [(x2 i (by omega)).1]; exact hc i (by omega)
  · rw [if_neg cg]; exact hc
theorem exl_No {w h : Nat} {c : Cf} (hh : h < c.1) (hc : NoW w c) : ∀ J, (w < J → ¬ gok m (c.2.1 h) w) → NoW w (exl m h c J) := by
  intro J
  induction J with
  | zero => intro _; exact hc
  | succ J ih =>
    intro hJ
    refine stp_No (ih fun z => hJ (by omega)) fun e => ?_
    rw [exl_Q hh, e]
    exact hJ (by omega)
theorem bfs_No {w : Nat} (hw : s0.1 ≠ w) : ∀ h, (∀ i, i < h → ¬ gok m ((bfs m s0 i).2.1 i) w ∧ i < (bfs m s0 i).1) → NoW w (bfs m s0 h) := by
  intro h
  induction h with
  | zero => intro _ i _; exact hw
  | succ h ih =>
    intro hno
    exact exl_No (hno h (by omega)).2 (ih fun i hi => hno i (by omega)) (vW m) fun _ => (hno h (by omega)).1
theorem inC_No {w : Nat} {c : Cf} (hc : NoW w c) {s : St} (hs : s.1 = w) : inC c s = false := by
  cases h : inC c s
  · rfl
  · obtain ⟨i, hi, e⟩ := inC_iff.mp h
    exact absurd (by rw [e]; exact hs) (hc i hi)
/-- it finds no one -/
theorem m_none (hn : 390630 ≤ n) (hB : rv_B S) (hM : MR S m) (hk : okm m) (hs0 : okS m s0) (h0 : s0.2.length ≤ vN m) (hQ : RQ S (bfs m s0 0)) (x2 x3 : Int32) {T : Nat} (hT : (bfs m s0 T).1 = T) (hb : BS m s0 T) (hnr : ∀ i, i < T → i < (bfs m s0 i).1 ∧ NR m x2 x3 (bfs m s0 i) i (vW m)) : ∃ S', cX13_reach_60 n n S 189 x2 x3 (nI 0) = some (iM, S') ∧ rvf RD S S' ∧ RQ S' (bfs m s0 T) := by
  have cap := BI_cap hk hb.1 h0
  rw [hT] at cap
  obtain ⟨S1, e1, f1, Q1, -⟩ := m_heads (n := n) (by omega) hB hM hk hs0 h0 hQ x2 x3 T hnr (n - T - 1 + 1)
  refine ⟨S1, ?_, f1, Q1⟩
  rw [show n - T - 1 + 1 + T = n by omega] at e1
  have hB1 := f1.B hB
  have q35 := Q1.1
  rw [hT] at q35
  rw [e1, cX13_reach_60]
  repeat (first | (conv => (lhs; arg 1; simp (disch := first | assumption | omega) only [tk_gI, tk_gL, tk_gR, tk_pI, tk_pL, rv_aI, rv_aL, rv_aR, rv_uI, rv_uL, rv_uB, rv_uZ, pu_ckI, pu_ckL, pu_lnI, pu_lnL, tk_rI, tk_rL, Option.bind_some, Option.map_some, rv_lt, tk_ix, n_le, n_lt, n_eq, n_bit0, n_bit1, n_sbit0, n_shl, z_ltM, z_Mlt, z_leM, z_Mle, z_eqM, z_Meq, bI0, bI1, bI_01, bI_01t, bI_10, bI_10f, if_true, if_false, eq_self, reduceCtorEq, rc_189 hB1, q35])); first | rw [Option.bind_some] | rw [bp_s] | rw [if_true] | rw [if_false] | rw [rv_lt_eq] | rw [if_pos (by omega)] | rw [if_neg (by omega)])
  rfl
theorem m_found (hn : 390630 ≤ n) (hB : rv_B S) (hM : MR S m) (hk : okm m) (hs0 : okS m s0) (h0 : s0.2.length ≤ vN m) (hQ : RQ S (bfs m s0 0)) (x2 x3 : Int32) {h w : Nat} (hw : w < vW m) (hh : h < (bfs m s0 h).1) (hb : BS m s0 h) (hg : gok m ((bfs m s0 h).2.1 h) w) (hnr : ∀ i, i < h → i < (bfs m s0 i).1 ∧ NR m x2 x3 (bfs m s0 i) i (vW m)) (hnw : NR m x2 x3 (bfs m s0 h) h w) {s : St} (es : s = nx m ((bfs m s0 h).2.1 h) w) :
    (nI (cd s.1 s.2) = x3 → ∃ S', cX13_reach_60 n n S 189 x2 x3 (nI 0) = some (nI (cd s.1 s.2), S') ∧ rvf RD S S' ∧ RQ S' (exl m h (bfs m s0 h) w) ∧ S'.2.1 189 37 = nI (cQ (bfs m s0 h) h)) ∧
    (nI (cd s.1 s.2) ≠ x3 → inC (exl m h (bfs m s0 h) w) s = false → nI w = x2 → ∃ S', cX13_reach_60 n n S 189 x2 x3 (nI 0) = some (nI (cd s.1 s.2), S') ∧ rvf RD S S' ∧ RQ S' (pushC (exl m h (bfs m s0 h) w) s h)) := by
  have h24 := hk.1.1
  have cap := BI_cap hk hb.1 h0
  obtain ⟨S1, e1, f1, Q1, -⟩ := m_heads (n := n) (by omega) hB hM hk hs0 h0 hQ x2 x3 h hnr (n - h - 1 + 1)
  rw [show n - h - 1 + 1 + h = n by omega] at e1
  have hB1 := f1.B hB
  have hM1 := hM.f f1 rfl
  have q35 := Q1.1
  obtain ⟨S2, e2, f2, Q2⟩ := m_head (n := n) (by omega) hB1 hM1 hk h0 hb.1 Q1 hh x2 x3 (fun a0 x2 x3 x5 S => cX13_reach_60 n (n - h - 1) S a0 x2 x3 x5) w (by omega) hnw (n - w - 1 + 1)
  rw [show n - w - 1 + 1 + w = n by omega] at e2
  have hB2 := f2.B hB1
  have hM2 := hM1.f f2 rfl
  have eQ := exl_Q (m := m) hh w
  obtain ⟨t1, t2, -⟩ := m_rstep (n := n) (q := n - w - 1) (by omega) hB2 hM2 hk (exl_BI hk hh hb.1 w (by omega)) (exl_cap hk h0 hh hb.1 (by omega)) Q2 (Nat.lt_of_lt_of_le hh (exl_ext h _ w).1) hw x2 x3 (fun a0 x2 x3 x5 S => cX13_reach_60 n (n - h - 1) S a0 x2 x3 x5) (s := s) (by rw [es, eQ])
  rw [eQ] at t1 t2
  have E : ∀ R, cX13_reach_72 n (fun a0 x2 x3 x5 S => cX13_reach_60 n (n - h - 1) S a0 x2 x3 x5) (n - w - 1 + 1) S2 189 x2 x3 (nI h) (nI w) = R → cX13_reach_60 n n S 189 x2 x3 (nI 0) = R := fun R hR => by
    rw [e1, cX13_reach_60]
    repeat (first | (conv => (lhs; arg 1; simp (disch := first | assumption | omega) only [tk_gI, tk_gL, tk_gR, tk_pI, tk_pL, rv_aI, rv_aL, rv_aR, rv_uI, rv_uL, rv_uB, rv_uZ, pu_ckI, pu_ckL, pu_lnI, pu_lnL, tk_rI, tk_rL, Option.bind_some, Option.map_some, rv_lt, tk_ix, n_le, n_lt, n_eq, n_bit0, n_bit1, n_sbit0, n_shl, z_ltM, z_Mlt, z_leM, z_Mle, z_eqM, z_Meq, bI0, bI1, bI_01, bI_01t, bI_10, bI_10f, if_true, if_false, eq_self, reduceCtorEq, rc_189 hB1, q35])); first | rw [Option.bind_some] | rw [bp_s] | rw [if_true] | rw [if_false] | rw [rv_lt_eq] | rw [if_pos (by omega)] | rw [if_neg (by omega)])
    rw [z0, e2, hR]
  constructor
  · intro h3
    obtain ⟨S3, e3, f3, Q3, l3⟩ := t1 hg h3
    refine ⟨S3, E _ e3, f1.tr (f2.tr f3), Q3, ?_⟩
    rw [l3, cQ, eQ]
  · intro h3 hin h2
    obtain ⟨S3, e3, f3, Q3⟩ := t2 hg h3 hin h2
    exact ⟨S3, E _ e3, f1.tr (f2.tr f3), Q3⟩
end
