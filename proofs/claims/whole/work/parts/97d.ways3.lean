/-! WAYS: the reference's tries -/
section
variable {n : Nat} {S : rvS} {m : Nat → Nat} {go : Nat} {gl : List Nat}
theorem m_isAs (hn : 10 ≤ n) (hB : rv_B S) (hM : MR S m) (hk : okm m) {c : Nat} (hcc : c < vC m) {o : Nat} {l : List Nat} (hH : HR S o l) (ho : o < vW m) (hl : okl m l) : fnX13_isAs n S 189 (nI c) = some (bI (decide (o = ow m c ∧ l = rl m c))) := by
  obtain ⟨hp, hc, hd⟩ := hk
  obtain ⟨g0, g1, g2⟩ := hH
  have h40 := hc.1
  have h24 := hp.1
  obtain ⟨-, -, q3, q4, q5⟩ := hc.2.2 c hcc
  have hN := hc.2.1
  have rr := rf_of hB (show (189, 24, 199) ∈ rv_rf0 by decide)
  have rn := rn_199 hB
  have rc := rc_189 hB
  have k1 := m_ow (n := n) hB hM (c := c) (by omega)
  have k2 := m_mn (n := n) hB hM (c := c) (by omega)
  have l3' := hl.1
  have rl3 := rl_len (m := m) (c := c) (by omega)
  by_cases c1 : o = ow m c
  · by_cases c2 : l.length = mn m c
    · have key : cX13_isAs_34 n S n 189 (nI c) (nI 0) = some (bI (decide (l = rl m c))) := by
        refine lp (F := fun q (x : Int32) => cX13_isAs_34 n S q 189 (nI c) x) (fun i x => x = nI i ∧ ∀ j, j < i → l[j]? = some (rm m c j)) (fun r => r = some (bI (decide (l = rl m c)))) l.length (fun i x q hi hx => ?_) (fun x q hx => ?_) (i := 0) (x := nI 0) (q := n) (Nat.zero_le _) ⟨rfl, fun j h => absurd h (Nat.not_lt_zero j)⟩ (by omega)
        · obtain ⟨rfl, h⟩ := hx
          have e1 := List.getElem?_eq_getElem hi
          have e2 := g2 i _ e1
          have e3 := hl.2 _ (List.getElem_mem hi)
          have e4 := q5 i (by omega)
          have k3 := m_rm (n := n) hB hM (c := c) (i := i) (by omega) (by omega)
          generalize l[i] = y at *
          by_cases c3 : y = rm m c i
          · refine Or.inr ⟨nI (i + 1), ?_, rfl, fun j hj => ?_⟩
            · show cX13_isAs_34 n S (q + 1) 189 (nI c) (nI i) = cX13_isAs_34 n S q 189 (nI c) (nI (i + 1))
              rw [cX13_isAs_34]
              simp (disch := first | assumption | omega) only [tk_gI, tk_gL, tk_gR, tk_pI, tk_pL, rv_aI, rv_aL, rv_aR, rv_uI, rv_uL, rv_uB, rv_uZ, pu_ckI, pu_ckL, pu_lnI, pu_lnL, tk_rI, tk_rL, Option.bind_some, Option.map_some, rv_lt, tk_ix, z0, z1, z2, z3, z4, z5, z6, z7, z8, z9, z10, z11, z12, z13, z15, z16, z17, z18, z20, z21, z23, z24, z25, z31, z32, z39, z40, z41, z46, z48, z50, z57, z59, z60, z61, z62, z63, z64, z97, z98, z99, z100, z101, z102, z103, z104, z105, z106, z107, z108, z109, z110, z111, z112, z113, z114, z115, z116, z117, z118, z119, z120, z121, z122, z128, z132, z200, z240, z255, z372, z390625, z400, z420, z421, z422, z662, z900, z940, z999, z1000, z1024, z2000, z5860, z10000, z12345, z15625, z266240, z1048575, z1064960, z1103515245, z_m1, n_le, n_lt, n_eq, n_bit0, n_bit1, n_sbit0, n_shl, z_ltM, z_Mlt, z_leM, z_Mle, z_eqM, z_Meq, bI0, bI1, bI_01, bI_01t, bI_10, bI_10f, if_true, if_false, eq_self, reduceCtorEq, if_pos, if_neg, rr, rn, rc, g1, show ¬ l.length ≤ i by omega, nI_add, e2, k3, c3]
            · by_cases e : j = i
              · rw [e, e1, c3]
              · exact h j (by omega)
          · left
            have ne : ¬ l = rl m c := fun z => by
              have h1 := rl_get (m := m) (c := c) (i := i) (by omega) (by omega)
              rw [← z, e1] at h1
              exact c3 (Option.some.inj h1)
            show cX13_isAs_34 n S (q + 1) 189 (nI c) (nI i) = _
            rw [cX13_isAs_34, decide_eq_false ne, bI_f]
            simp (disch := first | assumption | omega) only [tk_gI, tk_gL, tk_gR, tk_pI, tk_pL, rv_aI, rv_aL, rv_aR, rv_uI, rv_uL, rv_uB, rv_uZ, pu_ckI, pu_ckL, pu_lnI, pu_lnL, tk_rI, tk_rL, Option.bind_some, Option.map_some, rv_lt, tk_ix, z0, z1, z2, z3, z4, z5, z6, z7, z8, z9, z10, z11, z12, z13, z15, z16, z17, z18, z20, z21, z23, z24, z25, z31, z32, z39, z40, z41, z46, z48, z50, z57, z59, z60, z61, z62, z63, z64, z97, z98, z99, z100, z101, z102, z103, z104, z105, z106, z107, z108, z109, z110, z111, z112, z113, z114, z115, z116, z117, z118, z119, z120, z121, z122, z128, z132, z200, z240, z255, z372, z390625, z400, z420, z421, z422, z662, z900, z940, z999, z1000, z1024, z2000, z5860, z10000, z12345, z15625, z266240, z1048575, z1064960, z1103515245, z_m1, n_le, n_lt, n_eq, n_bit0, n_bit1, n_sbit0, n_shl, z_ltM, z_Mlt, z_leM, z_Mle, z_eqM, z_Meq, bI0, bI1, bI_01, bI_01t, bI_10, bI_10f, if_true, if_false, eq_self, reduceCtorEq, if_pos, if_neg, rr, rn, rc, g1, show ¬ l.length ≤ i by omega, nI_add, e2, k3, c3]
        · obtain ⟨rfl, h⟩ := hx
          have eq : l = rl m c := List.ext_getElem? fun j => by
            by_cases hj : j < l.length
            · rw [h j hj, rl_get (by omega) (by omega)]
            · rw [List.getElem?_eq_none (by omega), List.getElem?_eq_none (by omega)]
          show cX13_isAs_34 n S (q + 1) 189 (nI c) (nI l.length) = _
          rw [cX13_isAs_34, decide_eq_true eq, bI_t]
          simp (disch := first | assumption | omega) only [tk_gI, tk_gL, tk_gR, tk_pI, tk_pL, rv_aI, rv_aL, rv_aR, rv_uI, rv_uL, rv_uB, rv_uZ, pu_ckI, pu_ckL, pu_lnI, pu_lnL, tk_rI, tk_rL, Option.bind_some, Option.map_some, rv_lt, tk_ix, z0, z1, z2, z3, z4, z5, z6, z7, z8, z9, z10, z11, z12, z13, z15, z16, z17, z18, z20, z21, z23, z24, z25, z31, z32, z39, z40, z41, z46, z48, z50, z57, z59, z60, z61, z62, z63, z64, z97, z98, z99, z100, z101, z102, z103, z104, z105, z106, z107, z108, z109, z110, z111, z112, z113, z114, z115, z116, z117, z118, z119, z120, z121, z122, z128, z132, z200, z240, z255, z372, z390625, z400, z420, z421, z422, z662, z900, z940, z999, z1000, z1024, z2000, z5860, z10000, z12345, z15625, z266240, z1048575, z1064960, z1103515245, z_m1, n_le, n_lt, n_eq, n_bit0, n_bit1, n_sbit0, n_shl, z_ltM, z_Mlt, z_leM, z_Mle, z_eqM, z_Meq, bI0, bI1, bI_01, bI_01t, bI_10, bI_10f, if_true, if_false, eq_self, reduceCtorEq, if_pos, if_neg, rr, rn, rc, g1, Nat.le_refl]
      have ed : decide (o = ow m c ∧ l = rl m c) = decide (l = rl m c) := decide_eq_decide.mpr ⟨fun z => z.2, fun z => ⟨c1, z⟩⟩
      rw [ed, fnX13_isAs]
      simp (disch := first | assumption | omega) only [tk_gI, tk_gL, tk_gR, tk_pI, tk_pL, rv_aI, rv_aL, rv_aR, rv_uI, rv_uL, rv_uB, rv_uZ, pu_ckI, pu_ckL, pu_lnI, pu_lnL, tk_rI, tk_rL, Option.bind_some, Option.map_some, rv_lt, tk_ix, z0, z1, z2, z3, z4, z5, z6, z7, z8, z9, z10, z11, z12, z13, z15, z16, z17, z18, z20, z21, z23, z24, z25, z31, z32, z39, z40, z41, z46, z48, z50, z57, z59, z60, z61, z62, z63, z64, z97, z98, z99, z100, z101, z102, z103, z104, z105, z106, z107, z108, z109, z110, z111, z112, z113, z114, z115, z116, z117, z118, z119, z120, z121, z122, z128, z132, z200, z240, z255, z372, z390625, z400, z420, z421, z422, z662, z900, z940, z999, z1000, z1024, z2000, z5860, z10000, z12345, z15625, z266240, z1048575, z1064960, z1103515245, z_m1, n_le, n_lt, n_eq, n_bit0, n_bit1, n_sbit0, n_shl, z_ltM, z_Mlt, z_leM, z_Mle, z_eqM, z_Meq, bI0, bI1, bI_01, bI_01t, bI_10, bI_10f, if_true, if_false, eq_self, reduceCtorEq, if_pos, if_neg, rr, rn, rc, g0, g1, k1, k2, c1, c2, key]
    · have ne : ¬ (o = ow m c ∧ l = rl m c) := fun z => c2 (by rw [z.2, rl3])
      rw [decide_eq_false ne, bI_f, fnX13_isAs]
      simp (disch := first | assumption | omega) only [tk_gI, tk_gL, tk_gR, tk_pI, tk_pL, rv_aI, rv_aL, rv_aR, rv_uI, rv_uL, rv_uB, rv_uZ, pu_ckI, pu_ckL, pu_lnI, pu_lnL, tk_rI, tk_rL, Option.bind_some, Option.map_some, rv_lt, tk_ix, z0, z1, z2, z3, z4, z5, z6, z7, z8, z9, z10, z11, z12, z13, z15, z16, z17, z18, z20, z21, z23, z24, z25, z31, z32, z39, z40, z41, z46, z48, z50, z57, z59, z60, z61, z62, z63, z64, z97, z98, z99, z100, z101, z102, z103, z104, z105, z106, z107, z108, z109, z110, z111, z112, z113, z114, z115, z116, z117, z118, z119, z120, z121, z122, z128, z132, z200, z240, z255, z372, z390625, z400, z420, z421, z422, z662, z900, z940, z999, z1000, z1024, z2000, z5860, z10000, z12345, z15625, z266240, z1048575, z1064960, z1103515245, z_m1, n_le, n_lt, n_eq, n_bit0, n_bit1, n_sbit0, n_shl, z_ltM, z_Mlt, z_leM, z_Mle, z_eqM, z_Meq, bI0, bI1, bI_01, bI_01t, bI_10, bI_10f, if_true, if_false, eq_self, reduceCtorEq, if_pos, if_neg, rr, rn, rc, g0, g1, k1, k2, c1, c2]
  · have ne : ¬ (o = ow m c ∧ l = rl m c) := fun z => c1 z.1
    rw [decide_eq_false ne, bI_f, fnX13_isAs]
    simp (disch := first | assumption | omega) only [tk_gI, tk_gL, tk_gR, tk_pI, tk_pL, rv_aI, rv_aL, rv_aR, rv_uI, rv_uL, rv_uB, rv_uZ, pu_ckI, pu_ckL, pu_lnI, pu_lnL, tk_rI, tk_rL, Option.bind_some, Option.map_some, rv_lt, tk_ix, z0, z1, z2, z3, z4, z5, z6, z7, z8, z9, z10, z11, z12, z13, z15, z16, z17, z18, z20, z21, z23, z24, z25, z31, z32, z39, z40, z41, z46, z48, z50, z57, z59, z60, z61, z62, z63, z64, z97, z98, z99, z100, z101, z102, z103, z104, z105, z106, z107, z108, z109, z110, z111, z112, z113, z114, z115, z116, z117, z118, z119, z120, z121, z122, z128, z132, z200, z240, z255, z372, z390625, z400, z420, z421, z422, z662, z900, z940, z999, z1000, z1024, z2000, z5860, z10000, z12345, z15625, z266240, z1048575, z1064960, z1103515245, z_m1, n_le, n_lt, n_eq, n_bit0, n_bit1, n_sbit0, n_shl, z_ltM, z_Mlt, z_leM, z_Mle, z_eqM, z_Meq, bI0, bI1, bI_01, bI_01t, bI_10, bI_10f, if_true, if_false, eq_self, reduceCtorEq, if_pos, if_neg, rr, rn, rc, g0, k1, c1]
theorem m_hadAll (hn : 10 ≤ n) (hB : rv_B S) {N : Nat} (hN : N ≤ 5) {rw' B : Nat → Nat} (hr : ∀ j, j < N → rw' j < 24 ∧ S.2.1 213 j = nI (rw' j)) (hb' : ∀ j, j < N → S.2.1 214 j = nI (B j)) (G0 : rvS → Nat → Int32 → Int32 → Int32 → Int32 → Option rvS) : ∃ S', cX13_tryWays_33 n G0 n S 189 (nI N) (nI 0) = some S' ∧ rvf [214] S S' ∧ ∀ j, j < N → S'.2.1 214 j = nI (B j ||| 2 ^ rw' j) := by
  refine lp (F := fun q (x : rvS × Int32) => cX13_tryWays_33 n G0 q x.1 189 (nI N) x.2) (fun i x => x.2 = nI i ∧ rvf [214] S x.1 ∧ ∀ j, j < N → x.1.2.1 214 j = nI (if j < i then B j ||| 2 ^ rw' j else B j)) (fun o => ∃ S', o = some S' ∧ rvf [214] S S' ∧ ∀ j, j < N → S'.2.1 214 j = nI (B j ||| 2 ^ rw' j)) N (fun i x q hi hx => Or.inr ?_) (fun x q hx => ?_) (i := 0) (x := (S, nI 0)) (q := n) (Nat.zero_le _) ⟨rfl, rvf.rf _ _, fun j hj => by rw [if_neg (by omega)]; exact hb' j hj⟩ (by omega)
  · obtain ⟨S1, x2⟩ := x
    obtain ⟨rfl, f, g⟩ := hx
    have f : rvf [214] S S1 := f
    have g : ∀ j, j < N → S1.2.1 214 j = nI (if j < i then B j ||| 2 ^ rw' j else B j) := g
    have hB1 := f.B hB
    obtain ⟨r1, r2⟩ := hr i hi
    have q1 : S1.2.1 213 i = nI (rw' i) := (f.row rfl rfl i).trans r2
    have q2 : S1.2.1 214 i = nI (B i) := (g i hi).trans (by rw [if_neg (Nat.lt_irrefl i)])
    refine ⟨(rv_sI S1 214 i (nI (B i ||| 2 ^ rw' i)), nI (i + 1)), ?_, rfl, f.w rfl rfl, fun j hj => ?_⟩
    · show cX13_tryWays_33 n G0 (q + 1) S1 189 (nI N) (nI i) = cX13_tryWays_33 n G0 q _ 189 (nI N) (nI (i + 1))
      rw [cX13_tryWays_33]
      simp (disch := first | assumption | omega) only [tk_gI, tk_gL, tk_gR, tk_pI, tk_pL, rv_aI, rv_aL, rv_aR, rv_uI, rv_uL, rv_uB, rv_uZ, pu_ckI, pu_ckL, pu_lnI, pu_lnL, tk_rI, tk_rL, Option.bind_some, Option.map_some, rv_lt, tk_ix, z0, z1, z2, z3, z4, z5, z6, z7, z8, z9, z10, z11, z12, z13, z15, z16, z17, z18, z20, z21, z23, z24, z25, z31, z32, z39, z40, z41, z46, z48, z50, z57, z59, z60, z61, z62, z63, z64, z97, z98, z99, z100, z101, z102, z103, z104, z105, z106, z107, z108, z109, z110, z111, z112, z113, z114, z115, z116, z117, z118, z119, z120, z121, z122, z128, z132, z200, z240, z255, z372, z390625, z400, z420, z421, z422, z662, z900, z940, z999, z1000, z1024, z2000, z5860, z10000, z12345, z15625, z266240, z1048575, z1064960, z1103515245, z_m1, n_le, n_lt, n_eq, n_bit0, n_bit1, n_sbit0, n_shl, z_ltM, z_Mlt, z_leM, z_Mle, z_eqM, z_Meq, bI0, bI1, bI_01, bI_01t, bI_10, bI_10f, if_true, if_false, eq_self, reduceCtorEq, if_pos, if_neg, rc_189 hB1, rf_of hB1 (show (189, 46, 214) ∈ rv_rf0 by decide), rf_of hB1 (show (189, 45, 213) ∈ rv_rf0 by decide), rn_213 hB1, rn_214 hB1, nI_add, q1, q2, fa_or]
    · show (rv_sI S1 214 i _).2.1 214 j = _
      by_cases c : j = i
      · subst c; rw [rv_sI_eq, if_pos (by omega)]
      · rw [rv_sI_k _ _ c, g j hj]
        by_cases c2 : j < i
        · rw [if_pos c2, if_pos (by omega)]
        · rw [if_neg c2, if_neg (by omega)]
  · obtain ⟨S1, x2⟩ := x
    obtain ⟨rfl, f, g⟩ := hx
    refine ⟨S1, ?_, f, fun j hj => (g j hj).trans (by rw [if_pos hj])⟩
    show cX13_tryWays_33 n G0 (q + 1) S1 189 (nI N) (nI N) = _
    rw [cX13_tryWays_33]
    simp (disch := first | assumption | omega) only [tk_gI, tk_gL, tk_gR, tk_pI, tk_pL, rv_aI, rv_aL, rv_aR, rv_uI, rv_uL, rv_uB, rv_uZ, pu_ckI, pu_ckL, pu_lnI, pu_lnL, tk_rI, tk_rL, Option.bind_some, Option.map_some, rv_lt, tk_ix, z0, z1, z2, z3, z4, z5, z6, z7, z8, z9, z10, z11, z12, z13, z15, z16, z17, z18, z20, z21, z23, z24, z25, z31, z32, z39, z40, z41, z46, z48, z50, z57, z59, z60, z61, z62, z63, z64, z97, z98, z99, z100, z101, z102, z103, z104, z105, z106, z107, z108, z109, z110, z111, z112, z113, z114, z115, z116, z117, z118, z119, z120, z121, z122, z128, z132, z200, z240, z255, z372, z390625, z400, z420, z421, z422, z662, z900, z940, z999, z1000, z1024, z2000, z5860, z10000, z12345, z15625, z266240, z1048575, z1064960, z1103515245, z_m1, n_le, n_lt, n_eq, n_bit0, n_bit1, n_sbit0, n_shl, z_ltM, z_Mlt, z_leM, z_Mle, z_eqM, z_Meq, bI0, bI1, bI_01, bI_01t, bI_10, bI_10f, if_true, if_false, eq_self, reduceCtorEq, if_pos, if_neg]
def WM (n : Nat) (m : Nat → Nat) (c N k dd : Nat) : Prop := ∀ (o : Nat) (l : List Nat) (S : rvS) (B rw' : Nat → Nat) (V : Nat), o < vW m → okl m l → rv_B S → MR S m → (∀ j, j < N - k → rw' j < 24 ∧ S.2.1 213 j = nI (rw' j)) → S.2.1 189 48 = nI V → (∀ j, j < N → S.2.1 214 j = nI (B j)) → ∃ S', fGX13_tryWays n dd S 189 (nI c) (nI (cd o l)) (nI N) (nI (N - k)) = some S' ∧ rvf [199, 213, 189048, 214] S S' ∧ (∀ j, j < N - k → S'.2.1 213 j = S.2.1 213 j) ∧ S'.2.1 189 48 = nI (V + cw m (ow m c) (rl m c) k o l) ∧ ∀ j, j < N → S'.2.1 214 j = nI (B j ||| if N - k ≤ j then bs (hb m (ow m c) (rl m c) k o l (j - (N - k))) (vW m) else if 0 < cw m (ow m c) (rl m c) k o l then 2 ^ rw' j else 0)
theorem m_tryW (hn : 50 ≤ n) (hk : okm m) {c : Nat} (hcc : c < vC m) {N : Nat} (hN : N ≤ 5) : ∀ k dd, k ≤ N → k < dd → WM n m c N k dd := by
  obtain ⟨hp, hc, hd⟩ := id hk
  have h24 := hp.1
  obtain ⟨go, ego⟩ : ∃ go, go = ow m c := ⟨_, rfl⟩
  obtain ⟨gl, egl⟩ : ∃ gl, gl = rl m c := ⟨_, rfl⟩
  intro k
  induction k with
  | zero =>
    intro dd _ hd o l S B rw' V ho hl hB hM hr hV hb'
    obtain ⟨dd, rfl⟩ : ∃ d', dd = d' + 1 := ⟨dd - 1, by omega⟩
    obtain ⟨S1, e1, f1, H1⟩ := m_uncode (n := n) (by omega) hB hp ho hl
    have hB1 := f1.B hB
    have hM1 := hM.f f1 rfl
    have ia := m_isAs (n := n) (by omega) hB1 hM1 hk hcc H1 ho hl
    show ∃ S', fbX13_tryWays n (fGX13_tryWays n dd) S 189 (nI c) (nI (cd o l)) (nI N) (nI (N - 0)) = some S' ∧ _
    rw [Nat.sub_zero, cw]
    rw [Nat.sub_zero] at hr
    by_cases ce : o = ow m c ∧ l = rl m c
    · rw [if_pos ce]
      rw [decide_eq_true ce, bI_t] at ia
      have v1 : S1.2.1 189 48 = nI V := (f1.at (a := 189) (k := 48) rfl).trans hV
      obtain ⟨S2, eS2⟩ : ∃ S2, S2 = rv_sI S1 189 48 (nI (V + 1)) := ⟨_, rfl⟩
      have f2 : rvf [189048] S1 S2 := by rw [eS2]; exact rvf.sI S1 189 48 _
      have hB2 := f2.B hB1
      obtain ⟨S3, e3, f3, g3⟩ := m_hadAll (n := n) (by omega) hB2 hN (fun j hj => ⟨(hr j hj).1, (f2.row rfl rfl j).trans ((f1.row rfl rfl j).trans (hr j hj).2)⟩) (fun j hj => (f2.row rfl rfl j).trans ((f1.row rfl rfl j).trans (hb' j hj))) (fGX13_tryWays n dd)
      refine ⟨S3, ?_, (f1.mono rfl).tr ((f2.mono rfl).tr (f3.mono rfl)), fun j hj => (f3.row rfl rfl j).trans ((f2.row rfl rfl j).trans (f1.row rfl rfl j)), ?_, fun j hj => ?_⟩
      · rw [fbX13_tryWays]
        simp (disch := first | assumption | omega) only [tk_gI, tk_gL, tk_gR, tk_pI, tk_pL, rv_aI, rv_aL, rv_aR, rv_uI, rv_uL, rv_uB, rv_uZ, pu_ckI, pu_ckL, pu_lnI, pu_lnL, tk_rI, tk_rL, Option.bind_some, Option.map_some, rv_lt, tk_ix, z0, z1, z2, z3, z4, z5, z6, z7, z8, z9, z10, z11, z12, z13, z15, z16, z17, z18, z20, z21, z23, z24, z25, z31, z32, z39, z40, z41, z46, z48, z50, z57, z59, z60, z61, z62, z63, z64, z97, z98, z99, z100, z101, z102, z103, z104, z105, z106, z107, z108, z109, z110, z111, z112, z113, z114, z115, z116, z117, z118, z119, z120, z121, z122, z128, z132, z200, z240, z255, z372, z390625, z400, z420, z421, z422, z662, z900, z940, z999, z1000, z1024, z2000, z5860, z10000, z12345, z15625, z266240, z1048575, z1064960, z1103515245, z_m1, n_le, n_lt, n_eq, n_bit0, n_bit1, n_sbit0, n_shl, z_ltM, z_Mlt, z_leM, z_Mle, z_eqM, z_Meq, bI0, bI1, bI_01, bI_01t, bI_10, bI_10f, if_true, if_false, eq_self, reduceCtorEq, if_pos, if_neg, rc_189 hB, e1, rc_189 hB1, ia, v1, nI_add, ← eS2, e3, Nat.one_ne_zero]
      · rw [f3.at (a := 189) (k := 48) rfl, eS2, rv_sI_eq]
      · rw [g3 j hj, if_neg (by omega), if_pos (by decide)]
    · rw [if_neg ce]
      rw [decide_eq_false ce, bI_f] at ia
      refine ⟨S1, ?_, f1.mono rfl, fun j hj => f1.row rfl rfl j, (f1.at (a := 189) (k := 48) rfl).trans hV, fun j hj => ?_⟩
      · rw [fbX13_tryWays]
        simp (disch := first | assumption | omega) only [tk_gI, tk_gL, tk_gR, tk_pI, tk_pL, rv_aI, rv_aL, rv_aR, rv_uI, rv_uL, rv_uB, rv_uZ, pu_ckI, pu_ckL, pu_lnI, pu_lnL, tk_rI, tk_rL, Option.bind_some, Option.map_some, rv_lt, tk_ix, z0, z1, z2, z3, z4, z5, z6, z7, z8, z9, z10, z11, z12, z13, z15, z16, z17, z18, z20, z21, z23, z24, z25, z31, z32, z39, z40, z41, z46, z48, z50, z57, z59, z60, z61, z62, z63, z64, z97, z98, z99, z100, z101, z102, z103, z104, z105, z106, z107, z108, z109, z110, z111, z112, z113, z114, z115, z116, z117, z118, z119, z120, z121, z122, z128, z132, z200, z240, z255, z372, z390625, z400, z420, z421, z422, z662, z900, z940, z999, z1000, z1024, z2000, z5860, z10000, z12345, z15625, z266240, z1048575, z1064960, z1103515245, z_m1, n_le, n_lt, n_eq, n_bit0, n_bit1, n_sbit0, n_shl, z_ltM, z_Mlt, z_leM, z_Mle, z_eqM, z_Meq, bI0, bI1, bI_01, bI_01t, bI_10, bI_10f, if_true, if_false, eq_self, reduceCtorEq, if_pos, if_neg, rc_189 hB, e1, rc_189 hB1, ia]
      · rw [f1.row rfl rfl, hb' j hj, if_neg (by omega), if_neg (Nat.lt_irrefl 0), Nat.or_zero]
  | succ k ih =>
    intro dd hkN hdd o l S B rw' V ho hl hB hM hr hV hb'
    obtain ⟨dd, rfl⟩ : ∃ d', dd = d' + 1 := ⟨dd - 1, by omega⟩
    have ih := ih dd (by omega) (by omega)
    unfold WM at ih
    rw [← ego, ← egl] at ih ⊢
    show ∃ S', fbX13_tryWays n (fGX13_tryWays n dd) S 189 (nI c) (nI (cd o l)) (nI N) (nI (N - (k + 1))) = some S' ∧ _
    obtain ⟨gn, egn⟩ : ∃ gn, gn = N - (k + 1) := ⟨_, rfl⟩
    have eNk : N - k = gn + 1 := by omega
    rw [← egn] at hr ⊢
    rw [eNk] at ih
    have top : fbX13_tryWays n (fGX13_tryWays n dd) S 189 (nI c) (nI (cd o l)) (nI N) (nI gn) = cX13_tryWays_68 n (fGX13_tryWays n dd) n S 189 (nI c) (nI (cd o l)) (nI N) (nI gn) (nI 0) := by
      rw [fbX13_tryWays]
      simp (disch := first | assumption | omega) only [tk_gI, tk_gL, tk_gR, tk_pI, tk_pL, rv_aI, rv_aL, rv_aR, rv_uI, rv_uL, rv_uB, rv_uZ, pu_ckI, pu_ckL, pu_lnI, pu_lnL, tk_rI, tk_rL, Option.bind_some, Option.map_some, rv_lt, tk_ix, z0, z1, z2, z3, z4, z5, z6, z7, z8, z9, z10, z11, z12, z13, z15, z16, z17, z18, z20, z21, z23, z24, z25, z31, z32, z39, z40, z41, z46, z48, z50, z57, z59, z60, z61, z62, z63, z64, z97, z98, z99, z100, z101, z102, z103, z104, z105, z106, z107, z108, z109, z110, z111, z112, z113, z114, z115, z116, z117, z118, z119, z120, z121, z122, z128, z132, z200, z240, z255, z372, z390625, z400, z420, z421, z422, z662, z900, z940, z999, z1000, z1024, z2000, z5860, z10000, z12345, z15625, z266240, z1048575, z1064960, z1103515245, z_m1, n_le, n_lt, n_eq, n_bit0, n_bit1, n_sbit0, n_shl, z_ltM, z_Mlt, z_leM, z_Mle, z_eqM, z_Meq, bI0, bI1, bI_01, bI_01t, bI_10, bI_10f, if_true, if_false, eq_self, reduceCtorEq, if_pos, if_neg, show ¬ gn = N by omega]
    rw [top]
    have key : ∃ S', cX13_tryWays_68 n (fGX13_tryWays n dd) n S 189 (nI c) (nI (cd o l)) (nI N) (nI gn) (nI 0) = some S' ∧ rvf [199, 213, 189048, 214] S S' ∧ (∀ j, j < gn → S'.2.1 213 j = S.2.1 213 j) ∧ S'.2.1 189 48 = nI (V + cj m go gl k o l (vW m)) ∧ ∀ i, i < N → S'.2.1 214 i = nI (B i ||| if gn ≤ i then hj m go gl k o l (vW m) (i - gn) else if 0 < cj m go gl k o l (vW m) then 2 ^ rw' i else 0) := by
      refine lp (F := fun q (x : rvS × Int32) => cX13_tryWays_68 n (fGX13_tryWays n dd) q x.1 189 (nI c) (nI (cd o l)) (nI N) (nI gn) x.2) (fun j x => x.2 = nI j ∧ rvf [199, 213, 189048, 214] S x.1 ∧ (∀ i, i < gn → x.1.2.1 213 i = S.2.1 213 i) ∧ x.1.2.1 189 48 = nI (V + cj m go gl k o l j) ∧ ∀ i, i < N → x.1.2.1 214 i = nI (B i ||| if gn ≤ i then hj m go gl k o l j (i - gn) else if 0 < cj m go gl k o l j then 2 ^ rw' i else 0)) (fun r => ∃ S', r = some S' ∧ rvf [199, 213, 189048, 214] S S' ∧ (∀ j, j < gn → S'.2.1 213 j = S.2.1 213 j) ∧ S'.2.1 189 48 = nI (V + cj m go gl k o l (vW m)) ∧ ∀ i, i < N → S'.2.1 214 i = nI (B i ||| if gn ≤ i then hj m go gl k o l (vW m) (i - gn) else if 0 < cj m go gl k o l (vW m) then 2 ^ rw' i else 0)) (vW m) (fun j x q hjW hx => Or.inr ?_) (fun x q hx => ?_) (i := 0) (x := (S, nI 0)) (q := n) (Nat.zero_le _) ⟨rfl, rvf.rf _ _, fun _ _ => rfl, hV, fun i hi => ?_⟩ (by omega)
      · obtain ⟨S1, x2⟩ := x
        obtain ⟨rfl, f, g213, gV, g214⟩ := hx
        have f : rvf [199, 213, 189048, 214] S S1 := f
        have gV : S1.2.1 189 48 = nI (V + cj m go gl k o l j) := gV
        have g213 : ∀ i, i < gn → S1.2.1 213 i = S.2.1 213 i := g213
        have g214 : ∀ i, i < N → S1.2.1 214 i = nI (B i ||| if gn ≤ i then hj m go gl k o l j (i - gn) else if 0 < cj m go gl k o l j then 2 ^ rw' i else 0) := g214
        have hB1 := f.B hB
        have hM1 := hM.f f rfl
        obtain ⟨S2, e2, f2, H2⟩ := m_uncode (n := n) (by omega) hB1 hp ho hl
        have hB2 := f2.B hB1
        have hM2 := hM1.f f2 rfl
        have kw := m_whyNot (n := n) (by omega) hB2 hM2 hp H2 ho hl hjW
        have wl := wy_le m o l j
        by_cases cwy : wy m o l j = 0
        · rw [cwy] at kw
          obtain ⟨S3, e3, f3, H3⟩ := m_passL (n := n) (by omega) hB2 hM2 hc H2 (by omega) hl.1 (hl.all hp) j
          have hB3 := f3.B hB2
          have hM3 := hM2.f f3 rfl
          obtain ⟨S4, eS4⟩ : ∃ S4, S4 = rv_sI S3 213 gn (nI j) := ⟨_, rfl⟩
          have f4 : rvf [213] S3 S4 := by rw [eS4]; exact (rvf.rf _ _).w rfl rfl
          have hB4 := f4.B hB3
          have hM4 := hM3.f f4 rfl
          have okp' := ps_ok hc ho hl
          have kc := m_code (n := n) (by omega) hB4 hp (H3.f f4 rfl) hjW okp'
          have f14 : rvf [199, 213] S1 S4 := (f2.mono rfl).tr ((f3.mono rfl).tr (f4.mono rfl))
          obtain ⟨S5, e5, f5, g5, v5, b5⟩ := ih j (ps m o l) S4 (fun i => B i ||| if gn ≤ i then hj m go gl k o l j (i - gn) else if 0 < cj m go gl k o l j then 2 ^ rw' i else 0) (fun i => if i = gn then j else rw' i) (V + cj m go gl k o l j) hjW okp' hB4 hM4 (fun i hi => by
            by_cases ci : i = gn
            · rw [if_pos ci, ci]
              exact ⟨by omega, by rw [eS4, rv_sI_eq]⟩
            · rw [if_neg ci]
              refine ⟨(hr i (by omega)).1, ?_⟩
              rw [eS4, rv_sI_k _ _ ci, f3.row rfl rfl, f2.row rfl rfl, g213 i (by omega)]
              exact (hr i (by omega)).2) ((f14.at (a := 189) (k := 48) rfl).trans gV) (fun i hi => (f14.row rfl rfl i).trans (g214 i hi))
          have cs : cj m go gl k o l (j + 1) = cj m go gl k o l j + cw m go gl k j (ps m o l) := by rw [cj_s, if_pos cwy]
          refine ⟨(S5, nI (j + 1)), ?_, rfl, f.tr ((f14.mono rfl).tr f5), fun i hi => ?_, ?_, fun i hi => ?_⟩
          · show cX13_tryWays_68 n (fGX13_tryWays n dd) (q + 1) S1 189 (nI c) (nI (cd o l)) (nI N) (nI gn) (nI j) = cX13_tryWays_68 n (fGX13_tryWays n dd) q S5 189 (nI c) (nI (cd o l)) (nI N) (nI gn) (nI (j + 1))
            have rr3 := rf_of hB3 (show (189, 45, 213) ∈ rv_rf0 by decide)
            rw [cX13_tryWays_68]
            simp (disch := first | assumption | omega) only [tk_gI, tk_gL, tk_gR, tk_pI, tk_pL, rv_aI, rv_aL, rv_aR, rv_uI, rv_uL, rv_uB, rv_uZ, pu_ckI, pu_ckL, pu_lnI, pu_lnL, tk_rI, tk_rL, Option.bind_some, Option.map_some, rv_lt, tk_ix, z0, z1, z2, z3, z4, z5, z6, z7, z8, z9, z10, z11, z12, z13, z15, z16, z17, z18, z20, z21, z23, z24, z25, z31, z32, z39, z40, z41, z46, z48, z50, z57, z59, z60, z61, z62, z63, z64, z97, z98, z99, z100, z101, z102, z103, z104, z105, z106, z107, z108, z109, z110, z111, z112, z113, z114, z115, z116, z117, z118, z119, z120, z121, z122, z128, z132, z200, z240, z255, z372, z390625, z400, z420, z421, z422, z662, z900, z940, z999, z1000, z1024, z2000, z5860, z10000, z12345, z15625, z266240, z1048575, z1064960, z1103515245, z_m1, n_le, n_lt, n_eq, n_bit0, n_bit1, n_sbit0, n_shl, z_ltM, z_Mlt, z_leM, z_Mle, z_eqM, z_Meq, bI0, bI1, bI_01, bI_01t, bI_10, bI_10f, if_true, if_false, eq_self, reduceCtorEq, if_pos, if_neg, rc_189 hB1, m_whos hB1 hM1, e2, rc_189 hB2, kw, e3, rc_189 hB3, rr3, rn_213 hB3, ← eS4, rc_189 hB4, kc, nI_add, e5]
          · show S5.2.1 213 i = _
            rw [g5 i (by omega), eS4, rv_sI_k _ _ (by omega), f3.row rfl rfl, f2.row rfl rfl]
            exact g213 i hi
          · show S5.2.1 189 48 = _
            rw [v5, cs, Nat.add_assoc]
          · show S5.2.1 214 i = _
            rw [b5 i hi]
            refine congrArg nI ?_
            by_cases c1 : i < gn
            · rw [if_neg (show ¬ gn ≤ i by omega), if_neg (show ¬ gn + 1 ≤ i by omega), if_neg (show ¬ i = gn by omega), if_neg (show ¬ gn ≤ i by omega), cs, Nat.or_assoc]
              congr 1
              by_cases z1 : 0 < cj m go gl k o l j
              · rw [if_pos z1, if_pos (show 0 < cj m go gl k o l j + cw m go gl k j (ps m o l) by omega)]
                split
                · exact Nat.or_self _
                · exact Nat.or_zero _
              · rw [if_neg z1, Nat.zero_or]
                by_cases z2 : 0 < cw m go gl k j (ps m o l)
                · rw [if_pos z2, if_pos (by omega)]
                · rw [if_neg z2, if_neg (by omega)]
            · by_cases c2 : i = gn
              · rw [c2, if_pos (Nat.le_refl _), if_neg (show ¬ gn + 1 ≤ gn by omega), if_pos rfl, if_pos (Nat.le_refl _), Nat.sub_self, hj_s k o l cwy, if_pos rfl, Nat.or_assoc]
              · rw [if_pos (show gn ≤ i by omega), if_pos (show gn + 1 ≤ i by omega), if_pos (show gn ≤ i by omega), hj_s k o l cwy, if_neg (show ¬ i - gn = 0 by omega), show i - gn - 1 = i - (gn + 1) by omega, Nat.or_assoc]
        · have cs : cj m go gl k o l (j + 1) = cj m go gl k o l j := by rw [cj_s, if_neg cwy, Nat.add_zero]
          refine ⟨(S2, nI (j + 1)), ?_, rfl, f.tr (f2.mono rfl), fun i hi => (f2.row rfl rfl i).trans (g213 i hi), ?_, fun i hi => ?_⟩
          · show cX13_tryWays_68 n (fGX13_tryWays n dd) (q + 1) S1 189 (nI c) (nI (cd o l)) (nI N) (nI gn) (nI j) = cX13_tryWays_68 n (fGX13_tryWays n dd) q S2 189 (nI c) (nI (cd o l)) (nI N) (nI gn) (nI (j + 1))
            rw [cX13_tryWays_68]
            simp (disch := first | assumption | omega) only [tk_gI, tk_gL, tk_gR, tk_pI, tk_pL, rv_aI, rv_aL, rv_aR, rv_uI, rv_uL, rv_uB, rv_uZ, pu_ckI, pu_ckL, pu_lnI, pu_lnL, tk_rI, tk_rL, Option.bind_some, Option.map_some, rv_lt, tk_ix, z0, z1, z2, z3, z4, z5, z6, z7, z8, z9, z10, z11, z12, z13, z15, z16, z17, z18, z20, z21, z23, z24, z25, z31, z32, z39, z40, z41, z46, z48, z50, z57, z59, z60, z61, z62, z63, z64, z97, z98, z99, z100, z101, z102, z103, z104, z105, z106, z107, z108, z109, z110, z111, z112, z113, z114, z115, z116, z117, z118, z119, z120, z121, z122, z128, z132, z200, z240, z255, z372, z390625, z400, z420, z421, z422, z662, z900, z940, z999, z1000, z1024, z2000, z5860, z10000, z12345, z15625, z266240, z1048575, z1064960, z1103515245, z_m1, n_le, n_lt, n_eq, n_bit0, n_bit1, n_sbit0, n_shl, z_ltM, z_Mlt, z_leM, z_Mle, z_eqM, z_Meq, bI0, bI1, bI_01, bI_01t, bI_10, bI_10f, if_true, if_false, eq_self, reduceCtorEq, if_pos, if_neg, rc_189 hB1, m_whos hB1 hM1, e2, rc_189 hB2, kw, cwy, nI_add]
          · show S2.2.1 189 48 = _
            rw [cs, f2.at (a := 189) (k := 48) rfl]; exact gV
          · show S2.2.1 214 i = _
            rw [cs, hj_n k o l hjW (fun z => absurd z cwy), f2.row rfl rfl]; exact g214 i hi
      · obtain ⟨S1, x2⟩ := x
        obtain ⟨rfl, f, g213, gV, g214⟩ := hx
        have f : rvf [199, 213, 189048, 214] S S1 := f
        have hB1 := f.B hB
        have hM1 := hM.f f rfl
        refine ⟨S1, ?_, f, g213, gV, g214⟩
        show cX13_tryWays_68 n (fGX13_tryWays n dd) (q + 1) S1 189 (nI c) (nI (cd o l)) (nI N) (nI gn) (nI (vW m)) = _
        rw [cX13_tryWays_68]
        simp (disch := first | assumption | omega) only [tk_gI, tk_gL, tk_gR, tk_pI, tk_pL, rv_aI, rv_aL, rv_aR, rv_uI, rv_uL, rv_uB, rv_uZ, pu_ckI, pu_ckL, pu_lnI, pu_lnL, tk_rI, tk_rL, Option.bind_some, Option.map_some, rv_lt, tk_ix, z0, z1, z2, z3, z4, z5, z6, z7, z8, z9, z10, z11, z12, z13, z15, z16, z17, z18, z20, z21, z23, z24, z25, z31, z32, z39, z40, z41, z46, z48, z50, z57, z59, z60, z61, z62, z63, z64, z97, z98, z99, z100, z101, z102, z103, z104, z105, z106, z107, z108, z109, z110, z111, z112, z113, z114, z115, z116, z117, z118, z119, z120, z121, z122, z128, z132, z200, z240, z255, z372, z390625, z400, z420, z421, z422, z662, z900, z940, z999, z1000, z1024, z2000, z5860, z10000, z12345, z15625, z266240, z1048575, z1064960, z1103515245, z_m1, n_le, n_lt, n_eq, n_bit0, n_bit1, n_sbit0, n_shl, z_ltM, z_Mlt, z_leM, z_Mle, z_eqM, z_Meq, bI0, bI1, bI_01, bI_01t, bI_10, bI_10f, if_true, if_false, eq_self, reduceCtorEq, if_pos, if_neg, rc_189 hB1, m_whos hB1 hM1]
      · show S.2.1 214 i = _
        have z : ¬ 0 < cj m go gl k o l 0 := Nat.lt_irrefl 0
        rw [hj_0, if_neg z]
        split <;> (rw [Nat.or_zero]; exact hb' i hi)
    obtain ⟨S', e, f, g1, g2, g3⟩ := key
    refine ⟨S', e, f, g1, g2, fun j hj' => (g3 j hj').trans (congrArg nI ?_)⟩
    by_cases z : gn ≤ j
    · rw [if_pos z, if_pos z, hj_end]
    · rw [if_neg z, if_neg z]
      rfl
end
