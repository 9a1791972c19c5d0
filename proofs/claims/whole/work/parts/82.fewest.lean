/-! FEWEST: the reference's table of fewest coins, and its walk -/
section
variable {n : Nat} {S : rvS} {m m' : Nat → Nat} {e : Nat → Bool} {d : Nat → Nat}
theorem tb_s {N i x : Nat} (hi : i < N) : tb e d N (N - i) x = if x < ddv e d i then tb e d N (N - (i + 1)) x else if tb e d N (N - (i + 1)) x ≤ tb e d N (N - (i + 1)) (x - ddv e d i) + 1 then tb e d N (N - (i + 1)) x else tb e d N (N - (i + 1)) (x - ddv e d i) + 1 := by
  rw [show N - i = (N - (i + 1)) + 1 by omega, tb, show N - (N - (i + 1) + 1) = i by omega]
theorem m_row (hn : 1100 ≤ n) (hB : rv_B S) {N X i : Nat} (hN : N ≤ 40) (hX : X ≤ 999) (hi : i < N) {D : Nat} (hD : D = ddv e d i) (hD2 : D ≤ 1000) (hT : ∀ x, x ≤ X → S.2.1 200 (1000 * (i + 1) + x) = nI (tb e d N (N - (i + 1)) x)) (K : Nat → Int32 → Int32 → Int32 → Int32 → Int32 → rvS → Option (Int32 × rvS)) (y z : Int32) :
    ∃ S', cX13_exactOf_87 n K n S 189 y z (nI X) (nI N) (nI i) (nI D) (nI 0) = K 189 y z (nI X) (nI N) (nI i + iM) S' ∧ rvf [200] S S' ∧ ∀ k, S'.2.1 200 k = if 1000 * i ≤ k ∧ k < 1000 * i + (X + 1) then nI (tb e d N (N - i) (k - 1000 * i)) else S.2.1 200 k := by
  refine lp (F := fun q (x : rvS × Int32) => cX13_exactOf_87 n K q x.1 189 y z (nI X) (nI N) (nI i) (nI D) x.2) (fun j x => x.2 = nI j ∧ rvf [200] S x.1 ∧ ∀ k, x.1.2.1 200 k = if 1000 * i ≤ k ∧ k < 1000 * i + j then nI (tb e d N (N - i) (k - 1000 * i)) else S.2.1 200 k) (fun o => ∃ S', o = K 189 y z (nI X) (nI N) (nI i + iM) S' ∧ rvf [200] S S' ∧ ∀ k, S'.2.1 200 k = if 1000 * i ≤ k ∧ k < 1000 * i + (X + 1) then nI (tb e d N (N - i) (k - 1000 * i)) else S.2.1 200 k) (X + 1) (fun j x q hj hx => Or.inr ?_) (fun x q hx => ?_) (i := 0) (x := (S, nI 0)) (q := n) (Nat.zero_le _) ⟨rfl, rvf.rf _ _, fun k => by rw [if_neg (by omega)]⟩ (by omega)
  · obtain ⟨S1, x2⟩ := x
    obtain ⟨rfl, f, g⟩ := hx
    have f : rvf [200] S S1 := f
    have g : ∀ k, S1.2.1 200 k = if 1000 * i ≤ k ∧ k < 1000 * i + j then nI (tb e d N (N - i) (k - 1000 * i)) else S.2.1 200 k := g
    have hB1 := f.B hB
    have hT1 : ∀ x, x ≤ X → S1.2.1 200 (1000 * (i + 1) + x) = nI (tb e d N (N - (i + 1)) x) := fun x hx => by
      rw [g, if_neg (by omega)]; exact hT x hx
    have t1 := hT1 j (by omega)
    have u1 := tb_cap (e := e) (d := d) (N := N) (N - (i + 1)) j
    have u2 := tb_cap (e := e) (d := d) (N := N) (N - (i + 1)) (j - D)
    have rr := rf_of hB1 (show (189, 25, 200) ∈ rv_rf0 by decide)
    have rn := rn_200 hB1
    have rc := rc_189 hB1
    refine ⟨(rv_sI S1 200 (1000 * i + j) (nI (tb e d N (N - i) j)), nI (j + 1)), ?_, rfl, f.w rfl rfl, fun k => ?_⟩
    · show cX13_exactOf_87 n K (q + 1) S1 189 y z (nI X) (nI N) (nI i) (nI D) (nI j) = cX13_exactOf_87 n K q _ 189 y z (nI X) (nI N) (nI i) (nI D) (nI (j + 1))
      rw [cX13_exactOf_87, tb_s hi, ← hD]
      by_cases c1 : j < D
      · simp (disch := first | assumption | omega) only [cX13_exactOf_167, tk_gI, tk_gL, tk_gR, tk_pI, tk_pL, rv_aI, rv_aL, rv_aR, rv_uI, rv_uL, rv_uB, rv_uZ, pu_ckI, pu_ckL, pu_lnI, pu_lnL, tk_rI, tk_rL, Option.bind_some, Option.map_some, rv_lt, tk_ix, z0, z1, z2, z3, z4, z5, z6, z7, z8, z9, z10, z11, z12, z13, z15, z16, z17, z18, z20, z21, z23, z24, z25, z31, z32, z39, z40, z41, z46, z48, z50, z57, z59, z60, z61, z62, z63, z64, z97, z98, z99, z100, z101, z102, z103, z104, z105, z106, z107, z108, z109, z110, z111, z112, z113, z114, z115, z116, z117, z118, z119, z120, z121, z122, z128, z132, z200, z240, z255, z372, z390625, z400, z420, z421, z422, z662, z900, z940, z999, z1000, z1024, z2000, z5860, z10000, z12345, z15625, z266240, z1048575, z1064960, z1103515245, z_m1, n_le, n_lt, n_eq, n_bit0, n_bit1, n_sbit0, n_shl, z_ltM, z_Mlt, z_leM, z_Mle, z_eqM, z_Meq, bI0, bI1, bI_01, bI_01t, bI_10, bI_10f, if_true, if_false, eq_self, reduceCtorEq, if_pos, if_neg, nI_add, z_mul, z_sub, rc, rr, rn, t1, c1]
      · have t2 := hT1 (j - D) (by omega)
        rw [show 1000 * (i + 1) + (j - D) = 1000 * (i + 1) + j - D by omega] at t2
        by_cases c2 : tb e d N (N - (i + 1)) j ≤ tb e d N (N - (i + 1)) (j - D) + 1
        · simp (disch := first | assumption | omega) only [cX13_exactOf_167, tk_gI, tk_gL, tk_gR, tk_pI, tk_pL, rv_aI, rv_aL, rv_aR, rv_uI, rv_uL, rv_uB, rv_uZ, pu_ckI, pu_ckL, pu_lnI, pu_lnL, tk_rI, tk_rL, Option.bind_some, Option.map_some, rv_lt, tk_ix, z0, z1, z2, z3, z4, z5, z6, z7, z8, z9, z10, z11, z12, z13, z15, z16, z17, z18, z20, z21, z23, z24, z25, z31, z32, z39, z40, z41, z46, z48, z50, z57, z59, z60, z61, z62, z63, z64, z97, z98, z99, z100, z101, z102, z103, z104, z105, z106, z107, z108, z109, z110, z111, z112, z113, z114, z115, z116, z117, z118, z119, z120, z121, z122, z128, z132, z200, z240, z255, z372, z390625, z400, z420, z421, z422, z662, z900, z940, z999, z1000, z1024, z2000, z5860, z10000, z12345, z15625, z266240, z1048575, z1064960, z1103515245, z_m1, n_le, n_lt, n_eq, n_bit0, n_bit1, n_sbit0, n_shl, z_ltM, z_Mlt, z_leM, z_Mle, z_eqM, z_Meq, bI0, bI1, bI_01, bI_01t, bI_10, bI_10f, if_true, if_false, eq_self, reduceCtorEq, if_pos, if_neg, nI_add, z_mul, z_sub, rc, rr, rn, t1, t2, c1, c2]
        · simp (disch := first | assumption | omega) only [cX13_exactOf_167, tk_gI, tk_gL, tk_gR, tk_pI, tk_pL, rv_aI, rv_aL, rv_aR, rv_uI, rv_uL, rv_uB, rv_uZ, pu_ckI, pu_ckL, pu_lnI, pu_lnL, tk_rI, tk_rL, Option.bind_some, Option.map_some, rv_lt, tk_ix, z0, z1, z2, z3, z4, z5, z6, z7, z8, z9, z10, z11, z12, z13, z15, z16, z17, z18, z20, z21, z23, z24, z25, z31, z32, z39, z40, z41, z46, z48, z50, z57, z59, z60, z61, z62, z63, z64, z97, z98, z99, z100, z101, z102, z103, z104, z105, z106, z107, z108, z109, z110, z111, z112, z113, z114, z115, z116, z117, z118, z119, z120, z121, z122, z128, z132, z200, z240, z255, z372, z390625, z400, z420, z421, z422, z662, z900, z940, z999, z1000, z1024, z2000, z5860, z10000, z12345, z15625, z266240, z1048575, z1064960, z1103515245, z_m1, n_le, n_lt, n_eq, n_bit0, n_bit1, n_sbit0, n_shl, z_ltM, z_Mlt, z_leM, z_Mle, z_eqM, z_Meq, bI0, bI1, bI_01, bI_01t, bI_10, bI_10f, if_true, if_false, eq_self, reduceCtorEq, if_pos, if_neg, nI_add, z_mul, z_sub, rc, rr, rn, t1, t2, c1, c2]
    · show (rv_sI S1 200 (1000 * i + j) _).2.1 200 k = _
      by_cases c : k = 1000 * i + j
      · subst c; rw [rv_sI_eq, if_pos (by omega), Nat.add_sub_cancel_left]
      · rw [rv_sI_k _ _ c, g]
        by_cases c2 : 1000 * i ≤ k ∧ k < 1000 * i + j
        · rw [if_pos c2, if_pos (by omega)]
        · rw [if_neg c2, if_neg (by omega)]
  · obtain ⟨S1, x2⟩ := x
    obtain ⟨rfl, f, g⟩ := hx
    refine ⟨S1, ?_, f, g⟩
    show cX13_exactOf_87 n K (q + 1) S1 189 y z (nI X) (nI N) (nI i) (nI D) (nI (X + 1)) = _
    rw [cX13_exactOf_87]
    simp (disch := first | assumption | omega) only [tk_gI, tk_gL, tk_gR, tk_pI, tk_pL, rv_aI, rv_aL, rv_aR, rv_uI, rv_uL, rv_uB, rv_uZ, pu_ckI, pu_ckL, pu_lnI, pu_lnL, tk_rI, tk_rL, Option.bind_some, Option.map_some, rv_lt, tk_ix, z0, z1, z2, z3, z4, z5, z6, z7, z8, z9, z10, z11, z12, z13, z15, z16, z17, z18, z20, z21, z23, z24, z25, z31, z32, z39, z40, z41, z46, z48, z50, z57, z59, z60, z61, z62, z63, z64, z97, z98, z99, z100, z101, z102, z103, z104, z105, z106, z107, z108, z109, z110, z111, z112, z113, z114, z115, z116, z117, z118, z119, z120, z121, z122, z128, z132, z200, z240, z255, z372, z390625, z400, z420, z421, z422, z662, z900, z940, z999, z1000, z1024, z2000, z5860, z10000, z12345, z15625, z266240, z1048575, z1064960, z1103515245, z_m1, n_le, n_lt, n_eq, n_bit0, n_bit1, n_sbit0, n_shl, z_ltM, z_Mlt, z_leM, z_Mle, z_eqM, z_Meq, bI0, bI1, bI_01, bI_01t, bI_10, bI_10f, if_true, if_false, eq_self, reduceCtorEq, if_pos, if_neg, z_m1]
def TR (S : rvS) (e : Nat → Bool) (d : Nat → Nat) (N X i0 : Nat) : Prop := ∀ i, i0 ≤ i → i ≤ N → ∀ x, x ≤ X → S.2.1 200 (1000 * i + x) = nI (tb e d N (N - i) x)
theorem TR.f {N X i0 : Nat} {D : List Nat} {S' : rvS} (h : TR S e d N X i0) (f : rvf D S S') (hd : D.elem 200 = false) : TR S' e d N X i0 := fun i h1 h2 x hx => (f.row rfl hd _).trans (h i h1 h2 x hx)
theorem m_row0 (hn : 1100 ≤ n) (hB : rv_B S) {N X : Nat} (hN : N ≤ 40) (hX : X ≤ 999) (y z : Int32) : ∃ S', cX13_exactOf_9 n n S 189 y z (nI X) (nI N) (nI 0) = cX13_exactOf_53 n n S' 189 y z (nI X) (nI N) (nI N + iM) ∧ rvf [200] S S' ∧ TR S' e d N X N := by
  refine lp (F := fun q (x : rvS × Int32) => cX13_exactOf_9 n q x.1 189 y z (nI X) (nI N) x.2) (fun j x => x.2 = nI j ∧ rvf [200] S x.1 ∧ ∀ k, k < j → x.1.2.1 200 (1000 * N + k) = nI (tb e d N 0 k)) (fun o => ∃ S', o = cX13_exactOf_53 n n S' 189 y z (nI X) (nI N) (nI N + iM) ∧ rvf [200] S S' ∧ TR S' e d N X N) (X + 1) (fun j x q hj hx => Or.inr ?_) (fun x q hx => ?_) (i := 0) (x := (S, nI 0)) (q := n) (Nat.zero_le _) ⟨rfl, rvf.rf _ _, fun k hk => absurd hk (Nat.not_lt_zero k)⟩ (by omega)
  · obtain ⟨S1, x2⟩ := x
    obtain ⟨rfl, f, g⟩ := hx
    have f : rvf [200] S S1 := f
    have g : ∀ k, k < j → S1.2.1 200 (1000 * N + k) = nI (tb e d N 0 k) := g
    have hB1 := f.B hB
    have rr := rf_of hB1 (show (189, 25, 200) ∈ rv_rf0 by decide)
    have rn := rn_200 hB1
    have rc := rc_189 hB1
    refine ⟨(rv_sI S1 200 (1000 * N + j) (nI (tb e d N 0 j)), nI (j + 1)), ?_, rfl, f.w rfl rfl, fun k hk => ?_⟩
    · show cX13_exactOf_9 n (q + 1) S1 189 y z (nI X) (nI N) (nI j) = cX13_exactOf_9 n q _ 189 y z (nI X) (nI N) (nI (j + 1))
      rw [cX13_exactOf_9, tb]
      by_cases c : j = 0
      · simp (disch := first | assumption | omega) only [tk_gI, tk_gL, tk_gR, tk_pI, tk_pL, rv_aI, rv_aL, rv_aR, rv_uI, rv_uL, rv_uB, rv_uZ, pu_ckI, pu_ckL, pu_lnI, pu_lnL, tk_rI, tk_rL, Option.bind_some, Option.map_some, rv_lt, tk_ix, z0, z1, z2, z3, z4, z5, z6, z7, z8, z9, z10, z11, z12, z13, z15, z16, z17, z18, z20, z21, z23, z24, z25, z31, z32, z39, z40, z41, z46, z48, z50, z57, z59, z60, z61, z62, z63, z64, z97, z98, z99, z100, z101, z102, z103, z104, z105, z106, z107, z108, z109, z110, z111, z112, z113, z114, z115, z116, z117, z118, z119, z120, z121, z122, z128, z132, z200, z240, z255, z372, z390625, z400, z420, z421, z422, z662, z900, z940, z999, z1000, z1024, z2000, z5860, z10000, z12345, z15625, z266240, z1048575, z1064960, z1103515245, z_m1, n_le, n_lt, n_eq, n_bit0, n_bit1, n_sbit0, n_shl, z_ltM, z_Mlt, z_leM, z_Mle, z_eqM, z_Meq, bI0, bI1, bI_01, bI_01t, bI_10, bI_10f, if_true, if_false, eq_self, reduceCtorEq, if_pos, if_neg, nI_add, z_mul, z_sub, rc, rr, rn, c]
      · simp (disch := first | assumption | omega) only [tk_gI, tk_gL, tk_gR, tk_pI, tk_pL, rv_aI, rv_aL, rv_aR, rv_uI, rv_uL, rv_uB, rv_uZ, pu_ckI, pu_ckL, pu_lnI, pu_lnL, tk_rI, tk_rL, Option.bind_some, Option.map_some, rv_lt, tk_ix, z0, z1, z2, z3, z4, z5, z6, z7, z8, z9, z10, z11, z12, z13, z15, z16, z17, z18, z20, z21, z23, z24, z25, z31, z32, z39, z40, z41, z46, z48, z50, z57, z59, z60, z61, z62, z63, z64, z97, z98, z99, z100, z101, z102, z103, z104, z105, z106, z107, z108, z109, z110, z111, z112, z113, z114, z115, z116, z117, z118, z119, z120, z121, z122, z128, z132, z200, z240, z255, z372, z390625, z400, z420, z421, z422, z662, z900, z940, z999, z1000, z1024, z2000, z5860, z10000, z12345, z15625, z266240, z1048575, z1064960, z1103515245, z_m1, n_le, n_lt, n_eq, n_bit0, n_bit1, n_sbit0, n_shl, z_ltM, z_Mlt, z_leM, z_Mle, z_eqM, z_Meq, bI0, bI1, bI_01, bI_01t, bI_10, bI_10f, if_true, if_false, eq_self, reduceCtorEq, if_pos, if_neg, nI_add, z_mul, z_sub, rc, rr, rn, c]
    · show (rv_sI S1 200 (1000 * N + j) _).2.1 200 (1000 * N + k) = _
      by_cases c : k = j
      · subst c; exact rv_sI_eq _ _ _ _
      · rw [rv_sI_k _ _ (by omega)]; exact g k (by omega)
  · obtain ⟨S1, x2⟩ := x
    obtain ⟨rfl, f, g⟩ := hx
    have g : ∀ k, k < X + 1 → S1.2.1 200 (1000 * N + k) = nI (tb e d N 0 k) := g
    refine ⟨S1, ?_, f, fun i h1 h2 x hx => ?_⟩
    · show cX13_exactOf_9 n (q + 1) S1 189 y z (nI X) (nI N) (nI (X + 1)) = _
      rw [cX13_exactOf_9, show nI N - (1 : Int32) = nI N + iM by rw [z1, Int32.sub_eq_add_neg, z_m1]]
      simp (disch := first | assumption | omega) only [tk_gI, tk_gL, tk_gR, tk_pI, tk_pL, rv_aI, rv_aL, rv_aR, rv_uI, rv_uL, rv_uB, rv_uZ, pu_ckI, pu_ckL, pu_lnI, pu_lnL, tk_rI, tk_rL, Option.bind_some, Option.map_some, rv_lt, tk_ix, z0, z1, z2, z3, z4, z5, z6, z7, z8, z9, z10, z11, z12, z13, z15, z16, z17, z18, z20, z21, z23, z24, z25, z31, z32, z39, z40, z41, z46, z48, z50, z57, z59, z60, z61, z62, z63, z64, z97, z98, z99, z100, z101, z102, z103, z104, z105, z106, z107, z108, z109, z110, z111, z112, z113, z114, z115, z116, z117, z118, z119, z120, z121, z122, z128, z132, z200, z240, z255, z372, z390625, z400, z420, z421, z422, z662, z900, z940, z999, z1000, z1024, z2000, z5860, z10000, z12345, z15625, z266240, z1048575, z1064960, z1103515245, z_m1, n_le, n_lt, n_eq, n_bit0, n_bit1, n_sbit0, n_shl, z_ltM, z_Mlt, z_leM, z_Mle, z_eqM, z_Meq, bI0, bI1, bI_01, bI_01t, bI_10, bI_10f, if_true, if_false, eq_self, reduceCtorEq, if_pos, if_neg]
    · have e1 : i = N := by omega
      subst e1
      rw [Nat.sub_self]
      exact g x (by omega)
theorem z_dec {i : Nat} : nI (i + 1) + iM = nI i := by
  rw [← z_m1, ← Int32.sub_eq_add_neg, z_sub (by omega), Nat.add_sub_cancel]
theorem ddv_le (hd : ∀ i, d i ≤ 99) (i : Nat) : ddv e d i ≤ 1000 := by
  have := hd i
  rw [ddv]
  split <;> omega
theorem m_table (hn : 1100 ≤ n) (hp : okp m) (hc : okc m) {a b X : Nat} (ha : a < vW m) (hb : b < vW m) (hX : X ≤ 999) : ∀ (i q : Nat) (S : rvS), i ≤ vC m → i < q → rv_B S → MR S m → TR S (gz m a b) (va m) (vC m) X i → ∃ S', cX13_exactOf_53 n q S 189 (nI a) (nI b) (nI X) (nI (vC m)) (nI i + iM) = cX13_exactOf_195 n S' 189 (nI a) (nI b) (nI X) (nI (vC m)) ∧ rvf [199, 200] S S' ∧ TR S' (gz m a b) (va m) (vC m) X 0
  | 0, q, S, _, hq, hB, hM, hT => by
    obtain ⟨q, rfl⟩ : ∃ q', q = q' + 1 := ⟨q - 1, by omega⟩
    refine ⟨S, ?_, rvf.rf _ _, hT⟩
    rw [cX13_exactOf_53, if_pos]
    decide
  | i + 1, q, S, hi, hq, hB, hM, hT => by
    obtain ⟨q, rfl⟩ : ∃ q', q = q' + 1 := ⟨q - 1, by omega⟩
    have h24 := hp.1
    have h40 := hc.1
    have hv := (hc.2.2 i (by omega)).2.1
    obtain ⟨S1, e1, f1⟩ := m_isFor (n := n) (by omega) hB hM hp hc (c := i) (by omega) (a := a) (by omega) hb
    have hB1 := f1.B hB
    have hM1 := hM.f f1 rfl
    have hT1 := hT.f f1 rfl
    obtain ⟨S2, e2, f2, g2⟩ := m_row (e := gz m a b) (d := va m) hn hB1 h40 hX (i := i) (by omega) rfl (by rw [ddv]; split <;> omega) (fun x hx => hT1 (i + 1) (Nat.le_refl _) hi x hx) (fun a0 x1 x2 x3 x4 x5 S => cX13_exactOf_53 n q S a0 x1 x2 x3 x4 x5) (nI a) (nI b)
    have hB2 := f2.B hB1
    have hM2 := hM1.f f2 rfl
    obtain ⟨S3, e3, f3, g3⟩ := m_table hn hp hc ha hb hX i q S2 (by omega) (by omega) hB2 hM2 (fun j h1 h2 x hx => by
      rw [g2]
      by_cases c : j = i
      · subst c; rw [if_pos (by omega), Nat.add_sub_cancel_left]
      · rw [if_neg (by omega)]; exact hT1 j (by omega) h2 x hx)
    refine ⟨S3, ?_, (f1.mono rfl).tr ((f2.mono rfl).tr f3), g3⟩
    rw [← e3, ← e2, z_dec, cX13_exactOf_53]
    cases c : gz m a b i
    · rw [gz] at c
      simp (disch := first | assumption | omega) only [tk_gI, tk_gL, tk_gR, tk_pI, tk_pL, rv_aI, rv_aL, rv_aR, rv_uI, rv_uL, rv_uB, rv_uZ, pu_ckI, pu_ckL, pu_lnI, pu_lnL, tk_rI, tk_rL, Option.bind_some, Option.map_some, rv_lt, tk_ix, z0, z1, z2, z3, z4, z5, z6, z7, z8, z9, z10, z11, z12, z13, z15, z16, z17, z18, z20, z21, z23, z24, z25, z31, z32, z39, z40, z41, z46, z48, z50, z57, z59, z60, z61, z62, z63, z64, z97, z98, z99, z100, z101, z102, z103, z104, z105, z106, z107, z108, z109, z110, z111, z112, z113, z114, z115, z116, z117, z118, z119, z120, z121, z122, z128, z132, z200, z240, z255, z372, z390625, z400, z420, z421, z422, z662, z900, z940, z999, z1000, z1024, z2000, z5860, z10000, z12345, z15625, z266240, z1048575, z1064960, z1103515245, z_m1, n_le, n_lt, n_eq, n_bit0, n_bit1, n_sbit0, n_shl, z_ltM, z_Mlt, z_leM, z_Mle, z_eqM, z_Meq, bI0, bI1, bI_01, bI_01t, bI_10, bI_10f, if_true, if_false, eq_self, reduceCtorEq, if_pos, if_neg, rc_189 hB, e1, bp_s, c, ddv, nft]
    · rw [gz] at c
      simp (disch := first | assumption | omega) only [tk_gI, tk_gL, tk_gR, tk_pI, tk_pL, rv_aI, rv_aL, rv_aR, rv_uI, rv_uL, rv_uB, rv_uZ, pu_ckI, pu_ckL, pu_lnI, pu_lnL, tk_rI, tk_rL, Option.bind_some, Option.map_some, rv_lt, tk_ix, z0, z1, z2, z3, z4, z5, z6, z7, z8, z9, z10, z11, z12, z13, z15, z16, z17, z18, z20, z21, z23, z24, z25, z31, z32, z39, z40, z41, z46, z48, z50, z57, z59, z60, z61, z62, z63, z64, z97, z98, z99, z100, z101, z102, z103, z104, z105, z106, z107, z108, z109, z110, z111, z112, z113, z114, z115, z116, z117, z118, z119, z120, z121, z122, z128, z132, z200, z240, z255, z372, z390625, z400, z420, z421, z422, z662, z900, z940, z999, z1000, z1024, z2000, z5860, z10000, z12345, z15625, z266240, z1048575, z1064960, z1103515245, z_m1, n_le, n_lt, n_eq, n_bit0, n_bit1, n_sbit0, n_shl, z_ltM, z_Mlt, z_leM, z_Mle, z_eqM, z_Meq, bI0, bI1, bI_01, bI_01t, bI_10, bI_10f, if_true, if_false, eq_self, reduceCtorEq, if_pos, if_neg, rc_189 hB, rc_189 hB1, e1, bp_s, c, ddv, m_va hB1 hM1, reduceCtorEq]
theorem m_walk (hn : 1100 ≤ n) (hB : rv_B S) (hM : MR S m) (hp : okp m) (hc : okc m) {a b X : Nat} (ha : a < vW m) (hb : b < vW m) (hX : X ≤ 999) (hT : TR S (gz m a b) (va m) (vC m) X 0) : ∃ S', cX13_exactOf_215 n n S 189 (nI a) (nI b) (nI X) (nI (vC m)) (nI X) (nI 0) = some (nI (tb (gz m a b) (va m) (vC m) (vC m) X), S') ∧ rvf [199, 202] S S' ∧ ∀ k, k < vC m → S'.2.1 202 k = bI (Bf (gz m a b) (va m) (vC m) X k) := by
  have h24 := hp.1
  have h40 := hc.1
  refine lp (F := fun q (x : rvS × Int32 × Int32) => cX13_exactOf_215 n q x.1 189 (nI a) (nI b) (nI X) (nI (vC m)) x.2.1 x.2.2) (fun i x => x.2 = (nI (rx (gz m a b) (va m) (vC m) X i), nI i) ∧ rvf [199, 202] S x.1 ∧ ∀ k, k < i → x.1.2.1 202 k = bI (Bf (gz m a b) (va m) (vC m) X k)) (fun o => ∃ S', o = some (nI (tb (gz m a b) (va m) (vC m) (vC m) X), S') ∧ rvf [199, 202] S S' ∧ ∀ k, k < vC m → S'.2.1 202 k = bI (Bf (gz m a b) (va m) (vC m) X k)) (vC m) (fun i x q hi hx => Or.inr ?_) (fun x q hx => ?_) (i := 0) (x := (S, nI X, nI 0)) (q := n) (Nat.zero_le _) ⟨rfl, rvf.rf _ _, fun k hk => absurd hk (Nat.not_lt_zero k)⟩ (by omega)
  · obtain ⟨S1, x1, x2⟩ := x
    obtain ⟨hx, f, g⟩ := hx
    obtain ⟨rfl, rfl⟩ := Prod.mk.inj hx
    have f : rvf [199, 202] S S1 := f
    have g : ∀ k, k < i → S1.2.1 202 k = bI (Bf (gz m a b) (va m) (vC m) X k) := g
    have hB1 := f.B hB
    have hM1 := hM.f f rfl
    have hv := (hc.2.2 i hi).2.1
    obtain ⟨S2, e2, f2⟩ := m_isFor (n := n) (by omega) hB1 hM1 hp hc hi (a := a) (by omega) hb
    have hB2 := f2.B hB1
    have hM2 := hM1.f f2 rfl
    have hT2 := (hT.f f rfl).f f2 rfl
    have rle := rx_le (e := gz m a b) (d := va m) (N := vC m) (X := X) i
    obtain ⟨D, hD⟩ : ∃ D, D = ddv (gz m a b) (va m) i := ⟨_, rfl⟩
    have hD2 : D ≤ 1000 := by rw [hD, ddv]; split <;> omega
    obtain ⟨r, hr⟩ : ∃ r, r = rx (gz m a b) (va m) (vC m) X i := ⟨_, rfl⟩
    rw [← hr] at rle
    have t1 := hT2 i (Nat.zero_le _) (by omega) r (by omega)
    have t2 := hT2 (i + 1) (Nat.zero_le _) (by omega) (r - D) (by omega)
    have u1 := tb_cap (e := gz m a b) (d := va m) (N := vC m) (vC m - i) r
    have u2 := tb_cap (e := gz m a b) (d := va m) (N := vC m) (vC m - (i + 1)) (r - D)
    have rr := rf_of hB2 (show (189, 25, 200) ∈ rv_rf0 by decide)
    have rn := rn_200 hB2
    have rq := rf_of hB2 (show (189, 27, 202) ∈ rv_rf0 by decide)
    have rp := rn_202 hB2
    have rc := rc_189 hB2
    have eB : Bf (gz m a b) (va m) (vC m) X i = decide (D ≤ r ∧ tb (gz m a b) (va m) (vC m) (vC m - (i + 1)) (r - D) + 1 = tb (gz m a b) (va m) (vC m) (vC m - i) r) := by rw [hD, hr]; rfl
    have eX : rx (gz m a b) (va m) (vC m) X (i + 1) = if Bf (gz m a b) (va m) (vC m) X i then r - D else r := by rw [hD, hr]; rfl
    refine ⟨(rv_sI S2 202 i (bI (Bf (gz m a b) (va m) (vC m) X i)), nI (rx (gz m a b) (va m) (vC m) X (i + 1)), nI (i + 1)), ?_, rfl, (f.tr (f2.mono rfl)).w rfl rfl, fun k hk => ?_⟩
    · show cX13_exactOf_215 n (q + 1) S1 189 (nI a) (nI b) (nI X) (nI (vC m)) (nI (rx _ _ _ X i)) (nI i) = cX13_exactOf_215 n q _ 189 (nI a) (nI b) (nI X) (nI (vC m)) (nI (rx _ _ _ X (i + 1))) (nI (i + 1))
      rw [← hr, eX]
      have mid : cX13_exactOf_215 n (q + 1) S1 189 (nI a) (nI b) (nI X) (nI (vC m)) (nI r) (nI i) = cX13_exactOf_246 n (fun a0 x1 x2 x3 x4 x5 x6 S => cX13_exactOf_215 n q S a0 x1 x2 x3 x4 x5 x6) S2 189 (nI a) (nI b) (nI X) (nI (vC m)) (nI r) (nI i) (nI D) := by
        rw [cX13_exactOf_215]
        cases c : gz m a b i
        · have hD : D = 1000 := by rw [hD, ddv, c]; rfl
          rw [gz] at c
          simp (disch := first | assumption | omega) only [tk_gI, tk_gL, tk_gR, tk_pI, tk_pL, rv_aI, rv_aL, rv_aR, rv_uI, rv_uL, rv_uB, rv_uZ, pu_ckI, pu_ckL, pu_lnI, pu_lnL, tk_rI, tk_rL, Option.bind_some, Option.map_some, rv_lt, tk_ix, z0, z1, z2, z3, z4, z5, z6, z7, z8, z9, z10, z11, z12, z13, z15, z16, z17, z18, z20, z21, z23, z24, z25, z31, z32, z39, z40, z41, z46, z48, z50, z57, z59, z60, z61, z62, z63, z64, z97, z98, z99, z100, z101, z102, z103, z104, z105, z106, z107, z108, z109, z110, z111, z112, z113, z114, z115, z116, z117, z118, z119, z120, z121, z122, z128, z132, z200, z240, z255, z372, z390625, z400, z420, z421, z422, z662, z900, z940, z999, z1000, z1024, z2000, z5860, z10000, z12345, z15625, z266240, z1048575, z1064960, z1103515245, z_m1, n_le, n_lt, n_eq, n_bit0, n_bit1, n_sbit0, n_shl, z_ltM, z_Mlt, z_leM, z_Mle, z_eqM, z_Meq, bI0, bI1, bI_01, bI_01t, bI_10, bI_10f, if_true, if_false, eq_self, reduceCtorEq, if_pos, if_neg, rc_189 hB1, e2, bp_s, c, hD]
        · have hD : D = va m i := by rw [hD, ddv, c]; rfl
          rw [gz] at c
          simp (disch := first | assumption | omega) only [tk_gI, tk_gL, tk_gR, tk_pI, tk_pL, rv_aI, rv_aL, rv_aR, rv_uI, rv_uL, rv_uB, rv_uZ, pu_ckI, pu_ckL, pu_lnI, pu_lnL, tk_rI, tk_rL, Option.bind_some, Option.map_some, rv_lt, tk_ix, z0, z1, z2, z3, z4, z5, z6, z7, z8, z9, z10, z11, z12, z13, z15, z16, z17, z18, z20, z21, z23, z24, z25, z31, z32, z39, z40, z41, z46, z48, z50, z57, z59, z60, z61, z62, z63, z64, z97, z98, z99, z100, z101, z102, z103, z104, z105, z106, z107, z108, z109, z110, z111, z112, z113, z114, z115, z116, z117, z118, z119, z120, z121, z122, z128, z132, z200, z240, z255, z372, z390625, z400, z420, z421, z422, z662, z900, z940, z999, z1000, z1024, z2000, z5860, z10000, z12345, z15625, z266240, z1048575, z1064960, z1103515245, z_m1, n_le, n_lt, n_eq, n_bit0, n_bit1, n_sbit0, n_shl, z_ltM, z_Mlt, z_leM, z_Mle, z_eqM, z_Meq, bI0, bI1, bI_01, bI_01t, bI_10, bI_10f, if_true, if_false, eq_self, reduceCtorEq, if_pos, if_neg, rc_189 hB1, rc, e2, bp_s, c, hD, m_va hB2 hM2, reduceCtorEq]
      rw [mid, cX13_exactOf_246]
      by_cases c1 : r < D
      · have e0 : Bf (gz m a b) (va m) (vC m) X i = false := by rw [eB]; exact decide_eq_false (fun z => by omega)
        rw [e0]
        simp (disch := first | assumption | omega) only [cX13_exactOf_297, cX13_exactOf_298, cX13_exactOf_316, tk_gI, tk_gL, tk_gR, tk_pI, tk_pL, rv_aI, rv_aL, rv_aR, rv_uI, rv_uL, rv_uB, rv_uZ, pu_ckI, pu_ckL, pu_lnI, pu_lnL, tk_rI, tk_rL, Option.bind_some, Option.map_some, rv_lt, tk_ix, z0, z1, z2, z3, z4, z5, z6, z7, z8, z9, z10, z11, z12, z13, z15, z16, z17, z18, z20, z21, z23, z24, z25, z31, z32, z39, z40, z41, z46, z48, z50, z57, z59, z60, z61, z62, z63, z64, z97, z98, z99, z100, z101, z102, z103, z104, z105, z106, z107, z108, z109, z110, z111, z112, z113, z114, z115, z116, z117, z118, z119, z120, z121, z122, z128, z132, z200, z240, z255, z372, z390625, z400, z420, z421, z422, z662, z900, z940, z999, z1000, z1024, z2000, z5860, z10000, z12345, z15625, z266240, z1048575, z1064960, z1103515245, z_m1, n_le, n_lt, n_eq, n_bit0, n_bit1, n_sbit0, n_shl, z_ltM, z_Mlt, z_leM, z_Mle, z_eqM, z_Meq, bI0, bI1, bI_01, bI_01t, bI_10, bI_10f, if_true, if_false, eq_self, reduceCtorEq, if_pos, if_neg, nI_add, z_mul, z_sub, rc, rq, rp, c1, bI_f, nft]
      · rw [show 1000 * (i + 1) + (r - D) = 1000 * (i + 1) + r - D by omega] at t2
        by_cases c2 : tb (gz m a b) (va m) (vC m) (vC m - (i + 1)) (r - D) + 1 = tb (gz m a b) (va m) (vC m) (vC m - i) r
        · have e0 : Bf (gz m a b) (va m) (vC m) X i = true := by rw [eB]; exact decide_eq_true ⟨by omega, c2⟩
          rw [e0]
          simp (disch := first | assumption | omega) only [cX13_exactOf_297, cX13_exactOf_298, cX13_exactOf_316, tk_gI, tk_gL, tk_gR, tk_pI, tk_pL, rv_aI, rv_aL, rv_aR, rv_uI, rv_uL, rv_uB, rv_uZ, pu_ckI, pu_ckL, pu_lnI, pu_lnL, tk_rI, tk_rL, Option.bind_some, Option.map_some, rv_lt, tk_ix, z0, z1, z2, z3, z4, z5, z6, z7, z8, z9, z10, z11, z12, z13, z15, z16, z17, z18, z20, z21, z23, z24, z25, z31, z32, z39, z40, z41, z46, z48, z50, z57, z59, z60, z61, z62, z63, z64, z97, z98, z99, z100, z101, z102, z103, z104, z105, z106, z107, z108, z109, z110, z111, z112, z113, z114, z115, z116, z117, z118, z119, z120, z121, z122, z128, z132, z200, z240, z255, z372, z390625, z400, z420, z421, z422, z662, z900, z940, z999, z1000, z1024, z2000, z5860, z10000, z12345, z15625, z266240, z1048575, z1064960, z1103515245, z_m1, n_le, n_lt, n_eq, n_bit0, n_bit1, n_sbit0, n_shl, z_ltM, z_Mlt, z_leM, z_Mle, z_eqM, z_Meq, bI0, bI1, bI_01, bI_01t, bI_10, bI_10f, if_true, if_false, eq_self, reduceCtorEq, if_pos, if_neg, nI_add, z_mul, z_sub, rc, rr, rn, rq, rp, t1, t2, c1, c2, bI_t]
        · have e0 : Bf (gz m a b) (va m) (vC m) X i = false := by rw [eB]; exact decide_eq_false (fun z => c2 z.2)
          rw [e0]
          simp (disch := first | assumption | omega) only [cX13_exactOf_297, cX13_exactOf_298, cX13_exactOf_316, tk_gI, tk_gL, tk_gR, tk_pI, tk_pL, rv_aI, rv_aL, rv_aR, rv_uI, rv_uL, rv_uB, rv_uZ, pu_ckI, pu_ckL, pu_lnI, pu_lnL, tk_rI, tk_rL, Option.bind_some, Option.map_some, rv_lt, tk_ix, z0, z1, z2, z3, z4, z5, z6, z7, z8, z9, z10, z11, z12, z13, z15, z16, z17, z18, z20, z21, z23, z24, z25, z31, z32, z39, z40, z41, z46, z48, z50, z57, z59, z60, z61, z62, z63, z64, z97, z98, z99, z100, z101, z102, z103, z104, z105, z106, z107, z108, z109, z110, z111, z112, z113, z114, z115, z116, z117, z118, z119, z120, z121, z122, z128, z132, z200, z240, z255, z372, z390625, z400, z420, z421, z422, z662, z900, z940, z999, z1000, z1024, z2000, z5860, z10000, z12345, z15625, z266240, z1048575, z1064960, z1103515245, z_m1, n_le, n_lt, n_eq, n_bit0, n_bit1, n_sbit0, n_shl, z_ltM, z_Mlt, z_leM, z_Mle, z_eqM, z_Meq, bI0, bI1, bI_01, bI_01t, bI_10, bI_10f, if_true, if_false, eq_self, reduceCtorEq, if_pos, if_neg, nI_add, z_mul, z_sub, rc, rr, rn, rq, rp, t1, t2, c1, c2, bI_f, nft]
    · show (rv_sI S2 202 i _).2.1 202 k = _
      by_cases c : k = i
      · subst c; exact rv_sI_eq _ _ _ _
      · rw [rv_sI_k _ _ c, f2.row rfl rfl]; exact g k (by omega)
  · obtain ⟨S1, x1, x2⟩ := x
    obtain ⟨hx, f, g⟩ := hx
    obtain ⟨rfl, rfl⟩ := Prod.mk.inj hx
    have f : rvf [199, 202] S S1 := f
    have hB1 := f.B hB
    have t1 := (hT.f f rfl) 0 (Nat.zero_le _) (Nat.zero_le _) X (Nat.le_refl X)
    rw [Nat.mul_zero, Nat.zero_add, Nat.sub_zero] at t1
    have rr := rf_of hB1 (show (189, 25, 200) ∈ rv_rf0 by decide)
    refine ⟨S1, ?_, f, g⟩
    show cX13_exactOf_215 n (q + 1) S1 189 (nI a) (nI b) (nI X) (nI (vC m)) (nI (rx _ _ _ X (vC m))) (nI (vC m)) = _
    rw [cX13_exactOf_215]
    simp (disch := first | assumption | omega) only [tk_gI, tk_gL, tk_gR, tk_pI, tk_pL, rv_aI, rv_aL, rv_aR, rv_uI, rv_uL, rv_uB, rv_uZ, pu_ckI, pu_ckL, pu_lnI, pu_lnL, tk_rI, tk_rL, Option.bind_some, Option.map_some, rv_lt, tk_ix, z0, z1, z2, z3, z4, z5, z6, z7, z8, z9, z10, z11, z12, z13, z15, z16, z17, z18, z20, z21, z23, z24, z25, z31, z32, z39, z40, z41, z46, z48, z50, z57, z59, z60, z61, z62, z63, z64, z97, z98, z99, z100, z101, z102, z103, z104, z105, z106, z107, z108, z109, z110, z111, z112, z113, z114, z115, z116, z117, z118, z119, z120, z121, z122, z128, z132, z200, z240, z255, z372, z390625, z400, z420, z421, z422, z662, z900, z940, z999, z1000, z1024, z2000, z5860, z10000, z12345, z15625, z266240, z1048575, z1064960, z1103515245, z_m1, n_le, n_lt, n_eq, n_bit0, n_bit1, n_sbit0, n_shl, z_ltM, z_Mlt, z_leM, z_Mle, z_eqM, z_Meq, bI0, bI1, bI_01, bI_01t, bI_10, bI_10f, if_true, if_false, eq_self, reduceCtorEq, if_pos, if_neg, rc_189 hB1, rr, rn_200 hB1, t1]
theorem m_exactOf (hn : 1100 ≤ n) (hB : rv_B S) (hM : MR S m) (hp : okp m) (hc : okc m) {a b X : Nat} (ha : a < vW m) (hb : b < vW m) (hX : X ≤ 999) :
    (10000 ≤ tb (gz m a b) (va m) (vC m) (vC m) X → ∃ S', fnX13_exactOf n S 189 (nI a) (nI b) (nI X) = some (iM, S') ∧ rvf [199, 200, 202] S S') ∧
    (tb (gz m a b) (va m) (vC m) (vC m) X < 10000 → ∃ S', fnX13_exactOf n S 189 (nI a) (nI b) (nI X) = some (nI (tb (gz m a b) (va m) (vC m) (vC m) X), S') ∧ rvf [199, 200, 202] S S' ∧ ∀ k, k < vC m → S'.2.1 202 k = bI (Bf (gz m a b) (va m) (vC m) X k)) := by
  have h40 := hc.1
  obtain ⟨S1, e1, f1, g1⟩ := m_row0 (e := gz m a b) (d := va m) hn hB h40 hX (nI a) (nI b)
  have hB1 := f1.B hB
  have hM1 := hM.f f1 rfl
  obtain ⟨S2, e2, f2, g2⟩ := m_table hn hp hc ha hb hX (vC m) n S1 (Nat.le_refl _) (by omega) hB1 hM1 g1
  have hB2 := f2.B hB1
  have hM2 := hM1.f f2 rfl
  have top : fnX13_exactOf n S 189 (nI a) (nI b) (nI X) = cX13_exactOf_195 n S2 189 (nI a) (nI b) (nI X) (nI (vC m)) := by
    rw [← e2, ← e1, fnX13_exactOf]
    simp (disch := first | assumption | omega) only [tk_gI, tk_gL, tk_gR, tk_pI, tk_pL, rv_aI, rv_aL, rv_aR, rv_uI, rv_uL, rv_uB, rv_uZ, pu_ckI, pu_ckL, pu_lnI, pu_lnL, tk_rI, tk_rL, Option.bind_some, Option.map_some, rv_lt, tk_ix, z0, z1, z2, z3, z4, z5, z6, z7, z8, z9, z10, z11, z12, z13, z15, z16, z17, z18, z20, z21, z23, z24, z25, z31, z32, z39, z40, z41, z46, z48, z50, z57, z59, z60, z61, z62, z63, z64, z97, z98, z99, z100, z101, z102, z103, z104, z105, z106, z107, z108, z109, z110, z111, z112, z113, z114, z115, z116, z117, z118, z119, z120, z121, z122, z128, z132, z200, z240, z255, z372, z390625, z400, z420, z421, z422, z662, z900, z940, z999, z1000, z1024, z2000, z5860, z10000, z12345, z15625, z266240, z1048575, z1064960, z1103515245, z_m1, rc_189 hB, m_coins hB hM]
  have t1 := g2 0 (Nat.zero_le _) (Nat.zero_le _) X (Nat.le_refl X)
  rw [Nat.mul_zero, Nat.zero_add, Nat.sub_zero] at t1
  have u1 := tb_cap (e := gz m a b) (d := va m) (N := vC m) (vC m) X
  have rr := rf_of hB2 (show (189, 25, 200) ∈ rv_rf0 by decide)
  rw [top, cX13_exactOf_195]
  constructor
  · intro h
    refine ⟨S2, ?_, (f1.mono rfl).tr (f2.mono rfl)⟩
    simp (disch := first | assumption | omega) only [tk_gI, tk_gL, tk_gR, tk_pI, tk_pL, rv_aI, rv_aL, rv_aR, rv_uI, rv_uL, rv_uB, rv_uZ, pu_ckI, pu_ckL, pu_lnI, pu_lnL, tk_rI, tk_rL, Option.bind_some, Option.map_some, rv_lt, tk_ix, z0, z1, z2, z3, z4, z5, z6, z7, z8, z9, z10, z11, z12, z13, z15, z16, z17, z18, z20, z21, z23, z24, z25, z31, z32, z39, z40, z41, z46, z48, z50, z57, z59, z60, z61, z62, z63, z64, z97, z98, z99, z100, z101, z102, z103, z104, z105, z106, z107, z108, z109, z110, z111, z112, z113, z114, z115, z116, z117, z118, z119, z120, z121, z122, z128, z132, z200, z240, z255, z372, z390625, z400, z420, z421, z422, z662, z900, z940, z999, z1000, z1024, z2000, z5860, z10000, z12345, z15625, z266240, z1048575, z1064960, z1103515245, z_m1, n_le, n_lt, n_eq, n_bit0, n_bit1, n_sbit0, n_shl, z_ltM, z_Mlt, z_leM, z_Mle, z_eqM, z_Meq, bI0, bI1, bI_01, bI_01t, bI_10, bI_10f, if_true, if_false, eq_self, reduceCtorEq, if_pos, if_neg, rc_189 hB2, rr, rn_200 hB2, t1, z_m1]
  · intro h
    obtain ⟨S3, e3, f3, g3⟩ := m_walk hn hB2 hM2 hp hc ha hb hX g2
    refine ⟨S3, ?_, (f1.mono rfl).tr ((f2.mono rfl).tr (f3.mono rfl)), g3⟩
    rw [← e3]
    simp (disch := first | assumption | omega) only [tk_gI, tk_gL, tk_gR, tk_pI, tk_pL, rv_aI, rv_aL, rv_aR, rv_uI, rv_uL, rv_uB, rv_uZ, pu_ckI, pu_ckL, pu_lnI, pu_lnL, tk_rI, tk_rL, Option.bind_some, Option.map_some, rv_lt, tk_ix, z0, z1, z2, z3, z4, z5, z6, z7, z8, z9, z10, z11, z12, z13, z15, z16, z17, z18, z20, z21, z23, z24, z25, z31, z32, z39, z40, z41, z46, z48, z50, z57, z59, z60, z61, z62, z63, z64, z97, z98, z99, z100, z101, z102, z103, z104, z105, z106, z107, z108, z109, z110, z111, z112, z113, z114, z115, z116, z117, z118, z119, z120, z121, z122, z128, z132, z200, z240, z255, z372, z390625, z400, z420, z421, z422, z662, z900, z940, z999, z1000, z1024, z2000, z5860, z10000, z12345, z15625, z266240, z1048575, z1064960, z1103515245, z_m1, n_le, n_lt, n_eq, n_bit0, n_bit1, n_sbit0, n_shl, z_ltM, z_Mlt, z_leM, z_Mle, z_eqM, z_Meq, bI0, bI1, bI_01, bI_01t, bI_10, bI_10f, if_true, if_false, eq_self, reduceCtorEq, if_pos, if_neg, rc_189 hB2, rr, rn_200 hB2, t1]
end
