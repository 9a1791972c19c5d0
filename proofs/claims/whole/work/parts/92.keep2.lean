/-! KEEP: the reference's table of two days -/
section
variable {n : Nat} {S : rvS} {m m' : Nat → Nat} {e1 e2 : Nat → Bool} {d : Nat → Nat}
theorem m_two0 (a b c : Nat) : fnX13_two n S (nI a) (nI b) (nI c) = some (nI (10000 * a + 100 * b + c)) := by
  rw [fnX13_two, z10000, z100, z_mul, z_mul, nI_add, nI_add]
def TQ (S : rvS) (e1 e2 : Nat → Bool) (d : Nat → Nat) (N X Y i0 : Nat) : Prop := ∀ i, i0 ≤ i → i ≤ N → ∀ x y, x ≤ X → y ≤ Y → S.2.1 200 (10000 * i + 100 * x + y) = nI (tg e1 e2 d N (N - i) x y)
theorem TQ.f {N X Y i0 : Nat} {D : List Nat} {S' : rvS} (h : TQ S e1 e2 d N X Y i0) (f : rvf D S S') (hd : D.elem 200 = false) : TQ S' e1 e2 d N X Y i0 := fun i h1 h2 x y hx hy => (f.row rfl hd _).trans (h i h1 h2 x y hx hy)
theorem m_b1 (hn : 1100 ≤ n) (hB : rv_B S) {N X Y s : Nat} (hN : N ≤ 40) (hX : X ≤ 99) (hY : Y ≤ 99) (hs : s ≤ X) (K9 : Nat → Int32 → Int32 → Int32 → Int32 → Int32 → Int32 → Int32 → rvS → Option rvS) (a b c : Int32) :
    ∃ S', cX13_layTwo_18 n K9 n S 189 a b (nI X) c (nI Y) (nI N) (nI s) (nI 0) = K9 189 a b (nI X) c (nI Y) (nI N) (nI (s + 1)) S' ∧ rvf [200] S S' ∧ ∀ k, S'.2.1 200 k = if 10000 * N + 100 * s ≤ k ∧ k < 10000 * N + 100 * s + (Y + 1) then nI (if s + (k - (10000 * N + 100 * s)) = 0 then 0 else 10000) else S.2.1 200 k := by
  refine lp (F := fun q (x : rvS × Int32) => cX13_layTwo_18 n K9 q x.1 189 a b (nI X) c (nI Y) (nI N) (nI s) x.2) (fun j x => x.2 = nI j ∧ rvf [200] S x.1 ∧ ∀ k, x.1.2.1 200 k = if 10000 * N + 100 * s ≤ k ∧ k < 10000 * N + 100 * s + j then nI (if s + (k - (10000 * N + 100 * s)) = 0 then 0 else 10000) else S.2.1 200 k) (fun o => ∃ S', o = K9 189 a b (nI X) c (nI Y) (nI N) (nI (s + 1)) S' ∧ rvf [200] S S' ∧ ∀ k, S'.2.1 200 k = if 10000 * N + 100 * s ≤ k ∧ k < 10000 * N + 100 * s + (Y + 1) then nI (if s + (k - (10000 * N + 100 * s)) = 0 then 0 else 10000) else S.2.1 200 k) (Y + 1) (fun j x q hj hx => Or.inr ?_) (fun x q hx => ?_) (i := 0) (x := (S, nI 0)) (q := n) (Nat.zero_le _) ⟨rfl, rvf.rf _ _, fun k => by rw [if_neg (by omega)]⟩ (by omega)
  · obtain ⟨S1, x2⟩ := x
    obtain ⟨rfl, f, g⟩ := hx
    have f : rvf [200] S S1 := f
    have g : ∀ k, S1.2.1 200 k = if 10000 * N + 100 * s ≤ k ∧ k < 10000 * N + 100 * s + j then nI (if s + (k - (10000 * N + 100 * s)) = 0 then 0 else 10000) else S.2.1 200 k := g
    have hB1 := f.B hB
    have rr := rf_of hB1 (show (189, 25, 200) ∈ rv_rf0 by decide)
    have rn := rn_200 hB1
    have rc := rc_189 hB1
    refine ⟨(rv_sI S1 200 (10000 * N + 100 * s + j) (nI (if s + j = 0 then 0 else 10000)), nI (j + 1)), ?_, rfl, f.w rfl rfl, fun k => ?_⟩
    · show cX13_layTwo_18 n K9 (q + 1) S1 189 a b (nI X) c (nI Y) (nI N) (nI s) (nI j) = cX13_layTwo_18 n K9 q _ 189 a b (nI X) c (nI Y) (nI N) (nI s) (nI (j + 1))
      rw [cX13_layTwo_18]
      by_cases c : s + j = 0
      · simp (disch := first | assumption | omega) only [m_two0, tk_gI, tk_gL, tk_gR, tk_pI, tk_pL, rv_aI, rv_aL, rv_aR, rv_uI, rv_uL, rv_uB, rv_uZ, pu_ckI, pu_ckL, pu_lnI, pu_lnL, tk_rI, tk_rL, Option.bind_some, Option.map_some, rv_lt, tk_ix, z0, z1, z2, z3, z4, z5, z6, z7, z8, z9, z10, z11, z12, z13, z15, z16, z17, z18, z20, z21, z23, z24, z25, z31, z32, z39, z40, z41, z46, z48, z50, z57, z59, z60, z61, z62, z63, z64, z97, z98, z99, z100, z101, z102, z103, z104, z105, z106, z107, z108, z109, z110, z111, z112, z113, z114, z115, z116, z117, z118, z119, z120, z121, z122, z128, z132, z200, z240, z255, z372, z390625, z400, z420, z421, z422, z662, z900, z940, z999, z1000, z1024, z2000, z5860, z10000, z12345, z15625, z266240, z1048575, z1064960, z1103515245, z_m1, n_le, n_lt, n_eq, n_bit0, n_bit1, n_sbit0, n_shl, z_ltM, z_Mlt, z_leM, z_Mle, z_eqM, z_Meq, bI0, bI1, bI_01, bI_01t, bI_10, bI_10f, if_true, if_false, eq_self, reduceCtorEq, if_pos, if_neg, rc, rr, rn, nI_add, c]
      · simp (disch := first | assumption | omega) only [m_two0, tk_gI, tk_gL, tk_gR, tk_pI, tk_pL, rv_aI, rv_aL, rv_aR, rv_uI, rv_uL, rv_uB, rv_uZ, pu_ckI, pu_ckL, pu_lnI, pu_lnL, tk_rI, tk_rL, Option.bind_some, Option.map_some, rv_lt, tk_ix, z0, z1, z2, z3, z4, z5, z6, z7, z8, z9, z10, z11, z12, z13, z15, z16, z17, z18, z20, z21, z23, z24, z25, z31, z32, z39, z40, z41, z46, z48, z50, z57, z59, z60, z61, z62, z63, z64, z97, z98, z99, z100, z101, z102, z103, z104, z105, z106, z107, z108, z109, z110, z111, z112, z113, z114, z115, z116, z117, z118, z119, z120, z121, z122, z128, z132, z200, z240, z255, z372, z390625, z400, z420, z421, z422, z662, z900, z940, z999, z1000, z1024, z2000, z5860, z10000, z12345, z15625, z266240, z1048575, z1064960, z1103515245, z_m1, n_le, n_lt, n_eq, n_bit0, n_bit1, n_sbit0, n_shl, z_ltM, z_Mlt, z_leM, z_Mle, z_eqM, z_Meq, bI0, bI1, bI_01, bI_01t, bI_10, bI_10f, if_true, if_false, eq_self, reduceCtorEq, if_pos, if_neg, rc, rr, rn, nI_add, c]
    · show (rv_sI S1 200 (10000 * N + 100 * s + j) _).2.1 200 k = _
      by_cases c : k = 10000 * N + 100 * s + j
      · subst c; rw [rv_sI_eq, if_pos (show 10000 * N + 100 * s ≤ 10000 * N + 100 * s + j ∧ 10000 * N + 100 * s + j < 10000 * N + 100 * s + (j + 1) by omega), Nat.add_sub_cancel_left]
      · rw [rv_sI_k _ _ c, g]
        by_cases c2 : 10000 * N + 100 * s ≤ k ∧ k < 10000 * N + 100 * s + j
        · rw [if_pos c2, if_pos (show 10000 * N + 100 * s ≤ k ∧ k < 10000 * N + 100 * s + (j + 1) by omega)]
        · rw [if_neg c2, if_neg (show ¬ (10000 * N + 100 * s ≤ k ∧ k < 10000 * N + 100 * s + (j + 1)) by omega)]
  · obtain ⟨S1, x2⟩ := x
    obtain ⟨rfl, f, g⟩ := hx
    refine ⟨S1, ?_, f, g⟩
    show cX13_layTwo_18 n K9 (q + 1) S1 189 a b (nI X) c (nI Y) (nI N) (nI s) (nI (Y + 1)) = _
    rw [cX13_layTwo_18]
    simp (disch := first | assumption | omega) only [tk_gI, tk_gL, tk_gR, tk_pI, tk_pL, rv_aI, rv_aL, rv_aR, rv_uI, rv_uL, rv_uB, rv_uZ, pu_ckI, pu_ckL, pu_lnI, pu_lnL, tk_rI, tk_rL, Option.bind_some, Option.map_some, rv_lt, tk_ix, z0, z1, z2, z3, z4, z5, z6, z7, z8, z9, z10, z11, z12, z13, z15, z16, z17, z18, z20, z21, z23, z24, z25, z31, z32, z39, z40, z41, z46, z48, z50, z57, z59, z60, z61, z62, z63, z64, z97, z98, z99, z100, z101, z102, z103, z104, z105, z106, z107, z108, z109, z110, z111, z112, z113, z114, z115, z116, z117, z118, z119, z120, z121, z122, z128, z132, z200, z240, z255, z372, z390625, z400, z420, z421, z422, z662, z900, z940, z999, z1000, z1024, z2000, z5860, z10000, z12345, z15625, z266240, z1048575, z1064960, z1103515245, z_m1, n_le, n_lt, n_eq, n_bit0, n_bit1, n_sbit0, n_shl, z_ltM, z_Mlt, z_leM, z_Mle, z_eqM, z_Meq, bI0, bI1, bI_01, bI_01t, bI_10, bI_10f, if_true, if_false, eq_self, reduceCtorEq, if_pos, if_neg, nI_add]
theorem m_b2 (hn : 1100 ≤ n) (hB : rv_B S) {N X Y : Nat} (hN : N ≤ 40) (hX : X ≤ 99) (hY : Y ≤ 99) (a b c : Int32) : ∃ S', cX13_layTwo_9 n n S 189 a b (nI X) c (nI Y) (nI N) (nI 0) = cX13_layTwo_72 n n S' 189 a b (nI X) c (nI Y) (nI N + iM) ∧ rvf [200] S S' ∧ TQ S' e1 e2 d N X Y N := by
  refine lp (F := fun q (x : rvS × Int32) => cX13_layTwo_9 n q x.1 189 a b (nI X) c (nI Y) (nI N) x.2) (fun j x => x.2 = nI j ∧ rvf [200] S x.1 ∧ ∀ x' y, x' < j → y ≤ Y → x.1.2.1 200 (10000 * N + 100 * x' + y) = nI (if x' + y = 0 then 0 else 10000)) (fun o => ∃ S', o = cX13_layTwo_72 n n S' 189 a b (nI X) c (nI Y) (nI N + iM) ∧ rvf [200] S S' ∧ TQ S' e1 e2 d N X Y N) (X + 1) (fun j x q hj hx => Or.inr ?_) (fun x q hx => ?_) (i := 0) (x := (S, nI 0)) (q := n) (Nat.zero_le _) ⟨rfl, rvf.rf _ _, fun x' y h => absurd h (Nat.not_lt_zero _)⟩ (by omega)
  · obtain ⟨S1, x2⟩ := x
    obtain ⟨rfl, f, g⟩ := hx
    have f : rvf [200] S S1 := f
    have g : ∀ x' y, x' < j → y ≤ Y → S1.2.1 200 (10000 * N + 100 * x' + y) = nI (if x' + y = 0 then 0 else 10000) := g
    have hB1 := f.B hB
    obtain ⟨S2, e2', f2, g2⟩ := m_b1 hn hB1 (s := j) hN hX hY (by omega) (fun a0 x1 x2 x3 x4 x5 x6 x7 S => cX13_layTwo_9 n q S a0 x1 x2 x3 x4 x5 x6 x7) a b c
    refine ⟨(S2, nI (j + 1)), ?_, rfl, f.tr f2, fun x' y h hy => ?_⟩
    · show cX13_layTwo_9 n (q + 1) S1 189 a b (nI X) c (nI Y) (nI N) (nI j) = cX13_layTwo_9 n q S2 189 a b (nI X) c (nI Y) (nI N) (nI (j + 1))
      rw [← e2', cX13_layTwo_9]
      simp (disch := first | assumption | omega) only [tk_gI, tk_gL, tk_gR, tk_pI, tk_pL, rv_aI, rv_aL, rv_aR, rv_uI, rv_uL, rv_uB, rv_uZ, pu_ckI, pu_ckL, pu_lnI, pu_lnL, tk_rI, tk_rL, Option.bind_some, Option.map_some, rv_lt, tk_ix, z0, z1, z2, z3, z4, z5, z6, z7, z8, z9, z10, z11, z12, z13, z15, z16, z17, z18, z20, z21, z23, z24, z25, z31, z32, z39, z40, z41, z46, z48, z50, z57, z59, z60, z61, z62, z63, z64, z97, z98, z99, z100, z101, z102, z103, z104, z105, z106, z107, z108, z109, z110, z111, z112, z113, z114, z115, z116, z117, z118, z119, z120, z121, z122, z128, z132, z200, z240, z255, z372, z390625, z400, z420, z421, z422, z662, z900, z940, z999, z1000, z1024, z2000, z5860, z10000, z12345, z15625, z266240, z1048575, z1064960, z1103515245, z_m1, n_le, n_lt, n_eq, n_bit0, n_bit1, n_sbit0, n_shl, z_ltM, z_Mlt, z_leM, z_Mle, z_eqM, z_Meq, bI0, bI1, bI_01, bI_01t, bI_10, bI_10f, if_true, if_false, eq_self, reduceCtorEq, if_pos, if_neg]
    · show S2.2.1 200 _ = _
      rw [g2]
      by_cases c : x' = j
      · rw [if_pos (by omega), c, show 10000 * N + 100 * j + y - (10000 * N + 100 * j) = y by omega]
      · rw [if_neg (by omega)]
        exact g x' y (by omega) hy
  · obtain ⟨S1, x2⟩ := x
    obtain ⟨rfl, f, g⟩ := hx
    have g : ∀ x' y, x' < X + 1 → y ≤ Y → S1.2.1 200 (10000 * N + 100 * x' + y) = nI (if x' + y = 0 then 0 else 10000) := g
    refine ⟨S1, ?_, f, fun i h1 h2 x y hx hy => ?_⟩
    · show cX13_layTwo_9 n (q + 1) S1 189 a b (nI X) c (nI Y) (nI N) (nI (X + 1)) = _
      rw [cX13_layTwo_9, show nI N - (1 : Int32) = nI N + iM by rw [z1, Int32.sub_eq_add_neg, z_m1]]
      simp (disch := first | assumption | omega) only [tk_gI, tk_gL, tk_gR, tk_pI, tk_pL, rv_aI, rv_aL, rv_aR, rv_uI, rv_uL, rv_uB, rv_uZ, pu_ckI, pu_ckL, pu_lnI, pu_lnL, tk_rI, tk_rL, Option.bind_some, Option.map_some, rv_lt, tk_ix, z0, z1, z2, z3, z4, z5, z6, z7, z8, z9, z10, z11, z12, z13, z15, z16, z17, z18, z20, z21, z23, z24, z25, z31, z32, z39, z40, z41, z46, z48, z50, z57, z59, z60, z61, z62, z63, z64, z97, z98, z99, z100, z101, z102, z103, z104, z105, z106, z107, z108, z109, z110, z111, z112, z113, z114, z115, z116, z117, z118, z119, z120, z121, z122, z128, z132, z200, z240, z255, z372, z390625, z400, z420, z421, z422, z662, z900, z940, z999, z1000, z1024, z2000, z5860, z10000, z12345, z15625, z266240, z1048575, z1064960, z1103515245, z_m1, n_le, n_lt, n_eq, n_bit0, n_bit1, n_sbit0, n_shl, z_ltM, z_Mlt, z_leM, z_Mle, z_eqM, z_Meq, bI0, bI1, bI_01, bI_01t, bI_10, bI_10f, if_true, if_false, eq_self, reduceCtorEq, if_pos, if_neg]
    · have e : i = N := by omega
      subst e
      rw [Nat.sub_self]
      exact g x y (by omega) hy
theorem tg_s {N i x y : Nat} (hi : i < N) : tg e1 e2 d N (N - i) x y = (if y < ddv e2 d i then (if x < ddv e1 d i then tg e1 e2 d N (N - (i + 1)) x y else if tg e1 e2 d N (N - (i + 1)) x y ≤ tg e1 e2 d N (N - (i + 1)) (x - ddv e1 d i) y + 1 then tg e1 e2 d N (N - (i + 1)) x y else tg e1 e2 d N (N - (i + 1)) (x - ddv e1 d i) y + 1) else if (if x < ddv e1 d i then tg e1 e2 d N (N - (i + 1)) x y else if tg e1 e2 d N (N - (i + 1)) x y ≤ tg e1 e2 d N (N - (i + 1)) (x - ddv e1 d i) y + 1 then tg e1 e2 d N (N - (i + 1)) x y else tg e1 e2 d N (N - (i + 1)) (x - ddv e1 d i) y + 1) ≤ tg e1 e2 d N (N - (i + 1)) x (y - ddv e2 d i) then (if x < ddv e1 d i then tg e1 e2 d N (N - (i + 1)) x y else if tg e1 e2 d N (N - (i + 1)) x y ≤ tg e1 e2 d N (N - (i + 1)) (x - ddv e1 d i) y + 1 then tg e1 e2 d N (N - (i + 1)) x y else tg e1 e2 d N (N - (i + 1)) (x - ddv e1 d i) y + 1) else tg e1 e2 d N (N - (i + 1)) x (y - ddv e2 d i)) := by
  rw [show N - i = (N - (i + 1)) + 1 by omega, tg, show N - (N - (i + 1) + 1) = i by omega]
/-- one cell of the table: what is read, what is written -/
def tc (P Q R D1 D2 x y : Nat) : Nat := if y < D2 then (if x < D1 then P else if P ≤ Q + 1 then P else Q + 1) else if (if x < D1 then P else if P ≤ Q + 1 then P else Q + 1) ≤ R then (if x < D1 then P else if P ≤ Q + 1 then P else Q + 1) else R
theorem tg_c {N i x y : Nat} (hi : i < N) : tg e1 e2 d N (N - i) x y = tc (tg e1 e2 d N (N - (i + 1)) x y) (tg e1 e2 d N (N - (i + 1)) (x - ddv e1 d i) y) (tg e1 e2 d N (N - (i + 1)) x (y - ddv e2 d i)) (ddv e1 d i) (ddv e2 d i) x y := tg_s hi
theorem m_cell (hB : rv_B S) {i X Y s t P Q R D1 D2 : Nat} (hi : i < 40) (hs : s ≤ 99) (ht : t ≤ Y) (hY : Y ≤ 99) (hD1 : D1 ≤ 1000) (hD2 : D2 ≤ 1000) (hP : P ≤ 10000) (hQ : Q ≤ 10000) (hR : R ≤ 10000) (g0 : S.2.1 200 (10000 * (i + 1) + 100 * s + t) = nI P) (g1 : D1 ≤ s → S.2.1 200 (10000 * (i + 1) + 100 * (s - D1) + t) = nI Q) (g2 : D2 ≤ t → S.2.1 200 (10000 * (i + 1) + 100 * s + (t - D2)) = nI R) (K72 : Nat → Int32 → Int32 → Int32 → Int32 → Int32 → Int32 → rvS → Option rvS) (K133 : Nat → Int32 → Int32 → Int32 → Int32 → Int32 → Int32 → Int32 → Int32 → Int32 → rvS → Option rvS) (a b c : Int32) (q : Nat) :
    cX13_layTwo_142 n K72 K133 (q + 1) S 189 a b (nI X) c (nI Y) (nI i) (nI D1) (nI D2) (nI s) (nI t) = cX13_layTwo_142 n K72 K133 q (rv_sI S 200 (10000 * i + 100 * s + t) (nI (tc P Q R D1 D2 s t))) 189 a b (nI X) c (nI Y) (nI i) (nI D1) (nI D2) (nI s) (nI (t + 1)) := by
  have rr := rf_of hB (show (189, 25, 200) ∈ rv_rf0 by decide)
  have rn := rn_200 hB
  have rc := rc_189 hB
  rw [cX13_layTwo_142, tc]
  by_cases c1 : s < D1
  · by_cases c2 : t < D2
    · simp (disch := first | assumption | omega) only [m_two0, cX13_layTwo_223, cX13_layTwo_275, tk_gI, tk_gL, tk_gR, tk_pI, tk_pL, rv_aI, rv_aL, rv_aR, rv_uI, rv_uL, rv_uB, rv_uZ, pu_ckI, pu_ckL, pu_lnI, pu_lnL, tk_rI, tk_rL, Option.bind_some, Option.map_some, rv_lt, tk_ix, z0, z1, z2, z3, z4, z5, z6, z7, z8, z9, z10, z11, z12, z13, z15, z16, z17, z18, z20, z21, z23, z24, z25, z31, z32, z39, z40, z41, z46, z48, z50, z57, z59, z60, z61, z62, z63, z64, z97, z98, z99, z100, z101, z102, z103, z104, z105, z106, z107, z108, z109, z110, z111, z112, z113, z114, z115, z116, z117, z118, z119, z120, z121, z122, z128, z132, z200, z240, z255, z372, z390625, z400, z420, z421, z422, z662, z900, z940, z999, z1000, z1024, z2000, z5860, z10000, z12345, z15625, z266240, z1048575, z1064960, z1103515245, z_m1, n_le, n_lt, n_eq, n_bit0, n_bit1, n_sbit0, n_shl, z_ltM, z_Mlt, z_leM, z_Mle, z_eqM, z_Meq, bI0, bI1, bI_01, bI_01t, bI_10, bI_10f, if_true, if_false, eq_self, reduceCtorEq, if_pos, if_neg, rc, rr, rn, nI_add, g0, c1, c2]
    · have g2 := g2 (by omega)
      by_cases c3 : P ≤ R
      · simp (disch := first | assumption | omega) only [m_two0, cX13_layTwo_223, cX13_layTwo_275, tk_gI, tk_gL, tk_gR, tk_pI, tk_pL, rv_aI, rv_aL, rv_aR, rv_uI, rv_uL, rv_uB, rv_uZ, pu_ckI, pu_ckL, pu_lnI, pu_lnL, tk_rI, tk_rL, Option.bind_some, Option.map_some, rv_lt, tk_ix, z0, z1, z2, z3, z4, z5, z6, z7, z8, z9, z10, z11, z12, z13, z15, z16, z17, z18, z20, z21, z23, z24, z25, z31, z32, z39, z40, z41, z46, z48, z50, z57, z59, z60, z61, z62, z63, z64, z97, z98, z99, z100, z101, z102, z103, z104, z105, z106, z107, z108, z109, z110, z111, z112, z113, z114, z115, z116, z117, z118, z119, z120, z121, z122, z128, z132, z200, z240, z255, z372, z390625, z400, z420, z421, z422, z662, z900, z940, z999, z1000, z1024, z2000, z5860, z10000, z12345, z15625, z266240, z1048575, z1064960, z1103515245, z_m1, n_le, n_lt, n_eq, n_bit0, n_bit1, n_sbit0, n_shl, z_ltM, z_Mlt, z_leM, z_Mle, z_eqM, z_Meq, bI0, bI1, bI_01, bI_01t, bI_10, bI_10f, if_true, if_false, eq_self, reduceCtorEq, if_pos, if_neg, rc, rr, rn, nI_add, z_sub, g0, g2, c1, c2, c3]
      · simp (disch := first | assumption | omega) only [m_two0, cX13_layTwo_223, cX13_layTwo_275, tk_gI, tk_gL, tk_gR, tk_pI, tk_pL, rv_aI, rv_aL, rv_aR, rv_uI, rv_uL, rv_uB, rv_uZ, pu_ckI, pu_ckL, pu_lnI, pu_lnL, tk_rI, tk_rL, Option.bind_some, Option.map_some, rv_lt, tk_ix, z0, z1, z2, z3, z4, z5, z6, z7, z8, z9, z10, z11, z12, z13, z15, z16, z17, z18, z20, z21, z23, z24, z25, z31, z32, z39, z40, z41, z46, z48, z50, z57, z59, z60, z61, z62, z63, z64, z97, z98, z99, z100, z101, z102, z103, z104, z105, z106, z107, z108, z109, z110, z111, z112, z113, z114, z115, z116, z117, z118, z119, z120, z121, z122, z128, z132, z200, z240, z255, z372, z390625, z400, z420, z421, z422, z662, z900, z940, z999, z1000, z1024, z2000, z5860, z10000, z12345, z15625, z266240, z1048575, z1064960, z1103515245, z_m1, n_le, n_lt, n_eq, n_bit0, n_bit1, n_sbit0, n_shl, z_ltM, z_Mlt, z_leM, z_Mle, z_eqM, z_Meq, bI0, bI1, bI_01, bI_01t, bI_10, bI_10f, if_true, if_false, eq_self, reduceCtorEq, if_pos, if_neg, rc, rr, rn, nI_add, z_sub, g0, g2, c1, c2, c3]
  · have g1 := g1 (by omega)
    by_cases c4 : P ≤ Q + 1
    · by_cases c2 : t < D2
      · simp (disch := first | assumption | omega) only [m_two0, cX13_layTwo_223, cX13_layTwo_275, tk_gI, tk_gL, tk_gR, tk_pI, tk_pL, rv_aI, rv_aL, rv_aR, rv_uI, rv_uL, rv_uB, rv_uZ, pu_ckI, pu_ckL, pu_lnI, pu_lnL, tk_rI, tk_rL, Option.bind_some, Option.map_some, rv_lt, tk_ix, z0, z1, z2, z3, z4, z5, z6, z7, z8, z9, z10, z11, z12, z13, z15, z16, z17, z18, z20, z21, z23, z24, z25, z31, z32, z39, z40, z41, z46, z48, z50, z57, z59, z60, z61, z62, z63, z64, z97, z98, z99, z100, z101, z102, z103, z104, z105, z106, z107, z108, z109, z110, z111, z112, z113, z114, z115, z116, z117, z118, z119, z120, z121, z122, z128, z132, z200, z240, z255, z372, z390625, z400, z420, z421, z422, z662, z900, z940, z999, z1000, z1024, z2000, z5860, z10000, z12345, z15625, z266240, z1048575, z1064960, z1103515245, z_m1, n_le, n_lt, n_eq, n_bit0, n_bit1, n_sbit0, n_shl, z_ltM, z_Mlt, z_leM, z_Mle, z_eqM, z_Meq, bI0, bI1, bI_01, bI_01t, bI_10, bI_10f, if_true, if_false, eq_self, reduceCtorEq, if_pos, if_neg, rc, rr, rn, nI_add, z_sub, g0, g1, c1, c2, c4]
      · have g2 := g2 (by omega)
        by_cases c3 : P ≤ R
        · simp (disch := first | assumption | omega) only [m_two0, cX13_layTwo_223, cX13_layTwo_275, tk_gI, tk_gL, tk_gR, tk_pI, tk_pL, rv_aI, rv_aL, rv_aR, rv_uI, rv_uL, rv_uB, rv_uZ, pu_ckI, pu_ckL, pu_lnI, pu_lnL, tk_rI, tk_rL, Option.bind_some, Option.map_some, rv_lt, tk_ix, z0, z1, z2, z3, z4, z5, z6, z7, z8, z9, z10, z11, z12, z13, z15, z16, z17, z18, z20, z21, z23, z24, z25, z31, z32, z39, z40, z41, z46, z48, z50, z57, z59, z60, z61, z62, z63, z64, z97, z98, z99, z100, z101, z102, z103, z104, z105, z106, z107, z108, z109, z110, z111, z112, z113, z114, z115, z116, z117, z118, z119, z120, z121, z122, z128, z132, z200, z240, z255, z372, z390625, z400, z420, z421, z422, z662, z900, z940, z999, z1000, z1024, z2000, z5860, z10000, z12345, z15625, z266240, z1048575, z1064960, z1103515245, z_m1, n_le, n_lt, n_eq, n_bit0, n_bit1, n_sbit0, n_shl, z_ltM, z_Mlt, z_leM, z_Mle, z_eqM, z_Meq, bI0, bI1, bI_01, bI_01t, bI_10, bI_10f, if_true, if_false, eq_self, reduceCtorEq, if_pos, if_neg, rc, rr, rn, nI_add, z_sub, g0, g1, g2, c1, c2, c3, c4]
        · simp (disch := first | assumption | omega) only [m_two0, cX13_layTwo_223, cX13_layTwo_275, tk_gI, tk_gL, tk_gR, tk_pI, tk_pL, rv_aI, rv_aL, rv_aR, rv_uI, rv_uL, rv_uB, rv_uZ, pu_ckI, pu_ckL, pu_lnI, pu_lnL, tk_rI, tk_rL, Option.bind_some, Option.map_some, rv_lt, tk_ix, z0, z1, z2, z3, z4, z5, z6, z7, z8, z9, z10, z11, z12, z13, z15, z16, z17, z18, z20, z21, z23, z24, z25, z31, z32, z39, z40, z41, z46, z48, z50, z57, z59, z60, z61, z62, z63, z64, z97, z98, z99, z100, z101, z102, z103, z104, z105, z106, z107, z108, z109, z110, z111, z112, z113, z114, z115, z116, z117, z118, z119, z120, z121, z122, z128, z132, z200, z240, z255, z372, z390625, z400, z420, z421, z422, z662, z900, z940, z999, z1000, z1024, z2000, z5860, z10000, z12345, z15625, z266240, z1048575, z1064960, z1103515245, z_m1, n_le, n_lt, n_eq, n_bit0, n_bit1, n_sbit0, n_shl, z_ltM, z_Mlt, z_leM, z_Mle, z_eqM, z_Meq, bI0, bI1, bI_01, bI_01t, bI_10, bI_10f, if_true, if_false, eq_self, reduceCtorEq, if_pos, if_neg, rc, rr, rn, nI_add, z_sub, g0, g1, g2, c1, c2, c3, c4]
    · by_cases c2 : t < D2
      · simp (disch := first | assumption | omega) only [m_two0, cX13_layTwo_223, cX13_layTwo_275, tk_gI, tk_gL, tk_gR, tk_pI, tk_pL, rv_aI, rv_aL, rv_aR, rv_uI, rv_uL, rv_uB, rv_uZ, pu_ckI, pu_ckL, pu_lnI, pu_lnL, tk_rI, tk_rL, Option.bind_some, Option.map_some, rv_lt, tk_ix, z0, z1, z2, z3, z4, z5, z6, z7, z8, z9, z10, z11, z12, z13, z15, z16, z17, z18, z20, z21, z23, z24, z25, z31, z32, z39, z40, z41, z46, z48, z50, z57, z59, z60, z61, z62, z63, z64, z97, z98, z99, z100, z101, z102, z103, z104, z105, z106, z107, z108, z109, z110, z111, z112, z113, z114, z115, z116, z117, z118, z119, z120, z121, z122, z128, z132, z200, z240, z255, z372, z390625, z400, z420, z421, z422, z662, z900, z940, z999, z1000, z1024, z2000, z5860, z10000, z12345, z15625, z266240, z1048575, z1064960, z1103515245, z_m1, n_le, n_lt, n_eq, n_bit0, n_bit1, n_sbit0, n_shl, z_ltM, z_Mlt, z_leM, z_Mle, z_eqM, z_Meq, bI0, bI1, bI_01, bI_01t, bI_10, bI_10f, if_true, if_false, eq_self, reduceCtorEq, if_pos, if_neg, rc, rr, rn, nI_add, z_sub, g0, g1, c1, c2, c4]
      · have g2 := g2 (by omega)
        by_cases c3 : Q + 1 ≤ R
        · simp (disch := first | assumption | omega) only [m_two0, cX13_layTwo_223, cX13_layTwo_275, tk_gI, tk_gL, tk_gR, tk_pI, tk_pL, rv_aI, rv_aL, rv_aR, rv_uI, rv_uL, rv_uB, rv_uZ, pu_ckI, pu_ckL, pu_lnI, pu_lnL, tk_rI, tk_rL, Option.bind_some, Option.map_some, rv_lt, tk_ix, z0, z1, z2, z3, z4, z5, z6, z7, z8, z9, z10, z11, z12, z13, z15, z16, z17, z18, z20, z21, z23, z24, z25, z31, z32, z39, z40, z41, z46, z48, z50, z57, z59, z60, z61, z62, z63, z64, z97, z98, z99, z100, z101, z102, z103, z104, z105, z106, z107, z108, z109, z110, z111, z112, z113, z114, z115, z116, z117, z118, z119, z120, z121, z122, z128, z132, z200, z240, z255, z372, z390625, z400, z420, z421, z422, z662, z900, z940, z999, z1000, z1024, z2000, z5860, z10000, z12345, z15625, z266240, z1048575, z1064960, z1103515245, z_m1, n_le, n_lt, n_eq, n_bit0, n_bit1, n_sbit0, n_shl, z_ltM, z_Mlt, z_leM, z_Mle, z_eqM, z_Meq, bI0, bI1, bI_01, bI_01t, bI_10, bI_10f, if_true, if_false, eq_self, reduceCtorEq, if_pos, if_neg, rc, rr, rn, nI_add, z_sub, g0, g1, g2, c1, c2, c3, c4]
        · simp (disch := first | assumption | omega) only [m_two0, cX13_layTwo_223, cX13_layTwo_275, tk_gI, tk_gL, tk_gR, tk_pI, tk_pL, rv_aI, rv_aL, rv_aR, rv_uI, rv_uL, rv_uB, rv_uZ, pu_ckI, pu_ckL, pu_lnI, pu_lnL, tk_rI, tk_rL, Option.bind_some, Option.map_some, rv_lt, tk_ix, z0, z1, z2, z3, z4, z5, z6, z7, z8, z9, z10, z11, z12, z13, z15, z16, z17, z18, z20, z21, z23, z24, z25, z31, z32, z39, z40, z41, z46, z48, z50, z57, z59, z60, z61, z62, z63, z64, z97, z98, z99, z100, z101, z102, z103, z104, z105, z106, z107, z108, z109, z110, z111, z112, z113, z114, z115, z116, z117, z118, z119, z120, z121, z122, z128, z132, z200, z240, z255, z372, z390625, z400, z420, z421, z422, z662, z900, z940, z999, z1000, z1024, z2000, z5860, z10000, z12345, z15625, z266240, z1048575, z1064960, z1103515245, z_m1, n_le, n_lt, n_eq, n_bit0, n_bit1, n_sbit0, n_shl, z_ltM, z_Mlt, z_leM, z_Mle, z_eqM, z_Meq, bI0, bI1, bI_01, bI_01t, bI_10, bI_10f, if_true, if_false, eq_self, reduceCtorEq, if_pos, if_neg, rc, rr, rn, nI_add, z_sub, g0, g1, g2, c1, c2, c3, c4]
theorem m_r2 (hn : 1100 ≤ n) (hB : rv_B S) {N X Y i s : Nat} (hN : N ≤ 40) (hX : X ≤ 99) (hY : Y ≤ 99) (hs : s ≤ X) (hi : i < N) {D1 D2 : Nat} (eD1 : D1 = ddv e1 d i) (eD2 : D2 = ddv e2 d i) (hD1 : D1 ≤ 1000) (hD2 : D2 ≤ 1000) (hT : ∀ x y, x ≤ X → y ≤ Y → S.2.1 200 (10000 * (i + 1) + 100 * x + y) = nI (tg e1 e2 d N (N - (i + 1)) x y)) (K72 : Nat → Int32 → Int32 → Int32 → Int32 → Int32 → Int32 → rvS → Option rvS) (K133 : Nat → Int32 → Int32 → Int32 → Int32 → Int32 → Int32 → Int32 → Int32 → Int32 → rvS → Option rvS) (a b c : Int32) :
    ∃ S', cX13_layTwo_142 n K72 K133 n S 189 a b (nI X) c (nI Y) (nI i) (nI D1) (nI D2) (nI s) (nI 0) = K133 189 a b (nI X) c (nI Y) (nI i) (nI D1) (nI D2) (nI (s + 1)) S' ∧ rvf [200] S S' ∧ ∀ k, S'.2.1 200 k = if 10000 * i + 100 * s ≤ k ∧ k < 10000 * i + 100 * s + (Y + 1) then nI (tg e1 e2 d N (N - i) s (k - (10000 * i + 100 * s))) else S.2.1 200 k := by
  refine lp (F := fun q (x : rvS × Int32) => cX13_layTwo_142 n K72 K133 q x.1 189 a b (nI X) c (nI Y) (nI i) (nI D1) (nI D2) (nI s) x.2) (fun j x => x.2 = nI j ∧ rvf [200] S x.1 ∧ ∀ k, x.1.2.1 200 k = if 10000 * i + 100 * s ≤ k ∧ k < 10000 * i + 100 * s + j then nI (tg e1 e2 d N (N - i) s (k - (10000 * i + 100 * s))) else S.2.1 200 k) (fun o => ∃ S', o = K133 189 a b (nI X) c (nI Y) (nI i) (nI D1) (nI D2) (nI (s + 1)) S' ∧ rvf [200] S S' ∧ ∀ k, S'.2.1 200 k = if 10000 * i + 100 * s ≤ k ∧ k < 10000 * i + 100 * s + (Y + 1) then nI (tg e1 e2 d N (N - i) s (k - (10000 * i + 100 * s))) else S.2.1 200 k) (Y + 1) (fun j x q hj hx => Or.inr ?_) (fun x q hx => ?_) (i := 0) (x := (S, nI 0)) (q := n) (Nat.zero_le _) ⟨rfl, rvf.rf _ _, fun k => by rw [if_neg (by omega)]⟩ (by omega)
  · obtain ⟨S1, x2⟩ := x
    obtain ⟨rfl, f, g⟩ := hx
    have f : rvf [200] S S1 := f
    have g : ∀ k, S1.2.1 200 k = if 10000 * i + 100 * s ≤ k ∧ k < 10000 * i + 100 * s + j then nI (tg e1 e2 d N (N - i) s (k - (10000 * i + 100 * s))) else S.2.1 200 k := g
    have hB1 := f.B hB
    have hT1 : ∀ x y, x ≤ X → y ≤ Y → S1.2.1 200 (10000 * (i + 1) + 100 * x + y) = nI (tg e1 e2 d N (N - (i + 1)) x y) := fun x y hx hy => by
      rw [g, if_neg (by omega)]; exact hT x y hx hy
    have kc := m_cell (n := n) hB1 (i := i) (X := X) (Y := Y) (s := s) (t := j) (P := tg e1 e2 d N (N - (i + 1)) s j) (Q := tg e1 e2 d N (N - (i + 1)) (s - D1) j) (R := tg e1 e2 d N (N - (i + 1)) s (j - D2)) (D1 := D1) (D2 := D2) (by omega) (by omega) (by omega) hY hD1 hD2 (tg_cap _ _ _) (tg_cap _ _ _) (tg_cap _ _ _) (hT1 s j hs (by omega)) (fun _ => hT1 (s - D1) j (by omega) (by omega)) (fun _ => hT1 s (j - D2) hs (by omega)) K72 K133 a b c q
    have et := tg_c (e1 := e1) (e2 := e2) (d := d) (x := s) (y := j) hi
    rw [← eD1, ← eD2] at et
    rw [← et] at kc
    refine ⟨(rv_sI S1 200 (10000 * i + 100 * s + j) (nI (tg e1 e2 d N (N - i) s j)), nI (j + 1)), kc, rfl, f.w rfl rfl, fun k => ?_⟩
    show (rv_sI S1 200 (10000 * i + 100 * s + j) _).2.1 200 k = _
    by_cases c : k = 10000 * i + 100 * s + j
    · subst c; rw [rv_sI_eq, if_pos (by omega), Nat.add_sub_cancel_left]
    · rw [rv_sI_k _ _ c, g]
      by_cases c2 : 10000 * i + 100 * s ≤ k ∧ k < 10000 * i + 100 * s + j
      · rw [if_pos c2, if_pos (by omega)]
      · rw [if_neg c2, if_neg (by omega)]
  · obtain ⟨S1, x2⟩ := x
    obtain ⟨rfl, f, g⟩ := hx
    refine ⟨S1, ?_, f, g⟩
    show cX13_layTwo_142 n K72 K133 (q + 1) S1 189 a b (nI X) c (nI Y) (nI i) (nI D1) (nI D2) (nI s) (nI (Y + 1)) = _
    rw [cX13_layTwo_142]
    simp (disch := first | assumption | omega) only [tk_gI, tk_gL, tk_gR, tk_pI, tk_pL, rv_aI, rv_aL, rv_aR, rv_uI, rv_uL, rv_uB, rv_uZ, pu_ckI, pu_ckL, pu_lnI, pu_lnL, tk_rI, tk_rL, Option.bind_some, Option.map_some, rv_lt, tk_ix, z0, z1, z2, z3, z4, z5, z6, z7, z8, z9, z10, z11, z12, z13, z15, z16, z17, z18, z20, z21, z23, z24, z25, z31, z32, z39, z40, z41, z46, z48, z50, z57, z59, z60, z61, z62, z63, z64, z97, z98, z99, z100, z101, z102, z103, z104, z105, z106, z107, z108, z109, z110, z111, z112, z113, z114, z115, z116, z117, z118, z119, z120, z121, z122, z128, z132, z200, z240, z255, z372, z390625, z400, z420, z421, z422, z662, z900, z940, z999, z1000, z1024, z2000, z5860, z10000, z12345, z15625, z266240, z1048575, z1064960, z1103515245, z_m1, n_le, n_lt, n_eq, n_bit0, n_bit1, n_sbit0, n_shl, z_ltM, z_Mlt, z_leM, z_Mle, z_eqM, z_Meq, bI0, bI1, bI_01, bI_01t, bI_10, bI_10f, if_true, if_false, eq_self, reduceCtorEq, if_pos, if_neg, nI_add]
theorem m_r3 (hn : 1100 ≤ n) (hB : rv_B S) {N X Y i : Nat} (hN : N ≤ 40) (hX : X ≤ 99) (hY : Y ≤ 99) (hi : i < N) {D1 D2 : Nat} (eD1 : D1 = ddv e1 d i) (eD2 : D2 = ddv e2 d i) (hD1 : D1 ≤ 1000) (hD2 : D2 ≤ 1000) (hT : TQ S e1 e2 d N X Y (i + 1)) (K72 : Nat → Int32 → Int32 → Int32 → Int32 → Int32 → Int32 → rvS → Option rvS) (a b c : Int32) :
    ∃ S', cX13_layTwo_133 n K72 n S 189 a b (nI X) c (nI Y) (nI i) (nI D1) (nI D2) (nI 0) = K72 189 a b (nI X) c (nI Y) (nI i + iM) S' ∧ rvf [200] S S' ∧ TQ S' e1 e2 d N X Y i := by
  refine lp (F := fun q (x : rvS × Int32) => cX13_layTwo_133 n K72 q x.1 189 a b (nI X) c (nI Y) (nI i) (nI D1) (nI D2) x.2) (fun j x => x.2 = nI j ∧ rvf [200] S x.1 ∧ TQ x.1 e1 e2 d N X Y (i + 1) ∧ ∀ x' y, x' < j → y ≤ Y → x.1.2.1 200 (10000 * i + 100 * x' + y) = nI (tg e1 e2 d N (N - i) x' y)) (fun o => ∃ S', o = K72 189 a b (nI X) c (nI Y) (nI i + iM) S' ∧ rvf [200] S S' ∧ TQ S' e1 e2 d N X Y i) (X + 1) (fun j x q hj hx => Or.inr ?_) (fun x q hx => ?_) (i := 0) (x := (S, nI 0)) (q := n) (Nat.zero_le _) ⟨rfl, rvf.rf _ _, hT, fun x' y h => absurd h (Nat.not_lt_zero _)⟩ (by omega)
  · obtain ⟨S1, x2⟩ := x
    obtain ⟨rfl, f, h, g⟩ := hx
    have f : rvf [200] S S1 := f
    have h : TQ S1 e1 e2 d N X Y (i + 1) := h
    have g : ∀ x' y, x' < j → y ≤ Y → S1.2.1 200 (10000 * i + 100 * x' + y) = nI (tg e1 e2 d N (N - i) x' y) := g
    have hB1 := f.B hB
    obtain ⟨S2, e2', f2, g2⟩ := m_r2 hn hB1 (s := j) hN hX hY (by omega) hi eD1 eD2 hD1 hD2 (fun x y hx hy => h (i + 1) (Nat.le_refl _) (by omega) x y hx hy) K72 (fun a0 x1 x2 x3 x4 x5 x7 x8 x9 x10 S => cX13_layTwo_133 n K72 q S a0 x1 x2 x3 x4 x5 x7 x8 x9 x10) a b c
    refine ⟨(S2, nI (j + 1)), ?_, rfl, f.tr f2, fun i' h1 h2 x y hx hy => ?_, fun x' y hx' hy => ?_⟩
    · show cX13_layTwo_133 n K72 (q + 1) S1 189 a b (nI X) c (nI Y) (nI i) (nI D1) (nI D2) (nI j) = cX13_layTwo_133 n K72 q S2 189 a b (nI X) c (nI Y) (nI i) (nI D1) (nI D2) (nI (j + 1))
      rw [← e2', cX13_layTwo_133]
      simp (disch := first | assumption | omega) only [tk_gI, tk_gL, tk_gR, tk_pI, tk_pL, rv_aI, rv_aL, rv_aR, rv_uI, rv_uL, rv_uB, rv_uZ, pu_ckI, pu_ckL, pu_lnI, pu_lnL, tk_rI, tk_rL, Option.bind_some, Option.map_some, rv_lt, tk_ix, z0, z1, z2, z3, z4, z5, z6, z7, z8, z9, z10, z11, z12, z13, z15, z16, z17, z18, z20, z21, z23, z24, z25, z31, z32, z39, z40, z41, z46, z48, z50, z57, z59, z60, z61, z62, z63, z64, z97, z98, z99, z100, z101, z102, z103, z104, z105, z106, z107, z108, z109, z110, z111, z112, z113, z114, z115, z116, z117, z118, z119, z120, z121, z122, z128, z132, z200, z240, z255, z372, z390625, z400, z420, z421, z422, z662, z900, z940, z999, z1000, z1024, z2000, z5860, z10000, z12345, z15625, z266240, z1048575, z1064960, z1103515245, z_m1, n_le, n_lt, n_eq, n_bit0, n_bit1, n_sbit0, n_shl, z_ltM, z_Mlt, z_leM, z_Mle, z_eqM, z_Meq, bI0, bI1, bI_01, bI_01t, bI_10, bI_10f, if_true, if_false, eq_self, reduceCtorEq, if_pos, if_neg]
    · show S2.2.1 200 _ = _
      rw [g2, if_neg (by omega)]
      exact h i' h1 h2 x y hx hy
    · show S2.2.1 200 _ = _
      rw [g2]
      by_cases c : x' = j
      · rw [if_pos (by omega), c, show 10000 * i + 100 * j + y - (10000 * i + 100 * j) = y by omega]
      · rw [if_neg (by omega)]
        exact g x' y (by omega) hy
  · obtain ⟨S1, x2⟩ := x
    obtain ⟨rfl, f, h, g⟩ := hx
    have h : TQ S1 e1 e2 d N X Y (i + 1) := h
    have g : ∀ x' y, x' < X + 1 → y ≤ Y → S1.2.1 200 (10000 * i + 100 * x' + y) = nI (tg e1 e2 d N (N - i) x' y) := g
    refine ⟨S1, ?_, f, fun i' h1 h2 x y hx hy => ?_⟩
    · show cX13_layTwo_133 n K72 (q + 1) S1 189 a b (nI X) c (nI Y) (nI i) (nI D1) (nI D2) (nI (X + 1)) = _
      rw [cX13_layTwo_133]
      simp (disch := first | assumption | omega) only [tk_gI, tk_gL, tk_gR, tk_pI, tk_pL, rv_aI, rv_aL, rv_aR, rv_uI, rv_uL, rv_uB, rv_uZ, pu_ckI, pu_ckL, pu_lnI, pu_lnL, tk_rI, tk_rL, Option.bind_some, Option.map_some, rv_lt, tk_ix, z0, z1, z2, z3, z4, z5, z6, z7, z8, z9, z10, z11, z12, z13, z15, z16, z17, z18, z20, z21, z23, z24, z25, z31, z32, z39, z40, z41, z46, z48, z50, z57, z59, z60, z61, z62, z63, z64, z97, z98, z99, z100, z101, z102, z103, z104, z105, z106, z107, z108, z109, z110, z111, z112, z113, z114, z115, z116, z117, z118, z119, z120, z121, z122, z128, z132, z200, z240, z255, z372, z390625, z400, z420, z421, z422, z662, z900, z940, z999, z1000, z1024, z2000, z5860, z10000, z12345, z15625, z266240, z1048575, z1064960, z1103515245, z_m1, n_le, n_lt, n_eq, n_bit0, n_bit1, n_sbit0, n_shl, z_ltM, z_Mlt, z_leM, z_Mle, z_eqM, z_Meq, bI0, bI1, bI_01, bI_01t, bI_10, bI_10f, if_true, if_false, eq_self, reduceCtorEq, if_pos, if_neg, z_m1]
    · by_cases c : i' = i
      · subst c; exact g x y (by omega) hy
      · exact h i' (by omega) h2 x y hx hy
theorem ddv_1000 (hc : okc m) {e : Nat → Bool} {i : Nat} (hi : i < vC m) : ddv e (va m) i ≤ 1000 := by
  have := (hc.2.2 i hi).2.1
  rw [ddv]
  split <;> omega
theorem m_table2 (hn : 1100 ≤ n) (hp : okp m) (hc : okc m) {a b c X Y : Nat} (ha : a < vW m) (hb : b < vW m) (hcc : c < vW m) (hX : X ≤ 99) (hY : Y ≤ 99) : ∀ (i q : Nat) (S : rvS), i ≤ vC m → i < q → rv_B S → MR S m → TQ S (gz m a b) (gz m a c) (va m) (vC m) X Y i → ∃ S', cX13_layTwo_72 n q S 189 (nI a) (nI b) (nI X) (nI c) (nI Y) (nI i + iM) = some S' ∧ rvf [199, 200] S S' ∧ TQ S' (gz m a b) (gz m a c) (va m) (vC m) X Y 0
  | 0, q, S, _, hq, hB, hM, hT => by
    obtain ⟨q, rfl⟩ : ∃ q', q = q' + 1 := ⟨q - 1, by omega⟩
    refine ⟨S, ?_, rvf.rf _ _, hT⟩
    rw [cX13_layTwo_72, if_pos (by decide)]
  | i + 1, q, S, hi, hq, hB, hM, hT => by
    obtain ⟨q, rfl⟩ : ∃ q', q = q' + 1 := ⟨q - 1, by omega⟩
    have h24 := hp.1
    have h40 := hc.1
    have hv := (hc.2.2 i (by omega)).2.1
    obtain ⟨S1, e1', f1⟩ := m_isFor (n := n) (by omega) hB hM hp hc (c := i) (by omega) (a := a) (by omega) hb
    have hB1 := f1.B hB
    have hM1 := hM.f f1 rfl
    obtain ⟨S2, e2', f2⟩ := m_isFor (n := n) (by omega) hB1 hM1 hp hc (c := i) (by omega) (a := a) (by omega) hcc
    have hB2 := f2.B hB1
    have hM2 := hM1.f f2 rfl
    have hT2 := (hT.f f1 rfl).f f2 rfl
    obtain ⟨D1, eD1⟩ : ∃ D1, D1 = ddv (gz m a b) (va m) i := ⟨_, rfl⟩
    obtain ⟨D2, eD2⟩ : ∃ D2, D2 = ddv (gz m a c) (va m) i := ⟨_, rfl⟩
    have l1 : D1 ≤ 1000 := by rw [eD1]; exact ddv_1000 hc (by omega)
    have l2 : D2 ≤ 1000 := by rw [eD2]; exact ddv_1000 hc (by omega)
    obtain ⟨S3, e3, f3, g3⟩ := m_r3 hn hB2 h40 hX hY (i := i) (by omega) eD1 eD2 l1 l2 hT2 (fun a0 x1 x2 x3 x4 x5 x7 S => cX13_layTwo_72 n q S a0 x1 x2 x3 x4 x5 x7) (nI a) (nI b) (nI c)
    have hB3 := f3.B hB2
    have hM3 := hM2.f f3 rfl
    obtain ⟨S4, e4, f4, g4⟩ := m_table2 hn hp hc ha hb hcc hX hY i q S3 (by omega) (by omega) hB3 hM3 g3
    refine ⟨S4, ?_, (f1.mono rfl).tr ((f2.mono rfl).tr ((f3.mono rfl).tr f4)), g4⟩
    have ng : ¬ nI i < 0 := nI_pos (by omega)
    rw [← e4, ← e3, z_dec, cX13_layTwo_72, if_neg ng]
    have e1' : fnX13_isFor n S 189 (nI i) (nI a) (nI b) = some (bI (gz m a b i), S1) := e1'
    have e2' : fnX13_isFor n S1 189 (nI i) (nI a) (nI c) = some (bI (gz m a c i), S2) := e2'
    have va1 := m_va (n := n) hB1 hM1 (c := i) (by omega)
    have va2 := m_va (n := n) hB2 hM2 (c := i) (by omega)
    rw [ddv] at eD1 eD2
    cases c1 : gz m a b i <;> cases c2 : gz m a c i
    · rw [c1, if_neg nft] at eD1
      rw [c2, if_neg nft] at eD2
      rw [c1] at e1'
      rw [c2] at e2'
      simp (disch := first | assumption | omega) only [cX13_layTwo_101, tk_gI, tk_gL, tk_gR, tk_pI, tk_pL, rv_aI, rv_aL, rv_aR, rv_uI, rv_uL, rv_uB, rv_uZ, pu_ckI, pu_ckL, pu_lnI, pu_lnL, tk_rI, tk_rL, Option.bind_some, Option.map_some, rv_lt, tk_ix, z0, z1, z2, z3, z4, z5, z6, z7, z8, z9, z10, z11, z12, z13, z15, z16, z17, z18, z20, z21, z23, z24, z25, z31, z32, z39, z40, z41, z46, z48, z50, z57, z59, z60, z61, z62, z63, z64, z97, z98, z99, z100, z101, z102, z103, z104, z105, z106, z107, z108, z109, z110, z111, z112, z113, z114, z115, z116, z117, z118, z119, z120, z121, z122, z128, z132, z200, z240, z255, z372, z390625, z400, z420, z421, z422, z662, z900, z940, z999, z1000, z1024, z2000, z5860, z10000, z12345, z15625, z266240, z1048575, z1064960, z1103515245, z_m1, rc_189 hB, rc_189 hB1, e1', e2', bp_s, bI_f, bI_t, if_true, eD1, eD2]
    · rw [c1, if_neg nft] at eD1
      rw [c2, if_pos rfl] at eD2
      rw [c1] at e1'
      rw [c2] at e2'
      simp (disch := first | assumption | omega) only [cX13_layTwo_101, tk_gI, tk_gL, tk_gR, tk_pI, tk_pL, rv_aI, rv_aL, rv_aR, rv_uI, rv_uL, rv_uB, rv_uZ, pu_ckI, pu_ckL, pu_lnI, pu_lnL, tk_rI, tk_rL, Option.bind_some, Option.map_some, rv_lt, tk_ix, z0, z1, z2, z3, z4, z5, z6, z7, z8, z9, z10, z11, z12, z13, z15, z16, z17, z18, z20, z21, z23, z24, z25, z31, z32, z39, z40, z41, z46, z48, z50, z57, z59, z60, z61, z62, z63, z64, z97, z98, z99, z100, z101, z102, z103, z104, z105, z106, z107, z108, z109, z110, z111, z112, z113, z114, z115, z116, z117, z118, z119, z120, z121, z122, z128, z132, z200, z240, z255, z372, z390625, z400, z420, z421, z422, z662, z900, z940, z999, z1000, z1024, z2000, z5860, z10000, z12345, z15625, z266240, z1048575, z1064960, z1103515245, z_m1, n_le, n_lt, n_eq, n_bit0, n_bit1, n_sbit0, n_shl, z_ltM, z_Mlt, z_leM, z_Mle, z_eqM, z_Meq, bI0, bI1, bI_01, bI_01t, bI_10, bI_10f, if_true, if_false, eq_self, reduceCtorEq, rc_189 hB, rc_189 hB1, rc_189 hB2, e1', e2', bp_s, bI_f, bI_t, if_true, eD1, eD2, va2, Nat.one_ne_zero]
    · rw [c1, if_pos rfl] at eD1
      rw [c2, if_neg nft] at eD2
      rw [c1] at e1'
      rw [c2] at e2'
      simp (disch := first | assumption | omega) only [cX13_layTwo_101, tk_gI, tk_gL, tk_gR, tk_pI, tk_pL, rv_aI, rv_aL, rv_aR, rv_uI, rv_uL, rv_uB, rv_uZ, pu_ckI, pu_ckL, pu_lnI, pu_lnL, tk_rI, tk_rL, Option.bind_some, Option.map_some, rv_lt, tk_ix, z0, z1, z2, z3, z4, z5, z6, z7, z8, z9, z10, z11, z12, z13, z15, z16, z17, z18, z20, z21, z23, z24, z25, z31, z32, z39, z40, z41, z46, z48, z50, z57, z59, z60, z61, z62, z63, z64, z97, z98, z99, z100, z101, z102, z103, z104, z105, z106, z107, z108, z109, z110, z111, z112, z113, z114, z115, z116, z117, z118, z119, z120, z121, z122, z128, z132, z200, z240, z255, z372, z390625, z400, z420, z421, z422, z662, z900, z940, z999, z1000, z1024, z2000, z5860, z10000, z12345, z15625, z266240, z1048575, z1064960, z1103515245, z_m1, n_le, n_lt, n_eq, n_bit0, n_bit1, n_sbit0, n_shl, z_ltM, z_Mlt, z_leM, z_Mle, z_eqM, z_Meq, bI0, bI1, bI_01, bI_01t, bI_10, bI_10f, if_true, if_false, eq_self, reduceCtorEq, rc_189 hB, rc_189 hB1, rc_189 hB2, e1', e2', bp_s, bI_f, bI_t, if_true, eD1, eD2, va1, Nat.one_ne_zero]
    · rw [c1, if_pos rfl] at eD1
      rw [c2, if_pos rfl] at eD2
      rw [c1] at e1'
      rw [c2] at e2'
      simp (disch := first | assumption | omega) only [cX13_layTwo_101, tk_gI, tk_gL, tk_gR, tk_pI, tk_pL, rv_aI, rv_aL, rv_aR, rv_uI, rv_uL, rv_uB, rv_uZ, pu_ckI, pu_ckL, pu_lnI, pu_lnL, tk_rI, tk_rL, Option.bind_some, Option.map_some, rv_lt, tk_ix, z0, z1, z2, z3, z4, z5, z6, z7, z8, z9, z10, z11, z12, z13, z15, z16, z17, z18, z20, z21, z23, z24, z25, z31, z32, z39, z40, z41, z46, z48, z50, z57, z59, z60, z61, z62, z63, z64, z97, z98, z99, z100, z101, z102, z103, z104, z105, z106, z107, z108, z109, z110, z111, z112, z113, z114, z115, z116, z117, z118, z119, z120, z121, z122, z128, z132, z200, z240, z255, z372, z390625, z400, z420, z421, z422, z662, z900, z940, z999, z1000, z1024, z2000, z5860, z10000, z12345, z15625, z266240, z1048575, z1064960, z1103515245, z_m1, n_le, n_lt, n_eq, n_bit0, n_bit1, n_sbit0, n_shl, z_ltM, z_Mlt, z_leM, z_Mle, z_eqM, z_Meq, bI0, bI1, bI_01, bI_01t, bI_10, bI_10f, if_true, if_false, eq_self, reduceCtorEq, rc_189 hB, rc_189 hB1, rc_189 hB2, e1', e2', bp_s, bI_f, bI_t, if_true, eD1, eD2, va1, va2, Nat.one_ne_zero]
theorem m_layTwo (hn : 1100 ≤ n) (hB : rv_B S) (hM : MR S m) (hp : okp m) (hc : okc m) {a b c X Y : Nat} (ha : a < vW m) (hb : b < vW m) (hcc : c < vW m) (hX : X ≤ 99) (hY : Y ≤ 99) : ∃ S', fnX13_layTwo n S 189 (nI a) (nI b) (nI X) (nI c) (nI Y) = some S' ∧ rvf [199, 200] S S' ∧ TQ S' (gz m a b) (gz m a c) (va m) (vC m) X Y 0 := by
  have h40 := hc.1
  obtain ⟨S1, e1', f1, g1⟩ := m_b2 (e1 := gz m a b) (e2 := gz m a c) (d := va m) hn hB h40 hX hY (nI a) (nI b) (nI c)
  have hB1 := f1.B hB
  have hM1 := hM.f f1 rfl
  obtain ⟨S2, e2', f2, g2⟩ := m_table2 hn hp hc ha hb hcc hX hY (vC m) n S1 (Nat.le_refl _) (by omega) hB1 hM1 g1
  refine ⟨S2, ?_, (f1.mono rfl).tr f2, g2⟩
  rw [← e2', ← e1', fnX13_layTwo]
  simp (disch := first | assumption | omega) only [tk_gI, tk_gL, tk_gR, tk_pI, tk_pL, rv_aI, rv_aL, rv_aR, rv_uI, rv_uL, rv_uB, rv_uZ, pu_ckI, pu_ckL, pu_lnI, pu_lnL, tk_rI, tk_rL, Option.bind_some, Option.map_some, rv_lt, tk_ix, z0, z1, z2, z3, z4, z5, z6, z7, z8, z9, z10, z11, z12, z13, z15, z16, z17, z18, z20, z21, z23, z24, z25, z31, z32, z39, z40, z41, z46, z48, z50, z57, z59, z60, z61, z62, z63, z64, z97, z98, z99, z100, z101, z102, z103, z104, z105, z106, z107, z108, z109, z110, z111, z112, z113, z114, z115, z116, z117, z118, z119, z120, z121, z122, z128, z132, z200, z240, z255, z372, z390625, z400, z420, z421, z422, z662, z900, z940, z999, z1000, z1024, z2000, z5860, z10000, z12345, z15625, z266240, z1048575, z1064960, z1103515245, z_m1, rc_189 hB, m_coins hB hM]
end
