/-! KEEP: the reference's walk, both sides -/
section
variable {n : Nat} {S : rvS} {m m' : Nat → Nat} {wd : Nat → List Nat} {e1 e2 : Nat → Bool} {d : Nat → Nat}
theorem z_nar (b : Bool) : vp_nar .boolean (bI b) = bI b := by cases b <;> decide
theorem z_nar0 : vp_nar .boolean (nI 0) = nI 0 := by decide
theorem z_nar1 : vp_nar .boolean (nI 1) = nI 1 := by decide
def LF (S : rvS) (a : Nat) (l : Nat → Bool) : Prop := ∀ t, t < 100 → S.2.1 a t = bI (l t)
theorem m_g62 (hB : rv_B S) {j : Nat} (hj : j < 100) (K6 : Nat → Int32 → Int32 → Int32 → Int32 → Int32 → Int32 → rvS → Option (Int32 × rvS)) (x1 x2 x3 x4 : Int32) (xs b : Bool) : cX13_canGive_62 n K6 S 189 x1 x2 x3 x4 (bI xs) (nI j) 204 (nI j) (bI b) = K6 189 x1 x2 x3 x4 (bI (xs || b)) (nI (j + 1)) (rv_sI S 204 j (bI b)) := by
  have rr := rf_of hB (show (189, 30, 204) ∈ rv_rf0 by decide)
  have rn := rn_204 hB
  have rc := rc_189 hB
  rw [cX13_canGive_62]
  cases xs <;> cases b <;> simp (disch := first | assumption | omega) only [tk_gI, tk_gL, tk_gR, tk_pI, tk_pL, rv_aI, rv_aL, rv_aR, rv_uI, rv_uL, rv_uB, rv_uZ, pu_ckI, pu_ckL, pu_lnI, pu_lnL, tk_rI, tk_rL, Option.bind_some, Option.map_some, rv_lt, tk_ix, z0, z1, z2, z3, z4, z5, z6, z7, z8, z9, z10, z11, z12, z13, z15, z16, z17, z18, z20, z21, z23, z24, z25, z31, z32, z39, z40, z41, z46, z48, z50, z57, z59, z60, z61, z62, z63, z64, z97, z98, z99, z100, z101, z102, z103, z104, z105, z106, z107, z108, z109, z110, z111, z112, z113, z114, z115, z116, z117, z118, z119, z120, z121, z122, z128, z132, z200, z240, z255, z372, z390625, z400, z420, z421, z422, z662, z900, z940, z999, z1000, z1024, z2000, z5860, z10000, z12345, z15625, z266240, z1048575, z1064960, z1103515245, z_m1, n_le, n_lt, n_eq, n_bit0, n_bit1, n_sbit0, n_shl, z_ltM, z_Mlt, z_leM, z_Mle, z_eqM, z_Meq, bI0, bI1, bI_01, bI_01t, bI_10, bI_10f, if_true, if_false, eq_self, reduceCtorEq, if_pos, if_neg, rr, rn, rc, nI_add, z_nar, rv_sI_eq, bI_f, bI_t, z_nar0, z_nar1, Bool.or_false, Bool.or_true, Nat.one_ne_zero, Nat.reduceEqDiff]
theorem m_give (hn : 1100 ≤ n) (hB : rv_B S) {N X Y i : Nat} (hN : N ≤ 40) (hX : X ≤ 99) (hY : Y ≤ 99) (hi : i < N) (hT : TQ S e1 e2 d N X Y 0) {w : WS} (hs : w.1 ≤ X) (hr : w.2.1 ≤ 10000) (hl : ∀ t, w.2.2 t = true → t ≤ Y) (hL : LF S 203 w.2.2) {D : Nat} (eD : D = ddv e1 d i) (hD : D ≤ 1000) : ∃ S', fnX13_canGive n S 189 (nI i) (nI D) (nI w.1) (nI w.2.1) = some (bI (ex (gv e1 e2 d N i w) 100), S') ∧ rvf [204] S S' ∧ LF S' 204 (gv e1 e2 d N i w) := by
  obtain ⟨s, r, l⟩ := w
  dsimp only at hs hr hl hL
  obtain ⟨g, eg⟩ : ∃ g, g = gv e1 e2 d N i (s, r, l) := ⟨_, rfl⟩
  have gt : ∀ t, g t = (decide (D ≤ s) && (l t && decide (tg e1 e2 d N (N - (i + 1)) (s - D) t + 1 = r))) := fun t => by rw [eg, eD]; rfl
  rw [← eg, fnX13_canGive]
  refine lp (F := fun q (x : rvS × Int32 × Int32) => cX13_canGive_6 n q x.1 189 (nI i) (nI D) (nI s) (nI r) x.2.1 x.2.2) (fun j x => x.2 = (bI (ex g j), nI j) ∧ rvf [204] S x.1 ∧ ∀ t, t < j → x.1.2.1 204 t = bI (g t)) (fun o => ∃ S', o = some (bI (ex g 100), S') ∧ rvf [204] S S' ∧ LF S' 204 g) 100 (fun j x q hj hx => Or.inr ?_) (fun x q hx => ?_) (i := 0) (x := (S, nI 0, nI 0)) (q := n) (Nat.zero_le _) ⟨rfl, rvf.rf _ _, fun t h => absurd h (Nat.not_lt_zero t)⟩ (by omega)
  · obtain ⟨S1, x1, x2⟩ := x
    obtain ⟨hx, f, h⟩ := hx
    obtain ⟨rfl, rfl⟩ := Prod.mk.inj hx
    have f : rvf [204] S S1 := f
    have h : ∀ t, t < j → S1.2.1 204 t = bI (g t) := h
    have hB1 := f.B hB
    have q62 := m_g62 (n := n) hB1 hj (fun a0 x1 x2 x3 x4 x5 x6 S => cX13_canGive_6 n q S a0 x1 x2 x3 x4 x5 x6) (nI i) (nI D) (nI s) (nI r) (ex g j) (g j)
    have rr := rf_of hB1 (show (189, 25, 200) ∈ rv_rf0 by decide)
    have rn := rn_200 hB1
    have rr3 := rf_of hB1 (show (189, 29, 203) ∈ rv_rf0 by decide)
    have rn3 := rn_203 hB1
    have rr4 := rf_of hB1 (show (189, 30, 204) ∈ rv_rf0 by decide)
    have rc := rc_189 hB1
    have l1 : S1.2.1 203 j = bI (l j) := (f.row rfl rfl j).trans (hL j hj)
    have gj := gt j
    refine ⟨(rv_sI S1 204 j (bI (g j)), bI (ex g j || g j), nI (j + 1)), ?_, rfl, f.w rfl rfl, fun t ht => ?_⟩
    · show cX13_canGive_6 n (q + 1) S1 189 (nI i) (nI D) (nI s) (nI r) (bI (ex g j)) (nI j) = cX13_canGive_6 n q _ 189 (nI i) (nI D) (nI s) (nI r) (bI (ex g j || g j)) (nI (j + 1))
      refine Eq.trans ?_ q62
      rw [cX13_canGive_6]
      by_cases c1 : D ≤ s
      · rw [decide_eq_true c1, Bool.true_and] at gj
        have c1' : ¬ s < D := by omega
        cases c2 : l j
        · rw [c2, Bool.false_and] at gj
          rw [c2] at l1
          simp (disch := first | assumption | omega) only [cX13_canGive_61, tk_gI, tk_gL, tk_gR, tk_pI, tk_pL, rv_aI, rv_aL, rv_aR, rv_uI, rv_uL, rv_uB, rv_uZ, pu_ckI, pu_ckL, pu_lnI, pu_lnL, tk_rI, tk_rL, Option.bind_some, Option.map_some, rv_lt, tk_ix, z0, z1, z2, z3, z4, z5, z6, z7, z8, z9, z10, z11, z12, z13, z15, z16, z17, z18, z20, z21, z23, z24, z25, z31, z32, z39, z40, z41, z46, z48, z50, z57, z59, z60, z61, z62, z63, z64, z97, z98, z99, z100, z101, z102, z103, z104, z105, z106, z107, z108, z109, z110, z111, z112, z113, z114, z115, z116, z117, z118, z119, z120, z121, z122, z128, z132, z200, z240, z255, z372, z390625, z400, z420, z421, z422, z662, z900, z940, z999, z1000, z1024, z2000, z5860, z10000, z12345, z15625, z266240, z1048575, z1064960, z1103515245, z_m1, n_le, n_lt, n_eq, n_bit0, n_bit1, n_sbit0, n_shl, z_ltM, z_Mlt, z_leM, z_Mle, z_eqM, z_Meq, bI0, bI1, bI_01, bI_01t, bI_10, bI_10f, if_true, if_false, eq_self, reduceCtorEq, if_pos, if_neg, rc, rr, rn, rr3, rn3, rr4, l1, c1', gj, bI_f]
        · rw [c2, Bool.true_and] at gj
          rw [c2] at l1
          have hy := hl j c2
          have t1 := (hT.f f rfl) (i + 1) (Nat.zero_le _) (by omega) (s - D) j (by omega) hy
          have tc := tg_cap (e1 := e1) (e2 := e2) (d := d) (N := N) (N - (i + 1)) (s - D) j
          by_cases c3 : tg e1 e2 d N (N - (i + 1)) (s - D) j + 1 = r
          · rw [decide_eq_true c3] at gj
            simp (disch := first | assumption | omega) only [m_two0, tk_gI, tk_gL, tk_gR, tk_pI, tk_pL, rv_aI, rv_aL, rv_aR, rv_uI, rv_uL, rv_uB, rv_uZ, pu_ckI, pu_ckL, pu_lnI, pu_lnL, tk_rI, tk_rL, Option.bind_some, Option.map_some, rv_lt, tk_ix, z0, z1, z2, z3, z4, z5, z6, z7, z8, z9, z10, z11, z12, z13, z15, z16, z17, z18, z20, z21, z23, z24, z25, z31, z32, z39, z40, z41, z46, z48, z50, z57, z59, z60, z61, z62, z63, z64, z97, z98, z99, z100, z101, z102, z103, z104, z105, z106, z107, z108, z109, z110, z111, z112, z113, z114, z115, z116, z117, z118, z119, z120, z121, z122, z128, z132, z200, z240, z255, z372, z390625, z400, z420, z421, z422, z662, z900, z940, z999, z1000, z1024, z2000, z5860, z10000, z12345, z15625, z266240, z1048575, z1064960, z1103515245, z_m1, n_le, n_lt, n_eq, n_bit0, n_bit1, n_sbit0, n_shl, z_ltM, z_Mlt, z_leM, z_Mle, z_eqM, z_Meq, bI0, bI1, bI_01, bI_01t, bI_10, bI_10f, if_true, if_false, eq_self, reduceCtorEq, if_pos, if_neg, rc, rr, rn, rr3, rn3, rr4, l1, c1', gj, bI_t, t1, z_sub, nI_add, c3, Nat.one_ne_zero]
          · rw [decide_eq_false c3] at gj
            simp (disch := first | assumption | omega) only [cX13_canGive_61, m_two0, tk_gI, tk_gL, tk_gR, tk_pI, tk_pL, rv_aI, rv_aL, rv_aR, rv_uI, rv_uL, rv_uB, rv_uZ, pu_ckI, pu_ckL, pu_lnI, pu_lnL, tk_rI, tk_rL, Option.bind_some, Option.map_some, rv_lt, tk_ix, z0, z1, z2, z3, z4, z5, z6, z7, z8, z9, z10, z11, z12, z13, z15, z16, z17, z18, z20, z21, z23, z24, z25, z31, z32, z39, z40, z41, z46, z48, z50, z57, z59, z60, z61, z62, z63, z64, z97, z98, z99, z100, z101, z102, z103, z104, z105, z106, z107, z108, z109, z110, z111, z112, z113, z114, z115, z116, z117, z118, z119, z120, z121, z122, z128, z132, z200, z240, z255, z372, z390625, z400, z420, z421, z422, z662, z900, z940, z999, z1000, z1024, z2000, z5860, z10000, z12345, z15625, z266240, z1048575, z1064960, z1103515245, z_m1, n_le, n_lt, n_eq, n_bit0, n_bit1, n_sbit0, n_shl, z_ltM, z_Mlt, z_leM, z_Mle, z_eqM, z_Meq, bI0, bI1, bI_01, bI_01t, bI_10, bI_10f, if_true, if_false, eq_self, reduceCtorEq, if_pos, if_neg, rc, rr, rn, rr3, rn3, rr4, l1, c1', gj, bI_t, bI_f, t1, z_sub, nI_add, c3, Nat.one_ne_zero]
      · rw [decide_eq_false c1, Bool.false_and] at gj
        have c1' : s < D := by omega
        simp (disch := first | assumption | omega) only [cX13_canGive_61, tk_gI, tk_gL, tk_gR, tk_pI, tk_pL, rv_aI, rv_aL, rv_aR, rv_uI, rv_uL, rv_uB, rv_uZ, pu_ckI, pu_ckL, pu_lnI, pu_lnL, tk_rI, tk_rL, Option.bind_some, Option.map_some, rv_lt, tk_ix, z0, z1, z2, z3, z4, z5, z6, z7, z8, z9, z10, z11, z12, z13, z15, z16, z17, z18, z20, z21, z23, z24, z25, z31, z32, z39, z40, z41, z46, z48, z50, z57, z59, z60, z61, z62, z63, z64, z97, z98, z99, z100, z101, z102, z103, z104, z105, z106, z107, z108, z109, z110, z111, z112, z113, z114, z115, z116, z117, z118, z119, z120, z121, z122, z128, z132, z200, z240, z255, z372, z390625, z400, z420, z421, z422, z662, z900, z940, z999, z1000, z1024, z2000, z5860, z10000, z12345, z15625, z266240, z1048575, z1064960, z1103515245, z_m1, n_le, n_lt, n_eq, n_bit0, n_bit1, n_sbit0, n_shl, z_ltM, z_Mlt, z_leM, z_Mle, z_eqM, z_Meq, bI0, bI1, bI_01, bI_01t, bI_10, bI_10f, if_true, if_false, eq_self, reduceCtorEq, if_pos, if_neg, rc, rr4, c1', gj, bI_f]
    · show (rv_sI S1 204 j _).2.1 204 t = _
      by_cases c : t = j
      · subst c; exact rv_sI_eq _ _ _ _
      · rw [rv_sI_k _ _ c]; exact h t (by omega)
  · obtain ⟨S1, x1, x2⟩ := x
    obtain ⟨hx, f, h⟩ := hx
    obtain ⟨rfl, rfl⟩ := Prod.mk.inj hx
    refine ⟨S1, ?_, f, h⟩
    show cX13_canGive_6 n (q + 1) S1 189 (nI i) (nI D) (nI s) (nI r) (bI (ex g 100)) (nI 100) = _
    rw [cX13_canGive_6]
    simp (disch := first | assumption | omega) only [z0, z1, z2, z3, z4, z5, z6, z7, z8, z9, z10, z11, z12, z13, z15, z16, z17, z18, z20, z21, z23, z24, z25, z31, z32, z39, z40, z41, z46, z48, z50, z57, z59, z60, z61, z62, z63, z64, z97, z98, z99, z100, z101, z102, z103, z104, z105, z106, z107, z108, z109, z110, z111, z112, z113, z114, z115, z116, z117, z118, z119, z120, z121, z122, z128, z132, z200, z240, z255, z372, z390625, z400, z420, z421, z422, z662, z900, z940, z999, z1000, z1024, z2000, z5860, z10000, z12345, z15625, z266240, z1048575, z1064960, z1103515245, z_m1, n_le, n_lt, n_eq, n_bit0, n_bit1, n_sbit0, n_shl, z_ltM, z_Mlt, z_leM, z_Mle, z_eqM, z_Meq, bI0, bI1, bI_01, bI_01t, bI_10, bI_10f, if_true, if_false, eq_self, reduceCtorEq, if_pos, if_neg, bo_bI, Option.bind_some]
theorem m_keeps (hn : 1100 ≤ n) (hB : rv_B S) {N X Y i : Nat} (hN : N ≤ 40) (hX : X ≤ 99) (hY : Y ≤ 99) (hi : i < N) (hT : TQ S e1 e2 d N X Y 0) {w : WS} (hs : w.1 ≤ X) (hr : w.2.1 ≤ 10000) (hl : ∀ t, w.2.2 t = true → t ≤ Y) (hL : LF S 203 w.2.2) {D : Nat} (eD : D = ddv e2 d i) (hD : D ≤ 1000) : ∃ S', fnX13_keepsOn n S 189 (nI i) (nI D) (nI w.1) (nI w.2.1) = some S' ∧ rvf [204] S S' ∧ LF S' 204 (kp e1 e2 d N i w) := by
  obtain ⟨s, r, l⟩ := w
  dsimp only at hs hr hl hL
  obtain ⟨g, eg⟩ : ∃ g, g = kp e1 e2 d N i (s, r, l) := ⟨_, rfl⟩
  have gt : ∀ t, g t = ((l t || (decide (t + D < 100) && l (t + D))) && decide (tg e1 e2 d N (N - (i + 1)) s t = r)) := fun t => by rw [eg, eD]; rfl
  rw [← eg, fnX13_keepsOn]
  refine lp (F := fun q (x : rvS × Int32) => cX13_keepsOn_3 n q x.1 189 (nI i) (nI D) (nI s) (nI r) x.2) (fun j x => x.2 = nI j ∧ rvf [204] S x.1 ∧ ∀ t, t < j → x.1.2.1 204 t = bI (g t)) (fun o => ∃ S', o = some S' ∧ rvf [204] S S' ∧ LF S' 204 g) 100 (fun j x q hj hx => Or.inr ?_) (fun x q hx => ?_) (i := 0) (x := (S, nI 0)) (q := n) (Nat.zero_le _) ⟨rfl, rvf.rf _ _, fun t h => absurd h (Nat.not_lt_zero t)⟩ (by omega)
  · obtain ⟨S1, x2⟩ := x
    obtain ⟨rfl, f, h⟩ := hx
    have f : rvf [204] S S1 := f
    have h : ∀ t, t < j → S1.2.1 204 t = bI (g t) := h
    have hB1 := f.B hB
    have rr := rf_of hB1 (show (189, 25, 200) ∈ rv_rf0 by decide)
    have rn := rn_200 hB1
    have rr3 := rf_of hB1 (show (189, 29, 203) ∈ rv_rf0 by decide)
    have rn3 := rn_203 hB1
    have rr4 := rf_of hB1 (show (189, 30, 204) ∈ rv_rf0 by decide)
    have rn4 := rn_204 hB1
    have rc := rc_189 hB1
    have l1 : S1.2.1 203 j = bI (l j) := (f.row rfl rfl j).trans (hL j hj)
    have gj := gt j
    obtain ⟨o, eo⟩ : ∃ o, o = (l j || (decide (j + D < 100) && l (j + D))) := ⟨_, rfl⟩
    rw [← eo] at gj
    have e46 : cX13_keepsOn_3 n (q + 1) S1 189 (nI i) (nI D) (nI s) (nI r) (nI j) = cX13_keepsOn_46 n (fun a0 x1 x2 x3 x4 x5 S => cX13_keepsOn_3 n q S a0 x1 x2 x3 x4 x5) S1 189 (nI i) (nI D) (nI s) (nI r) (nI j) (bI o) := by
      rw [cX13_keepsOn_3]
      cases c2 : l j
      · rw [c2, Bool.false_or] at eo
        rw [c2] at l1
        by_cases c3 : j + D < 100
        · rw [decide_eq_true c3, Bool.true_and] at eo
          have l2 : S1.2.1 203 (j + D) = bI (l (j + D)) := (f.row rfl rfl _).trans (hL _ c3)
          rw [eo]
          cases c4 : l (j + D)
          · rw [c4] at l2
            simp (disch := first | assumption | omega) only [cX13_keepsOn_41, cX13_keepsOn_45, tk_gI, tk_gL, tk_gR, tk_pI, tk_pL, rv_aI, rv_aL, rv_aR, rv_uI, rv_uL, rv_uB, rv_uZ, pu_ckI, pu_ckL, pu_lnI, pu_lnL, tk_rI, tk_rL, Option.bind_some, Option.map_some, rv_lt, tk_ix, z0, z1, z2, z3, z4, z5, z6, z7, z8, z9, z10, z11, z12, z13, z15, z16, z17, z18, z20, z21, z23, z24, z25, z31, z32, z39, z40, z41, z46, z48, z50, z57, z59, z60, z61, z62, z63, z64, z97, z98, z99, z100, z101, z102, z103, z104, z105, z106, z107, z108, z109, z110, z111, z112, z113, z114, z115, z116, z117, z118, z119, z120, z121, z122, z128, z132, z200, z240, z255, z372, z390625, z400, z420, z421, z422, z662, z900, z940, z999, z1000, z1024, z2000, z5860, z10000, z12345, z15625, z266240, z1048575, z1064960, z1103515245, z_m1, n_le, n_lt, n_eq, n_bit0, n_bit1, n_sbit0, n_shl, z_ltM, z_Mlt, z_leM, z_Mle, z_eqM, z_Meq, bI0, bI1, bI_01, bI_01t, bI_10, bI_10f, if_true, if_false, eq_self, reduceCtorEq, if_pos, if_neg, rc, rr3, rn3, nI_add, l1, l2, bI_f]
          · rw [c4] at l2
            simp (disch := first | assumption | omega) only [cX13_keepsOn_41, cX13_keepsOn_45, tk_gI, tk_gL, tk_gR, tk_pI, tk_pL, rv_aI, rv_aL, rv_aR, rv_uI, rv_uL, rv_uB, rv_uZ, pu_ckI, pu_ckL, pu_lnI, pu_lnL, tk_rI, tk_rL, Option.bind_some, Option.map_some, rv_lt, tk_ix, z0, z1, z2, z3, z4, z5, z6, z7, z8, z9, z10, z11, z12, z13, z15, z16, z17, z18, z20, z21, z23, z24, z25, z31, z32, z39, z40, z41, z46, z48, z50, z57, z59, z60, z61, z62, z63, z64, z97, z98, z99, z100, z101, z102, z103, z104, z105, z106, z107, z108, z109, z110, z111, z112, z113, z114, z115, z116, z117, z118, z119, z120, z121, z122, z128, z132, z200, z240, z255, z372, z390625, z400, z420, z421, z422, z662, z900, z940, z999, z1000, z1024, z2000, z5860, z10000, z12345, z15625, z266240, z1048575, z1064960, z1103515245, z_m1, n_le, n_lt, n_eq, n_bit0, n_bit1, n_sbit0, n_shl, z_ltM, z_Mlt, z_leM, z_Mle, z_eqM, z_Meq, bI0, bI1, bI_01, bI_01t, bI_10, bI_10f, if_true, if_false, eq_self, reduceCtorEq, if_pos, if_neg, rc, rr3, rn3, nI_add, l1, l2, bI_f, bI_t, Nat.one_ne_zero]
        · rw [decide_eq_false c3, Bool.false_and] at eo
          rw [eo]
          have c3' : 100 ≤ j + D := by omega
          simp (disch := first | assumption | omega) only [cX13_keepsOn_41, cX13_keepsOn_45, tk_gI, tk_gL, tk_gR, tk_pI, tk_pL, rv_aI, rv_aL, rv_aR, rv_uI, rv_uL, rv_uB, rv_uZ, pu_ckI, pu_ckL, pu_lnI, pu_lnL, tk_rI, tk_rL, Option.bind_some, Option.map_some, rv_lt, tk_ix, z0, z1, z2, z3, z4, z5, z6, z7, z8, z9, z10, z11, z12, z13, z15, z16, z17, z18, z20, z21, z23, z24, z25, z31, z32, z39, z40, z41, z46, z48, z50, z57, z59, z60, z61, z62, z63, z64, z97, z98, z99, z100, z101, z102, z103, z104, z105, z106, z107, z108, z109, z110, z111, z112, z113, z114, z115, z116, z117, z118, z119, z120, z121, z122, z128, z132, z200, z240, z255, z372, z390625, z400, z420, z421, z422, z662, z900, z940, z999, z1000, z1024, z2000, z5860, z10000, z12345, z15625, z266240, z1048575, z1064960, z1103515245, z_m1, n_le, n_lt, n_eq, n_bit0, n_bit1, n_sbit0, n_shl, z_ltM, z_Mlt, z_leM, z_Mle, z_eqM, z_Meq, bI0, bI1, bI_01, bI_01t, bI_10, bI_10f, if_true, if_false, eq_self, reduceCtorEq, if_pos, if_neg, rc, rr3, rn3, nI_add, l1, bI_f, c3']
      · rw [c2, Bool.true_or] at eo
        rw [c2] at l1
        rw [eo]
        simp (disch := first | assumption | omega) only [cX13_keepsOn_41, cX13_keepsOn_45, tk_gI, tk_gL, tk_gR, tk_pI, tk_pL, rv_aI, rv_aL, rv_aR, rv_uI, rv_uL, rv_uB, rv_uZ, pu_ckI, pu_ckL, pu_lnI, pu_lnL, tk_rI, tk_rL, Option.bind_some, Option.map_some, rv_lt, tk_ix, z0, z1, z2, z3, z4, z5, z6, z7, z8, z9, z10, z11, z12, z13, z15, z16, z17, z18, z20, z21, z23, z24, z25, z31, z32, z39, z40, z41, z46, z48, z50, z57, z59, z60, z61, z62, z63, z64, z97, z98, z99, z100, z101, z102, z103, z104, z105, z106, z107, z108, z109, z110, z111, z112, z113, z114, z115, z116, z117, z118, z119, z120, z121, z122, z128, z132, z200, z240, z255, z372, z390625, z400, z420, z421, z422, z662, z900, z940, z999, z1000, z1024, z2000, z5860, z10000, z12345, z15625, z266240, z1048575, z1064960, z1103515245, z_m1, n_le, n_lt, n_eq, n_bit0, n_bit1, n_sbit0, n_shl, z_ltM, z_Mlt, z_leM, z_Mle, z_eqM, z_Meq, bI0, bI1, bI_01, bI_01t, bI_10, bI_10f, if_true, if_false, eq_self, reduceCtorEq, if_pos, if_neg, rc, rr3, rn3, nI_add, l1, bI_t, Nat.one_ne_zero]
    have hoy : o = true → j ≤ Y := fun z => by
      rw [eo, Bool.or_eq_true, Bool.and_eq_true] at z
      rcases z with z | z
      · exact hl j z
      · have := hl _ z.2; omega
    refine ⟨(rv_sI S1 204 j (bI (g j)), nI (j + 1)), ?_, rfl, f.w rfl rfl, fun t ht => ?_⟩
    · show cX13_keepsOn_3 n (q + 1) S1 189 (nI i) (nI D) (nI s) (nI r) (nI j) = cX13_keepsOn_3 n q _ 189 (nI i) (nI D) (nI s) (nI r) (nI (j + 1))
      rw [e46, cX13_keepsOn_46]
      cases co : o
      · rw [co, Bool.false_and] at gj
        simp (disch := first | assumption | omega) only [tk_gI, tk_gL, tk_gR, tk_pI, tk_pL, rv_aI, rv_aL, rv_aR, rv_uI, rv_uL, rv_uB, rv_uZ, pu_ckI, pu_ckL, pu_lnI, pu_lnL, tk_rI, tk_rL, Option.bind_some, Option.map_some, rv_lt, tk_ix, z0, z1, z2, z3, z4, z5, z6, z7, z8, z9, z10, z11, z12, z13, z15, z16, z17, z18, z20, z21, z23, z24, z25, z31, z32, z39, z40, z41, z46, z48, z50, z57, z59, z60, z61, z62, z63, z64, z97, z98, z99, z100, z101, z102, z103, z104, z105, z106, z107, z108, z109, z110, z111, z112, z113, z114, z115, z116, z117, z118, z119, z120, z121, z122, z128, z132, z200, z240, z255, z372, z390625, z400, z420, z421, z422, z662, z900, z940, z999, z1000, z1024, z2000, z5860, z10000, z12345, z15625, z266240, z1048575, z1064960, z1103515245, z_m1, n_le, n_lt, n_eq, n_bit0, n_bit1, n_sbit0, n_shl, z_ltM, z_Mlt, z_leM, z_Mle, z_eqM, z_Meq, bI0, bI1, bI_01, bI_01t, bI_10, bI_10f, if_true, if_false, eq_self, reduceCtorEq, if_pos, if_neg, rc, rr4, rn4, nI_add, bI_f, gj, z_nar0]
      · rw [co, Bool.true_and] at gj
        have t1 := (hT.f f rfl) (i + 1) (Nat.zero_le _) (by omega) s j hs (hoy co)
        have tc := tg_cap (e1 := e1) (e2 := e2) (d := d) (N := N) (N - (i + 1)) s j
        by_cases c3 : tg e1 e2 d N (N - (i + 1)) s j = r
        · rw [decide_eq_true c3] at gj
          simp (disch := first | assumption | omega) only [m_two0, tk_gI, tk_gL, tk_gR, tk_pI, tk_pL, rv_aI, rv_aL, rv_aR, rv_uI, rv_uL, rv_uB, rv_uZ, pu_ckI, pu_ckL, pu_lnI, pu_lnL, tk_rI, tk_rL, Option.bind_some, Option.map_some, rv_lt, tk_ix, z0, z1, z2, z3, z4, z5, z6, z7, z8, z9, z10, z11, z12, z13, z15, z16, z17, z18, z20, z21, z23, z24, z25, z31, z32, z39, z40, z41, z46, z48, z50, z57, z59, z60, z61, z62, z63, z64, z97, z98, z99, z100, z101, z102, z103, z104, z105, z106, z107, z108, z109, z110, z111, z112, z113, z114, z115, z116, z117, z118, z119, z120, z121, z122, z128, z132, z200, z240, z255, z372, z390625, z400, z420, z421, z422, z662, z900, z940, z999, z1000, z1024, z2000, z5860, z10000, z12345, z15625, z266240, z1048575, z1064960, z1103515245, z_m1, n_le, n_lt, n_eq, n_bit0, n_bit1, n_sbit0, n_shl, z_ltM, z_Mlt, z_leM, z_Mle, z_eqM, z_Meq, bI0, bI1, bI_01, bI_01t, bI_10, bI_10f, if_true, if_false, eq_self, reduceCtorEq, if_pos, if_neg, rc, rr, rn, rr4, rn4, nI_add, bI_t, gj, z_nar1, t1, c3, Nat.one_ne_zero]
        · rw [decide_eq_false c3] at gj
          simp (disch := first | assumption | omega) only [m_two0, tk_gI, tk_gL, tk_gR, tk_pI, tk_pL, rv_aI, rv_aL, rv_aR, rv_uI, rv_uL, rv_uB, rv_uZ, pu_ckI, pu_ckL, pu_lnI, pu_lnL, tk_rI, tk_rL, Option.bind_some, Option.map_some, rv_lt, tk_ix, z0, z1, z2, z3, z4, z5, z6, z7, z8, z9, z10, z11, z12, z13, z15, z16, z17, z18, z20, z21, z23, z24, z25, z31, z32, z39, z40, z41, z46, z48, z50, z57, z59, z60, z61, z62, z63, z64, z97, z98, z99, z100, z101, z102, z103, z104, z105, z106, z107, z108, z109, z110, z111, z112, z113, z114, z115, z116, z117, z118, z119, z120, z121, z122, z128, z132, z200, z240, z255, z372, z390625, z400, z420, z421, z422, z662, z900, z940, z999, z1000, z1024, z2000, z5860, z10000, z12345, z15625, z266240, z1048575, z1064960, z1103515245, z_m1, n_le, n_lt, n_eq, n_bit0, n_bit1, n_sbit0, n_shl, z_ltM, z_Mlt, z_leM, z_Mle, z_eqM, z_Meq, bI0, bI1, bI_01, bI_01t, bI_10, bI_10f, if_true, if_false, eq_self, reduceCtorEq, if_pos, if_neg, rc, rr, rn, rr4, rn4, nI_add, bI_f, bI_t, gj, z_nar0, t1, c3, Nat.one_ne_zero]
    · show (rv_sI S1 204 j _).2.1 204 t = _
      by_cases c : t = j
      · subst c; exact rv_sI_eq _ _ _ _
      · rw [rv_sI_k _ _ c]; exact h t (by omega)
  · obtain ⟨S1, x2⟩ := x
    obtain ⟨rfl, f, h⟩ := hx
    refine ⟨S1, ?_, f, h⟩
    show cX13_keepsOn_3 n (q + 1) S1 189 (nI i) (nI D) (nI s) (nI r) (nI 100) = _
    rw [cX13_keepsOn_3]
    simp (disch := first | assumption | omega) only [z0, z1, z2, z3, z4, z5, z6, z7, z8, z9, z10, z11, z12, z13, z15, z16, z17, z18, z20, z21, z23, z24, z25, z31, z32, z39, z40, z41, z46, z48, z50, z57, z59, z60, z61, z62, z63, z64, z97, z98, z99, z100, z101, z102, z103, z104, z105, z106, z107, z108, z109, z110, z111, z112, z113, z114, z115, z116, z117, z118, z119, z120, z121, z122, z128, z132, z200, z240, z255, z372, z390625, z400, z420, z421, z422, z662, z900, z940, z999, z1000, z1024, z2000, z5860, z10000, z12345, z15625, z266240, z1048575, z1064960, z1103515245, z_m1, n_le, n_lt, n_eq, n_bit0, n_bit1, n_sbit0, n_shl, z_ltM, z_Mlt, z_leM, z_Mle, z_eqM, z_Meq, bI0, bI1, bI_01, bI_01t, bI_10, bI_10f, if_true, if_false, eq_self, reduceCtorEq, if_pos, if_neg]
theorem m_cp (hn : 1100 ≤ n) (hB : rv_B S) {g : Nat → Bool} (hL : LF S 204 g) {i : Nat} (hi : i < 40) (K138 : Nat → Int32 → Int32 → Int32 → Int32 → Int32 → Int32 → Int32 → rvS → Option (Int32 × rvS)) (x1 x2 x4 x6 x7 x8 : Int32) : ∃ S', cX13_keep_262 n K138 n S 189 x1 x2 x4 x6 x7 x8 (nI i) (nI 0) = K138 189 x1 x2 x4 x6 x7 x8 (nI (i + 1)) S' ∧ rvf [203] S S' ∧ LF S' 203 g := by
  refine lp (F := fun q (x : rvS × Int32) => cX13_keep_262 n K138 q x.1 189 x1 x2 x4 x6 x7 x8 (nI i) x.2) (fun j x => x.2 = nI j ∧ rvf [203] S x.1 ∧ ∀ t, t < j → x.1.2.1 203 t = bI (g t)) (fun o => ∃ S', o = K138 189 x1 x2 x4 x6 x7 x8 (nI (i + 1)) S' ∧ rvf [203] S S' ∧ LF S' 203 g) 100 (fun j x q hj hx => Or.inr ?_) (fun x q hx => ?_) (i := 0) (x := (S, nI 0)) (q := n) (Nat.zero_le _) ⟨rfl, rvf.rf _ _, fun t h => absurd h (Nat.not_lt_zero t)⟩ (by omega)
  · obtain ⟨S1, x2'⟩ := x
    obtain ⟨rfl, f, h⟩ := hx
    have f : rvf [203] S S1 := f
    have h : ∀ t, t < j → S1.2.1 203 t = bI (g t) := h
    have hB1 := f.B hB
    have rr3 := rf_of hB1 (show (189, 29, 203) ∈ rv_rf0 by decide)
    have rn3 := rn_203 hB1
    have rr4 := rf_of hB1 (show (189, 30, 204) ∈ rv_rf0 by decide)
    have rn4 := rn_204 hB1
    have rc := rc_189 hB1
    have l1 : S1.2.1 204 j = bI (g j) := (f.row rfl rfl j).trans (hL j hj)
    refine ⟨(rv_sI S1 203 j (bI (g j)), nI (j + 1)), ?_, rfl, f.w rfl rfl, fun t ht => ?_⟩
    · show cX13_keep_262 n K138 (q + 1) S1 189 x1 x2 x4 x6 x7 x8 (nI i) (nI j) = cX13_keep_262 n K138 q _ 189 x1 x2 x4 x6 x7 x8 (nI i) (nI (j + 1))
      rw [cX13_keep_262]
      simp (disch := first | assumption | omega) only [tk_gI, tk_gL, tk_gR, tk_pI, tk_pL, rv_aI, rv_aL, rv_aR, rv_uI, rv_uL, rv_uB, rv_uZ, pu_ckI, pu_ckL, pu_lnI, pu_lnL, tk_rI, tk_rL, Option.bind_some, Option.map_some, rv_lt, tk_ix, z0, z1, z2, z3, z4, z5, z6, z7, z8, z9, z10, z11, z12, z13, z15, z16, z17, z18, z20, z21, z23, z24, z25, z31, z32, z39, z40, z41, z46, z48, z50, z57, z59, z60, z61, z62, z63, z64, z97, z98, z99, z100, z101, z102, z103, z104, z105, z106, z107, z108, z109, z110, z111, z112, z113, z114, z115, z116, z117, z118, z119, z120, z121, z122, z128, z132, z200, z240, z255, z372, z390625, z400, z420, z421, z422, z662, z900, z940, z999, z1000, z1024, z2000, z5860, z10000, z12345, z15625, z266240, z1048575, z1064960, z1103515245, z_m1, n_le, n_lt, n_eq, n_bit0, n_bit1, n_sbit0, n_shl, z_ltM, z_Mlt, z_leM, z_Mle, z_eqM, z_Meq, bI0, bI1, bI_01, bI_01t, bI_10, bI_10f, if_true, if_false, eq_self, reduceCtorEq, if_pos, if_neg, rc, rr3, rn3, rr4, rn4, nI_add, l1, z_nar]
    · show (rv_sI S1 203 j _).2.1 203 t = _
      by_cases c : t = j
      · subst c; exact rv_sI_eq _ _ _ _
      · rw [rv_sI_k _ _ c]; exact h t (by omega)
  · obtain ⟨S1, x2'⟩ := x
    obtain ⟨rfl, f, h⟩ := hx
    refine ⟨S1, ?_, f, h⟩
    show cX13_keep_262 n K138 (q + 1) S1 189 x1 x2 x4 x6 x7 x8 (nI i) (nI 100) = _
    rw [cX13_keep_262]
    simp (disch := first | assumption | omega) only [tk_gI, tk_gL, tk_gR, tk_pI, tk_pL, rv_aI, rv_aL, rv_aR, rv_uI, rv_uL, rv_uB, rv_uZ, pu_ckI, pu_ckL, pu_lnI, pu_lnL, tk_rI, tk_rL, Option.bind_some, Option.map_some, rv_lt, tk_ix, z0, z1, z2, z3, z4, z5, z6, z7, z8, z9, z10, z11, z12, z13, z15, z16, z17, z18, z20, z21, z23, z24, z25, z31, z32, z39, z40, z41, z46, z48, z50, z57, z59, z60, z61, z62, z63, z64, z97, z98, z99, z100, z101, z102, z103, z104, z105, z106, z107, z108, z109, z110, z111, z112, z113, z114, z115, z116, z117, z118, z119, z120, z121, z122, z128, z132, z200, z240, z255, z372, z390625, z400, z420, z421, z422, z662, z900, z940, z999, z1000, z1024, z2000, z5860, z10000, z12345, z15625, z266240, z1048575, z1064960, z1103515245, z_m1, n_le, n_lt, n_eq, n_bit0, n_bit1, n_sbit0, n_shl, z_ltM, z_Mlt, z_leM, z_Mle, z_eqM, z_Meq, bI0, bI1, bI_01, bI_01t, bI_10, bI_10f, if_true, if_false, eq_self, reduceCtorEq, if_pos, if_neg, nI_add]
theorem m_lefts (hn : 1100 ≤ n) (hB : rv_B S) {Y : Nat} (hY : Y ≤ 99) (a b X c R F : Int32) : ∃ S', cX13_keep_100 n n S 189 a b X c (nI Y) R F (nI 0) = cX13_keep_138 n n S' 189 a b c R F X (nI 0) ∧ rvf [203] S S' ∧ LF S' 203 (fun t => decide (t = Y)) := by
  refine lp (F := fun q (x : rvS × Int32) => cX13_keep_100 n q x.1 189 a b X c (nI Y) R F x.2) (fun j x => x.2 = nI j ∧ rvf [203] S x.1 ∧ ∀ t, t < j → x.1.2.1 203 t = bI (decide (t = Y))) (fun o => ∃ S', o = cX13_keep_138 n n S' 189 a b c R F X (nI 0) ∧ rvf [203] S S' ∧ LF S' 203 (fun t => decide (t = Y))) 100 (fun j x q hj hx => Or.inr ?_) (fun x q hx => ?_) (i := 0) (x := (S, nI 0)) (q := n) (Nat.zero_le _) ⟨rfl, rvf.rf _ _, fun t h => absurd h (Nat.not_lt_zero t)⟩ (by omega)
  · obtain ⟨S1, x2'⟩ := x
    obtain ⟨rfl, f, h⟩ := hx
    have f : rvf [203] S S1 := f
    have h : ∀ t, t < j → S1.2.1 203 t = bI (decide (t = Y)) := h
    have hB1 := f.B hB
    have rr3 := rf_of hB1 (show (189, 29, 203) ∈ rv_rf0 by decide)
    have rn3 := rn_203 hB1
    have rc := rc_189 hB1
    refine ⟨(rv_sI S1 203 j (bI (decide (j = Y))), nI (j + 1)), ?_, rfl, f.w rfl rfl, fun t ht => ?_⟩
    · show cX13_keep_100 n (q + 1) S1 189 a b X c (nI Y) R F (nI j) = cX13_keep_100 n q _ 189 a b X c (nI Y) R F (nI (j + 1))
      rw [cX13_keep_100]
      by_cases cc : j = Y
      · rw [decide_eq_true cc]
        simp (disch := first | assumption | omega) only [tk_gI, tk_gL, tk_gR, tk_pI, tk_pL, rv_aI, rv_aL, rv_aR, rv_uI, rv_uL, rv_uB, rv_uZ, pu_ckI, pu_ckL, pu_lnI, pu_lnL, tk_rI, tk_rL, Option.bind_some, Option.map_some, rv_lt, tk_ix, z0, z1, z2, z3, z4, z5, z6, z7, z8, z9, z10, z11, z12, z13, z15, z16, z17, z18, z20, z21, z23, z24, z25, z31, z32, z39, z40, z41, z46, z48, z50, z57, z59, z60, z61, z62, z63, z64, z97, z98, z99, z100, z101, z102, z103, z104, z105, z106, z107, z108, z109, z110, z111, z112, z113, z114, z115, z116, z117, z118, z119, z120, z121, z122, z128, z132, z200, z240, z255, z372, z390625, z400, z420, z421, z422, z662, z900, z940, z999, z1000, z1024, z2000, z5860, z10000, z12345, z15625, z266240, z1048575, z1064960, z1103515245, z_m1, n_le, n_lt, n_eq, n_bit0, n_bit1, n_sbit0, n_shl, z_ltM, z_Mlt, z_leM, z_Mle, z_eqM, z_Meq, bI0, bI1, bI_01, bI_01t, bI_10, bI_10f, if_true, if_false, eq_self, reduceCtorEq, if_pos, if_neg, rc, rr3, rn3, nI_add, z_nar1, bI_t, cc]
      · rw [decide_eq_false cc]
        simp (disch := first | assumption | omega) only [tk_gI, tk_gL, tk_gR, tk_pI, tk_pL, rv_aI, rv_aL, rv_aR, rv_uI, rv_uL, rv_uB, rv_uZ, pu_ckI, pu_ckL, pu_lnI, pu_lnL, tk_rI, tk_rL, Option.bind_some, Option.map_some, rv_lt, tk_ix, z0, z1, z2, z3, z4, z5, z6, z7, z8, z9, z10, z11, z12, z13, z15, z16, z17, z18, z20, z21, z23, z24, z25, z31, z32, z39, z40, z41, z46, z48, z50, z57, z59, z60, z61, z62, z63, z64, z97, z98, z99, z100, z101, z102, z103, z104, z105, z106, z107, z108, z109, z110, z111, z112, z113, z114, z115, z116, z117, z118, z119, z120, z121, z122, z128, z132, z200, z240, z255, z372, z390625, z400, z420, z421, z422, z662, z900, z940, z999, z1000, z1024, z2000, z5860, z10000, z12345, z15625, z266240, z1048575, z1064960, z1103515245, z_m1, n_le, n_lt, n_eq, n_bit0, n_bit1, n_sbit0, n_shl, z_ltM, z_Mlt, z_leM, z_Mle, z_eqM, z_Meq, bI0, bI1, bI_01, bI_01t, bI_10, bI_10f, if_true, if_false, eq_self, reduceCtorEq, if_pos, if_neg, rc, rr3, rn3, nI_add, z_nar0, bI_f, cc]
    · show (rv_sI S1 203 j _).2.1 203 t = _
      by_cases c : t = j
      · subst c; exact rv_sI_eq _ _ _ _
      · rw [rv_sI_k _ _ c]; exact h t (by omega)
  · obtain ⟨S1, x2'⟩ := x
    obtain ⟨rfl, f, h⟩ := hx
    refine ⟨S1, ?_, f, h⟩
    show cX13_keep_100 n (q + 1) S1 189 a b X c (nI Y) R F (nI 100) = _
    rw [cX13_keep_100]
    simp (disch := first | assumption | omega) only [tk_gI, tk_gL, tk_gR, tk_pI, tk_pL, rv_aI, rv_aL, rv_aR, rv_uI, rv_uL, rv_uB, rv_uZ, pu_ckI, pu_ckL, pu_lnI, pu_lnL, tk_rI, tk_rL, Option.bind_some, Option.map_some, rv_lt, tk_ix, z0, z1, z2, z3, z4, z5, z6, z7, z8, z9, z10, z11, z12, z13, z15, z16, z17, z18, z20, z21, z23, z24, z25, z31, z32, z39, z40, z41, z46, z48, z50, z57, z59, z60, z61, z62, z63, z64, z97, z98, z99, z100, z101, z102, z103, z104, z105, z106, z107, z108, z109, z110, z111, z112, z113, z114, z115, z116, z117, z118, z119, z120, z121, z122, z128, z132, z200, z240, z255, z372, z390625, z400, z420, z421, z422, z662, z900, z940, z999, z1000, z1024, z2000, z5860, z10000, z12345, z15625, z266240, z1048575, z1064960, z1103515245, z_m1, n_le, n_lt, n_eq, n_bit0, n_bit1, n_sbit0, n_shl, z_ltM, z_Mlt, z_leM, z_Mle, z_eqM, z_Meq, bI0, bI1, bI_01, bI_01t, bI_10, bI_10f, if_true, if_false, eq_self, reduceCtorEq, if_pos, if_neg]
theorem m_kstep (hn : 1100 ≤ n) (hB : rv_B S) (hM : MR S m) (hp : okp m) (hc : okc m) {a b c X Y i : Nat} (ha : a < vW m) (hb : b < vW m) (hcc : c < vW m) (hX : X ≤ 99) (hY : Y ≤ 99) (hi : i < vC m) (hT : TQ S (gz m a b) (gz m a c) (va m) (vC m) X Y 0) {w w' : WS} (hw' : w' = if ex (gv (gz m a b) (gz m a c) (va m) (vC m) i w) 100 = true then (w.1 - ddv (gz m a b) (va m) i, w.2.1 - 1, gv (gz m a b) (gz m a c) (va m) (vC m) i w) else (w.1, w.2.1, kp (gz m a b) (gz m a c) (va m) (vC m) i w)) (hs : w.1 ≤ X) (hr : w.2.1 ≤ 10000) (hl : ∀ t, w.2.2 t = true → t ≤ Y) (hL : LF S 203 w.2.2) (F : Int32) (q : Nat) :
    ∃ S', cX13_keep_138 n (q + 1) S 189 (nI a) (nI b) (nI c) (nI w.2.1) F (nI w.1) (nI i) = cX13_keep_138 n q S' 189 (nI a) (nI b) (nI c) (nI w'.2.1) F (nI w'.1) (nI (i + 1)) ∧ rvf [199, 202, 203, 204] S S' ∧ LF S' 203 w'.2.2 ∧ S'.2.1 202 i = bI (ex (gv (gz m a b) (gz m a c) (va m) (vC m) i w) 100) ∧ ∀ k, k ≠ i → S'.2.1 202 k = S.2.1 202 k := by
  have h24 := hp.1
  have h40 := hc.1
  have hv := (hc.2.2 i (by omega)).2.1
  obtain ⟨S1, e1', f1⟩ := m_isFor (n := n) (by omega) hB hM hp hc (c := i) (by omega) (a := a) (by omega) hb
  have e1' : fnX13_isFor n S 189 (nI i) (nI a) (nI b) = some (bI (gz m a b i), S1) := e1'
  have hB1 := f1.B hB
  have hM1 := hM.f f1 rfl
  obtain ⟨D1, eD1⟩ : ∃ D1, D1 = ddv (gz m a b) (va m) i := ⟨_, rfl⟩
  obtain ⟨D2, eD2⟩ : ∃ D2, D2 = ddv (gz m a c) (va m) i := ⟨_, rfl⟩
  have l1 : D1 ≤ 1000 := by rw [eD1]; exact ddv_1000 hc (by omega)
  have l2 : D2 ≤ 1000 := by rw [eD2]; exact ddv_1000 hc (by omega)
  have hL1 : LF S1 203 w.2.2 := fun t ht => (f1.row rfl rfl t).trans (hL t ht)
  obtain ⟨S2, e2', f2, g2⟩ := m_give hn hB1 h40 hX hY hi (hT.f f1 rfl) hs hr hl hL1 eD1 l1
  have hB2 := f2.B hB1
  have hM2 := hM1.f f2 rfl
  have va1 := m_va (n := n) hB1 hM1 (c := i) (by omega)
  have rq : ∀ T, rv_B T → T.2.2.2 189 27 = some 202 := fun T hT => rf_of hT (by decide)
  obtain ⟨K, eK⟩ : ∃ K, K = (fun a0 x1 x2 x4 x6 x7 x8 x9 S => cX13_keep_138 n q S a0 x1 x2 x4 x6 x7 x8 x9) := ⟨_, rfl⟩
  have top : cX13_keep_138 n (q + 1) S 189 (nI a) (nI b) (nI c) (nI w.2.1) F (nI w.1) (nI i) = cX13_keep_171 n K S1 189 (nI a) (nI b) (nI c) (nI w.2.1) F (nI w.1) (nI i) (nI D1) := by
    rw [cX13_keep_138, ← eK]
    rw [ddv] at eD1
    cases c1 : gz m a b i
    · rw [c1, if_neg nft] at eD1
      rw [c1] at e1'
      simp (disch := first | assumption | omega) only [tk_gI, tk_gL, tk_gR, tk_pI, tk_pL, rv_aI, rv_aL, rv_aR, rv_uI, rv_uL, rv_uB, rv_uZ, pu_ckI, pu_ckL, pu_lnI, pu_lnL, tk_rI, tk_rL, Option.bind_some, Option.map_some, rv_lt, tk_ix, z0, z1, z2, z3, z4, z5, z6, z7, z8, z9, z10, z11, z12, z13, z15, z16, z17, z18, z20, z21, z23, z24, z25, z31, z32, z39, z40, z41, z46, z48, z50, z57, z59, z60, z61, z62, z63, z64, z97, z98, z99, z100, z101, z102, z103, z104, z105, z106, z107, z108, z109, z110, z111, z112, z113, z114, z115, z116, z117, z118, z119, z120, z121, z122, z128, z132, z200, z240, z255, z372, z390625, z400, z420, z421, z422, z662, z900, z940, z999, z1000, z1024, z2000, z5860, z10000, z12345, z15625, z266240, z1048575, z1064960, z1103515245, z_m1, n_le, n_lt, n_eq, n_bit0, n_bit1, n_sbit0, n_shl, z_ltM, z_Mlt, z_leM, z_Mle, z_eqM, z_Meq, bI0, bI1, bI_01, bI_01t, bI_10, bI_10f, if_true, if_false, eq_self, reduceCtorEq, if_pos, if_neg, rc_189 hB, m_coins hB hM, e1', bp_s, bI_f, eD1]
    · rw [c1, if_pos rfl] at eD1
      rw [c1] at e1'
      simp (disch := first | assumption | omega) only [tk_gI, tk_gL, tk_gR, tk_pI, tk_pL, rv_aI, rv_aL, rv_aR, rv_uI, rv_uL, rv_uB, rv_uZ, pu_ckI, pu_ckL, pu_lnI, pu_lnL, tk_rI, tk_rL, Option.bind_some, Option.map_some, rv_lt, tk_ix, z0, z1, z2, z3, z4, z5, z6, z7, z8, z9, z10, z11, z12, z13, z15, z16, z17, z18, z20, z21, z23, z24, z25, z31, z32, z39, z40, z41, z46, z48, z50, z57, z59, z60, z61, z62, z63, z64, z97, z98, z99, z100, z101, z102, z103, z104, z105, z106, z107, z108, z109, z110, z111, z112, z113, z114, z115, z116, z117, z118, z119, z120, z121, z122, z128, z132, z200, z240, z255, z372, z390625, z400, z420, z421, z422, z662, z900, z940, z999, z1000, z1024, z2000, z5860, z10000, z12345, z15625, z266240, z1048575, z1064960, z1103515245, z_m1, n_le, n_lt, n_eq, n_bit0, n_bit1, n_sbit0, n_shl, z_ltM, z_Mlt, z_leM, z_Mle, z_eqM, z_Meq, bI0, bI1, bI_01, bI_01t, bI_10, bI_10f, if_true, if_false, eq_self, reduceCtorEq, if_pos, if_neg, rc_189 hB, rc_189 hB1, m_coins hB hM, e1', bp_s, bI_t, eD1, va1, Nat.one_ne_zero]
  rw [top, cX13_keep_171, rc_189 hB1, Option.bind_some, e2', bp_s]
  obtain ⟨s, r, l⟩ := w
  dsimp only at hs hr hl hL hL1 hw' e2' g2 ⊢
  cases cb : ex (gv (gz m a b) (gz m a c) (va m) (vC m) i (s, r, l)) 100
  · rw [cb, if_neg nft] at hw'
    subst hw'
    dsimp only
    obtain ⟨S3, e3', f3⟩ := m_isFor (n := n) (by omega) hB2 hM2 hp hc (c := i) (by omega) (a := a) (by omega) hcc
    have e3' : fnX13_isFor n S2 189 (nI i) (nI a) (nI c) = some (bI (gz m a c i), S3) := e3'
    have hB3 := f3.B hB2
    have hM3 := hM2.f f3 rfl
    have f13 : rvf [199, 204] S S3 := (f1.mono rfl).tr ((f2.mono rfl).tr (f3.mono rfl))
    have hL3 : LF S3 203 l := fun t ht => (f13.row rfl rfl t).trans (hL t ht)
    obtain ⟨S4, e4', f4, g4⟩ := m_keeps hn hB3 (w := (s, r, l)) h40 hX hY hi (hT.f f13 rfl) hs hr hl hL3 eD2 l2
    have hB4 := f4.B hB3
    obtain ⟨S5, eS5⟩ : ∃ S5, S5 = rv_sI S4 202 i (nI 0) := ⟨_, rfl⟩
    have f5 : rvf [202] S4 S5 := by rw [eS5]; exact (rvf.rf _ _).w rfl rfl
    have hB5 := f5.B hB4
    have g5 : LF S5 204 (kp (gz m a b) (gz m a c) (va m) (vC m) i (s, r, l)) := fun t ht => (f5.row rfl rfl t).trans (g4 t ht)
    obtain ⟨S6, e6', f6, g6⟩ := m_cp hn hB5 g5 (i := i) (by omega) K (nI a) (nI b) (nI c) (nI r) F (nI s)
    refine ⟨S6, ?_, (f13.mono rfl).tr ((f4.mono rfl).tr ((f5.mono rfl).tr (f6.mono rfl))), g6, ?_, fun k hk => ?_⟩
    · rw [show cX13_keep_138 n q S6 189 (nI a) (nI b) (nI c) (nI r) F (nI s) (nI (i + 1)) = K 189 (nI a) (nI b) (nI c) (nI r) F (nI s) (nI (i + 1)) S6 by rw [eK], ← e6']
      have va3 := m_va (n := n) hB3 hM3 (c := i) (by omega)
      rw [ddv] at eD2
      rw [if_pos (show bI false = 0 from rfl)]
      cases c2 : gz m a c i
      · rw [c2, if_neg nft] at eD2
        rw [c2] at e3'
        rw [eD2] at e4'
        simp (disch := first | assumption | omega) only [cX13_keep_220, cX13_keep_227, cX13_keep_242, tk_gI, tk_gL, tk_gR, tk_pI, tk_pL, rv_aI, rv_aL, rv_aR, rv_uI, rv_uL, rv_uB, rv_uZ, pu_ckI, pu_ckL, pu_lnI, pu_lnL, tk_rI, tk_rL, Option.bind_some, Option.map_some, rv_lt, tk_ix, z0, z1, z2, z3, z4, z5, z6, z7, z8, z9, z10, z11, z12, z13, z15, z16, z17, z18, z20, z21, z23, z24, z25, z31, z32, z39, z40, z41, z46, z48, z50, z57, z59, z60, z61, z62, z63, z64, z97, z98, z99, z100, z101, z102, z103, z104, z105, z106, z107, z108, z109, z110, z111, z112, z113, z114, z115, z116, z117, z118, z119, z120, z121, z122, z128, z132, z200, z240, z255, z372, z390625, z400, z420, z421, z422, z662, z900, z940, z999, z1000, z1024, z2000, z5860, z10000, z12345, z15625, z266240, z1048575, z1064960, z1103515245, z_m1, n_le, n_lt, n_eq, n_bit0, n_bit1, n_sbit0, n_shl, z_ltM, z_Mlt, z_leM, z_Mle, z_eqM, z_Meq, bI0, bI1, bI_01, bI_01t, bI_10, bI_10f, if_true, if_false, eq_self, reduceCtorEq, if_pos, if_neg, rc_189 hB2, rc_189 hB3, rc_189 hB4, e3', bp_s, bI_f, e4', rq S4 hB4, rn_202 hB4, ← eS5]
      · rw [c2, if_pos rfl] at eD2
        rw [c2] at e3'
        rw [eD2] at e4'
        simp (disch := first | assumption | omega) only [cX13_keep_220, cX13_keep_227, cX13_keep_242, tk_gI, tk_gL, tk_gR, tk_pI, tk_pL, rv_aI, rv_aL, rv_aR, rv_uI, rv_uL, rv_uB, rv_uZ, pu_ckI, pu_ckL, pu_lnI, pu_lnL, tk_rI, tk_rL, Option.bind_some, Option.map_some, rv_lt, tk_ix, z0, z1, z2, z3, z4, z5, z6, z7, z8, z9, z10, z11, z12, z13, z15, z16, z17, z18, z20, z21, z23, z24, z25, z31, z32, z39, z40, z41, z46, z48, z50, z57, z59, z60, z61, z62, z63, z64, z97, z98, z99, z100, z101, z102, z103, z104, z105, z106, z107, z108, z109, z110, z111, z112, z113, z114, z115, z116, z117, z118, z119, z120, z121, z122, z128, z132, z200, z240, z255, z372, z390625, z400, z420, z421, z422, z662, z900, z940, z999, z1000, z1024, z2000, z5860, z10000, z12345, z15625, z266240, z1048575, z1064960, z1103515245, z_m1, n_le, n_lt, n_eq, n_bit0, n_bit1, n_sbit0, n_shl, z_ltM, z_Mlt, z_leM, z_Mle, z_eqM, z_Meq, bI0, bI1, bI_01, bI_01t, bI_10, bI_10f, if_true, if_false, eq_self, reduceCtorEq, if_pos, if_neg, rc_189 hB2, rc_189 hB3, rc_189 hB4, e3', bp_s, bI_f, bI_t, va3, e4', rq S4 hB4, rn_202 hB4, ← eS5, Nat.one_ne_zero]
    · rw [f6.row rfl rfl, eS5, rv_sI_eq]; rfl
    · rw [f6.row rfl rfl, eS5, rv_sI_k _ _ hk, f4.row rfl rfl]
      exact f13.row rfl rfl k
  · rw [cb, if_pos rfl] at hw'
    subst hw'
    dsimp only
    obtain ⟨t0, h0, g0⟩ := ex_iff.mp cb
    obtain ⟨g1', g2', g3'⟩ := gv_iff.mp g0
    dsimp only at g1' g2' g3'
    rw [← eD1] at g1' ⊢
    obtain ⟨S5, eS5⟩ : ∃ S5, S5 = rv_sI S2 202 i (nI 1) := ⟨_, rfl⟩
    have f5 : rvf [202] S2 S5 := by rw [eS5]; exact (rvf.rf _ _).w rfl rfl
    have hB5 := f5.B hB2
    have g5 : LF S5 204 (gv (gz m a b) (gz m a c) (va m) (vC m) i (s, r, l)) := fun t ht => (f5.row rfl rfl t).trans (g2 t ht)
    obtain ⟨S6, e6', f6, g6⟩ := m_cp hn hB5 g5 (i := i) (by omega) K (nI a) (nI b) (nI c) (nI (r - 1)) F (nI (s - D1))
    have er : nI r + iM = nI (r - 1) := by
      obtain ⟨r', rfl⟩ : ∃ r', r = r' + 1 := ⟨r - 1, by omega⟩
      rw [z_dec, Nat.add_sub_cancel]
    refine ⟨S6, ?_, (f1.mono rfl).tr ((f2.mono rfl).tr ((f5.mono rfl).tr (f6.mono rfl))), g6, ?_, fun k hk => ?_⟩
    · rw [show cX13_keep_138 n q S6 189 (nI a) (nI b) (nI c) (nI (r - 1)) F (nI (s - D1)) (nI (i + 1)) = K 189 (nI a) (nI b) (nI c) (nI (r - 1)) F (nI (s - D1)) (nI (i + 1)) S6 by rw [eK], ← e6']
      rw [if_neg (show ¬ bI true = 0 by decide)]
      simp (disch := first | assumption | omega) only [cX13_keep_227, cX13_keep_242, tk_gI, tk_gL, tk_gR, tk_pI, tk_pL, rv_aI, rv_aL, rv_aR, rv_uI, rv_uL, rv_uB, rv_uZ, pu_ckI, pu_ckL, pu_lnI, pu_lnL, tk_rI, tk_rL, Option.bind_some, Option.map_some, rv_lt, tk_ix, z0, z1, z2, z3, z4, z5, z6, z7, z8, z9, z10, z11, z12, z13, z15, z16, z17, z18, z20, z21, z23, z24, z25, z31, z32, z39, z40, z41, z46, z48, z50, z57, z59, z60, z61, z62, z63, z64, z97, z98, z99, z100, z101, z102, z103, z104, z105, z106, z107, z108, z109, z110, z111, z112, z113, z114, z115, z116, z117, z118, z119, z120, z121, z122, z128, z132, z200, z240, z255, z372, z390625, z400, z420, z421, z422, z662, z900, z940, z999, z1000, z1024, z2000, z5860, z10000, z12345, z15625, z266240, z1048575, z1064960, z1103515245, z_m1, n_le, n_lt, n_eq, n_bit0, n_bit1, n_sbit0, n_shl, z_ltM, z_Mlt, z_leM, z_Mle, z_eqM, z_Meq, bI0, bI1, bI_01, bI_01t, bI_10, bI_10f, if_true, if_false, eq_self, reduceCtorEq, if_pos, if_neg, rc_189 hB2, bI_t, rq S2 hB2, rn_202 hB2, ← eS5, Nat.one_ne_zero, z_sub, z_m1, er]
    · rw [f6.row rfl rfl, eS5, rv_sI_eq]; rfl
    · rw [f6.row rfl rfl, eS5, rv_sI_k _ _ hk, f2.row rfl rfl]
      exact f1.row rfl rfl k
theorem m_kwalk (hn : 1100 ≤ n) (hB : rv_B S) (hM : MR S m) (hp : okp m) (hc : okc m) {a b c X Y : Nat} (ha : a < vW m) (hb : b < vW m) (hcc : c < vW m) (hX : X ≤ 99) (hY : Y ≤ 99) (hT : TQ S (gz m a b) (gz m a c) (va m) (vC m) X Y 0) (hL : LF S 203 (fun t => decide (t = Y))) (F : Int32) :
    ∃ S', cX13_keep_138 n n S 189 (nI a) (nI b) (nI c) (nI (tg (gz m a b) (gz m a c) (va m) (vC m) (vC m) X Y)) F (nI X) (nI 0) = cX13_keep_295 n S' 189 F ∧ rvf [199, 202, 203, 204] S S' ∧ ∀ k, k < vC m → S'.2.1 202 k = bI (Bk (gz m a b) (gz m a c) (va m) (vC m) X Y k) := by
  have h24 := hp.1
  have h40 := hc.1
  refine lp (F := fun q (x : rvS × Int32 × Int32 × Int32) => cX13_keep_138 n q x.1 189 (nI a) (nI b) (nI c) x.2.1 F x.2.2.1 x.2.2.2) (fun i x => x.2 = (nI (wk (gz m a b) (gz m a c) (va m) (vC m) X Y i).2.1, nI (wk (gz m a b) (gz m a c) (va m) (vC m) X Y i).1, nI i) ∧ rvf [199, 202, 203, 204] S x.1 ∧ LF x.1 203 (wk (gz m a b) (gz m a c) (va m) (vC m) X Y i).2.2 ∧ ∀ k, k < i → x.1.2.1 202 k = bI (Bk (gz m a b) (gz m a c) (va m) (vC m) X Y k)) (fun o => ∃ S', o = cX13_keep_295 n S' 189 F ∧ rvf [199, 202, 203, 204] S S' ∧ ∀ k, k < vC m → S'.2.1 202 k = bI (Bk (gz m a b) (gz m a c) (va m) (vC m) X Y k)) (vC m) (fun i x q hi hx => Or.inr ?_) (fun x q hx => ?_) (i := 0) (x := (S, nI (tg (gz m a b) (gz m a c) (va m) (vC m) (vC m) X Y), nI X, nI 0)) (q := n) (Nat.zero_le _) ⟨rfl, rvf.rf _ _, hL, fun k h => absurd h (Nat.not_lt_zero k)⟩ (by omega)
  · obtain ⟨S1, x1, x2, x3⟩ := x
    obtain ⟨hx, f, g, h⟩ := hx
    simp only [Prod.mk.injEq] at hx
    obtain ⟨rfl, rfl, rfl⟩ := hx
    have f : rvf [199, 202, 203, 204] S S1 := f
    have hB1 := f.B hB
    have hM1 := hM.f f rfl
    obtain ⟨i1, -, i3, i4, -⟩ := WI_all (e1 := gz m a b) (e2 := gz m a c) (d := va m) (N := vC m) hX hY i (by omega)
    have cap := tg_cap (e1 := gz m a b) (e2 := gz m a c) (d := va m) (N := vC m) (vC m) X Y
    obtain ⟨S2, e2', f2, g2, h2, h3⟩ := m_kstep hn hB1 hM1 hp hc ha hb hcc hX hY hi (hT.f f rfl) (w' := wk (gz m a b) (gz m a c) (va m) (vC m) X Y (i + 1)) (wk_s i) (by omega) (by omega) (fun t ht => (i1 t ht).1) g F q
    refine ⟨(S2, nI (wk (gz m a b) (gz m a c) (va m) (vC m) X Y (i + 1)).2.1, nI (wk (gz m a b) (gz m a c) (va m) (vC m) X Y (i + 1)).1, nI (i + 1)), e2', rfl, f.tr f2, g2, fun k hk => ?_⟩
    show S2.2.1 202 k = _
    by_cases c : k = i
    · subst c; exact h2
    · rw [h3 k c]; exact h k (by omega)
  · obtain ⟨S1, x1, x2, x3⟩ := x
    obtain ⟨hx, f, g, h⟩ := hx
    simp only [Prod.mk.injEq] at hx
    obtain ⟨rfl, rfl, rfl⟩ := hx
    have f : rvf [199, 202, 203, 204] S S1 := f
    have hB1 := f.B hB
    have hM1 := hM.f f rfl
    refine ⟨S1, ?_, f, h⟩
    show cX13_keep_138 n (q + 1) S1 189 (nI a) (nI b) (nI c) (nI (wk _ _ _ _ X Y (vC m)).2.1) F (nI (wk _ _ _ _ X Y (vC m)).1) (nI (vC m)) = _
    rw [cX13_keep_138]
    simp (disch := first | assumption | omega) only [tk_gI, tk_gL, tk_gR, tk_pI, tk_pL, rv_aI, rv_aL, rv_aR, rv_uI, rv_uL, rv_uB, rv_uZ, pu_ckI, pu_ckL, pu_lnI, pu_lnL, tk_rI, tk_rL, Option.bind_some, Option.map_some, rv_lt, tk_ix, z0, z1, z2, z3, z4, z5, z6, z7, z8, z9, z10, z11, z12, z13, z15, z16, z17, z18, z20, z21, z23, z24, z25, z31, z32, z39, z40, z41, z46, z48, z50, z57, z59, z60, z61, z62, z63, z64, z97, z98, z99, z100, z101, z102, z103, z104, z105, z106, z107, z108, z109, z110, z111, z112, z113, z114, z115, z116, z117, z118, z119, z120, z121, z122, z128, z132, z200, z240, z255, z372, z390625, z400, z420, z421, z422, z662, z900, z940, z999, z1000, z1024, z2000, z5860, z10000, z12345, z15625, z266240, z1048575, z1064960, z1103515245, z_m1, n_le, n_lt, n_eq, n_bit0, n_bit1, n_sbit0, n_shl, z_ltM, z_Mlt, z_leM, z_Mle, z_eqM, z_Meq, bI0, bI1, bI_01, bI_01t, bI_10, bI_10f, if_true, if_false, eq_self, reduceCtorEq, if_pos, if_neg, rc_189 hB1, m_coins hB1 hM1]
end
