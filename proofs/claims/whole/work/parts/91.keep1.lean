/-! KEEP: the class's weights of two days -/
section
variable {n : Nat} {S : rvS} {m m' : Nat → Nat} {e1 e2 : Nat → Bool} {d : Nat → Nat}
theorem Lg_cap {i : Nat} (hi : i ≤ 40) (x y : Nat) : Lg e1 e2 d i x y < 140737488355328 ∧ (Lg e1 e2 d i x y = 0 ∨ 1099511627776 ≤ Lg e1 e2 d i x y) := by
  rcases Lg_at (e1 := e1) (e2 := e2) (d := d) i hi x y with h | ⟨A, T, -, -, -, h⟩
  · rw [h]; exact ⟨by decide, Or.inl rfl⟩
  · rw [h]; exact ⟨Wt_lt hi, Or.inr (Wt_ge hi)⟩
/-- the class's table of weights -/
def WD (S : rvS) (f : Nat → Nat → Nat) (X Y : Nat) : Prop := ∀ x y, x ≤ X → y ≤ Y → S.2.2.1 110 (x * 100 + y) = lN (f x y)
theorem k_startAt2 (hn : 10100 ≤ n) (hB : rv_B S) {X Y : Nat} (hX : X ≤ 99) (hY : Y ≤ 99) : ∃ S', fnX5_startAt n S 110 (nI (X * 100 + Y)) = some S' ∧ rvf [110] S S' ∧ WD S' (Lg e1 e2 d 0) X Y := by
  obtain ⟨Z, eZ⟩ : ∃ Z, Z = X * 100 + Y := ⟨_, rfl⟩
  have hZ : Z ≤ 9999 := by omega
  rw [← eZ, fnX5_startAt]
  have key : ∃ S', cX5_startAt_2 n n S 110 (nI Z) (1 : Int32) = some S' ∧ rvf [110] S S' ∧ ∀ j, j ≤ Z → S'.2.2.1 110 j = lN (if j = 0 then 69269232549888 else 0) := by
    refine lp (F := fun q (x : rvS × Int32) => cX5_startAt_2 n q x.1 110 (nI Z) x.2) (fun i x => 1 ≤ i ∧ x.2 = nI i ∧ rvf [110] S x.1 ∧ ∀ j, 1 ≤ j → j < i → x.1.2.2.1 110 j = lN 0) (fun o => ∃ S', o = some S' ∧ rvf [110] S S' ∧ ∀ j, j ≤ Z → S'.2.2.1 110 j = lN (if j = 0 then 69269232549888 else 0)) (Z + 1) (fun i x q hi hx => Or.inr ?_) (fun x q hx => ?_) (i := 1) (x := (S, nI 1)) (q := n) (by omega) ⟨Nat.le_refl _, rfl, rvf.rf _ _, fun j h1 h2 => absurd h2 (by omega)⟩ (by omega)
    · obtain ⟨S1, x2⟩ := x
      obtain ⟨h0, rfl, f, g⟩ := hx
      have f : rvf [110] S S1 := f
      have hB1 := f.B hB
      refine ⟨(rv_sL S1 110 i (lN 0), nI (i + 1)), ?_, by omega, rfl, f.wL rfl rfl, fun j h1 h2 => ?_⟩
      · show cX5_startAt_2 n (q + 1) S1 110 (nI Z) (nI i) = cX5_startAt_2 n q _ 110 (nI Z) (nI (i + 1))
        rw [cX5_startAt_2]
        simp (disch := first | assumption | omega) only [tk_gI, tk_gL, tk_gR, tk_pI, tk_pL, rv_aI, rv_aL, rv_aR, rv_uI, rv_uL, rv_uB, rv_uZ, pu_ckI, pu_ckL, pu_lnI, pu_lnL, tk_rI, tk_rL, Option.bind_some, Option.map_some, rv_lt, tk_ix, z0, z1, z2, z3, z4, z5, z6, z7, z8, z9, z10, z11, z12, z13, z15, z16, z17, z18, z20, z21, z23, z24, z25, z31, z32, z39, z40, z41, z46, z48, z50, z57, z59, z60, z61, z62, z63, z64, z97, z98, z99, z100, z101, z102, z103, z104, z105, z106, z107, z108, z109, z110, z111, z112, z113, z114, z115, z116, z117, z118, z119, z120, z121, z122, z128, z132, z200, z240, z255, z372, z390625, z400, z420, z421, z422, z662, z900, z940, z999, z1000, z1024, z2000, z5860, z10000, z12345, z15625, z266240, z1048575, z1064960, z1103515245, z_m1, y0, y1, y27, y63, y96, y1099511627776, y69269232549888, n_le, n_lt, n_eq, n_bit0, n_bit1, n_sbit0, n_shl, z_ltM, z_Mlt, z_leM, z_Mle, z_eqM, z_Meq, bI0, bI1, bI_01, bI_01t, bI_10, bI_10f, if_true, if_false, eq_self, reduceCtorEq, if_pos, if_neg, rn_110 hB1, nI_add, show Int32.ofNat 10000 = nI 10000 from rfl]
      · show (rv_sL S1 110 i (lN 0)).2.2.1 110 j = _
        by_cases c : j = i
        · subst c; exact rv_sL_eq _ _ _ _
        · rw [rv_sL_k _ _ c]; exact g j h1 (by omega)
    · obtain ⟨S1, x2⟩ := x
      obtain ⟨h0, rfl, f, g⟩ := hx
      have f : rvf [110] S S1 := f
      have g : ∀ j, 1 ≤ j → j < Z + 1 → S1.2.2.1 110 j = lN 0 := g
      have hB1 := f.B hB
      refine ⟨rv_sL S1 110 0 (lN 69269232549888), ?_, f.wL rfl rfl, fun j hj => ?_⟩
      · show cX5_startAt_2 n (q + 1) S1 110 (nI Z) (nI (Z + 1)) = _
        rw [cX5_startAt_2]
        simp (disch := first | assumption | omega) only [tk_gI, tk_gL, tk_gR, tk_pI, tk_pL, rv_aI, rv_aL, rv_aR, rv_uI, rv_uL, rv_uB, rv_uZ, pu_ckI, pu_ckL, pu_lnI, pu_lnL, tk_rI, tk_rL, Option.bind_some, Option.map_some, rv_lt, tk_ix, z0, z1, z2, z3, z4, z5, z6, z7, z8, z9, z10, z11, z12, z13, z15, z16, z17, z18, z20, z21, z23, z24, z25, z31, z32, z39, z40, z41, z46, z48, z50, z57, z59, z60, z61, z62, z63, z64, z97, z98, z99, z100, z101, z102, z103, z104, z105, z106, z107, z108, z109, z110, z111, z112, z113, z114, z115, z116, z117, z118, z119, z120, z121, z122, z128, z132, z200, z240, z255, z372, z390625, z400, z420, z421, z422, z662, z900, z940, z999, z1000, z1024, z2000, z5860, z10000, z12345, z15625, z266240, z1048575, z1064960, z1103515245, z_m1, y0, y1, y27, y63, y96, y1099511627776, y69269232549888, n_le, n_lt, n_eq, n_bit0, n_bit1, n_sbit0, n_shl, z_ltM, z_Mlt, z_leM, z_Mle, z_eqM, z_Meq, bI0, bI1, bI_01, bI_01t, bI_10, bI_10f, if_true, if_false, eq_self, reduceCtorEq, if_pos, if_neg, rn_110 hB1, nI_add]
      · by_cases c : j = 0
        · subst c; rw [rv_sL_eq]; rfl
        · rw [rv_sL_k _ _ c, if_neg c]
          exact g j (by omega) (by omega)
  obtain ⟨S', e, f, g⟩ := key
  refine ⟨S', e, f, fun x y hx hy => (g _ (by omega)).trans (congrArg lN ?_)⟩
  rw [Lg]
  by_cases c : x = 0 ∧ y = 0
  · rw [if_pos c, if_pos (by omega)]
  · rw [if_neg c, if_neg (by omega)]
/-- what a coin makes of the table -/
def fd (f : Nat → Nat → Nat) (i D1 D2 x y : Nat) : Nat := if D2 ≤ y then max (if D1 ≤ x then max (f x y) (hvy i (f (x - D1) y)) else f x y) (f x (y - D2)) else (if D1 ≤ x then max (f x y) (hvy i (f (x - D1) y)) else f x y)
theorem k_cell (hB : rv_B S) {i D1 D2 X Y s t : Nat} (hs : s ≤ X) (ht : t ≤ Y) (hX : X ≤ 99) (hY : Y ≤ 99) (hi : i < 40) (hD1 : D1 ≤ 100) (hD2 : D2 ≤ 100) {f : Nat → Nat → Nat} (hf : ∀ x y, f x y < 140737488355328 ∧ (f x y = 0 ∨ 1099511627776 ≤ f x y)) (g0 : S.2.2.1 110 (s * 100 + t) = lN (f s t)) (g1 : D1 ≤ s → S.2.2.1 110 ((s - D1) * 100 + t) = lN (f (s - D1) t)) (g2 : D2 ≤ t → S.2.2.1 110 (s * 100 + (t - D2)) = lN (f s (t - D2))) (K3 : Nat → Int32 → Int32 → Int32 → Int32 → Int32 → rvS → Option rvS) (q : Nat) :
    cX5_addDayCoin_12 n K3 (q + 1) S 108 (nI i) (nI D1) (nI D2) (nI Y) (nI s) (nI t) = cX5_addDayCoin_12 n K3 q (rv_sL S 110 (s * 100 + t) (lN (fd f i D1 D2 s t))) 108 (nI i) (nI D1) (nI D2) (nI Y) (nI s) (nI t + iM) := by
  have rr := rf_of hB (show (108, 1, 110) ∈ rv_rf0 by decide)
  have rn := rn_110 hB
  have rc := rc_108 hB
  have f0 := (hf s t).1
  have f1 := (hf (s - D1) t).1
  have f2 := (hf s (t - D2)).1
  have fh := hvy_lt hi f1
  have kh := k_heavier (n := n) (S := S) hi f1 (hf (s - D1) t).2
  rw [cX5_addDayCoin_12, fd]
  by_cases c1 : D1 ≤ s
  · have g1 := g1 c1
    have x1 : s * 100 + t - D1 * 100 = (s - D1) * 100 + t := by omega
    have l1 : ¬ s < D1 := by omega
    by_cases c2 : D2 ≤ t
    · have g2 := g2 c2
      have x2 : s * 100 + t - D2 = s * 100 + (t - D2) := by omega
      have l2 : ¬ t < D2 := by omega
      simp (disch := first | assumption | omega) only [cX5_addDayCoin_65, cX5_addDayCoin_89, tk_gI, tk_gL, tk_gR, tk_pI, tk_pL, rv_aI, rv_aL, rv_aR, rv_uI, rv_uL, rv_uB, rv_uZ, pu_ckI, pu_ckL, pu_lnI, pu_lnL, tk_rI, tk_rL, Option.bind_some, Option.map_some, rv_lt, tk_ix, z0, z1, z2, z3, z4, z5, z6, z7, z8, z9, z10, z11, z12, z13, z15, z16, z17, z18, z20, z21, z23, z24, z25, z31, z32, z39, z40, z41, z46, z48, z50, z57, z59, z60, z61, z62, z63, z64, z97, z98, z99, z100, z101, z102, z103, z104, z105, z106, z107, z108, z109, z110, z111, z112, z113, z114, z115, z116, z117, z118, z119, z120, z121, z122, z128, z132, z200, z240, z255, z372, z390625, z400, z420, z421, z422, z662, z900, z940, z999, z1000, z1024, z2000, z5860, z10000, z12345, z15625, z266240, z1048575, z1064960, z1103515245, z_m1, n_le, n_lt, n_eq, n_bit0, n_bit1, n_sbit0, n_shl, z_ltM, z_Mlt, z_leM, z_Mle, z_eqM, z_Meq, bI0, bI1, bI_01, bI_01t, bI_10, bI_10f, if_true, if_false, eq_self, reduceCtorEq, if_pos, if_neg, rr, rn, rc, nI_add, z_mul, z_sub, x1, x2, l1, l2, g0, g1, g2, kh, m_max, c1, c2]
    · have l2 : t < D2 := by omega
      simp (disch := first | assumption | omega) only [cX5_addDayCoin_65, cX5_addDayCoin_89, tk_gI, tk_gL, tk_gR, tk_pI, tk_pL, rv_aI, rv_aL, rv_aR, rv_uI, rv_uL, rv_uB, rv_uZ, pu_ckI, pu_ckL, pu_lnI, pu_lnL, tk_rI, tk_rL, Option.bind_some, Option.map_some, rv_lt, tk_ix, z0, z1, z2, z3, z4, z5, z6, z7, z8, z9, z10, z11, z12, z13, z15, z16, z17, z18, z20, z21, z23, z24, z25, z31, z32, z39, z40, z41, z46, z48, z50, z57, z59, z60, z61, z62, z63, z64, z97, z98, z99, z100, z101, z102, z103, z104, z105, z106, z107, z108, z109, z110, z111, z112, z113, z114, z115, z116, z117, z118, z119, z120, z121, z122, z128, z132, z200, z240, z255, z372, z390625, z400, z420, z421, z422, z662, z900, z940, z999, z1000, z1024, z2000, z5860, z10000, z12345, z15625, z266240, z1048575, z1064960, z1103515245, z_m1, n_le, n_lt, n_eq, n_bit0, n_bit1, n_sbit0, n_shl, z_ltM, z_Mlt, z_leM, z_Mle, z_eqM, z_Meq, bI0, bI1, bI_01, bI_01t, bI_10, bI_10f, if_true, if_false, eq_self, reduceCtorEq, if_pos, if_neg, rr, rn, rc, nI_add, z_mul, z_sub, x1, l1, l2, g0, g1, kh, m_max, c1, c2]
  · have l1 : s < D1 := by omega
    by_cases c2 : D2 ≤ t
    · have g2 := g2 c2
      have x2 : s * 100 + t - D2 = s * 100 + (t - D2) := by omega
      have l2 : ¬ t < D2 := by omega
      simp (disch := first | assumption | omega) only [cX5_addDayCoin_65, cX5_addDayCoin_89, tk_gI, tk_gL, tk_gR, tk_pI, tk_pL, rv_aI, rv_aL, rv_aR, rv_uI, rv_uL, rv_uB, rv_uZ, pu_ckI, pu_ckL, pu_lnI, pu_lnL, tk_rI, tk_rL, Option.bind_some, Option.map_some, rv_lt, tk_ix, z0, z1, z2, z3, z4, z5, z6, z7, z8, z9, z10, z11, z12, z13, z15, z16, z17, z18, z20, z21, z23, z24, z25, z31, z32, z39, z40, z41, z46, z48, z50, z57, z59, z60, z61, z62, z63, z64, z97, z98, z99, z100, z101, z102, z103, z104, z105, z106, z107, z108, z109, z110, z111, z112, z113, z114, z115, z116, z117, z118, z119, z120, z121, z122, z128, z132, z200, z240, z255, z372, z390625, z400, z420, z421, z422, z662, z900, z940, z999, z1000, z1024, z2000, z5860, z10000, z12345, z15625, z266240, z1048575, z1064960, z1103515245, z_m1, n_le, n_lt, n_eq, n_bit0, n_bit1, n_sbit0, n_shl, z_ltM, z_Mlt, z_leM, z_Mle, z_eqM, z_Meq, bI0, bI1, bI_01, bI_01t, bI_10, bI_10f, if_true, if_false, eq_self, reduceCtorEq, if_pos, if_neg, rr, rn, rc, nI_add, z_mul, z_sub, x2, l1, l2, g0, g2, m_max, c1, c2]
    · have l2 : t < D2 := by omega
      simp (disch := first | assumption | omega) only [cX5_addDayCoin_65, cX5_addDayCoin_89, tk_gI, tk_gL, tk_gR, tk_pI, tk_pL, rv_aI, rv_aL, rv_aR, rv_uI, rv_uL, rv_uB, rv_uZ, pu_ckI, pu_ckL, pu_lnI, pu_lnL, tk_rI, tk_rL, Option.bind_some, Option.map_some, rv_lt, tk_ix, z0, z1, z2, z3, z4, z5, z6, z7, z8, z9, z10, z11, z12, z13, z15, z16, z17, z18, z20, z21, z23, z24, z25, z31, z32, z39, z40, z41, z46, z48, z50, z57, z59, z60, z61, z62, z63, z64, z97, z98, z99, z100, z101, z102, z103, z104, z105, z106, z107, z108, z109, z110, z111, z112, z113, z114, z115, z116, z117, z118, z119, z120, z121, z122, z128, z132, z200, z240, z255, z372, z390625, z400, z420, z421, z422, z662, z900, z940, z999, z1000, z1024, z2000, z5860, z10000, z12345, z15625, z266240, z1048575, z1064960, z1103515245, z_m1, n_le, n_lt, n_eq, n_bit0, n_bit1, n_sbit0, n_shl, z_ltM, z_Mlt, z_leM, z_Mle, z_eqM, z_Meq, bI0, bI1, bI_01, bI_01t, bI_10, bI_10f, if_true, if_false, eq_self, reduceCtorEq, if_pos, if_neg, rr, rn, rc, nI_add, z_mul, z_sub, l1, l2, g0, c1, c2]
theorem k_drow (hn : 1100 ≤ n) (hB : rv_B S) {i D1 D2 X Y s : Nat} (hs : s ≤ X) (hX : X ≤ 99) (hY : Y ≤ 99) (hi : i < 40) (h1 : 1 ≤ D1) (h2 : 1 ≤ D2) (hD1 : D1 ≤ 100) (hD2 : D2 ≤ 100) {f : Nat → Nat → Nat} (hf : ∀ x y, f x y < 140737488355328 ∧ (f x y = 0 ∨ 1099511627776 ≤ f x y)) (hW : ∀ x y, x ≤ X → y ≤ Y → S.2.2.1 110 (x * 100 + y) = lN (if s < x then fd f i D1 D2 x y else f x y)) (K3 : Nat → Int32 → Int32 → Int32 → Int32 → Int32 → rvS → Option rvS) :
    ∃ S', cX5_addDayCoin_12 n K3 n S 108 (nI i) (nI D1) (nI D2) (nI Y) (nI s) (nI Y) = K3 108 (nI i) (nI D1) (nI D2) (nI Y) (nI s + iM) S' ∧ rvf [110] S S' ∧ ∀ x y, x ≤ X → y ≤ Y → S'.2.2.1 110 (x * 100 + y) = lN (if s ≤ x then fd f i D1 D2 x y else f x y) := by
  refine lp (F := fun q (x : rvS × Int32) => cX5_addDayCoin_12 n K3 q x.1 108 (nI i) (nI D1) (nI D2) (nI Y) (nI s) x.2) (fun j x => x.2 = nI (Y + 1 - j) + iM ∧ rvf [110] S x.1 ∧ ∀ x' y, x' ≤ X → y ≤ Y → x.1.2.2.1 110 (x' * 100 + y) = lN (if s < x' ∨ (x' = s ∧ Y < y + j) then fd f i D1 D2 x' y else f x' y)) (fun o => ∃ S', o = K3 108 (nI i) (nI D1) (nI D2) (nI Y) (nI s + iM) S' ∧ rvf [110] S S' ∧ ∀ x y, x ≤ X → y ≤ Y → S'.2.2.1 110 (x * 100 + y) = lN (if s ≤ x then fd f i D1 D2 x y else f x y)) (Y + 1) (fun j x q hj hx => Or.inr ?_) (fun x q hx => ?_) (i := 0) (x := (S, nI Y)) (q := n) (Nat.zero_le _) ⟨by show nI Y = nI (Y + 1) + iM; rw [z_dec], rvf.rf _ _, fun x' y hx hy => (hW x' y hx hy).trans (congrArg lN ?_)⟩ (by omega)
  · obtain ⟨S1, x2⟩ := x
    obtain ⟨h0, fr, g⟩ := hx
    have h0 : x2 = nI (Y + 1 - j) + iM := h0
    have fr : rvf [110] S S1 := fr
    have g : ∀ x' y, x' ≤ X → y ≤ Y → S1.2.2.1 110 (x' * 100 + y) = lN (if s < x' ∨ (x' = s ∧ Y < y + j) then fd f i D1 D2 x' y else f x' y) := g
    have hB1 := fr.B hB
    obtain ⟨t, et⟩ : ∃ t, t = Y - j := ⟨_, rfl⟩
    have h0 : x2 = nI t := by rw [h0, show Y + 1 - j = t + 1 by omega, z_dec]
    subst h0
    have k := k_cell (n := n) hB1 (s := s) (t := t) hs (show t ≤ Y by omega) hX hY hi hD1 hD2 hf ((g s t hs (by omega)).trans (by rw [if_neg (by omega)])) (fun c => (g (s - D1) t (by omega) (by omega)).trans (by rw [if_neg (by omega)])) (fun c => (g s (t - D2) hs (by omega)).trans (by rw [if_neg (by omega)])) K3 q
    refine ⟨(rv_sL S1 110 (s * 100 + t) (lN (fd f i D1 D2 s t)), nI t + iM), k, ?_, fr.wL rfl rfl, fun x' y hx hy => ?_⟩
    · show nI t + iM = nI (Y + 1 - (j + 1)) + iM
      rw [show Y + 1 - (j + 1) = t by omega]
    · show (rv_sL S1 110 (s * 100 + t) _).2.2.1 110 (x' * 100 + y) = _
      by_cases c : x' * 100 + y = s * 100 + t
      · have e1 : x' = s := by omega
        have e2 : y = t := by omega
        rw [c, rv_sL_eq, e1, e2, if_pos (by omega)]
      · rw [rv_sL_k _ _ c, g x' y hx hy]
        by_cases c2 : s < x' ∨ (x' = s ∧ Y < y + j)
        · rw [if_pos c2, if_pos (by omega)]
        · rw [if_neg c2, if_neg (by omega)]
  · obtain ⟨S1, x2⟩ := x
    obtain ⟨h0, fr, g⟩ := hx
    have h0 : x2 = nI (Y + 1 - (Y + 1)) + iM := h0
    have g : ∀ x' y, x' ≤ X → y ≤ Y → S1.2.2.1 110 (x' * 100 + y) = lN (if s < x' ∨ (x' = s ∧ Y < y + (Y + 1)) then fd f i D1 D2 x' y else f x' y) := g
    rw [Nat.sub_self] at h0
    subst h0
    refine ⟨S1, ?_, fr, fun x' y hx hy => (g x' y hx hy).trans (congrArg lN ?_)⟩
    · show cX5_addDayCoin_12 n K3 (q + 1) S1 108 (nI i) (nI D1) (nI D2) (nI Y) (nI s) (nI 0 + iM) = _
      rw [cX5_addDayCoin_12, if_pos (by decide), show (-1 : Int32) = iM from rfl]
      rfl
    · by_cases c : s ≤ x'
      · rw [if_pos c, if_pos (by omega)]
      · rw [if_neg c, if_neg (by omega)]
  · by_cases c : s < x'
    · rw [if_pos c, if_pos (Or.inl c)]
    · rw [if_neg c, if_neg (by omega)]
theorem k_addDay (hn : 1100 ≤ n) (hB : rv_B S) {i D1 D2 X Y : Nat} (hX : X ≤ 99) (hY : Y ≤ 99) (hi : i < 40) (h1 : 1 ≤ D1) (h2 : 1 ≤ D2) (hD1 : D1 ≤ 100) (hD2 : D2 ≤ 100) {f : Nat → Nat → Nat} (hf : ∀ x y, f x y < 140737488355328 ∧ (f x y = 0 ∨ 1099511627776 ≤ f x y)) (hW : WD S f X Y) : ∃ S', fnX5_addDayCoin n S 108 (nI i) (nI D1) (nI X) (nI D2) (nI Y) = some S' ∧ rvf [110] S S' ∧ WD S' (fd f i D1 D2) X Y := by
  rw [fnX5_addDayCoin]
  refine lp (F := fun q (x : rvS × Int32) => cX5_addDayCoin_3 n q x.1 108 (nI i) (nI D1) (nI D2) (nI Y) x.2) (fun j x => x.2 = nI (X + 1 - j) + iM ∧ rvf [110] S x.1 ∧ ∀ x' y, x' ≤ X → y ≤ Y → x.1.2.2.1 110 (x' * 100 + y) = lN (if X < x' + j then fd f i D1 D2 x' y else f x' y)) (fun o => ∃ S', o = some S' ∧ rvf [110] S S' ∧ WD S' (fd f i D1 D2) X Y) (X + 1) (fun j x q hj hx => Or.inr ?_) (fun x q hx => ?_) (i := 0) (x := (S, nI X)) (q := n) (Nat.zero_le _) ⟨by show nI X = nI (X + 1) + iM; rw [z_dec], rvf.rf _ _, fun x' y hx hy => by rw [if_neg (by omega)]; exact hW x' y hx hy⟩ (by omega)
  · obtain ⟨S1, x2⟩ := x
    obtain ⟨h0, fr, g⟩ := hx
    have h0 : x2 = nI (X + 1 - j) + iM := h0
    have fr : rvf [110] S S1 := fr
    have g : ∀ x' y, x' ≤ X → y ≤ Y → S1.2.2.1 110 (x' * 100 + y) = lN (if X < x' + j then fd f i D1 D2 x' y else f x' y) := g
    have hB1 := fr.B hB
    obtain ⟨s, es⟩ : ∃ s, s = X - j := ⟨_, rfl⟩
    have h0 : x2 = nI s := by rw [h0, show X + 1 - j = s + 1 by omega, z_dec]
    subst h0
    obtain ⟨S2, e2, f2, g2⟩ := k_drow (n := n) hn hB1 (s := s) (i := i) (D1 := D1) (D2 := D2) (by omega) hX hY hi h1 h2 hD1 hD2 hf (fun x' y hx hy => (g x' y hx hy).trans (congrArg lN (by
      by_cases c : s < x'
      · rw [if_pos c, if_pos (by omega)]
      · rw [if_neg c, if_neg (by omega)]))) (fun a0 x1 x2 x4 x5 x6 S => cX5_addDayCoin_3 n q S a0 x1 x2 x4 x5 x6)
    refine ⟨(S2, nI s + iM), ?_, ?_, fr.tr f2, fun x' y hx hy => (g2 x' y hx hy).trans (congrArg lN ?_)⟩
    · show cX5_addDayCoin_3 n (q + 1) S1 108 (nI i) (nI D1) (nI D2) (nI Y) (nI s) = cX5_addDayCoin_3 n q S2 108 (nI i) (nI D1) (nI D2) (nI Y) (nI s + iM)
      have ng : ¬ nI s < 0 := nI_pos (by omega)
      rw [cX5_addDayCoin_3, if_neg ng]
      exact e2
    · show nI s + iM = nI (X + 1 - (j + 1)) + iM
      rw [show X + 1 - (j + 1) = s by omega]
    · by_cases c : s ≤ x'
      · rw [if_pos c, if_pos (by omega)]
      · rw [if_neg c, if_neg (by omega)]
  · obtain ⟨S1, x2⟩ := x
    obtain ⟨h0, fr, g⟩ := hx
    have h0 : x2 = nI (X + 1 - (X + 1)) + iM := h0
    have g : ∀ x' y, x' ≤ X → y ≤ Y → S1.2.2.1 110 (x' * 100 + y) = lN (if X < x' + (X + 1) then fd f i D1 D2 x' y else f x' y) := g
    rw [Nat.sub_self] at h0
    subst h0
    refine ⟨S1, ?_, fr, fun x' y hx hy => (g x' y hx hy).trans (congrArg lN (if_pos (by omega)))⟩
    show cX5_addDayCoin_3 n (q + 1) S1 108 (nI i) (nI D1) (nI D2) (nI Y) (nI 0 + iM) = _
    rw [cX5_addDayCoin_3, if_pos (by decide)]
theorem fd_Lg {i D1 D2 X Y : Nat} (hX : X ≤ 99) (hY : Y ≤ 99) (e1D : D1 = if e1 i then d i else 100) (e2D : D2 = if e2 i then d i else 100) {x y : Nat} (hx : x ≤ X) (hy : y ≤ Y) : fd (Lg e1 e2 d i) i D1 D2 x y = Lg e1 e2 d (i + 1) x y := by
  rw [fd, Lg]
  cases c1 : e1 i
  · rw [c1, if_neg nft] at e1D
    have n1 : ¬ D1 ≤ x := by omega
    have m1 : ¬ (false = true ∧ d i ≤ x) := fun z => nft z.1
    rw [if_neg n1, if_neg m1]
    cases c2 : e2 i
    · rw [c2, if_neg nft] at e2D
      rw [if_neg (show ¬ D2 ≤ y by omega), if_neg (fun z => nft z.1)]
    · rw [c2, if_pos rfl] at e2D
      subst e2D
      by_cases c3 : d i ≤ y
      · rw [if_pos c3, if_pos ⟨rfl, c3⟩]
      · rw [if_neg c3, if_neg (fun z => c3 z.2)]
  · rw [c1, if_pos rfl] at e1D
    subst e1D
    have e : (if true = true ∧ d i ≤ x then max (Lg e1 e2 d i x y) (hvy i (Lg e1 e2 d i (x - d i) y)) else Lg e1 e2 d i x y) = if d i ≤ x then max (Lg e1 e2 d i x y) (hvy i (Lg e1 e2 d i (x - d i) y)) else Lg e1 e2 d i x y := by
      by_cases c : d i ≤ x
      · rw [if_pos c, if_pos ⟨rfl, c⟩]
      · rw [if_neg c, if_neg (fun z => c z.2)]
    rw [e]
    generalize (if d i ≤ x then max (Lg e1 e2 d i x y) (hvy i (Lg e1 e2 d i (x - d i) y)) else Lg e1 e2 d i x y) = W
    cases c2 : e2 i
    · rw [c2, if_neg nft] at e2D
      rw [if_neg (show ¬ D2 ≤ y by omega), if_neg (fun z => nft z.1)]
    · rw [c2, if_pos rfl] at e2D
      subst e2D
      by_cases c3 : d i ≤ y
      · rw [if_pos c3, if_pos ⟨rfl, c3⟩]
      · rw [if_neg c3, if_neg (fun z => c3 z.2)]
theorem k_two1 (hn : 10100 ≤ n) (hB : rv_B S) {p : Nat} (hpb : pb p) (hPR : PR S p m) (hx : ∀ D S', rvf D S S' → D = [108, 110] → PR S' p m) (hc : okc m) {X Y : Nat} (hX : X ≤ 99) (hY : Y ≤ 99) (hW : WD S (Lg e1 e2 (va m) 0) X Y) : ∃ S', cX5_chooseForTwoDays_46 n n S 108 p (lN (bs e1 (vC m))) (nI X) (lN (bs e2 (vC m))) (nI Y) (nI 0) = rv_bp (fnX5_take n S' 108 (lN (Lg e1 e2 (va m) (vC m) X Y))) (fun x S => some (x, S)) ∧ rvf [108, 110] S S' := by
  have h40 := hc.1
  have b1 := bs_64 e1 h40
  have b2 := bs_64 e2 h40
  refine lp (F := fun q (x : rvS × Int32) => cX5_chooseForTwoDays_46 n q x.1 108 p (lN (bs e1 (vC m))) (nI X) (lN (bs e2 (vC m))) (nI Y) x.2) (fun i x => x.2 = nI i ∧ rvf [108, 110] S x.1 ∧ WD x.1 (Lg e1 e2 (va m) i) X Y) (fun o => ∃ S', o = rv_bp (fnX5_take n S' 108 (lN (Lg e1 e2 (va m) (vC m) X Y))) (fun x S => some (x, S)) ∧ rvf [108, 110] S S') (vC m) (fun i x q hi hx => Or.inr ?_) (fun x q hx => ?_) (i := 0) (x := (S, nI 0)) (q := n) (Nat.zero_le _) ⟨rfl, rvf.rf _ _, hW⟩ (by omega)
  · obtain ⟨S1, x2⟩ := x
    obtain ⟨rfl, fr, g⟩ := hx
    have fr : rvf [108, 110] S S1 := fr
    have g : WD S1 (Lg e1 e2 (va m) i) X Y := g
    have hB1 := fr.B hB
    have hP1 := hx _ _ fr rfl
    have hPS := PS_of hB1 hpb
    obtain ⟨v1, v2, -⟩ := hc.2.2 i hi
    obtain ⟨D1, eD1⟩ : ∃ D1, D1 = if e1 i then va m i else 100 := ⟨_, rfl⟩
    obtain ⟨D2, eD2⟩ : ∃ D2, D2 = if e2 i then va m i else 100 := ⟨_, rfl⟩
    by_cases cn : e1 i = false ∧ e2 i = false
    · obtain ⟨c1, c2⟩ := cn
      refine ⟨(S1, nI (i + 1)), ?_, rfl, fr, fun x y hx hy => ?_⟩
      · show cX5_chooseForTwoDays_46 n (q + 1) S1 108 p (lN (bs e1 (vC m))) (nI X) (lN (bs e2 (vC m))) (nI Y) (nI i) = cX5_chooseForTwoDays_46 n q S1 108 p (lN (bs e1 (vC m))) (nI X) (lN (bs e2 (vC m))) (nI Y) (nI (i + 1))
        rw [cX5_chooseForTwoDays_46]
        simp (disch := first | assumption | omega) only [cX5_chooseForTwoDays_71, cX5_chooseForTwoDays_90, tk_gI, tk_gL, tk_gR, tk_pI, tk_pL, rv_aI, rv_aL, rv_aR, rv_uI, rv_uL, rv_uB, rv_uZ, pu_ckI, pu_ckL, pu_lnI, pu_lnL, tk_rI, tk_rL, Option.bind_some, Option.map_some, rv_lt, tk_ix, z0, z1, z2, z3, z4, z5, z6, z7, z8, z9, z10, z11, z12, z13, z15, z16, z17, z18, z20, z21, z23, z24, z25, z31, z32, z39, z40, z41, z46, z48, z50, z57, z59, z60, z61, z62, z63, z64, z97, z98, z99, z100, z101, z102, z103, z104, z105, z106, z107, z108, z109, z110, z111, z112, z113, z114, z115, z116, z117, z118, z119, z120, z121, z122, z128, z132, z200, z240, z255, z372, z390625, z400, z420, z421, z422, z662, z900, z940, z999, z1000, z1024, z2000, z5860, z10000, z12345, z15625, z266240, z1048575, z1064960, z1103515245, z_m1, y0, y1, y27, y63, y96, y1099511627776, y69269232549888, n_le, n_lt, n_eq, n_bit0, n_bit1, n_sbit0, n_shl, z_ltM, z_Mlt, z_leM, z_Mle, z_eqM, z_Meq, bI0, bI1, bI_01, bI_01t, bI_10, bI_10f, if_true, if_false, eq_self, reduceCtorEq, if_pos, if_neg, hPS, hP1, m_bit0, m_bit2, n_l, bs_bit, c1, c2, Bool.and_false, nI_add]
      · show S1.2.2.1 110 (x * 100 + y) = lN (Lg e1 e2 (va m) (i + 1) x y)
        rw [Lg, c1, c2, if_neg (fun z => nft z.1), if_neg (fun z => nft z.1)]
        exact g x y hx hy
    · have hv1 : 1 ≤ D1 ∧ D1 ≤ 100 := by rw [eD1]; split <;> omega
      have hv2 : 1 ≤ D2 ∧ D2 ≤ 100 := by rw [eD2]; split <;> omega
      obtain ⟨S2, e2', f2, g2⟩ := k_addDay (n := n) (by omega) hB1 hX hY (i := i) (by omega) hv1.1 hv2.1 hv1.2 hv2.2 (fun x y => Lg_cap (e1 := e1) (e2 := e2) (d := va m) (i := i) (by omega) x y) g
      refine ⟨(S2, nI (i + 1)), ?_, rfl, fr.tr (f2.mono rfl), fun x y hx hy => (g2 x y hx hy).trans (congrArg lN (fd_Lg hX hY eD1 eD2 hx hy))⟩
      show cX5_chooseForTwoDays_46 n (q + 1) S1 108 p (lN (bs e1 (vC m))) (nI X) (lN (bs e2 (vC m))) (nI Y) (nI i) = cX5_chooseForTwoDays_46 n q S2 108 p (lN (bs e1 (vC m))) (nI X) (lN (bs e2 (vC m))) (nI Y) (nI (i + 1))
      rw [cX5_chooseForTwoDays_46]
      cases c1 : e1 i <;> cases c2 : e2 i
      · exact absurd ⟨c1, c2⟩ cn
      · rw [c1, if_neg nft] at eD1
        rw [c2, if_pos rfl] at eD2
        rw [eD1, eD2] at e2'
        simp (disch := first | assumption | omega) only [cX5_chooseForTwoDays_71, cX5_chooseForTwoDays_90, cX5_chooseForTwoDays_102, cX5_chooseForTwoDays_122, cX5_chooseForTwoDays_141, tk_gI, tk_gL, tk_gR, tk_pI, tk_pL, rv_aI, rv_aL, rv_aR, rv_uI, rv_uL, rv_uB, rv_uZ, pu_ckI, pu_ckL, pu_lnI, pu_lnL, tk_rI, tk_rL, Option.bind_some, Option.map_some, rv_lt, tk_ix, z0, z1, z2, z3, z4, z5, z6, z7, z8, z9, z10, z11, z12, z13, z15, z16, z17, z18, z20, z21, z23, z24, z25, z31, z32, z39, z40, z41, z46, z48, z50, z57, z59, z60, z61, z62, z63, z64, z97, z98, z99, z100, z101, z102, z103, z104, z105, z106, z107, z108, z109, z110, z111, z112, z113, z114, z115, z116, z117, z118, z119, z120, z121, z122, z128, z132, z200, z240, z255, z372, z390625, z400, z420, z421, z422, z662, z900, z940, z999, z1000, z1024, z2000, z5860, z10000, z12345, z15625, z266240, z1048575, z1064960, z1103515245, z_m1, y0, y1, y27, y63, y96, y1099511627776, y69269232549888, n_le, n_lt, n_eq, n_bit0, n_bit1, n_sbit0, n_shl, z_ltM, z_Mlt, z_leM, z_Mle, z_eqM, z_Meq, bI0, bI1, bI_01, bI_01t, bI_10, bI_10f, if_true, if_false, eq_self, reduceCtorEq, if_pos, if_neg, hPS, hP1, m_bit0, m_bit2, n_l, bs_bit, c1, c2, Bool.and_false, Bool.and_true, hi, decide_true, nft, nI_add, rc_108 hB1, e2']
      · rw [c1, if_pos rfl] at eD1
        rw [c2, if_neg nft] at eD2
        rw [eD1, eD2] at e2'
        simp (disch := first | assumption | omega) only [cX5_chooseForTwoDays_71, cX5_chooseForTwoDays_90, cX5_chooseForTwoDays_102, cX5_chooseForTwoDays_122, cX5_chooseForTwoDays_141, tk_gI, tk_gL, tk_gR, tk_pI, tk_pL, rv_aI, rv_aL, rv_aR, rv_uI, rv_uL, rv_uB, rv_uZ, pu_ckI, pu_ckL, pu_lnI, pu_lnL, tk_rI, tk_rL, Option.bind_some, Option.map_some, rv_lt, tk_ix, z0, z1, z2, z3, z4, z5, z6, z7, z8, z9, z10, z11, z12, z13, z15, z16, z17, z18, z20, z21, z23, z24, z25, z31, z32, z39, z40, z41, z46, z48, z50, z57, z59, z60, z61, z62, z63, z64, z97, z98, z99, z100, z101, z102, z103, z104, z105, z106, z107, z108, z109, z110, z111, z112, z113, z114, z115, z116, z117, z118, z119, z120, z121, z122, z128, z132, z200, z240, z255, z372, z390625, z400, z420, z421, z422, z662, z900, z940, z999, z1000, z1024, z2000, z5860, z10000, z12345, z15625, z266240, z1048575, z1064960, z1103515245, z_m1, y0, y1, y27, y63, y96, y1099511627776, y69269232549888, n_le, n_lt, n_eq, n_bit0, n_bit1, n_sbit0, n_shl, z_ltM, z_Mlt, z_leM, z_Mle, z_eqM, z_Meq, bI0, bI1, bI_01, bI_01t, bI_10, bI_10f, if_true, if_false, eq_self, reduceCtorEq, if_pos, if_neg, hPS, hP1, m_bit0, m_bit2, n_l, bs_bit, c1, c2, Bool.and_false, Bool.and_true, hi, decide_true, nft, nI_add, rc_108 hB1, e2']
      · rw [c1, if_pos rfl] at eD1
        rw [c2, if_pos rfl] at eD2
        rw [eD1, eD2] at e2'
        simp (disch := first | assumption | omega) only [cX5_chooseForTwoDays_71, cX5_chooseForTwoDays_90, cX5_chooseForTwoDays_102, cX5_chooseForTwoDays_122, cX5_chooseForTwoDays_141, tk_gI, tk_gL, tk_gR, tk_pI, tk_pL, rv_aI, rv_aL, rv_aR, rv_uI, rv_uL, rv_uB, rv_uZ, pu_ckI, pu_ckL, pu_lnI, pu_lnL, tk_rI, tk_rL, Option.bind_some, Option.map_some, rv_lt, tk_ix, z0, z1, z2, z3, z4, z5, z6, z7, z8, z9, z10, z11, z12, z13, z15, z16, z17, z18, z20, z21, z23, z24, z25, z31, z32, z39, z40, z41, z46, z48, z50, z57, z59, z60, z61, z62, z63, z64, z97, z98, z99, z100, z101, z102, z103, z104, z105, z106, z107, z108, z109, z110, z111, z112, z113, z114, z115, z116, z117, z118, z119, z120, z121, z122, z128, z132, z200, z240, z255, z372, z390625, z400, z420, z421, z422, z662, z900, z940, z999, z1000, z1024, z2000, z5860, z10000, z12345, z15625, z266240, z1048575, z1064960, z1103515245, z_m1, y0, y1, y27, y63, y96, y1099511627776, y69269232549888, n_le, n_lt, n_eq, n_bit0, n_bit1, n_sbit0, n_shl, z_ltM, z_Mlt, z_leM, z_Mle, z_eqM, z_Meq, bI0, bI1, bI_01, bI_01t, bI_10, bI_10f, if_true, if_false, eq_self, reduceCtorEq, if_pos, if_neg, hPS, hP1, m_bit0, m_bit2, n_l, bs_bit, c1, c2, Bool.and_true, hi, decide_true, nft, nI_add, rc_108 hB1, e2']
  · obtain ⟨S1, x2⟩ := x
    obtain ⟨rfl, fr, g⟩ := hx
    have fr : rvf [108, 110] S S1 := fr
    have g : S1.2.2.1 110 (X * 100 + Y) = lN (Lg e1 e2 (va m) (vC m) X Y) := g X Y (Nat.le_refl X) (Nat.le_refl Y)
    have hB1 := fr.B hB
    have hP1 := hx _ _ fr rfl
    have hPS := PS_of hB1 hpb
    refine ⟨S1, ?_, fr⟩
    show cX5_chooseForTwoDays_46 n (q + 1) S1 108 p (lN (bs e1 (vC m))) (nI X) (lN (bs e2 (vC m))) (nI Y) (nI (vC m)) = _
    rw [cX5_chooseForTwoDays_46, cX5_chooseForTwoDays_152]
    simp (disch := first | assumption | omega) only [tk_gI, tk_gL, tk_gR, tk_pI, tk_pL, rv_aI, rv_aL, rv_aR, rv_uI, rv_uL, rv_uB, rv_uZ, pu_ckI, pu_ckL, pu_lnI, pu_lnL, tk_rI, tk_rL, Option.bind_some, Option.map_some, rv_lt, tk_ix, z0, z1, z2, z3, z4, z5, z6, z7, z8, z9, z10, z11, z12, z13, z15, z16, z17, z18, z20, z21, z23, z24, z25, z31, z32, z39, z40, z41, z46, z48, z50, z57, z59, z60, z61, z62, z63, z64, z97, z98, z99, z100, z101, z102, z103, z104, z105, z106, z107, z108, z109, z110, z111, z112, z113, z114, z115, z116, z117, z118, z119, z120, z121, z122, z128, z132, z200, z240, z255, z372, z390625, z400, z420, z421, z422, z662, z900, z940, z999, z1000, z1024, z2000, z5860, z10000, z12345, z15625, z266240, z1048575, z1064960, z1103515245, z_m1, y0, y1, y27, y63, y96, y1099511627776, y69269232549888, n_le, n_lt, n_eq, n_bit0, n_bit1, n_sbit0, n_shl, z_ltM, z_Mlt, z_leM, z_Mle, z_eqM, z_Meq, bI0, bI1, bI_01, bI_01t, bI_10, bI_10f, if_true, if_false, eq_self, reduceCtorEq, if_pos, if_neg, hPS, hP1, rc_108 hB1, rf_of hB1 (show (108, 1, 110) ∈ rv_rf0 by decide), rn_110 hB1, z_mul, nI_add, g]
/-- two days' choice, told -/
theorem k_two (hn : 10100 ≤ n) (hB : rv_B S) (hPR : PR S 75 m) (hc : okc m) {X Y : Nat} (h1 : 1 ≤ X) (hX : X ≤ 99) (h1' : 1 ≤ Y) (hY : Y ≤ 99) :
    (10000 ≤ tg e1 e2 (va m) (vC m) (vC m) X Y ∧ ∃ S', fnX5_chooseForTwoDays n S 108 75 (lN (bs e1 (vC m))) (nI X) (lN (bs e2 (vC m))) (nI Y) = some (iM, S') ∧ rvf [108, 110] S S') ∨
    (tg e1 e2 (va m) (vC m) (vC m) X Y ≤ 40 ∧ ∃ S', fnX5_chooseForTwoDays n S 108 75 (lN (bs e1 (vC m))) (nI X) (lN (bs e2 (vC m))) (nI Y) = some (nI (tg e1 e2 (va m) (vC m) (vC m) X Y), S') ∧ rvf [108, 110] S S' ∧ S'.2.2.1 108 2 = lN (bs (Bk e1 e2 (va m) (vC m) X Y) (vC m))) := by
  have h40 := hc.1
  have hpr : ∀ S0, (∀ a, a ∈ [75, 76, 77, 78] → ∀ k, S0.2.1 a k = S.2.1 a k) → PR S0 75 m := fun S0 k => by
    obtain ⟨b1, b2, b3, b4, b5⟩ := hPR
    exact ⟨(k 75 (by decide) 0).trans b1, (k 75 (by decide) 1).trans b2, fun w h => (k 76 (by decide) w).trans (b3 w h), fun w h => (k 77 (by decide) w).trans (b4 w h), fun w h => (k 78 (by decide) w).trans (b5 w h)⟩
  obtain ⟨S1, e1', f1, g1⟩ := k_startAt2 (e1 := e1) (e2 := e2) (d := va m) hn hB hX hY
  have hB1 := f1.B hB
  have q1 : ∀ a, a ∈ [75, 76, 77, 78] → ∀ k, S1.2.1 a k = S.2.1 a k := fun a ha k => by
    simp only [List.mem_cons, List.not_mem_nil, or_false] at ha
    rcases ha with rfl | rfl | rfl | rfl <;> exact f1.row rfl rfl k
  obtain ⟨S2, e2', f2⟩ := k_two1 (e1 := e1) (e2 := e2) hn hB1 (Or.inl rfl) (hpr S1 q1) (fun D S' f hD => by
    subst hD
    exact hpr S' (fun a ha k => by
      rw [← q1 a ha k]
      simp only [List.mem_cons, List.not_mem_nil, or_false] at ha
      rcases ha with rfl | rfl | rfl | rfl <;> exact f.row rfl rfl k)) hc hX hY g1
  have hB2 := f2.B hB1
  have f12 : rvf [108, 110] S S2 := (f1.mono rfl).tr f2
  have r9 := rf_of hB (show (108, 1, 110) ∈ rv_rf0 by decide)
  have top : fnX5_chooseForTwoDays n S 108 75 (lN (bs e1 (vC m))) (nI X) (lN (bs e2 (vC m))) (nI Y) = rv_bp (fnX5_take n S2 108 (lN (Lg e1 e2 (va m) (vC m) X Y))) (fun x S => some (x, S)) := by
    rw [← e2', fnX5_chooseForTwoDays]
    simp (disch := first | assumption | omega) only [tk_gI, tk_gL, tk_gR, tk_pI, tk_pL, rv_aI, rv_aL, rv_aR, rv_uI, rv_uL, rv_uB, rv_uZ, pu_ckI, pu_ckL, pu_lnI, pu_lnL, tk_rI, tk_rL, Option.bind_some, Option.map_some, rv_lt, tk_ix, z0, z1, z2, z3, z4, z5, z6, z7, z8, z9, z10, z11, z12, z13, z15, z16, z17, z18, z20, z21, z23, z24, z25, z31, z32, z39, z40, z41, z46, z48, z50, z57, z59, z60, z61, z62, z63, z64, z97, z98, z99, z100, z101, z102, z103, z104, z105, z106, z107, z108, z109, z110, z111, z112, z113, z114, z115, z116, z117, z118, z119, z120, z121, z122, z128, z132, z200, z240, z255, z372, z390625, z400, z420, z421, z422, z662, z900, z940, z999, z1000, z1024, z2000, z5860, z10000, z12345, z15625, z266240, z1048575, z1064960, z1103515245, z_m1, n_le, n_lt, n_eq, n_bit0, n_bit1, n_sbit0, n_shl, z_ltM, z_Mlt, z_leM, z_Mle, z_eqM, z_Meq, bI0, bI1, bI_01, bI_01t, bI_10, bI_10f, if_true, if_false, eq_self, reduceCtorEq, if_pos, if_neg, rc_108 hB, r9, z_mul, nI_add, e1']
  rw [top]
  rcases few2 (e1 := e1) (e2 := e2) (d := va m) h40 hX hY with ⟨t1, t2⟩ | ⟨t1, t2, t3⟩
  · exact Or.inl ⟨t1, S2, by rw [t2]; exact k_choose2, f12⟩
  · have hg := Wt_ge (A := Bk e1 e2 (va m) (vC m) X Y) h40
    rw [t3]
    obtain ⟨w, ew⟩ : ∃ w, w = Wt (Bk e1 e2 (va m) (vC m) X Y) (vC m) := ⟨_, rfl⟩
    have k3 := k_choose3 (A := Bk e1 e2 (va m) (vC m) X Y) h40
    have k4 := k_choose4 (A := Bk e1 e2 (va m) (vC m) X Y) h40
    have wl := Wt_lt (A := Bk e1 e2 (va m) (vC m) X Y) h40
    rw [← ew] at hg k3 k4 wl
    rw [← ew]
    obtain ⟨S3, e3, f3, g3⟩ := k_take (n := n) (by omega) hB2 (w := w) wl (by omega)
    rw [k3] at g3
    rw [k4, t2] at e3
    exact Or.inr ⟨t1, S3, by rw [e3, bp_s], f12.tr (f3.mono rfl), g3⟩
end
