/-! LOTS: days -/
section
variable {n : Nat} {S : rvS} {m m' : Nat → Nat} {wd : Nat → List Nat}
def dyN (X : DSt) : Nat → DSt
  | 0 => X
  | i + 1 => dy1 (dyN X i)
theorem dyN_ok {X : DSt} (h : DOK m X.1) (hC : 0 < vC m) : ∀ i, DOK m (dyN X i).1
  | 0 => h
  | i + 1 => dy1_ok (dyN_ok h hC i) hC
theorem k_days (hn : 500 ≤ n) (hB : rv_B S) {X : DSt} (hX : DSC S X) (hO : DOK m X.1) (hC0 : 0 < vC m) (hN : NC S 67 X.1 wd) {N : Nat} (hN4 : N ≤ 400) : ∃ S', cX12_days_55 n n S 64 (nI N) (nI 0) = some (nI (dyN X N).2.2.1, S') ∧ rvf [147, 68, 69, 70, 71, 72, 74, 77, 78] S S' ∧ DSC S' (dyN X N) ∧ NC S' 67 (dyN X N).1 wd := by
  refine lp (F := fun q (x : rvS × Int32) => cX12_days_55 n q x.1 64 (nI N) x.2) (fun i x => x.2 = nI i ∧ rvf [147, 68, 69, 70, 71, 72, 74, 77, 78] S x.1 ∧ DSC x.1 (dyN X i) ∧ NC x.1 67 (dyN X i).1 wd) (fun o => ∃ S', o = some (nI (dyN X N).2.2.1, S') ∧ rvf [147, 68, 69, 70, 71, 72, 74, 77, 78] S S' ∧ DSC S' (dyN X N) ∧ NC S' 67 (dyN X N).1 wd) N (fun i x q hi hx => Or.inr ?_) (fun x q hx => ?_) (i := 0) (x := (S, nI 0)) (q := n) (Nat.zero_le _) ⟨rfl, rvf.rf _ _, hX, hN⟩ (by omega)
  · obtain ⟨S1, x2⟩ := x
    obtain ⟨rfl, f, g, h⟩ := hx
    have f : rvf [147, 68, 69, 70, 71, 72, 74, 77, 78] S S1 := f
    have g : DSC S1 (dyN X i) := g
    have h : NC S1 67 (dyN X i).1 wd := h
    have hB1 := f.B hB
    obtain ⟨S2, e2, f2, g2, h2⟩ := k_day (n := n) (by omega) hB1 g (dyN_ok hO hC0 i) hC0 h
    have hC := CS_of hB1
    have r8 := rf_of hB1 (show (64, 8, 147) ∈ rv_rf0 by decide)
    refine ⟨(S2, nI (i + 1)), ?_, rfl, f.tr f2, g2, h2⟩
    show cX12_days_55 n (q + 1) S1 64 (nI N) (nI i) = cX12_days_55 n q S2 64 (nI N) (nI (i + 1))
    rw [cX12_days_55]
    simp (disch := first | assumption | omega) only [tk_gI, tk_gL, tk_gR, tk_pI, tk_pL, rv_aI, rv_aL, rv_aR, rv_uI, rv_uL, rv_uB, rv_uZ, pu_ckI, pu_ckL, pu_lnI, pu_lnL, tk_rI, tk_rL, Option.bind_some, Option.map_some, rv_lt, tk_ix, z0, z1, z2, z3, z4, z5, z6, z7, z8, z9, z10, z11, z12, z13, z15, z16, z17, z18, z20, z21, z23, z24, z25, z31, z32, z39, z40, z41, z46, z48, z50, z57, z59, z60, z61, z62, z63, z64, z97, z98, z99, z100, z101, z102, z103, z104, z105, z106, z107, z108, z109, z110, z111, z112, z113, z114, z115, z116, z117, z118, z119, z120, z121, z122, z128, z132, z200, z240, z255, z372, z390625, z400, z420, z421, z422, z662, z900, z940, z999, z1000, z1024, z2000, z5860, z10000, z12345, z15625, z266240, z1048575, z1064960, z1103515245, z_m1, n_le, n_lt, n_eq, n_bit0, n_bit1, n_sbit0, n_shl, z_ltM, z_Mlt, z_leM, z_Mle, z_eqM, z_Meq, bI0, bI1, bI_01, bI_01t, bI_10, bI_10f, if_true, if_false, eq_self, reduceCtorEq, if_pos, if_neg, hC, r8, rc_147 hB1, e2, nI_add]
  · obtain ⟨S1, x2⟩ := x
    obtain ⟨rfl, f, g, h⟩ := hx
    have f : rvf [147, 68, 69, 70, 71, 72, 74, 77, 78] S S1 := f
    have g : DSC S1 (dyN X N) := g
    have hB1 := f.B hB
    have hC := CS_of hB1
    have r8 := rf_of hB1 (show (64, 8, 147) ∈ rv_rf0 by decide)
    have g1 := g.2.2.1
    refine ⟨S1, ?_, f, g, h⟩
    show cX12_days_55 n (q + 1) S1 64 (nI N) (nI N) = _
    rw [cX12_days_55]
    simp (disch := first | assumption | omega) only [tk_gI, tk_gL, tk_gR, tk_pI, tk_pL, rv_aI, rv_aL, rv_aR, rv_uI, rv_uL, rv_uB, rv_uZ, pu_ckI, pu_ckL, pu_lnI, pu_lnL, tk_rI, tk_rL, Option.bind_some, Option.map_some, rv_lt, tk_ix, z0, z1, z2, z3, z4, z5, z6, z7, z8, z9, z10, z11, z12, z13, z15, z16, z17, z18, z20, z21, z23, z24, z25, z31, z32, z39, z40, z41, z46, z48, z50, z57, z59, z60, z61, z62, z63, z64, z97, z98, z99, z100, z101, z102, z103, z104, z105, z106, z107, z108, z109, z110, z111, z112, z113, z114, z115, z116, z117, z118, z119, z120, z121, z122, z128, z132, z200, z240, z255, z372, z390625, z400, z420, z421, z422, z662, z900, z940, z999, z1000, z1024, z2000, z5860, z10000, z12345, z15625, z266240, z1048575, z1064960, z1103515245, z_m1, n_le, n_lt, n_eq, n_bit0, n_bit1, n_sbit0, n_shl, z_ltM, z_Mlt, z_leM, z_Mle, z_eqM, z_Meq, bI0, bI1, bI_01, bI_01t, bI_10, bI_10f, if_true, if_false, eq_self, reduceCtorEq, if_pos, if_neg, hC, r8, rc_147 hB1, g1]
theorem m_days (hn : 500 ≤ n) (hB : rv_B S) {X : DSt} (hX : DSM S X) (hO : DOK m X.1) (hC0 : 0 < vC m) {N : Nat} (hN4 : N ≤ 400) : ∃ S', cX13_days_46 n n S 189 (nI N) (nI 0) = cX13_days_62 n S' 189 ∧ rvf [189049, 189050, 189051, 189052, 189053, 191, 199] S S' ∧ DSM S' (dyN X N) ∧ R42 S S' := by
  refine lp (F := fun q (x : rvS × Int32) => cX13_days_46 n q x.1 189 (nI N) x.2) (fun i x => x.2 = nI i ∧ rvf [189049, 189050, 189051, 189052, 189053, 191, 199] S x.1 ∧ DSM x.1 (dyN X i) ∧ R42 S x.1) (fun o => ∃ S', o = cX13_days_62 n S' 189 ∧ rvf [189049, 189050, 189051, 189052, 189053, 191, 199] S S' ∧ DSM S' (dyN X N) ∧ R42 S S') N (fun i x q hi hx => Or.inr ?_) (fun x q hx => ?_) (i := 0) (x := (S, nI 0)) (q := n) (Nat.zero_le _) ⟨rfl, rvf.rf _ _, hX, R42.of (rvf.rf [] S) rfl⟩ (by omega)
  · obtain ⟨S1, x2⟩ := x
    obtain ⟨rfl, f, g, h⟩ := hx
    have f : rvf [189049, 189050, 189051, 189052, 189053, 191, 199] S S1 := f
    have g : DSM S1 (dyN X i) := g
    have h : R42 S S1 := h
    have hB1 := f.B hB
    obtain ⟨S2, e2, f2, g2, h2⟩ := m_day (n := n) (by omega) hB1 g (dyN_ok hO hC0 i) hC0
    refine ⟨(S2, nI (i + 1)), ?_, rfl, f.tr f2, g2, h.tr h2⟩
    show cX13_days_46 n (q + 1) S1 189 (nI N) (nI i) = cX13_days_46 n q S2 189 (nI N) (nI (i + 1))
    rw [cX13_days_46]
    simp (disch := first | assumption | omega) only [tk_gI, tk_gL, tk_gR, tk_pI, tk_pL, rv_aI, rv_aL, rv_aR, rv_uI, rv_uL, rv_uB, rv_uZ, pu_ckI, pu_ckL, pu_lnI, pu_lnL, tk_rI, tk_rL, Option.bind_some, Option.map_some, rv_lt, tk_ix, z0, z1, z2, z3, z4, z5, z6, z7, z8, z9, z10, z11, z12, z13, z15, z16, z17, z18, z20, z21, z23, z24, z25, z31, z32, z39, z40, z41, z46, z48, z50, z57, z59, z60, z61, z62, z63, z64, z97, z98, z99, z100, z101, z102, z103, z104, z105, z106, z107, z108, z109, z110, z111, z112, z113, z114, z115, z116, z117, z118, z119, z120, z121, z122, z128, z132, z200, z240, z255, z372, z390625, z400, z420, z421, z422, z662, z900, z940, z999, z1000, z1024, z2000, z5860, z10000, z12345, z15625, z266240, z1048575, z1064960, z1103515245, z_m1, n_le, n_lt, n_eq, n_bit0, n_bit1, n_sbit0, n_shl, z_ltM, z_Mlt, z_leM, z_Mle, z_eqM, z_Meq, bI0, bI1, bI_01, bI_01t, bI_10, bI_10f, if_true, if_false, eq_self, reduceCtorEq, if_pos, if_neg, rc_189 hB1, e2, nI_add]
  · obtain ⟨S1, x2⟩ := x
    obtain ⟨rfl, f, g, h⟩ := hx
    refine ⟨S1, ?_, f, g, h⟩
    show cX13_days_46 n (q + 1) S1 189 (nI N) (nI N) = _
    rw [cX13_days_46]
    simp (disch := first | assumption | omega) only [tk_gI, tk_gL, tk_gR, tk_pI, tk_pL, rv_aI, rv_aL, rv_aR, rv_uI, rv_uL, rv_uB, rv_uZ, pu_ckI, pu_ckL, pu_lnI, pu_lnL, tk_rI, tk_rL, Option.bind_some, Option.map_some, rv_lt, tk_ix, z0, z1, z2, z3, z4, z5, z6, z7, z8, z9, z10, z11, z12, z13, z15, z16, z17, z18, z20, z21, z23, z24, z25, z31, z32, z39, z40, z41, z46, z48, z50, z57, z59, z60, z61, z62, z63, z64, z97, z98, z99, z100, z101, z102, z103, z104, z105, z106, z107, z108, z109, z110, z111, z112, z113, z114, z115, z116, z117, z118, z119, z120, z121, z122, z128, z132, z200, z240, z255, z372, z390625, z400, z420, z421, z422, z662, z900, z940, z999, z1000, z1024, z2000, z5860, z10000, z12345, z15625, z266240, z1048575, z1064960, z1103515245, z_m1, n_le, n_lt, n_eq, n_bit0, n_bit1, n_sbit0, n_shl, z_ltM, z_Mlt, z_leM, z_Mle, z_eqM, z_Meq, bI0, bI1, bI_01, bI_01t, bI_10, bI_10f, if_true, if_false, eq_self, reduceCtorEq, if_pos, if_neg]
theorem m_days62 (hB : rv_B S) {X : DSt} (hX : DSM S X) : ∃ S', cX13_days_62 n S 189 = some (nI X.2.2.1, S') ∧ rvf [215] S S' ∧ S'.2.1 215 0 = nI X.2.2.2.1 ∧ S'.2.1 215 1 = nI X.2.2.2.2.1 ∧ S'.2.1 215 2 = nI X.2.2.2.2.2 := by
  obtain ⟨-, -, s1, s2, s3, s4⟩ := hX
  have rr := rf_of hB (show (189, 54, 215) ∈ rv_rf0 by decide)
  refine ⟨rv_sI (rv_sI (rv_sI S 215 0 (nI X.2.2.2.1)) 215 1 (nI X.2.2.2.2.1)) 215 2 (nI X.2.2.2.2.2), ?_, (((rvf.rf _ _).w rfl rfl).w rfl rfl).w rfl rfl, ?_, ?_, rv_sI_eq _ _ _ _⟩
  · have a1 : ∀ k, (rv_sI S 215 0 (nI X.2.2.2.1)).2.1 189 k = S.2.1 189 k := fun k => rv_sI_a _ _ _ (by decide) _
    have a2 : ∀ k, (rv_sI (rv_sI S 215 0 (nI X.2.2.2.1)) 215 1 (nI X.2.2.2.2.1)).2.1 189 k = S.2.1 189 k := fun k => by rw [rv_sI_a _ _ _ (by decide)]; exact a1 k
    have a3 : ∀ k, (rv_sI (rv_sI (rv_sI S 215 0 (nI X.2.2.2.1)) 215 1 (nI X.2.2.2.2.1)) 215 2 (nI X.2.2.2.2.2)).2.1 189 k = S.2.1 189 k := fun k => by rw [rv_sI_a _ _ _ (by decide)]; exact a2 k
    rw [cX13_days_62]
    simp (disch := first | assumption | omega) only [tk_gI, tk_gL, tk_gR, tk_pI, tk_pL, rv_aI, rv_aL, rv_aR, rv_uI, rv_uL, rv_uB, rv_uZ, pu_ckI, pu_ckL, pu_lnI, pu_lnL, tk_rI, tk_rL, Option.bind_some, Option.map_some, rv_lt, tk_ix, z0, z1, z2, z3, z4, z5, z6, z7, z8, z9, z10, z11, z12, z13, z15, z16, z17, z18, z20, z21, z23, z24, z25, z31, z32, z39, z40, z41, z46, z48, z50, z57, z59, z60, z61, z62, z63, z64, z97, z98, z99, z100, z101, z102, z103, z104, z105, z106, z107, z108, z109, z110, z111, z112, z113, z114, z115, z116, z117, z118, z119, z120, z121, z122, z128, z132, z200, z240, z255, z372, z390625, z400, z420, z421, z422, z662, z900, z940, z999, z1000, z1024, z2000, z5860, z10000, z12345, z15625, z266240, z1048575, z1064960, z1103515245, z_m1, n_le, n_lt, n_eq, n_bit0, n_bit1, n_sbit0, n_shl, z_ltM, z_Mlt, z_leM, z_Mle, z_eqM, z_Meq, bI0, bI1, bI_01, bI_01t, bI_10, bI_10f, if_true, if_false, eq_self, reduceCtorEq, if_pos, if_neg, rc_189 hB, rr, rn_215 hB, s2, a1, a2, a3, s3, s4, s1]
  · rw [rv_sI_k _ _ (by decide), rv_sI_k _ _ (by decide)]; exact rv_sI_eq _ _ _ _
  · rw [rv_sI_k _ _ (by decide)]; exact rv_sI_eq _ _ _ _
theorem rngd (x : Int32) : (∃ a, 1 ≤ a ∧ a ≤ 400 ∧ x = nI a) ∨ (x < nI 1 ∨ (¬ x < nI 1 ∧ nI 400 < x)) := by
  rcases rng x (N := 401) (by decide) with ⟨a, h, rfl⟩ | h
  · by_cases c : 1 ≤ a
    · exact Or.inl ⟨a, c, by omega, rfl⟩
    · exact Or.inr (Or.inl (by rw [n_lt (by omega) (by decide)]; omega))
  · rcases h with h | h
    · exact Or.inr (Or.inl (Int32.lt_trans h (by decide)))
    · by_cases c : x < nI 1
      · exact Or.inr (Or.inl c)
      · exact Or.inr (Or.inr ⟨c, Int32.lt_of_lt_of_le (show nI 400 < nI 401 by decide) h⟩)
theorem m_hasDays (hB : rv_B S) (hM : MR S m) (hk : okm m) {N : Nat} (h1 : 1 ≤ N) (h4 : N ≤ 400) : fnX13_hasDays n S 189 (nI N) = some (bI (decide (0 < vW m) && decide (0 < vC m))) := by
  have h24 := hk.1.1
  have h40 := hk.2.1.1
  have i1 : fnX13_isIn n S (nI N) (1 : Int32) (400 : Int32) = some (nI 1) := by
    rw [fnX13_isIn]
    simp (disch := first | assumption | omega) only [tk_gI, tk_gL, tk_gR, tk_pI, tk_pL, rv_aI, rv_aL, rv_aR, rv_uI, rv_uL, rv_uB, rv_uZ, pu_ckI, pu_ckL, pu_lnI, pu_lnL, tk_rI, tk_rL, Option.bind_some, Option.map_some, rv_lt, tk_ix, z0, z1, z2, z3, z4, z5, z6, z7, z8, z9, z10, z11, z12, z13, z15, z16, z17, z18, z20, z21, z23, z24, z25, z31, z32, z39, z40, z41, z46, z48, z50, z57, z59, z60, z61, z62, z63, z64, z97, z98, z99, z100, z101, z102, z103, z104, z105, z106, z107, z108, z109, z110, z111, z112, z113, z114, z115, z116, z117, z118, z119, z120, z121, z122, z128, z132, z200, z240, z255, z372, z390625, z400, z420, z421, z422, z662, z900, z940, z999, z1000, z1024, z2000, z5860, z10000, z12345, z15625, z266240, z1048575, z1064960, z1103515245, z_m1, n_le, n_lt, n_eq, n_bit0, n_bit1, n_sbit0, n_shl, z_ltM, z_Mlt, z_leM, z_Mle, z_eqM, z_Meq, bI0, bI1, bI_01, bI_01t, bI_10, bI_10f, if_true, if_false, eq_self, reduceCtorEq, if_pos, if_neg, bo_1]
  by_cases c1 : 0 < vW m
  · by_cases c2 : 0 < vC m
    · rw [decide_eq_true c1, decide_eq_true c2, fnX13_hasDays]
      have n1 : ¬ nI (vW m) ≤ (0 : Int32) := by rw [z0, n_le (by omega) (by decide)]; omega
      have n2 : ¬ nI (vC m) ≤ (0 : Int32) := by rw [z0, n_le (by omega) (by decide)]; omega
      rw [i1, Option.bind_some, if_neg (by decide), rc_189 hB, Option.bind_some, m_whos hB hM, Option.bind_some, if_neg n1, Option.bind_some, m_coins hB hM, Option.bind_some, if_neg n2]
      rfl
    · rw [decide_eq_true c1, decide_eq_false c2, fnX13_hasDays]
      have n1 : ¬ nI (vW m) ≤ (0 : Int32) := by rw [z0, n_le (by omega) (by decide)]; omega
      have n2 : nI (vC m) ≤ (0 : Int32) := by rw [z0, n_le (by omega) (by decide)]; omega
      rw [i1, Option.bind_some, if_neg (by decide), rc_189 hB, Option.bind_some, m_whos hB hM, Option.bind_some, if_neg n1, Option.bind_some, m_coins hB hM, Option.bind_some, if_pos n2]
      rfl
  · rw [decide_eq_false c1, fnX13_hasDays]
    have n1 : nI (vW m) ≤ (0 : Int32) := by rw [z0, n_le (by omega) (by decide)]; omega
    rw [i1, Option.bind_some, if_neg (by decide), rc_189 hB, Option.bind_some, m_whos hB hM, Option.bind_some, if_pos n1]
    rfl
theorem m_hasDays0 {x : Int32} (h : x < nI 1 ∨ (¬ x < nI 1 ∧ nI 400 < x)) : fnX13_hasDays n S 189 x = some (nI 0) := by
  rw [fnX13_hasDays, fnX13_isIn, z1, z400]
  rcases h with h | ⟨h, h2⟩
  · rw [if_pos h]; rfl
  · rw [if_neg h, if_pos h2]; rfl
def DD : List Nat := DV ++ [64010, 147, 215]
theorem QS.dd {S' : rvS} (h : QS S S' m wd) : QD DD S S' m wd := ⟨h.1, h.2.1.mono (by decide), h.2.2⟩
theorem DW.v {S' : rvS} (h : DW S) (q : QS S S' m wd) : DW S' := h.f q.2.1 rfl rfl rfl
theorem op_days (hn : 500 ≤ n) (hV : VI S m wd) (hD : DW S) (x y : Int32) : ∃ r S1 S' m', fnX12_days n S 64 x y = some (r, S1) ∧ fnX13_days n S1 189 x y = some (r, S') ∧ QD DD S S' m' wd ∧ DW S' := by
  obtain ⟨hB, hR, hL, hk, hNC, hNM, hok⟩ := id hV
  obtain ⟨hp, hc, hd⟩ := id hk
  have h24 := hp.1
  have h40 := hc.1
  have hC := CS_of hB
  have hv : vb 67 := Or.inl rfl
  have hVS := VS_of hB hv
  have hFS := FS_of hB hv.f
  have hPS := PS_of hB hv.p
  have hF := hR.1
  have hP := hR.2.1
  have bad : fnX12_days n S 64 x y = some (iM, S) → (∀ S6, fnX13_lay n (rv_sI S 189 0 (nI 0)) 189 = some S6 → rv_B S6 → MR S6 m → fnX13_days n S 189 x y = some (iM, S6)) → ∃ r S1 S' m', fnX12_days n S 64 x y = some (r, S1) ∧ fnX13_days n S1 189 x y = some (r, S') ∧ QD DD S S' m' wd ∧ DW S' := fun h1 h2 => by
    obtain ⟨S6, e6, hB6, f6, hM6, r6, b6⟩ := start_ok (n := n) (by omega) hB hL
    have q := QS.s0 hV f6 hM6 r6 b6
    exact ⟨_, S, S6, m, h1, h2 S6 e6 hB6 hM6, q.dd, hD.v q⟩
  rcases rngd x with ⟨N, h1, h4, rfl⟩ | hx
  · by_cases c1 : 0 < vW m
    · by_cases c2 : 0 < vC m
      · obtain ⟨S1, eS1⟩ : ∃ S1, S1 = rv_sI (rv_sI (rv_sI (rv_sI (rv_sI (rv_sI S 64 10 (nI 1)) 147 0 y) 147 1 (nI 0)) 147 2 (nI 0)) 147 3 (nI 0)) 147 4 (nI 0) := ⟨_, rfl⟩
        have f1 : rvf [64010, 147] S S1 := by
          rw [eS1]
          exact (((((((rvf.sI S 64 10 (nI 1)).mono rfl)).w rfl rfl).w rfl rfl).w rfl rfl).w rfl rfl).w rfl rfl
        have hB1 := f1.B hB
        have t1 : S1.2.1 64 10 = nI 1 := by rw [eS1, rv_sI_a _ _ _ (by decide), rv_sI_a _ _ _ (by decide), rv_sI_a _ _ _ (by decide), rv_sI_a _ _ _ (by decide), rv_sI_a _ _ _ (by decide), rv_sI_eq]
        have R1 := hR.f f1 hv (Or.inl rfl) (Or.inr (by decide)) (Or.inr (by decide)) (Or.inr (by decide))
        have N1 : NC S1 67 m wd := fun w hw => (f1.rowL (a := 67 + 5) rfl rfl w).trans (hNC w hw)
        have X1 : DSC S1 (m, y, 0, 0, 0, 0) := by
          refine ⟨R1, ?_, ?_, ?_, ?_, ?_⟩
          · rw [eS1, rv_sI_k _ _ (by decide), rv_sI_k _ _ (by decide), rv_sI_k _ _ (by decide), rv_sI_k _ _ (by decide), rv_sI_eq]
          · rw [eS1, rv_sI_k _ _ (by decide), rv_sI_k _ _ (by decide), rv_sI_k _ _ (by decide), rv_sI_eq]
          · rw [eS1, rv_sI_k _ _ (by decide), rv_sI_k _ _ (by decide), rv_sI_eq]
          · rw [eS1, rv_sI_k _ _ (by decide), rv_sI_eq]
          · rw [eS1, rv_sI_eq]
        have O1 : DOK m (m, y, 0, 0, 0, 0).1 := ⟨hk, c1, rfl, rfl⟩
        obtain ⟨S2, e2, f2, X2, N2⟩ := k_days hn hB1 X1 O1 c2 N1 h4
        have O2 := dyN_ok O1 c2 N
        obtain ⟨Y, eY⟩ : ∃ Y, Y = dyN (m, y, 0, 0, 0, 0) N := ⟨_, rfl⟩
        rw [← eY] at e2 X2 N2 O2
        have hB2 := f2.B hB1
        have f12 : rvf [64010, 147, 68, 69, 70, 71, 72, 74, 77, 78] S S2 := (f1.mono rfl).tr (f2.mono rfl)
        obtain ⟨S6, e6, hB6, f6, hM6, r6, b6⟩ := start_ok (n := n) (by omega) hB2 (hL.f f12 rfl rfl)
        obtain ⟨S7, eS7⟩ : ∃ S7, S7 = rv_sI (rv_sI (rv_sI (rv_sI (rv_sI S6 189 49 y) 189 50 (nI 0)) 189 51 (nI 0)) 189 52 (nI 0)) 189 53 (nI 0) := ⟨_, rfl⟩
        have f7 : rvf [189049, 189050, 189051, 189052, 189053] S6 S7 := by
          rw [eS7]
          exact (((((rvf.sI S6 189 49 y).mono rfl).tr ((rvf.sI _ 189 50 (nI 0)).mono rfl)).tr ((rvf.sI _ 189 51 (nI 0)).mono rfl)).tr ((rvf.sI _ 189 52 (nI 0)).mono rfl)).tr ((rvf.sI _ 189 53 (nI 0)).mono rfl)
        have hB7 := f7.B hB6
        have X7 : DSM S7 (m, y, 0, 0, 0, 0) := by
          refine ⟨hM6.f f7 rfl, ?_, ?_, ?_, ?_, ?_⟩
          · rw [eS7, rv_sI_k _ _ (by decide), rv_sI_k _ _ (by decide), rv_sI_k _ _ (by decide), rv_sI_k _ _ (by decide), rv_sI_eq]
          · rw [eS7, rv_sI_k _ _ (by decide), rv_sI_k _ _ (by decide), rv_sI_k _ _ (by decide), rv_sI_eq]
          · rw [eS7, rv_sI_k _ _ (by decide), rv_sI_k _ _ (by decide), rv_sI_eq]
          · rw [eS7, rv_sI_k _ _ (by decide), rv_sI_eq]
          · rw [eS7, rv_sI_eq]
        obtain ⟨S8, e8, f8, X8, r8⟩ := m_days hn hB7 X7 O1 c2 h4
        rw [← eY] at X8
        have hB8 := f8.B hB7
        obtain ⟨S9, e9, f9, u0, u1, u2⟩ := m_days62 (n := n) hB8 X8
        have fz : rvf [189000, 189022, 191, 199, 189049, 189050, 189051, 189052, 189053, 215] S2 S9 := (f6.mono rfl).tr ((f7.mono rfl).tr ((f8.mono rfl).tr (f9.mono rfl)))
        have hM9 := X8.1.f f9 rfl
        have b9 : ¬ S9.2.1 189 22 = 0 := by rw [f9.at (a := 189) (k := 22) rfl, f8.at (a := 189) (k := 22) rfl, f7.at (a := 189) (k := 22) rfl]; exact b6
        have r9 : R42 S S9 := (R42.of f12 rfl).tr (r6.tr ((R42.of f7 rfl).tr (r8.tr (R42.of f9 rfl))))
        have R9 := X2.1.f fz hv (Or.inl rfl) (Or.inr (by decide)) (Or.inr (by decide)) (Or.inr (by decide))
        have q147 : ∀ k, S9.2.1 147 k = S2.2.1 147 k := fz.row rfl rfl
        obtain ⟨Ok, OW, OC, O6⟩ := O2
        refine ⟨nI Y.2.2.1, S2, S9, Y.1, ?_, ?_, ⟨⟨fz.B hB2, R9, MRL.of hM9 b9, Ok, fun w hw => ?_, fun w hw => ?_, hok.c O6⟩, (f12.mono (by decide)).tr (fz.mono (by decide)), r9⟩, Or.inr ⟨(fz.at (a := 64) (k := 10) rfl).trans ((f2.at (a := 64) (k := 10) rfl).trans t1), fun j hj => ?_⟩⟩
        · have r8' : ∀ T, rv_B T → T.2.2.2 64 8 = some 147 := fun T hT => rf_of hT (by decide)
          have kw0 : ¬ nI (vW m) = (0 : Int32) := by rw [z0, n_eq (by omega) (by decide)]; omega
          have kc0 : ¬ nI (vC m) = (0 : Int32) := by rw [z0, n_eq (by omega) (by decide)]; omega
          have n1 : ¬ nI N < (1 : Int32) := by rw [z1, n_lt (by omega) (by decide)]; omega
          have n4 : ¬ (400 : Int32) < nI N := by rw [z400, n_lt (by decide) (by omega)]; omega
          have hc64 := rc_64 hB
          have hc147 := rc_147 hB
          have r8 := r8' S hB
          rw [fnX12_days, if_neg n1, if_neg n4]
          repeat (first | (conv => (lhs; arg 1; simp (disch := first | assumption | omega) only [tk_gI, tk_gL, tk_gR, tk_pI, tk_pL, rv_aI, rv_aL, rv_aR, rv_uI, rv_uL, rv_uB, rv_uZ, pu_ckI, pu_ckL, pu_lnI, pu_lnL, tk_rI, tk_rL, Option.bind_some, Option.map_some, rv_lt, tk_ix, hC, hVS, hFS, hF, if_neg kw0])); first | rw [Option.bind_some] | rw [bp_s] | rw [if_true] | rw [if_false] | rw [rv_lt_eq] | rw [if_pos (by omega)] | rw [if_neg (by omega)])
          repeat (first | (conv => (lhs; arg 1; simp (disch := first | assumption | omega) only [tk_gI, tk_gL, tk_gR, tk_pI, tk_pL, rv_aI, rv_aL, rv_aR, rv_uI, rv_uL, rv_uB, rv_uZ, pu_ckI, pu_ckL, pu_lnI, pu_lnL, tk_rI, tk_rL, Option.bind_some, Option.map_some, rv_lt, tk_ix, hC, hVS, hPS, hP, if_neg kc0])); first | rw [Option.bind_some] | rw [bp_s] | rw [if_true] | rw [if_false] | rw [rv_lt_eq] | rw [if_pos (by omega)] | rw [if_neg (by omega)])
          simp (disch := first | assumption | omega) only [fnX3_begin, tk_gI, tk_gL, tk_gR, tk_pI, tk_pL, rv_aI, rv_aL, rv_aR, rv_uI, rv_uL, rv_uB, rv_uZ, pu_ckI, pu_ckL, pu_lnI, pu_lnL, tk_rI, tk_rL, Option.bind_some, Option.map_some, rv_lt, tk_ix, z0, z1, z2, z3, z4, z5, z6, z7, z8, z9, z10, z11, z12, z13, z15, z16, z17, z18, z20, z21, z23, z24, z25, z31, z32, z39, z40, z41, z46, z48, z50, z57, z59, z60, z61, z62, z63, z64, z97, z98, z99, z100, z101, z102, z103, z104, z105, z106, z107, z108, z109, z110, z111, z112, z113, z114, z115, z116, z117, z118, z119, z120, z121, z122, z128, z132, z200, z240, z255, z372, z390625, z400, z420, z421, z422, z662, z900, z940, z999, z1000, z1024, z2000, z5860, z10000, z12345, z15625, z266240, z1048575, z1064960, z1103515245, z_m1, hc64, r8, hc147]
          rw [← eS1]
          exact e2
        · rw [fnX13_days]
          repeat (first | (conv => (lhs; arg 1; simp (disch := first | assumption | omega) only [tk_gI, tk_gL, tk_gR, tk_pI, tk_pL, rv_aI, rv_aL, rv_aR, rv_uI, rv_uL, rv_uB, rv_uZ, pu_ckI, pu_ckL, pu_lnI, pu_lnL, tk_rI, tk_rL, Option.bind_some, Option.map_some, rv_lt, tk_ix, z0, z1, z2, z3, z4, z5, z6, z7, z8, z9, z10, z11, z12, z13, z15, z16, z17, z18, z20, z21, z23, z24, z25, z31, z32, z39, z40, z41, z46, z48, z50, z57, z59, z60, z61, z62, z63, z64, z97, z98, z99, z100, z101, z102, z103, z104, z105, z106, z107, z108, z109, z110, z111, z112, z113, z114, z115, z116, z117, z118, z119, z120, z121, z122, z128, z132, z200, z240, z255, z372, z390625, z400, z420, z421, z422, z662, z900, z940, z999, z1000, z1024, z2000, z5860, z10000, z12345, z15625, z266240, z1048575, z1064960, z1103515245, z_m1, rc_189 hB2, e6, rc_189 hB6, m_hasDays hB6 hM6 hk h1 h4, decide_eq_true c1, decide_eq_true c2])); first | rw [Option.bind_some] | rw [bp_s] | rw [if_true] | rw [if_false] | rw [rv_lt_eq] | rw [if_pos (by omega)] | rw [if_neg (by omega)])
          all_goals first | (rw [if_neg (by decide)]) | skip
          simp (disch := first | assumption | omega) only [tk_gI, tk_gL, tk_gR, tk_pI, tk_pL, rv_aI, rv_aL, rv_aR, rv_uI, rv_uL, rv_uB, rv_uZ, pu_ckI, pu_ckL, pu_lnI, pu_lnL, tk_rI, tk_rL, Option.bind_some, Option.map_some, rv_lt, tk_ix, z0, z1, z2, z3, z4, z5, z6, z7, z8, z9, z10, z11, z12, z13, z15, z16, z17, z18, z20, z21, z23, z24, z25, z31, z32, z39, z40, z41, z46, z48, z50, z57, z59, z60, z61, z62, z63, z64, z97, z98, z99, z100, z101, z102, z103, z104, z105, z106, z107, z108, z109, z110, z111, z112, z113, z114, z115, z116, z117, z118, z119, z120, z121, z122, z128, z132, z200, z240, z255, z372, z390625, z400, z420, z421, z422, z662, z900, z940, z999, z1000, z1024, z2000, z5860, z10000, z12345, z15625, z266240, z1048575, z1064960, z1103515245, z_m1, rc_189 hB6]
          rw [← eS7, e8, e9]
        · rw [fz.rowL (a := 67 + 5) rfl rfl]; exact N2 w hw
        · rw [O6] at hw
          rw [fz.rowL (a := 195) rfl rfl, f12.rowL (a := 195) rfl rfl]
          exact hNM w hw
        · rw [q147]
          have h3 : j = 0 ∨ j = 1 ∨ j = 2 := by omega
          rcases h3 with rfl | rfl | rfl
          · rw [u0]; exact X2.2.2.2.1
          · rw [u1]; exact X2.2.2.2.2.1
          · rw [u2]; exact X2.2.2.2.2.2
      · have c2' : vC m = 0 := by omega
        refine bad ?_ fun S6 e6 hB6 hM6 => ?_
        · have kc0 : nI (vC m) = (0 : Int32) := by rw [c2']; rfl
          have kw0 : ¬ nI (vW m) = (0 : Int32) := by rw [z0, n_eq (by omega) (by decide)]; omega
          have n1 : ¬ nI N < (1 : Int32) := by rw [z1, n_lt (by omega) (by decide)]; omega
          have n4 : ¬ (400 : Int32) < nI N := by rw [z400, n_lt (by decide) (by omega)]; omega
          rw [fnX12_days, if_neg n1, if_neg n4]
          repeat (first | (conv => (lhs; arg 1; simp (disch := first | assumption | omega) only [tk_gI, tk_gL, tk_gR, tk_pI, tk_pL, rv_aI, rv_aL, rv_aR, rv_uI, rv_uL, rv_uB, rv_uZ, pu_ckI, pu_ckL, pu_lnI, pu_lnL, tk_rI, tk_rL, Option.bind_some, Option.map_some, rv_lt, tk_ix, hC, hVS, hFS, hF, if_neg kw0])); first | rw [Option.bind_some] | rw [bp_s] | rw [if_true] | rw [if_false] | rw [rv_lt_eq] | rw [if_pos (by omega)] | rw [if_neg (by omega)])
          repeat (first | (conv => (lhs; arg 1; simp (disch := first | assumption | omega) only [tk_gI, tk_gL, tk_gR, tk_pI, tk_pL, rv_aI, rv_aL, rv_aR, rv_uI, rv_uL, rv_uB, rv_uZ, pu_ckI, pu_ckL, pu_lnI, pu_lnL, tk_rI, tk_rL, Option.bind_some, Option.map_some, rv_lt, tk_ix, hC, hVS, hPS, hP, if_pos kc0])); first | rw [Option.bind_some] | rw [bp_s] | rw [if_true] | rw [if_false] | rw [rv_lt_eq] | rw [if_pos (by omega)] | rw [if_neg (by omega)])
          all_goals rfl
        · rw [fnX13_days]
          repeat (first | (conv => (lhs; arg 1; simp (disch := first | assumption | omega) only [tk_gI, tk_gL, tk_gR, tk_pI, tk_pL, rv_aI, rv_aL, rv_aR, rv_uI, rv_uL, rv_uB, rv_uZ, pu_ckI, pu_ckL, pu_lnI, pu_lnL, tk_rI, tk_rL, Option.bind_some, Option.map_some, rv_lt, tk_ix, z0, z1, z2, z3, z4, z5, z6, z7, z8, z9, z10, z11, z12, z13, z15, z16, z17, z18, z20, z21, z23, z24, z25, z31, z32, z39, z40, z41, z46, z48, z50, z57, z59, z60, z61, z62, z63, z64, z97, z98, z99, z100, z101, z102, z103, z104, z105, z106, z107, z108, z109, z110, z111, z112, z113, z114, z115, z116, z117, z118, z119, z120, z121, z122, z128, z132, z200, z240, z255, z372, z390625, z400, z420, z421, z422, z662, z900, z940, z999, z1000, z1024, z2000, z5860, z10000, z12345, z15625, z266240, z1048575, z1064960, z1103515245, z_m1, rc_189 hB, e6, rc_189 hB6, m_hasDays hB6 hM6 hk h1 h4, decide_eq_true c1, decide_eq_false c2])); first | rw [Option.bind_some] | rw [bp_s] | rw [if_true] | rw [if_false] | rw [rv_lt_eq] | rw [if_pos (by omega)] | rw [if_neg (by omega)])
          all_goals rfl
    · refine bad ?_ fun S6 e6 hB6 hM6 => ?_
      · have c1' : vW m = 0 := by omega
        have kw0 : nI (vW m) = (0 : Int32) := by rw [c1']; rfl
        have n1 : ¬ nI N < (1 : Int32) := by rw [z1, n_lt (by omega) (by decide)]; omega
        have n4 : ¬ (400 : Int32) < nI N := by rw [z400, n_lt (by decide) (by omega)]; omega
        rw [fnX12_days, if_neg n1, if_neg n4]
        repeat (first | (conv => (lhs; arg 1; simp (disch := first | assumption | omega) only [tk_gI, tk_gL, tk_gR, tk_pI, tk_pL, rv_aI, rv_aL, rv_aR, rv_uI, rv_uL, rv_uB, rv_uZ, pu_ckI, pu_ckL, pu_lnI, pu_lnL, tk_rI, tk_rL, Option.bind_some, Option.map_some, rv_lt, tk_ix, hC, hVS, hFS, hF, if_pos kw0])); first | rw [Option.bind_some] | rw [bp_s] | rw [if_true] | rw [if_false] | rw [rv_lt_eq] | rw [if_pos (by omega)] | rw [if_neg (by omega)])
        all_goals rfl
      · rw [fnX13_days]
        repeat (first | (conv => (lhs; arg 1; simp (disch := first | assumption | omega) only [tk_gI, tk_gL, tk_gR, tk_pI, tk_pL, rv_aI, rv_aL, rv_aR, rv_uI, rv_uL, rv_uB, rv_uZ, pu_ckI, pu_ckL, pu_lnI, pu_lnL, tk_rI, tk_rL, Option.bind_some, Option.map_some, rv_lt, tk_ix, z0, z1, z2, z3, z4, z5, z6, z7, z8, z9, z10, z11, z12, z13, z15, z16, z17, z18, z20, z21, z23, z24, z25, z31, z32, z39, z40, z41, z46, z48, z50, z57, z59, z60, z61, z62, z63, z64, z97, z98, z99, z100, z101, z102, z103, z104, z105, z106, z107, z108, z109, z110, z111, z112, z113, z114, z115, z116, z117, z118, z119, z120, z121, z122, z128, z132, z200, z240, z255, z372, z390625, z400, z420, z421, z422, z662, z900, z940, z999, z1000, z1024, z2000, z5860, z10000, z12345, z15625, z266240, z1048575, z1064960, z1103515245, z_m1, rc_189 hB, e6, rc_189 hB6, m_hasDays hB6 hM6 hk h1 h4, decide_eq_false c1])); first | rw [Option.bind_some] | rw [bp_s] | rw [if_true] | rw [if_false] | rw [rv_lt_eq] | rw [if_pos (by omega)] | rw [if_neg (by omega)])
        all_goals rfl
  · refine bad ?_ fun S6 e6 hB6 hM6 => ?_
    · rw [fnX12_days]
      rcases hx with h | ⟨h, h2⟩
      · rw [if_pos (show x < (1 : Int32) from h)]; rfl
      · rw [if_neg (show ¬ x < (1 : Int32) from h), if_pos (show (400 : Int32) < x from h2)]; rfl
    · rw [fnX13_days]
      repeat (first | (conv => (lhs; arg 1; simp (disch := first | assumption | omega) only [tk_gI, tk_gL, tk_gR, tk_pI, tk_pL, rv_aI, rv_aL, rv_aR, rv_uI, rv_uL, rv_uB, rv_uZ, pu_ckI, pu_ckL, pu_lnI, pu_lnL, tk_rI, tk_rL, Option.bind_some, Option.map_some, rv_lt, tk_ix, z0, z1, z2, z3, z4, z5, z6, z7, z8, z9, z10, z11, z12, z13, z15, z16, z17, z18, z20, z21, z23, z24, z25, z31, z32, z39, z40, z41, z46, z48, z50, z57, z59, z60, z61, z62, z63, z64, z97, z98, z99, z100, z101, z102, z103, z104, z105, z106, z107, z108, z109, z110, z111, z112, z113, z114, z115, z116, z117, z118, z119, z120, z121, z122, z128, z132, z200, z240, z255, z372, z390625, z400, z420, z421, z422, z662, z900, z940, z999, z1000, z1024, z2000, z5860, z10000, z12345, z15625, z266240, z1048575, z1064960, z1103515245, z_m1, rc_189 hB, e6, rc_189 hB6, m_hasDays0 hx])); first | rw [Option.bind_some] | rw [bp_s] | rw [if_true] | rw [if_false] | rw [rv_lt_eq] | rw [if_pos (by omega)] | rw [if_neg (by omega)])
      all_goals rfl
end
