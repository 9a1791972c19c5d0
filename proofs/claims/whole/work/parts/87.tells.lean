/-! TELLS: handAt, orderAt, had, drawn: what earlier calls left, read -/
section
variable {n : Nat} {S : rvS} {m m' : Nat → Nat} {wd : Nat → List Nat}
theorem not_lt_of {x N : Int32} (h : N ≤ x) : ¬ x < N := fun z => Int32.lt_irrefl (Int32.lt_of_lt_of_le z h)
/-- the row of the last hands -/
def HD (S : rvS) : Prop := ∃ k, k ≤ 1024 ∧ S.2.1 111 5 = nI k ∧ S.2.1 189 36 = nI k ∧ ∀ j, j < k → S.2.1 115 j = S.2.1 208 j
/-- the last orders -/
def OV (S : rvS) : Prop := ∃ k, k ≤ 5 ∧ S.2.1 118 5 = nI k ∧ S.2.1 189 43 = nI k ∧ ∀ j, j < k → S.2.1 122 j = S.2.1 211 j
/-- who had, of the last ways -/
def HV (S : rvS) : Prop := ∃ k, k ≤ 5 ∧ S.2.1 111 8 = nI k ∧ S.2.1 189 47 = nI k ∧ ∀ j, j < k → S.2.1 117 j = S.2.1 214 j
/-- the last lot -/
def DW (S : rvS) : Prop := (S.2.1 64 10 = nI 0 ∧ ∀ j, j < 3 → S.2.1 215 j = iM) ∨ (S.2.1 64 10 = nI 1 ∧ ∀ j, j < 3 → S.2.1 147 (2 + j) = S.2.1 215 j)
theorem HD.f {D : List Nat} {S' : rvS} (h : HD S) (f : rvf D S S') (h1 : D.elem 111005 = false) (h2 : D.elem 189036 = false) (h3 : D.elem 115 = false) (h4 : D.elem 208 = false) : HD S' := by
  obtain ⟨k, a, g1, g2, g3⟩ := h
  exact ⟨k, a, (f.at (a := 111) (k := 5) h1).trans g1, (f.at (a := 189) (k := 36) h2).trans g2, fun j hj => (f.row rfl h3 j).trans ((g3 j hj).trans (f.row rfl h4 j).symm)⟩
theorem OV.f {D : List Nat} {S' : rvS} (h : OV S) (f : rvf D S S') (h1 : D.elem 118005 = false) (h2 : D.elem 189043 = false) (h3 : D.elem 122 = false) (h4 : D.elem 211 = false) : OV S' := by
  obtain ⟨k, a, g1, g2, g3⟩ := h
  exact ⟨k, a, (f.at (a := 118) (k := 5) h1).trans g1, (f.at (a := 189) (k := 43) h2).trans g2, fun j hj => (f.row rfl h3 j).trans ((g3 j hj).trans (f.row rfl h4 j).symm)⟩
theorem HV.f {D : List Nat} {S' : rvS} (h : HV S) (f : rvf D S S') (h1 : D.elem 111008 = false) (h2 : D.elem 189047 = false) (h3 : D.elem 117 = false) (h4 : D.elem 214 = false) : HV S' := by
  obtain ⟨k, a, g1, g2, g3⟩ := h
  exact ⟨k, a, (f.at (a := 111) (k := 8) h1).trans g1, (f.at (a := 189) (k := 47) h2).trans g2, fun j hj => (f.row rfl h3 j).trans ((g3 j hj).trans (f.row rfl h4 j).symm)⟩
theorem DW.f {D : List Nat} {S' : rvS} (h : DW S) (f : rvf D S S') (h1 : D.elem 64010 = false) (h2 : D.elem 147 = false) (h3 : D.elem 215 = false) : DW S' := by
  rcases h with ⟨g1, g2⟩ | ⟨g1, g2⟩
  · exact Or.inl ⟨(f.at (a := 64) (k := 10) h1).trans g1, fun j hj => (f.row rfl h3 j).trans (g2 j hj)⟩
  · exact Or.inr ⟨(f.at (a := 64) (k := 10) h1).trans g1, fun j hj => (f.row rfl h2 _).trans ((g2 j hj).trans (f.row rfl h3 j).symm)⟩
theorem op_handAt (hV : VI S m wd) (hH : HD S) (x : Int32) : ∃ r S', fnX12_handAt n S 64 x = some r ∧ fnX13_handAt n S 189 x = some (r, S') ∧ QS S S' m wd := by
  obtain ⟨hB, -⟩ := id hV
  obtain ⟨S0, e0, f0, hB0, q0⟩ := QS.m0 hV
  obtain ⟨k, a1, g1, g2, g3⟩ := hH
  have r6 := rf_of hB (show (64, 6, 111) ∈ rv_rf0 by decide)
  have r4 := rf_of hB (show (111, 4, 115) ∈ rv_rf0 by decide)
  have rr := rf_of hB0 (show (189, 34, 208) ∈ rv_rf0 by decide)
  have g20 : S0.2.1 189 36 = nI k := (f0.at (a := 189) (k := 36) rfl).trans g2
  rcases rng x (N := k) (by omega) with ⟨j, hj, rfl⟩ | hx
  · have g40 : S0.2.1 208 j = S.2.1 115 j := (f0.row rfl rfl j).trans (g3 j hj).symm
    refine ⟨S.2.1 115 j, S0, ?_, ?_, q0⟩
    · simp (disch := first | assumption | omega) only [fnX12_handAt, fnX2_handOf, tk_gI, tk_gL, tk_gR, tk_pI, tk_pL, rv_aI, rv_aL, rv_aR, rv_uI, rv_uL, rv_uB, rv_uZ, pu_ckI, pu_ckL, pu_lnI, pu_lnL, tk_rI, tk_rL, Option.bind_some, Option.map_some, rv_lt, tk_ix, z0, z1, z2, z3, z4, z5, z6, z7, z8, z9, z10, z11, z12, z13, z15, z16, z17, z18, z20, z21, z23, z24, z25, z31, z32, z39, z40, z41, z46, z48, z50, z57, z59, z60, z61, z62, z63, z64, z97, z98, z99, z100, z101, z102, z103, z104, z105, z106, z107, z108, z109, z110, z111, z112, z113, z114, z115, z116, z117, z118, z119, z120, z121, z122, z128, z132, z200, z240, z255, z372, z390625, z400, z420, z421, z422, z662, z900, z940, z999, z1000, z1024, z2000, z5860, z10000, z12345, z15625, z266240, z1048575, z1064960, z1103515245, z_m1, n_le, n_lt, n_eq, n_bit0, n_bit1, n_sbit0, n_shl, z_ltM, z_Mlt, z_leM, z_Mle, z_eqM, z_Meq, bI0, bI1, bI_01, bI_01t, bI_10, bI_10f, if_true, if_false, eq_self, reduceCtorEq, if_pos, if_neg, rc_64 hB, r6, rc_111 hB, r4, rn_115 hB, g1]
    · rw [fnX13_handAt, z0, e0, Option.bind_some]
      simp (disch := first | assumption | omega) only [tk_gI, tk_gL, tk_gR, tk_pI, tk_pL, rv_aI, rv_aL, rv_aR, rv_uI, rv_uL, rv_uB, rv_uZ, pu_ckI, pu_ckL, pu_lnI, pu_lnL, tk_rI, tk_rL, Option.bind_some, Option.map_some, rv_lt, tk_ix, z0, z1, z2, z3, z4, z5, z6, z7, z8, z9, z10, z11, z12, z13, z15, z16, z17, z18, z20, z21, z23, z24, z25, z31, z32, z39, z40, z41, z46, z48, z50, z57, z59, z60, z61, z62, z63, z64, z97, z98, z99, z100, z101, z102, z103, z104, z105, z106, z107, z108, z109, z110, z111, z112, z113, z114, z115, z116, z117, z118, z119, z120, z121, z122, z128, z132, z200, z240, z255, z372, z390625, z400, z420, z421, z422, z662, z900, z940, z999, z1000, z1024, z2000, z5860, z10000, z12345, z15625, z266240, z1048575, z1064960, z1103515245, z_m1, n_le, n_lt, n_eq, n_bit0, n_bit1, n_sbit0, n_shl, z_ltM, z_Mlt, z_leM, z_Mle, z_eqM, z_Meq, bI0, bI1, bI_01, bI_01t, bI_10, bI_10f, if_true, if_false, eq_self, reduceCtorEq, if_pos, if_neg, rc_189 hB0, g20, rr, rn_208 hB0, g40]
  · refine ⟨iM, S0, ?_, ?_, q0⟩
    · simp (disch := first | assumption | omega) only [fnX12_handAt, fnX2_handOf, tk_gI, tk_gL, tk_gR, tk_pI, tk_pL, rv_aI, rv_aL, rv_aR, rv_uI, rv_uL, rv_uB, rv_uZ, pu_ckI, pu_ckL, pu_lnI, pu_lnL, tk_rI, tk_rL, Option.bind_some, Option.map_some, rv_lt, tk_ix, rc_64 hB, r6, rc_111 hB, g1, z0]
      rcases hx with h | h
      · rw [if_pos h]; rfl
      · by_cases c : x < nI 0
        · rw [if_pos c]; rfl
        · rw [if_neg c, if_pos h]; rfl
    · rw [fnX13_handAt, z0, e0, Option.bind_some]
      rcases hx with h | h
      · rw [if_pos h]; rfl
      · by_cases c : x < nI 0
        · rw [if_pos c]; rfl
        · rw [if_neg c]
          simp (disch := first | assumption | omega) only [tk_gI, tk_gL, tk_gR, tk_pI, tk_pL, rv_aI, rv_aL, rv_aR, rv_uI, rv_uL, rv_uB, rv_uZ, pu_ckI, pu_ckL, pu_lnI, pu_lnL, tk_rI, tk_rL, Option.bind_some, Option.map_some, rv_lt, tk_ix, rc_189 hB0, g20, if_pos h, z1, z_m1]
theorem op_orderAt (hV : VI S m wd) (hH : OV S) (x : Int32) : ∃ r S', fnX12_orderAt n S 64 x = some r ∧ fnX13_orderAt n S 189 x = some (r, S') ∧ QS S S' m wd := by
  obtain ⟨hB, -⟩ := id hV
  obtain ⟨S0, e0, f0, hB0, q0⟩ := QS.m0 hV
  obtain ⟨k, a1, g1, g2, g3⟩ := hH
  have r6 := rf_of hB (show (64, 7, 118) ∈ rv_rf0 by decide)
  have r4 := rf_of hB (show (118, 3, 122) ∈ rv_rf0 by decide)
  have rr := rf_of hB0 (show (189, 40, 211) ∈ rv_rf0 by decide)
  have g20 : S0.2.1 189 43 = nI k := (f0.at (a := 189) (k := 43) rfl).trans g2
  rcases rng x (N := k) (by omega) with ⟨j, hj, rfl⟩ | hx
  · have g40 : S0.2.1 211 j = S.2.1 122 j := (f0.row rfl rfl j).trans (g3 j hj).symm
    refine ⟨S.2.1 122 j, S0, ?_, ?_, q0⟩
    · simp (disch := first | assumption | omega) only [fnX12_orderAt, fnX4_debtAt, tk_gI, tk_gL, tk_gR, tk_pI, tk_pL, rv_aI, rv_aL, rv_aR, rv_uI, rv_uL, rv_uB, rv_uZ, pu_ckI, pu_ckL, pu_lnI, pu_lnL, tk_rI, tk_rL, Option.bind_some, Option.map_some, rv_lt, tk_ix, z0, z1, z2, z3, z4, z5, z6, z7, z8, z9, z10, z11, z12, z13, z15, z16, z17, z18, z20, z21, z23, z24, z25, z31, z32, z39, z40, z41, z46, z48, z50, z57, z59, z60, z61, z62, z63, z64, z97, z98, z99, z100, z101, z102, z103, z104, z105, z106, z107, z108, z109, z110, z111, z112, z113, z114, z115, z116, z117, z118, z119, z120, z121, z122, z128, z132, z200, z240, z255, z372, z390625, z400, z420, z421, z422, z662, z900, z940, z999, z1000, z1024, z2000, z5860, z10000, z12345, z15625, z266240, z1048575, z1064960, z1103515245, z_m1, n_le, n_lt, n_eq, n_bit0, n_bit1, n_sbit0, n_shl, z_ltM, z_Mlt, z_leM, z_Mle, z_eqM, z_Meq, bI0, bI1, bI_01, bI_01t, bI_10, bI_10f, if_true, if_false, eq_self, reduceCtorEq, if_pos, if_neg, rc_64 hB, r6, rc_118 hB, r4, rn_122 hB, g1]
    · rw [fnX13_orderAt, z0, e0, Option.bind_some]
      simp (disch := first | assumption | omega) only [tk_gI, tk_gL, tk_gR, tk_pI, tk_pL, rv_aI, rv_aL, rv_aR, rv_uI, rv_uL, rv_uB, rv_uZ, pu_ckI, pu_ckL, pu_lnI, pu_lnL, tk_rI, tk_rL, Option.bind_some, Option.map_some, rv_lt, tk_ix, z0, z1, z2, z3, z4, z5, z6, z7, z8, z9, z10, z11, z12, z13, z15, z16, z17, z18, z20, z21, z23, z24, z25, z31, z32, z39, z40, z41, z46, z48, z50, z57, z59, z60, z61, z62, z63, z64, z97, z98, z99, z100, z101, z102, z103, z104, z105, z106, z107, z108, z109, z110, z111, z112, z113, z114, z115, z116, z117, z118, z119, z120, z121, z122, z128, z132, z200, z240, z255, z372, z390625, z400, z420, z421, z422, z662, z900, z940, z999, z1000, z1024, z2000, z5860, z10000, z12345, z15625, z266240, z1048575, z1064960, z1103515245, z_m1, n_le, n_lt, n_eq, n_bit0, n_bit1, n_sbit0, n_shl, z_ltM, z_Mlt, z_leM, z_Mle, z_eqM, z_Meq, bI0, bI1, bI_01, bI_01t, bI_10, bI_10f, if_true, if_false, eq_self, reduceCtorEq, if_pos, if_neg, rc_189 hB0, g20, rr, rn_211 hB0, g40]
  · refine ⟨iM, S0, ?_, ?_, q0⟩
    · simp (disch := first | assumption | omega) only [fnX12_orderAt, fnX4_debtAt, tk_gI, tk_gL, tk_gR, tk_pI, tk_pL, rv_aI, rv_aL, rv_aR, rv_uI, rv_uL, rv_uB, rv_uZ, pu_ckI, pu_ckL, pu_lnI, pu_lnL, tk_rI, tk_rL, Option.bind_some, Option.map_some, rv_lt, tk_ix, rc_64 hB, r6, rc_118 hB, g1, z0]
      rcases hx with h | h
      · rw [if_pos h]; rfl
      · by_cases c : x < nI 0
        · rw [if_pos c]; rfl
        · rw [if_neg c, if_pos h]; rfl
    · rw [fnX13_orderAt, z0, e0, Option.bind_some]
      rcases hx with h | h
      · rw [if_pos h]; rfl
      · by_cases c : x < nI 0
        · rw [if_pos c]; rfl
        · rw [if_neg c]
          simp (disch := first | assumption | omega) only [tk_gI, tk_gL, tk_gR, tk_pI, tk_pL, rv_aI, rv_aL, rv_aR, rv_uI, rv_uL, rv_uB, rv_uZ, pu_ckI, pu_ckL, pu_lnI, pu_lnL, tk_rI, tk_rL, Option.bind_some, Option.map_some, rv_lt, tk_ix, rc_189 hB0, g20, if_pos h, z1, z_m1]
theorem op_had (hV : VI S m wd) (hH : HV S) (x : Int32) : ∃ r S', fnX12_had n S 64 x = some r ∧ fnX13_had n S 189 x = some (r, S') ∧ QS S S' m wd := by
  obtain ⟨hB, -⟩ := id hV
  obtain ⟨S0, e0, f0, hB0, q0⟩ := QS.m0 hV
  obtain ⟨k, a1, g1, g2, g3⟩ := hH
  have r6 := rf_of hB (show (64, 6, 111) ∈ rv_rf0 by decide)
  have r4 := rf_of hB (show (111, 7, 117) ∈ rv_rf0 by decide)
  have rr := rf_of hB0 (show (189, 46, 214) ∈ rv_rf0 by decide)
  have g20 : S0.2.1 189 47 = nI k := (f0.at (a := 189) (k := 47) rfl).trans g2
  rcases rng x (N := k) (by omega) with ⟨j, hj, rfl⟩ | hx
  · have g40 : S0.2.1 214 j = S.2.1 117 j := (f0.row rfl rfl j).trans (g3 j hj).symm
    refine ⟨S.2.1 117 j, S0, ?_, ?_, q0⟩
    · simp (disch := first | assumption | omega) only [fnX12_had, fnX2_hadBy, tk_gI, tk_gL, tk_gR, tk_pI, tk_pL, rv_aI, rv_aL, rv_aR, rv_uI, rv_uL, rv_uB, rv_uZ, pu_ckI, pu_ckL, pu_lnI, pu_lnL, tk_rI, tk_rL, Option.bind_some, Option.map_some, rv_lt, tk_ix, z0, z1, z2, z3, z4, z5, z6, z7, z8, z9, z10, z11, z12, z13, z15, z16, z17, z18, z20, z21, z23, z24, z25, z31, z32, z39, z40, z41, z46, z48, z50, z57, z59, z60, z61, z62, z63, z64, z97, z98, z99, z100, z101, z102, z103, z104, z105, z106, z107, z108, z109, z110, z111, z112, z113, z114, z115, z116, z117, z118, z119, z120, z121, z122, z128, z132, z200, z240, z255, z372, z390625, z400, z420, z421, z422, z662, z900, z940, z999, z1000, z1024, z2000, z5860, z10000, z12345, z15625, z266240, z1048575, z1064960, z1103515245, z_m1, n_le, n_lt, n_eq, n_bit0, n_bit1, n_sbit0, n_shl, z_ltM, z_Mlt, z_leM, z_Mle, z_eqM, z_Meq, bI0, bI1, bI_01, bI_01t, bI_10, bI_10f, if_true, if_false, eq_self, reduceCtorEq, if_pos, if_neg, rc_64 hB, r6, rc_111 hB, r4, rn_117 hB, g1]
    · rw [fnX13_had, z0, e0, Option.bind_some]
      simp (disch := first | assumption | omega) only [tk_gI, tk_gL, tk_gR, tk_pI, tk_pL, rv_aI, rv_aL, rv_aR, rv_uI, rv_uL, rv_uB, rv_uZ, pu_ckI, pu_ckL, pu_lnI, pu_lnL, tk_rI, tk_rL, Option.bind_some, Option.map_some, rv_lt, tk_ix, z0, z1, z2, z3, z4, z5, z6, z7, z8, z9, z10, z11, z12, z13, z15, z16, z17, z18, z20, z21, z23, z24, z25, z31, z32, z39, z40, z41, z46, z48, z50, z57, z59, z60, z61, z62, z63, z64, z97, z98, z99, z100, z101, z102, z103, z104, z105, z106, z107, z108, z109, z110, z111, z112, z113, z114, z115, z116, z117, z118, z119, z120, z121, z122, z128, z132, z200, z240, z255, z372, z390625, z400, z420, z421, z422, z662, z900, z940, z999, z1000, z1024, z2000, z5860, z10000, z12345, z15625, z266240, z1048575, z1064960, z1103515245, z_m1, n_le, n_lt, n_eq, n_bit0, n_bit1, n_sbit0, n_shl, z_ltM, z_Mlt, z_leM, z_Mle, z_eqM, z_Meq, bI0, bI1, bI_01, bI_01t, bI_10, bI_10f, if_true, if_false, eq_self, reduceCtorEq, if_pos, if_neg, rc_189 hB0, g20, rr, rn_214 hB0, g40]
  · refine ⟨iM, S0, ?_, ?_, q0⟩
    · simp (disch := first | assumption | omega) only [fnX12_had, fnX2_hadBy, tk_gI, tk_gL, tk_gR, tk_pI, tk_pL, rv_aI, rv_aL, rv_aR, rv_uI, rv_uL, rv_uB, rv_uZ, pu_ckI, pu_ckL, pu_lnI, pu_lnL, tk_rI, tk_rL, Option.bind_some, Option.map_some, rv_lt, tk_ix, rc_64 hB, r6, rc_111 hB, g1, z0]
      rcases hx with h | h
      · rw [if_pos h]; rfl
      · by_cases c : x < nI 0
        · rw [if_pos c]; rfl
        · rw [if_neg c, if_pos h]; rfl
    · rw [fnX13_had, z0, e0, Option.bind_some]
      rcases hx with h | h
      · rw [if_pos h]; rfl
      · by_cases c : x < nI 0
        · rw [if_pos c]; rfl
        · rw [if_neg c]
          simp (disch := first | assumption | omega) only [tk_gI, tk_gL, tk_gR, tk_pI, tk_pL, rv_aI, rv_aL, rv_aR, rv_uI, rv_uL, rv_uB, rv_uZ, pu_ckI, pu_ckL, pu_lnI, pu_lnL, tk_rI, tk_rL, Option.bind_some, Option.map_some, rv_lt, tk_ix, rc_189 hB0, g20, if_pos h, z1, z_m1]
theorem op_drawn (hV : VI S m wd) (hH : DW S) (x : Int32) : ∃ r S', fnX12_drawn n S 64 x = some r ∧ fnX13_drawn n S 189 x = some (r, S') ∧ QS S S' m wd := by
  obtain ⟨hB, -⟩ := id hV
  obtain ⟨S0, e0, f0, hB0, q0⟩ := QS.m0 hV
  have r8 := rf_of hB (show (64, 8, 147) ∈ rv_rf0 by decide)
  have rr := rf_of hB0 (show (189, 54, 215) ∈ rv_rf0 by decide)
  rcases rng x (N := 3) (by decide) with ⟨j, hj, rfl⟩ | hx
  · have m1 : fnX13_drawn n S 189 (nI j) = some (S.2.1 215 j, S0) := by
      have g40 : S0.2.1 215 j = S.2.1 215 j := f0.row rfl rfl j
      rw [fnX13_drawn, z0, e0, Option.bind_some, fnX13_isIn]
      simp (disch := first | assumption | omega) only [tk_gI, tk_gL, tk_gR, tk_pI, tk_pL, rv_aI, rv_aL, rv_aR, rv_uI, rv_uL, rv_uB, rv_uZ, pu_ckI, pu_ckL, pu_lnI, pu_lnL, tk_rI, tk_rL, Option.bind_some, Option.map_some, rv_lt, tk_ix, z0, z1, z2, z3, z4, z5, z6, z7, z8, z9, z10, z11, z12, z13, z15, z16, z17, z18, z20, z21, z23, z24, z25, z31, z32, z39, z40, z41, z46, z48, z50, z57, z59, z60, z61, z62, z63, z64, z97, z98, z99, z100, z101, z102, z103, z104, z105, z106, z107, z108, z109, z110, z111, z112, z113, z114, z115, z116, z117, z118, z119, z120, z121, z122, z128, z132, z200, z240, z255, z372, z390625, z400, z420, z421, z422, z662, z900, z940, z999, z1000, z1024, z2000, z5860, z10000, z12345, z15625, z266240, z1048575, z1064960, z1103515245, z_m1, n_le, n_lt, n_eq, n_bit0, n_bit1, n_sbit0, n_shl, z_ltM, z_Mlt, z_leM, z_Mle, z_eqM, z_Meq, bI0, bI1, bI_01, bI_01t, bI_10, bI_10f, if_true, if_false, eq_self, reduceCtorEq, if_pos, if_neg, rc_189 hB0, rr, rn_215 hB0, g40]
    refine ⟨S.2.1 215 j, S0, ?_, m1, q0⟩
    rcases hH with ⟨g1, g2⟩ | ⟨g1, g2⟩
    · rw [g2 j hj]
      simp (disch := first | assumption | omega) only [fnX12_drawn, tk_gI, tk_gL, tk_gR, tk_pI, tk_pL, rv_aI, rv_aL, rv_aR, rv_uI, rv_uL, rv_uB, rv_uZ, pu_ckI, pu_ckL, pu_lnI, pu_lnL, tk_rI, tk_rL, Option.bind_some, Option.map_some, rv_lt, tk_ix, z0, z1, z2, z3, z4, z5, z6, z7, z8, z9, z10, z11, z12, z13, z15, z16, z17, z18, z20, z21, z23, z24, z25, z31, z32, z39, z40, z41, z46, z48, z50, z57, z59, z60, z61, z62, z63, z64, z97, z98, z99, z100, z101, z102, z103, z104, z105, z106, z107, z108, z109, z110, z111, z112, z113, z114, z115, z116, z117, z118, z119, z120, z121, z122, z128, z132, z200, z240, z255, z372, z390625, z400, z420, z421, z422, z662, z900, z940, z999, z1000, z1024, z2000, z5860, z10000, z12345, z15625, z266240, z1048575, z1064960, z1103515245, z_m1, n_le, n_lt, n_eq, n_bit0, n_bit1, n_sbit0, n_shl, z_ltM, z_Mlt, z_leM, z_Mle, z_eqM, z_Meq, bI0, bI1, bI_01, bI_01t, bI_10, bI_10f, if_true, if_false, eq_self, reduceCtorEq, if_pos, if_neg, rc_64 hB, g1]
    · rw [← g2 j hj]
      have h3 : j = 0 ∨ j = 1 ∨ j = 2 := by omega
      rcases h3 with rfl | rfl | rfl <;> simp (disch := first | assumption | omega) only [fnX12_drawn, tk_gI, tk_gL, tk_gR, tk_pI, tk_pL, rv_aI, rv_aL, rv_aR, rv_uI, rv_uL, rv_uB, rv_uZ, pu_ckI, pu_ckL, pu_lnI, pu_lnL, tk_rI, tk_rL, Option.bind_some, Option.map_some, rv_lt, tk_ix, z0, z1, z2, z3, z4, z5, z6, z7, z8, z9, z10, z11, z12, z13, z15, z16, z17, z18, z20, z21, z23, z24, z25, z31, z32, z39, z40, z41, z46, z48, z50, z57, z59, z60, z61, z62, z63, z64, z97, z98, z99, z100, z101, z102, z103, z104, z105, z106, z107, z108, z109, z110, z111, z112, z113, z114, z115, z116, z117, z118, z119, z120, z121, z122, z128, z132, z200, z240, z255, z372, z390625, z400, z420, z421, z422, z662, z900, z940, z999, z1000, z1024, z2000, z5860, z10000, z12345, z15625, z266240, z1048575, z1064960, z1103515245, z_m1, n_le, n_lt, n_eq, n_bit0, n_bit1, n_sbit0, n_shl, z_ltM, z_Mlt, z_leM, z_Mle, z_eqM, z_Meq, bI0, bI1, bI_01, bI_01t, bI_10, bI_10f, if_true, if_false, eq_self, reduceCtorEq, if_pos, if_neg, rc_64 hB, g1, r8, rc_147 hB]
  · have ne : ∀ k, k < 3 → ¬ x = nI k := fun k hk e => by
      subst e
      rcases hx with hx | hx
      · exact nI_pos (by omega) hx
      · exact nI_ge hk (by decide) hx
    refine ⟨iM, S0, ?_, ?_, q0⟩
    · have n0 : ¬ x = (0 : Int32) := ne 0 (by decide)
      have n1 : ¬ x = (1 : Int32) := ne 1 (by decide)
      have n2 : ¬ x = (2 : Int32) := ne 2 (by decide)
      rw [fnX12_drawn, tk_gI, rc_64 hB, Option.map_some, Option.bind_some, if_neg n0, if_neg n1, if_neg n2]
      split <;> rfl
    · rw [fnX13_drawn, z0, e0, Option.bind_some, fnX13_isIn]
      rcases hx with h | h
      · rw [if_pos h]; rfl
      · by_cases c : x < nI 0
        · rw [if_pos c]; rfl
        · have h2 : (2 : Int32) < x := Int32.lt_of_lt_of_le (show (2 : Int32) < nI 3 by decide) h
          rw [if_neg c, if_pos h2]; rfl
end
