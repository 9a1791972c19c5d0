/-! SETTLE: exact, given, settle, payable -/
section
variable {n : Nat} {S : rvS} {m m' : Nat → Nat} {wd : Nat → List Nat}
def QD (D : List Nat) (S S' : rvS) (m : Nat → Nat) (wd : Nat → List Nat) : Prop := VI S' m wd ∧ rvf D S S' ∧ R42 S S'
theorem QD.two {D D1 D2 : List Nat} {S1 S4 : rvS} (hV : VI S m wd) (f1 : rvf D1 S S1) (fz : rvf D2 S1 S4) (h1 : [72, 191, 195].all (fun a => !D1.elem a) = true) (h2 : [67, 68, 69, 70, 71, 72, 73, 74, 75, 76, 77, 78, 84, 85, 86, 195].all (fun a => !D2.elem a) = true) (h3 : D1.all (fun d => D.elem d) = true) (h4 : D2.all (fun d => D.elem d) = true) (hR1 : CR S1 67 m') (hM4 : MR S4 m') (hb4 : ¬ S4.2.1 189 22 = 0) (hk' : okm m') (e0 : m' 0 = m 0) (e6 : m' 6 = m 6) (r4 : R42 S1 S4) : QD D S S4 m' wd := by
  obtain ⟨hB, -, -, -, hNC, hNM, hok⟩ := hV
  have g1 : ∀ a, a ∈ [72, 191, 195] → D1.elem a = false := fun a ha => by
    have := List.all_eq_true.mp h1 a ha
    simpa using this
  have g2 : ∀ a, a ∈ [67, 68, 69, 70, 71, 72, 73, 74, 75, 76, 77, 78, 84, 85, 86, 195] → D2.elem a = false := fun a ha => by
    have := List.all_eq_true.mp h2 a ha
    simpa using this
  refine ⟨⟨fz.B (f1.B hB), ?_, MRL.of hM4 hb4, hk', fun u hu => ?_, fun u hu => ?_, hok.c e6⟩, (f1.mono h3).tr (fz.mono h4), (R42.of f1 (g1 191 (by decide))).tr r4⟩
  · refine hR1.f fz (Or.inl rfl) (Or.inl (List.all_eq_true.mpr fun a ha => ?_)) (Or.inr (by decide)) (Or.inr (by decide)) (Or.inr (by decide))
    have e : a ∈ [67, 68, 69, 70, 71, 72, 73, 74, 75, 76, 77, 78, 84, 85, 86, 195] := by
      simp only [List.mem_cons, List.not_mem_nil, or_false] at ha ⊢
      omega
    rw [g2 a e]; rfl
  · rw [fz.rowL (a := 67 + 5) rfl (g2 72 (by decide)), f1.rowL (a := 67 + 5) rfl (g1 72 (by decide)), e6]
    rw [show vW m' = vW m from e0] at hu
    exact hNC u hu
  · rw [fz.rowL (a := 195) rfl (g2 195 (by decide)), f1.rowL (a := 195) rfl (g1 195 (by decide))]
    rw [e6] at hu
    exact hNM u hu
/-- which coins were given, as both sides hold it -/
def GV (S : rvS) : Prop := ∃ k X, k ≤ 40 ∧ X < 18446744073709551616 ∧ S.2.2.1 64 12 = lN X ∧ S.2.1 64 13 = nI k ∧ S.2.1 189 28 = nI k ∧ ∀ j, j < k → S.2.1 201 j = bI (X.testBit j)
theorem GV.f {D : List Nat} {S' : rvS} (h : GV S) (f : rvf D S S') (h1 : D.elem 64012 = false) (h2 : D.elem 64013 = false) (h3 : D.elem 189028 = false) (h4 : D.elem 201 = false) : GV S' := by
  obtain ⟨k, X, a1, a2, g1, g2, g3, g4⟩ := h
  exact ⟨k, X, a1, a2, (f.atL (a := 64) (k := 12) h1).trans g1, (f.at (a := 64) (k := 13) h2).trans g2, (f.at (a := 189) (k := 28) h3).trans g3, fun j hj => (f.row rfl h4 j).trans (g4 j hj)⟩
/-- the reference begins, lays nothing -/
theorem QS.m0 (hV : VI S m wd) : ∃ S0, rv_pI S 11 189 0 (nI 0) = some S0 ∧ rvf [189000] S S0 ∧ rv_B S0 ∧ QS S S0 m wd := by
  obtain ⟨hB, hR, hL, -⟩ := id hV
  have f : rvf [189000] S (rv_sI S 189 0 (nI 0)) := rvf.sI S 189 0 (nI 0)
  refine ⟨rv_sI S 189 0 (nI 0), by rw [tk_pI, rc_189 hB]; rfl, f, f.B hB, hV.q f rfl (hL.f f rfl rfl), f.mono rfl, R42.of f rfl⟩
theorem op_given (hn : 500 ≤ n) (hV : VI S m wd) (hG : GV S) (x : Int32) : ∃ r S', fnX12_given n S 64 x = some r ∧ fnX13_given n S 189 x = some (r, S') ∧ QS S S' m wd := by
  obtain ⟨hB, -⟩ := id hV
  obtain ⟨S0, e0, f0, hB0, q0⟩ := QS.m0 hV
  obtain ⟨k, X, a1, a2, g1, g2, g3, g4⟩ := hG
  have hC := CS_of hB
  have g30 : S0.2.1 189 28 = nI k := (f0.at (a := 189) (k := 28) rfl).trans g3
  have rr := rf_of hB0 (show (189, 26, 201) ∈ rv_rf0 by decide)
  rcases rng x (N := k) (by omega) with ⟨j, hj, rfl⟩ | hx
  · have g40 : S0.2.1 201 j = bI (X.testBit j) := (f0.row rfl rfl j).trans (g4 j hj)
    refine ⟨bI (X.testBit j), S0, ?_, ?_, q0⟩
    · simp (disch := first | assumption | omega) only [fnX12_given, tk_gI, tk_gL, tk_gR, tk_pI, tk_pL, rv_aI, rv_aL, rv_aR, rv_uI, rv_uL, rv_uB, rv_uZ, pu_ckI, pu_ckL, pu_lnI, pu_lnL, tk_rI, tk_rL, Option.bind_some, Option.map_some, rv_lt, tk_ix, z0, z1, z2, z3, z4, z5, z6, z7, z8, z9, z10, z11, z12, z13, z15, z16, z17, z18, z20, z21, z23, z24, z25, z31, z32, z39, z40, z41, z46, z48, z50, z57, z59, z60, z61, z62, z63, z64, z97, z98, z99, z100, z101, z102, z103, z104, z105, z106, z107, z108, z109, z110, z111, z112, z113, z114, z115, z116, z117, z118, z119, z120, z121, z122, z128, z132, z200, z240, z255, z372, z390625, z400, z420, z421, z422, z662, z900, z940, z999, z1000, z1024, z2000, z5860, z10000, z12345, z15625, z266240, z1048575, z1064960, z1103515245, z_m1, y0, y1, y27, y63, y96, y1099511627776, y69269232549888, n_le, n_lt, n_eq, n_bit0, n_bit1, n_sbit0, n_shl, z_ltM, z_Mlt, z_leM, z_Mle, z_eqM, z_Meq, bI0, bI1, bI_01, bI_01t, bI_10, bI_10f, if_true, if_false, eq_self, reduceCtorEq, if_pos, if_neg, hC, g1, g2, m_bit, lN_i]
      cases X.testBit j <;> rfl
    · rw [fnX13_given, z0, e0, Option.bind_some]
      simp (disch := first | assumption | omega) only [tk_gI, tk_gL, tk_gR, tk_pI, tk_pL, rv_aI, rv_aL, rv_aR, rv_uI, rv_uL, rv_uB, rv_uZ, pu_ckI, pu_ckL, pu_lnI, pu_lnL, tk_rI, tk_rL, Option.bind_some, Option.map_some, rv_lt, tk_ix, z0, z1, z2, z3, z4, z5, z6, z7, z8, z9, z10, z11, z12, z13, z15, z16, z17, z18, z20, z21, z23, z24, z25, z31, z32, z39, z40, z41, z46, z48, z50, z57, z59, z60, z61, z62, z63, z64, z97, z98, z99, z100, z101, z102, z103, z104, z105, z106, z107, z108, z109, z110, z111, z112, z113, z114, z115, z116, z117, z118, z119, z120, z121, z122, z128, z132, z200, z240, z255, z372, z390625, z400, z420, z421, z422, z662, z900, z940, z999, z1000, z1024, z2000, z5860, z10000, z12345, z15625, z266240, z1048575, z1064960, z1103515245, z_m1, n_le, n_lt, n_eq, n_bit0, n_bit1, n_sbit0, n_shl, z_ltM, z_Mlt, z_leM, z_Mle, z_eqM, z_Meq, bI0, bI1, bI_01, bI_01t, bI_10, bI_10f, if_true, if_false, eq_self, reduceCtorEq, if_pos, if_neg, rc_189 hB0, g30, rr, rn_201 hB0, g40]
  · refine ⟨iM, S0, ?_, ?_, q0⟩
    · rw [fnX12_given, z0]
      rcases hx with h | h
      · rw [if_pos h]; rfl
      · by_cases c : x < nI 0
        · rw [if_pos c]; rfl
        · rw [if_neg c]
          simp (disch := first | assumption | omega) only [tk_gI, tk_gL, tk_gR, tk_pI, tk_pL, rv_aI, rv_aL, rv_aR, rv_uI, rv_uL, rv_uB, rv_uZ, pu_ckI, pu_ckL, pu_lnI, pu_lnL, tk_rI, tk_rL, Option.bind_some, Option.map_some, rv_lt, tk_ix, hC, g2]
          rw [if_neg (fun z => Int32.lt_irrefl (Int32.lt_of_lt_of_le z h))]
          rfl
    · rw [fnX13_given, z0, e0, Option.bind_some]
      rcases hx with h | h
      · rw [if_pos h]; rfl
      · by_cases c : x < nI 0
        · rw [if_pos c]; rfl
        · rw [if_neg c]
          simp (disch := first | assumption | omega) only [tk_gI, tk_gL, tk_gR, tk_pI, tk_pL, rv_aI, rv_aL, rv_aR, rv_uI, rv_uL, rv_uB, rv_uZ, pu_ckI, pu_ckL, pu_lnI, pu_lnL, tk_rI, tk_rL, Option.bind_some, Option.map_some, rv_lt, tk_ix, rc_189 hB0, g30, if_pos h, z1, z_m1]
/-! exact -/
theorem rngs (x : Int32) : (∃ a, 1 ≤ a ∧ a ≤ 999 ∧ x = nI a) ∨ (x < nI 1 ∨ (¬ x < nI 1 ∧ ¬ x ≤ nI 999)) := by
  rcases rng x (N := 1000) (by decide) with ⟨a, h, rfl⟩ | h
  · by_cases c : 1 ≤ a
    · exact Or.inl ⟨a, c, by omega, rfl⟩
    · exact Or.inr (Or.inl (by rw [n_lt (by omega) (by decide)]; omega))
  · rcases h with h | h
    · exact Or.inr (Or.inl (Int32.lt_trans h (by decide)))
    · by_cases c : x < nI 1
      · exact Or.inr (Or.inl c)
      · exact Or.inr (Or.inr ⟨c, fun z => absurd (Int32.le_trans h z) (by decide)⟩)
theorem m_isSum {a : Nat} (h1 : 1 ≤ a) (h2 : a ≤ 999) : fnX13_isSum n S 189 (nI a) = some (nI 1) := by
  simp (disch := first | assumption | omega) only [fnX13_isSum, fnX13_isIn, tk_gI, tk_gL, tk_gR, tk_pI, tk_pL, rv_aI, rv_aL, rv_aR, rv_uI, rv_uL, rv_uB, rv_uZ, pu_ckI, pu_ckL, pu_lnI, pu_lnL, tk_rI, tk_rL, Option.bind_some, Option.map_some, rv_lt, tk_ix, z0, z1, z2, z3, z4, z5, z6, z7, z8, z9, z10, z11, z12, z13, z15, z16, z17, z18, z20, z21, z23, z24, z25, z31, z32, z39, z40, z41, z46, z48, z50, z57, z59, z60, z61, z62, z63, z64, z97, z98, z99, z100, z101, z102, z103, z104, z105, z106, z107, z108, z109, z110, z111, z112, z113, z114, z115, z116, z117, z118, z119, z120, z121, z122, z128, z132, z200, z240, z255, z372, z390625, z400, z420, z421, z422, z662, z900, z940, z999, z1000, z1024, z2000, z5860, z10000, z12345, z15625, z266240, z1048575, z1064960, z1103515245, z_m1, n_le, n_lt, n_eq, n_bit0, n_bit1, n_sbit0, n_shl, z_ltM, z_Mlt, z_leM, z_Mle, z_eqM, z_Meq, bI0, bI1, bI_01, bI_01t, bI_10, bI_10f, if_true, if_false, eq_self, reduceCtorEq, if_pos, if_neg, bo_1]
theorem m_isSum0 {x : Int32} (h : x < nI 1 ∨ (¬ x < nI 1 ∧ ¬ x ≤ nI 999)) : fnX13_isSum n S 189 x = some (nI 0) := by
  rw [fnX13_isSum, fnX13_isIn, z1, z999]
  rcases h with h | ⟨h, h2⟩
  · rw [if_pos h]; rfl
  · rw [if_neg h, if_pos (Int32.not_le.mp h2)]; rfl
theorem k_told {x t X : Nat} (hx : x < 2147483648) (hB : rv_B S) (hPR : PR S 75 m) (g : S.2.2.1 108 2 = lN X) (ht : t = x) : ∃ S', fnX12_told n S 64 (nI t) = some (nI x, S') ∧ rvf [64012, 64013] S S' ∧ S'.2.2.1 64 12 = lN X ∧ S'.2.1 64 13 = nI (vC m) := by
  subst ht
  have r5 := rf_of hB (show (64, 5, 108) ∈ rv_rf0 by decide)
  have hPS := PS_of hB (show pb 75 from Or.inl rfl)
  obtain ⟨S1, eS1⟩ : ∃ S1, S1 = rv_sL S 64 12 (lN X) := ⟨_, rfl⟩
  have f1 : rvf [64012] S S1 := by rw [eS1]; exact rvf.sL S 64 12 (lN X)
  have hB1 := f1.B hB
  have q1 := rf_of hB (show (64, 1, 67) ∈ rv_rf0 by decide)
  have q2 := rf_of hB (show (67, 1, 75) ∈ rv_rf0 by decide)
  have q3 : S1.2.1 75 0 = nI (vC m) := (f1.row rfl rfl 0).trans hPR.1
  refine ⟨rv_sI S1 64 13 (nI (vC m)), ?_, (f1.mono rfl).tr ((rvf.sI S1 64 13 (nI (vC m))).mono rfl), ?_, rv_sI_eq _ _ _ _⟩
  · simp (disch := first | assumption | omega) only [fnX12_told, tk_gI, tk_gL, tk_gR, tk_pI, tk_pL, rv_aI, rv_aL, rv_aR, rv_uI, rv_uL, rv_uB, rv_uZ, pu_ckI, pu_ckL, pu_lnI, pu_lnL, tk_rI, tk_rL, Option.bind_some, Option.map_some, rv_lt, tk_ix, z0, z1, z2, z3, z4, z5, z6, z7, z8, z9, z10, z11, z12, z13, z15, z16, z17, z18, z20, z21, z23, z24, z25, z31, z32, z39, z40, z41, z46, z48, z50, z57, z59, z60, z61, z62, z63, z64, z97, z98, z99, z100, z101, z102, z103, z104, z105, z106, z107, z108, z109, z110, z111, z112, z113, z114, z115, z116, z117, z118, z119, z120, z121, z122, z128, z132, z200, z240, z255, z372, z390625, z400, z420, z421, z422, z662, z900, z940, z999, z1000, z1024, z2000, z5860, z10000, z12345, z15625, z266240, z1048575, z1064960, z1103515245, z_m1, n_le, n_lt, n_eq, n_bit0, n_bit1, n_sbit0, n_shl, z_ltM, z_Mlt, z_leM, z_Mle, z_eqM, z_Meq, bI0, bI1, bI_01, bI_01t, bI_10, bI_10f, if_true, if_false, eq_self, reduceCtorEq, if_pos, if_neg, rc_64 hB, rc_64 hB1, r5, rc_108 hB, g, ← eS1, q1, q2, q3, rc_67 hB, rc_75 hB]
  · show S1.2.2.1 64 12 = _
    rw [eS1]; exact rv_sL_eq _ _ _ _
theorem k_exact (hn : 1100 ≤ n) (hB : rv_B S) (hR : CR S 67 m) (hk : okm m) {a b X : Nat} (ha : a < vW m) (hb : b < vW m) (h1 : 1 ≤ X) (hX : X ≤ 999) :
    (10000 ≤ tb (gz m a b) (va m) (vC m) (vC m) X ∧ ∃ S', fnX12_exact n S 64 (nI a) (nI b) (nI X) = some (iM, S') ∧ rvf [108, 109] S S') ∨
    (tb (gz m a b) (va m) (vC m) (vC m) X ≤ 40 ∧ ∃ S', fnX12_exact n S 64 (nI a) (nI b) (nI X) = some (nI (tb (gz m a b) (va m) (vC m) (vC m) X), S') ∧ rvf [108, 109, 64012, 64013] S S' ∧ S'.2.2.1 108 2 = lN (bs (Bf (gz m a b) (va m) (vC m) X) (vC m)) ∧ S'.2.2.1 64 12 = lN (bs (Bf (gz m a b) (va m) (vC m) X) (vC m)) ∧ S'.2.1 64 13 = nI (vC m)) := by
  obtain ⟨hp, hc, hd⟩ := id hk
  obtain ⟨hF, hP, hD⟩ := id hR
  have hC := CS_of hB
  have hv : vb 67 := Or.inl rfl
  have hVS := VS_of hB hv
  have hFS := FS_of hB hv.f
  have r5 := rf_of hB (show (64, 5, 108) ∈ rv_rf0 by decide)
  have hk1 := k_isWho (n := n) hB hR hk ha
  have hk2 := k_isWho (n := n) hB hR hk hb
  rcases k_choose hn hB hFS hF (show pb 75 from Or.inl rfl) hP hp hc ha hb h1 hX with ⟨t1, S1, e1, f1⟩ | ⟨t1, S1, e1, f1, g1⟩
  · have hB1 := f1.B hB
    refine Or.inl ⟨t1, S1, ?_, f1⟩
    have e2 : fnX12_told n S1 64 iM = some (iM, S1) := by rw [fnX12_told, if_pos (by decide)]
    simp (disch := first | assumption | omega) only [fnX12_exact, tk_gI, tk_gL, tk_gR, tk_pI, tk_pL, rv_aI, rv_aL, rv_aR, rv_uI, rv_uL, rv_uB, rv_uZ, pu_ckI, pu_ckL, pu_lnI, pu_lnL, tk_rI, tk_rL, Option.bind_some, Option.map_some, rv_lt, tk_ix, z0, z1, z2, z3, z4, z5, z6, z7, z8, z9, z10, z11, z12, z13, z15, z16, z17, z18, z20, z21, z23, z24, z25, z31, z32, z39, z40, z41, z46, z48, z50, z57, z59, z60, z61, z62, z63, z64, z97, z98, z99, z100, z101, z102, z103, z104, z105, z106, z107, z108, z109, z110, z111, z112, z113, z114, z115, z116, z117, z118, z119, z120, z121, z122, z128, z132, z200, z240, z255, z372, z390625, z400, z420, z421, z422, z662, z900, z940, z999, z1000, z1024, z2000, z5860, z10000, z12345, z15625, z266240, z1048575, z1064960, z1103515245, z_m1, n_le, n_lt, n_eq, n_bit0, n_bit1, n_sbit0, n_shl, z_ltM, z_Mlt, z_leM, z_Mle, z_eqM, z_Meq, bI0, bI1, bI_01, bI_01t, bI_10, bI_10f, if_true, if_false, eq_self, reduceCtorEq, if_pos, if_neg, hC, hVS, hk1, hk2, r5, rc_108 hB, e1, bp_s, rc_64 hB1, e2]
  · have hB1 := f1.B hB
    obtain ⟨S2, e2, f2, g2, g3⟩ := k_told (n := n) (by omega) hB1 (hP.x (Or.inl rfl) f1) g1 (rfl : tb (gz m a b) (va m) (vC m) (vC m) X = _)
    refine Or.inr ⟨t1, S2, ?_, (f1.mono rfl).tr (f2.mono rfl), (f2.rowL rfl rfl 2).trans g1, g2, g3⟩
    simp (disch := first | assumption | omega) only [fnX12_exact, tk_gI, tk_gL, tk_gR, tk_pI, tk_pL, rv_aI, rv_aL, rv_aR, rv_uI, rv_uL, rv_uB, rv_uZ, pu_ckI, pu_ckL, pu_lnI, pu_lnL, tk_rI, tk_rL, Option.bind_some, Option.map_some, rv_lt, tk_ix, z0, z1, z2, z3, z4, z5, z6, z7, z8, z9, z10, z11, z12, z13, z15, z16, z17, z18, z20, z21, z23, z24, z25, z31, z32, z39, z40, z41, z46, z48, z50, z57, z59, z60, z61, z62, z63, z64, z97, z98, z99, z100, z101, z102, z103, z104, z105, z106, z107, z108, z109, z110, z111, z112, z113, z114, z115, z116, z117, z118, z119, z120, z121, z122, z128, z132, z200, z240, z255, z372, z390625, z400, z420, z421, z422, z662, z900, z940, z999, z1000, z1024, z2000, z5860, z10000, z12345, z15625, z266240, z1048575, z1064960, z1103515245, z_m1, n_le, n_lt, n_eq, n_bit0, n_bit1, n_sbit0, n_shl, z_ltM, z_Mlt, z_leM, z_Mle, z_eqM, z_Meq, bI0, bI1, bI_01, bI_01t, bI_10, bI_10f, if_true, if_false, eq_self, reduceCtorEq, if_pos, if_neg, hC, hVS, hk1, hk2, r5, rc_108 hB, e1, bp_s, rc_64 hB1, e2]
theorem m_tell (hn : 1100 ≤ n) (hB : rv_B S) (hM : MR S m) (hc : okc m) : ∃ S', fnX13_tell n S 189 = some S' ∧ rvf [189028, 201] S S' ∧ S'.2.1 189 28 = nI (vC m) ∧ ∀ k, k < vC m → S'.2.1 201 k = S.2.1 202 k := by
  have h40 := hc.1
  obtain ⟨S0, eS0⟩ : ∃ S0, S0 = rv_sI S 189 28 (nI (vC m)) := ⟨_, rfl⟩
  have f0 : rvf [189028] S S0 := by rw [eS0]; exact rvf.sI S 189 28 (nI (vC m))
  have hB0 := f0.B hB
  have g0 : S0.2.1 189 28 = nI (vC m) := by rw [eS0]; exact rv_sI_eq _ _ _ _
  have top : fnX13_tell n S 189 = cX13_tell_10 n n S0 189 (nI 0) := by
    rw [fnX13_tell]
    simp (disch := first | assumption | omega) only [tk_gI, tk_gL, tk_gR, tk_pI, tk_pL, rv_aI, rv_aL, rv_aR, rv_uI, rv_uL, rv_uB, rv_uZ, pu_ckI, pu_ckL, pu_lnI, pu_lnL, tk_rI, tk_rL, Option.bind_some, Option.map_some, rv_lt, tk_ix, z0, z1, z2, z3, z4, z5, z6, z7, z8, z9, z10, z11, z12, z13, z15, z16, z17, z18, z20, z21, z23, z24, z25, z31, z32, z39, z40, z41, z46, z48, z50, z57, z59, z60, z61, z62, z63, z64, z97, z98, z99, z100, z101, z102, z103, z104, z105, z106, z107, z108, z109, z110, z111, z112, z113, z114, z115, z116, z117, z118, z119, z120, z121, z122, z128, z132, z200, z240, z255, z372, z390625, z400, z420, z421, z422, z662, z900, z940, z999, z1000, z1024, z2000, z5860, z10000, z12345, z15625, z266240, z1048575, z1064960, z1103515245, z_m1, rc_189 hB, m_coins hB hM, ← eS0]
  rw [top]
  obtain ⟨S1, e1, f1, g1⟩ : ∃ S', cX13_tell_10 n n S0 189 (nI 0) = some S' ∧ rvf [201] S0 S' ∧ ∀ k, k < vC m → S'.2.1 201 k = S0.2.1 202 k := by
    refine lp (F := fun q (x : rvS × Int32) => cX13_tell_10 n q x.1 189 x.2) (fun i x => x.2 = nI i ∧ rvf [201] S0 x.1 ∧ ∀ k, k < i → x.1.2.1 201 k = S0.2.1 202 k) (fun o => ∃ S', o = some S' ∧ rvf [201] S0 S' ∧ ∀ k, k < vC m → S'.2.1 201 k = S0.2.1 202 k) (vC m) (fun i x q hi hx => Or.inr ?_) (fun x q hx => ?_) (i := 0) (x := (S0, nI 0)) (q := n) (Nat.zero_le _) ⟨rfl, rvf.rf _ _, fun k hk => absurd hk (Nat.not_lt_zero k)⟩ (by omega)
    · obtain ⟨S1, x2⟩ := x
      obtain ⟨rfl, f, g⟩ := hx
      have f : rvf [201] S0 S1 := f
      have g : ∀ k, k < i → S1.2.1 201 k = S0.2.1 202 k := g
      have hB1 := f.B hB0
      have g2 : S1.2.1 189 28 = nI (vC m) := (f.at (a := 189) (k := 28) rfl).trans g0
      have g3 : S1.2.1 202 i = S0.2.1 202 i := f.row rfl rfl i
      refine ⟨(rv_sI S1 201 i (S0.2.1 202 i), nI (i + 1)), ?_, rfl, f.w rfl rfl, fun k hk => ?_⟩
      · show cX13_tell_10 n (q + 1) S1 189 (nI i) = cX13_tell_10 n q _ 189 (nI (i + 1))
        rw [cX13_tell_10]
        simp (disch := first | assumption | omega) only [tk_gI, tk_gL, tk_gR, tk_pI, tk_pL, rv_aI, rv_aL, rv_aR, rv_uI, rv_uL, rv_uB, rv_uZ, pu_ckI, pu_ckL, pu_lnI, pu_lnL, tk_rI, tk_rL, Option.bind_some, Option.map_some, rv_lt, tk_ix, z0, z1, z2, z3, z4, z5, z6, z7, z8, z9, z10, z11, z12, z13, z15, z16, z17, z18, z20, z21, z23, z24, z25, z31, z32, z39, z40, z41, z46, z48, z50, z57, z59, z60, z61, z62, z63, z64, z97, z98, z99, z100, z101, z102, z103, z104, z105, z106, z107, z108, z109, z110, z111, z112, z113, z114, z115, z116, z117, z118, z119, z120, z121, z122, z128, z132, z200, z240, z255, z372, z390625, z400, z420, z421, z422, z662, z900, z940, z999, z1000, z1024, z2000, z5860, z10000, z12345, z15625, z266240, z1048575, z1064960, z1103515245, z_m1, n_le, n_lt, n_eq, n_bit0, n_bit1, n_sbit0, n_shl, z_ltM, z_Mlt, z_leM, z_Mle, z_eqM, z_Meq, bI0, bI1, bI_01, bI_01t, bI_10, bI_10f, if_true, if_false, eq_self, reduceCtorEq, if_pos, if_neg, rc_189 hB1, g2, g3, rf_of hB1 (show (189, 26, 201) ∈ rv_rf0 by decide), rf_of hB1 (show (189, 27, 202) ∈ rv_rf0 by decide), rn_201 hB1, rn_202 hB1, nI_add]
      · show (rv_sI S1 201 i _).2.1 201 k = _
        by_cases c : k = i
        · subst c; exact rv_sI_eq _ _ _ _
        · rw [rv_sI_k _ _ c]; exact g k (by omega)
    · obtain ⟨S1, x2⟩ := x
      obtain ⟨rfl, f, g⟩ := hx
      have f : rvf [201] S0 S1 := f
      have hB1 := f.B hB0
      have g2 : S1.2.1 189 28 = nI (vC m) := (f.at (a := 189) (k := 28) rfl).trans g0
      refine ⟨S1, ?_, f, g⟩
      show cX13_tell_10 n (q + 1) S1 189 (nI (vC m)) = _
      rw [cX13_tell_10]
      simp (disch := first | assumption | omega) only [tk_gI, tk_gL, tk_gR, tk_pI, tk_pL, rv_aI, rv_aL, rv_aR, rv_uI, rv_uL, rv_uB, rv_uZ, pu_ckI, pu_ckL, pu_lnI, pu_lnL, tk_rI, tk_rL, Option.bind_some, Option.map_some, rv_lt, tk_ix, z0, z1, z2, z3, z4, z5, z6, z7, z8, z9, z10, z11, z12, z13, z15, z16, z17, z18, z20, z21, z23, z24, z25, z31, z32, z39, z40, z41, z46, z48, z50, z57, z59, z60, z61, z62, z63, z64, z97, z98, z99, z100, z101, z102, z103, z104, z105, z106, z107, z108, z109, z110, z111, z112, z113, z114, z115, z116, z117, z118, z119, z120, z121, z122, z128, z132, z200, z240, z255, z372, z390625, z400, z420, z421, z422, z662, z900, z940, z999, z1000, z1024, z2000, z5860, z10000, z12345, z15625, z266240, z1048575, z1064960, z1103515245, z_m1, n_le, n_lt, n_eq, n_bit0, n_bit1, n_sbit0, n_shl, z_ltM, z_Mlt, z_leM, z_Mle, z_eqM, z_Meq, bI0, bI1, bI_01, bI_01t, bI_10, bI_10f, if_true, if_false, eq_self, reduceCtorEq, if_pos, if_neg, rc_189 hB1, g2]
  exact ⟨S1, e1, (f0.mono rfl).tr (f1.mono rfl), (f1.at (a := 189) (k := 28) rfl).trans g0, fun k hk => (g1 k hk).trans (f0.row rfl rfl k)⟩
theorem m_exact (hn : 1100 ≤ n) (hB : rv_B S) (hL : MRL S m) (hk : okm m) {a b X : Nat} (ha : a < vW m) (hb : b < vW m) (h1 : 1 ≤ X) (hX : X ≤ 999) :
    (10000 ≤ tb (gz m a b) (va m) (vC m) (vC m) X → ∃ S', fnX13_exact n S 189 (nI a) (nI b) (nI X) = some (iM, S') ∧ rvf [189000, 189022, 191, 199, 200, 202] S S' ∧ MR S' m ∧ R42 S S' ∧ ¬ S'.2.1 189 22 = 0) ∧
    (tb (gz m a b) (va m) (vC m) (vC m) X ≤ 40 → ∃ S', fnX13_exact n S 189 (nI a) (nI b) (nI X) = some (nI (tb (gz m a b) (va m) (vC m) (vC m) X), S') ∧ rvf [189000, 189022, 191, 199, 200, 202, 201, 189028] S S' ∧ MR S' m ∧ R42 S S' ∧ ¬ S'.2.1 189 22 = 0 ∧ S'.2.1 189 28 = nI (vC m) ∧ (∀ k, k < vC m → S'.2.1 201 k = bI (Bf (gz m a b) (va m) (vC m) X k)) ∧ ∀ k, k < vC m → S'.2.1 202 k = bI (Bf (gz m a b) (va m) (vC m) X k)) := by
  obtain ⟨hp, hc, hd⟩ := id hk
  obtain ⟨S6, e6, hB6, f6, hM6, r6, b6⟩ := start_ok (n := n) (by omega) hB hL
  have i1 := m_isWho (n := n) hB6 hM6 hp ha
  have i2 := m_isWho (n := n) hB6 hM6 hp hb
  obtain ⟨x1, x2⟩ := m_exactOf hn hB6 hM6 hp hc ha hb hX
  constructor
  · intro h
    obtain ⟨S1, e1, f1⟩ := x1 h
    refine ⟨S1, ?_, (f6.mono rfl).tr (f1.mono rfl), hM6.f f1 rfl, r6.tr (R42.of f1 rfl), by rw [f1.at (a := 189) (k := 22) rfl]; exact b6⟩
    rw [fnX13_exact]
    repeat (first | (conv => (lhs; arg 1; simp (disch := first | assumption | omega) only [tk_gI, tk_gL, tk_gR, tk_pI, tk_pL, rv_aI, rv_aL, rv_aR, rv_uI, rv_uL, rv_uB, rv_uZ, pu_ckI, pu_ckL, pu_lnI, pu_lnL, tk_rI, tk_rL, Option.bind_some, Option.map_some, rv_lt, tk_ix, z0, z1, z2, z3, z4, z5, z6, z7, z8, z9, z10, z11, z12, z13, z15, z16, z17, z18, z20, z21, z23, z24, z25, z31, z32, z39, z40, z41, z46, z48, z50, z57, z59, z60, z61, z62, z63, z64, z97, z98, z99, z100, z101, z102, z103, z104, z105, z106, z107, z108, z109, z110, z111, z112, z113, z114, z115, z116, z117, z118, z119, z120, z121, z122, z128, z132, z200, z240, z255, z372, z390625, z400, z420, z421, z422, z662, z900, z940, z999, z1000, z1024, z2000, z5860, z10000, z12345, z15625, z266240, z1048575, z1064960, z1103515245, z_m1, n_le, n_lt, n_eq, n_bit0, n_bit1, n_sbit0, n_shl, z_ltM, z_Mlt, z_leM, z_Mle, z_eqM, z_Meq, bI0, bI1, bI_01, bI_01t, bI_10, bI_10f, if_true, if_false, eq_self, reduceCtorEq, rc_189 hB, e6, rc_189 hB6, i1, i2, m_isSum h1 hX, e1])); first | rw [Option.bind_some] | rw [bp_s] | rw [if_true] | rw [if_false] | rw [rv_lt_eq] | rw [if_pos (by omega)] | rw [if_neg (by omega)])
    all_goals rfl
  · intro h
    obtain ⟨S1, e1, f1, g1⟩ := x2 (by omega)
    have hB1 := f1.B hB6
    have hM1 := hM6.f f1 rfl
    obtain ⟨S2, e2, f2, g2, g3⟩ := m_tell hn hB1 hM1 hc
    refine ⟨S2, ?_, (f6.mono rfl).tr ((f1.mono rfl).tr (f2.mono rfl)), hM1.f f2 rfl, r6.tr ((R42.of f1 rfl).tr (R42.of f2 rfl)), by rw [f2.at (a := 189) (k := 22) rfl, f1.at (a := 189) (k := 22) rfl]; exact b6, g2, fun k hk => (g3 k hk).trans (g1 k hk), fun k hk => (f2.row rfl rfl k).trans (g1 k hk)⟩
    rw [fnX13_exact]
    repeat (first | (conv => (lhs; arg 1; simp (disch := first | assumption | omega) only [tk_gI, tk_gL, tk_gR, tk_pI, tk_pL, rv_aI, rv_aL, rv_aR, rv_uI, rv_uL, rv_uB, rv_uZ, pu_ckI, pu_ckL, pu_lnI, pu_lnL, tk_rI, tk_rL, Option.bind_some, Option.map_some, rv_lt, tk_ix, z0, z1, z2, z3, z4, z5, z6, z7, z8, z9, z10, z11, z12, z13, z15, z16, z17, z18, z20, z21, z23, z24, z25, z31, z32, z39, z40, z41, z46, z48, z50, z57, z59, z60, z61, z62, z63, z64, z97, z98, z99, z100, z101, z102, z103, z104, z105, z106, z107, z108, z109, z110, z111, z112, z113, z114, z115, z116, z117, z118, z119, z120, z121, z122, z128, z132, z200, z240, z255, z372, z390625, z400, z420, z421, z422, z662, z900, z940, z999, z1000, z1024, z2000, z5860, z10000, z12345, z15625, z266240, z1048575, z1064960, z1103515245, z_m1, n_le, n_lt, n_eq, n_bit0, n_bit1, n_sbit0, n_shl, z_ltM, z_Mlt, z_leM, z_Mle, z_eqM, z_Meq, bI0, bI1, bI_01, bI_01t, bI_10, bI_10f, if_true, if_false, eq_self, reduceCtorEq, rc_189 hB, e6, rc_189 hB6, i1, i2, m_isSum h1 hX, e1, rc_189 hB1, e2])); first | rw [Option.bind_some] | rw [bp_s] | rw [if_true] | rw [if_false] | rw [rv_lt_eq] | rw [if_pos (by omega)] | rw [if_neg (by omega)])
    all_goals rfl
/-- who, whom and a sum, or not so -/
theorem ok3 (hB : rv_B S) (hR : CR S 67 m) (hk : okm m) (x y z : Int32) : (∃ a b X, a < vW m ∧ b < vW m ∧ 1 ≤ X ∧ X ≤ 999 ∧ x = nI a ∧ y = nI b ∧ z = nI X) ∨ (fnX12_exact n S 64 x y z = some (-(nI 2), S) ∧ ∀ S1 S6, rv_B S1 → fnX13_lay n (rv_sI S1 189 0 (nI 0)) 189 = some S6 → rv_B S6 → MR S6 m → fnX13_exact n S1 189 x y z = some (-(nI 2), S6)) := by
  obtain ⟨hp, hc, hd⟩ := id hk
  have h24 := hp.1
  have hC := CS_of hB
  rcases rng x (N := vW m) (by omega) with ⟨a, ha, rfl⟩ | hx
  · have k1 := k_isWho (n := n) hB hR hk ha
    rcases rng y (N := vW m) (by omega) with ⟨b, hb, rfl⟩ | hy
    · have k2 := k_isWho (n := n) hB hR hk hb
      rcases rngs z with ⟨X, h1, hX, rfl⟩ | hz
      · exact Or.inl ⟨a, b, X, ha, hb, h1, hX, rfl, rfl, rfl⟩
      · refine Or.inr ⟨?_, fun S1 S6 hB1 e6 hB6 hM6 => ?_⟩
        · rw [fnX12_exact]
          repeat (first | (conv => (lhs; arg 1; simp (disch := first | assumption | omega) only [tk_gI, tk_gL, tk_gR, tk_pI, tk_pL, rv_aI, rv_aL, rv_aR, rv_uI, rv_uL, rv_uB, rv_uZ, pu_ckI, pu_ckL, pu_lnI, pu_lnL, tk_rI, tk_rL, Option.bind_some, Option.map_some, rv_lt, tk_ix, z0, z1, z2, z3, z4, z5, z6, z7, z8, z9, z10, z11, z12, z13, z15, z16, z17, z18, z20, z21, z23, z24, z25, z31, z32, z39, z40, z41, z46, z48, z50, z57, z59, z60, z61, z62, z63, z64, z97, z98, z99, z100, z101, z102, z103, z104, z105, z106, z107, z108, z109, z110, z111, z112, z113, z114, z115, z116, z117, z118, z119, z120, z121, z122, z128, z132, z200, z240, z255, z372, z390625, z400, z420, z421, z422, z662, z900, z940, z999, z1000, z1024, z2000, z5860, z10000, z12345, z15625, z266240, z1048575, z1064960, z1103515245, z_m1, n_le, n_lt, n_eq, n_bit0, n_bit1, n_sbit0, n_shl, z_ltM, z_Mlt, z_leM, z_Mle, z_eqM, z_Meq, bI0, bI1, bI_01, bI_01t, bI_10, bI_10f, if_true, if_false, eq_self, reduceCtorEq, hC, k1, k2])); first | rw [Option.bind_some] | rw [bp_s] | rw [if_true] | rw [if_false] | rw [rv_lt_eq] | rw [if_pos (by omega)] | rw [if_neg (by omega)])
          rcases hz with h | ⟨h, h2⟩
          · have h : z < (1 : Int32) := h
            rw [if_pos h]
            rfl
          · have h : ¬ z < (1 : Int32) := h
            have h2 : ¬ z ≤ (999 : Int32) := h2
            rw [if_neg h, if_neg h2]
            rfl
        · rw [fnX13_exact]
          repeat (first | (conv => (lhs; arg 1; simp (disch := first | assumption | omega) only [tk_gI, tk_gL, tk_gR, tk_pI, tk_pL, rv_aI, rv_aL, rv_aR, rv_uI, rv_uL, rv_uB, rv_uZ, pu_ckI, pu_ckL, pu_lnI, pu_lnL, tk_rI, tk_rL, Option.bind_some, Option.map_some, rv_lt, tk_ix, z0, z1, z2, z3, z4, z5, z6, z7, z8, z9, z10, z11, z12, z13, z15, z16, z17, z18, z20, z21, z23, z24, z25, z31, z32, z39, z40, z41, z46, z48, z50, z57, z59, z60, z61, z62, z63, z64, z97, z98, z99, z100, z101, z102, z103, z104, z105, z106, z107, z108, z109, z110, z111, z112, z113, z114, z115, z116, z117, z118, z119, z120, z121, z122, z128, z132, z200, z240, z255, z372, z390625, z400, z420, z421, z422, z662, z900, z940, z999, z1000, z1024, z2000, z5860, z10000, z12345, z15625, z266240, z1048575, z1064960, z1103515245, z_m1, n_le, n_lt, n_eq, n_bit0, n_bit1, n_sbit0, n_shl, z_ltM, z_Mlt, z_leM, z_Mle, z_eqM, z_Meq, bI0, bI1, bI_01, bI_01t, bI_10, bI_10f, if_true, if_false, eq_self, reduceCtorEq, rc_189 hB1, e6, rc_189 hB6, m_isWho hB6 hM6 hp ha, m_isWho hB6 hM6 hp hb, m_isSum0 hz])); first | rw [Option.bind_some] | rw [bp_s] | rw [if_true] | rw [if_false] | rw [rv_lt_eq] | rw [if_pos (by omega)] | rw [if_neg (by omega)])
          all_goals rfl
    · refine Or.inr ⟨?_, fun S1 S6 hB1 e6 hB6 hM6 => ?_⟩
      · rw [fnX12_exact]
        repeat (first | (conv => (lhs; arg 1; simp (disch := first | assumption | omega) only [tk_gI, tk_gL, tk_gR, tk_pI, tk_pL, rv_aI, rv_aL, rv_aR, rv_uI, rv_uL, rv_uB, rv_uZ, pu_ckI, pu_ckL, pu_lnI, pu_lnL, tk_rI, tk_rL, Option.bind_some, Option.map_some, rv_lt, tk_ix, z0, z1, z2, z3, z4, z5, z6, z7, z8, z9, z10, z11, z12, z13, z15, z16, z17, z18, z20, z21, z23, z24, z25, z31, z32, z39, z40, z41, z46, z48, z50, z57, z59, z60, z61, z62, z63, z64, z97, z98, z99, z100, z101, z102, z103, z104, z105, z106, z107, z108, z109, z110, z111, z112, z113, z114, z115, z116, z117, z118, z119, z120, z121, z122, z128, z132, z200, z240, z255, z372, z390625, z400, z420, z421, z422, z662, z900, z940, z999, z1000, z1024, z2000, z5860, z10000, z12345, z15625, z266240, z1048575, z1064960, z1103515245, z_m1, n_le, n_lt, n_eq, n_bit0, n_bit1, n_sbit0, n_shl, z_ltM, z_Mlt, z_leM, z_Mle, z_eqM, z_Meq, bI0, bI1, bI_01, bI_01t, bI_10, bI_10f, if_true, if_false, eq_self, reduceCtorEq, hC, k1, k_isWho0 hB hR hy])); first | rw [Option.bind_some] | rw [bp_s] | rw [if_true] | rw [if_false] | rw [rv_lt_eq] | rw [if_pos (by omega)] | rw [if_neg (by omega)])
        all_goals rfl
      · rw [fnX13_exact]
        repeat (first | (conv => (lhs; arg 1; simp (disch := first | assumption | omega) only [tk_gI, tk_gL, tk_gR, tk_pI, tk_pL, rv_aI, rv_aL, rv_aR, rv_uI, rv_uL, rv_uB, rv_uZ, pu_ckI, pu_ckL, pu_lnI, pu_lnL, tk_rI, tk_rL, Option.bind_some, Option.map_some, rv_lt, tk_ix, z0, z1, z2, z3, z4, z5, z6, z7, z8, z9, z10, z11, z12, z13, z15, z16, z17, z18, z20, z21, z23, z24, z25, z31, z32, z39, z40, z41, z46, z48, z50, z57, z59, z60, z61, z62, z63, z64, z97, z98, z99, z100, z101, z102, z103, z104, z105, z106, z107, z108, z109, z110, z111, z112, z113, z114, z115, z116, z117, z118, z119, z120, z121, z122, z128, z132, z200, z240, z255, z372, z390625, z400, z420, z421, z422, z662, z900, z940, z999, z1000, z1024, z2000, z5860, z10000, z12345, z15625, z266240, z1048575, z1064960, z1103515245, z_m1, n_le, n_lt, n_eq, n_bit0, n_bit1, n_sbit0, n_shl, z_ltM, z_Mlt, z_leM, z_Mle, z_eqM, z_Meq, bI0, bI1, bI_01, bI_01t, bI_10, bI_10f, if_true, if_false, eq_self, reduceCtorEq, rc_189 hB1, e6, rc_189 hB6, m_isWho hB6 hM6 hp ha, m_isWho0 hB6 hM6 hy])); first | rw [Option.bind_some] | rw [bp_s] | rw [if_true] | rw [if_false] | rw [rv_lt_eq] | rw [if_pos (by omega)] | rw [if_neg (by omega)])
        all_goals rfl
  · refine Or.inr ⟨?_, fun S1 S6 hB1 e6 hB6 hM6 => ?_⟩
    · rw [fnX12_exact]
      repeat (first | (conv => (lhs; arg 1; simp (disch := first | assumption | omega) only [tk_gI, tk_gL, tk_gR, tk_pI, tk_pL, rv_aI, rv_aL, rv_aR, rv_uI, rv_uL, rv_uB, rv_uZ, pu_ckI, pu_ckL, pu_lnI, pu_lnL, tk_rI, tk_rL, Option.bind_some, Option.map_some, rv_lt, tk_ix, z0, z1, z2, z3, z4, z5, z6, z7, z8, z9, z10, z11, z12, z13, z15, z16, z17, z18, z20, z21, z23, z24, z25, z31, z32, z39, z40, z41, z46, z48, z50, z57, z59, z60, z61, z62, z63, z64, z97, z98, z99, z100, z101, z102, z103, z104, z105, z106, z107, z108, z109, z110, z111, z112, z113, z114, z115, z116, z117, z118, z119, z120, z121, z122, z128, z132, z200, z240, z255, z372, z390625, z400, z420, z421, z422, z662, z900, z940, z999, z1000, z1024, z2000, z5860, z10000, z12345, z15625, z266240, z1048575, z1064960, z1103515245, z_m1, n_le, n_lt, n_eq, n_bit0, n_bit1, n_sbit0, n_shl, z_ltM, z_Mlt, z_leM, z_Mle, z_eqM, z_Meq, bI0, bI1, bI_01, bI_01t, bI_10, bI_10f, if_true, if_false, eq_self, reduceCtorEq, hC, k_isWho0 hB hR hx])); first | rw [Option.bind_some] | rw [bp_s] | rw [if_true] | rw [if_false] | rw [rv_lt_eq] | rw [if_pos (by omega)] | rw [if_neg (by omega)])
      all_goals rfl
    · rw [fnX13_exact]
      repeat (first | (conv => (lhs; arg 1; simp (disch := first | assumption | omega) only [tk_gI, tk_gL, tk_gR, tk_pI, tk_pL, rv_aI, rv_aL, rv_aR, rv_uI, rv_uL, rv_uB, rv_uZ, pu_ckI, pu_ckL, pu_lnI, pu_lnL, tk_rI, tk_rL, Option.bind_some, Option.map_some, rv_lt, tk_ix, z0, z1, z2, z3, z4, z5, z6, z7, z8, z9, z10, z11, z12, z13, z15, z16, z17, z18, z20, z21, z23, z24, z25, z31, z32, z39, z40, z41, z46, z48, z50, z57, z59, z60, z61, z62, z63, z64, z97, z98, z99, z100, z101, z102, z103, z104, z105, z106, z107, z108, z109, z110, z111, z112, z113, z114, z115, z116, z117, z118, z119, z120, z121, z122, z128, z132, z200, z240, z255, z372, z390625, z400, z420, z421, z422, z662, z900, z940, z999, z1000, z1024, z2000, z5860, z10000, z12345, z15625, z266240, z1048575, z1064960, z1103515245, z_m1, n_le, n_lt, n_eq, n_bit0, n_bit1, n_sbit0, n_shl, z_ltM, z_Mlt, z_leM, z_Mle, z_eqM, z_Meq, bI0, bI1, bI_01, bI_01t, bI_10, bI_10f, if_true, if_false, eq_self, reduceCtorEq, rc_189 hB1, e6, rc_189 hB6, m_isWho0 hB6 hM6 hx])); first | rw [Option.bind_some] | rw [bp_s] | rw [if_true] | rw [if_false] | rw [rv_lt_eq] | rw [if_pos (by omega)] | rw [if_neg (by omega)])
      all_goals rfl
def DG : List Nat := DV ++ [64012, 64013, 201, 189028]
theorem QS.dg {S' : rvS} (h : QS S S' m wd) : QD DG S S' m wd := ⟨h.1, h.2.1.mono (by decide), h.2.2⟩
theorem GV.v {S' : rvS} (h : GV S) (q : QS S S' m wd) : GV S' := h.f q.2.1 rfl rfl rfl rfl
theorem op_exact (hn : 1100 ≤ n) (hV : VI S m wd) (hG : GV S) (x y z : Int32) : ∃ r S1 S', fnX12_exact n S 64 x y z = some (r, S1) ∧ fnX13_exact n S1 189 x y z = some (r, S') ∧ QD DG S S' m wd ∧ GV S' := by
  obtain ⟨hB, hR, hL, hk, -⟩ := id hV
  rcases ok3 (n := n) hB hR hk x y z with ⟨a, b, X, ha, hb, h1, hX, rfl, rfl, rfl⟩ | ⟨u1, u2⟩
  · rcases k_exact hn hB hR hk ha hb h1 hX with ⟨t1, S1, e1, f1⟩ | ⟨t1, S1, e1, f1, g1, g2, g3⟩
    · have hB1 := f1.B hB
      have hL1 := hL.f f1 rfl rfl
      obtain ⟨S2, e2, f2, hM2, r2, b2⟩ := (m_exact hn hB1 hL1 hk ha hb h1 hX).1 t1
      have q := hR.f f1 (Or.inl rfl) (Or.inl rfl) (Or.inr (by decide)) (Or.inr (by decide)) (Or.inr (by decide))
      exact ⟨_, S1, S2, e1, e2, QD.two hV f1 f2 rfl rfl rfl rfl q hM2 b2 hk rfl rfl r2, (hG.f f1 rfl rfl rfl rfl).f f2 rfl rfl rfl rfl⟩
    · have hB1 := f1.B hB
      have hL1 := hL.f f1 rfl rfl
      obtain ⟨S2, e2, f2, hM2, r2, b2, g4, g5, -⟩ := (m_exact hn hB1 hL1 hk ha hb h1 hX).2 t1
      have q := hR.f f1 (Or.inl rfl) (Or.inl rfl) (Or.inr (by decide)) (Or.inr (by decide)) (Or.inr (by decide))
      have b40 := bs_64 (Bf (gz m a b) (va m) (vC m) X) hk.2.1.1
      refine ⟨_, S1, S2, e1, e2, QD.two hV f1 f2 rfl rfl rfl rfl q hM2 b2 hk rfl rfl r2, vC m, bs (Bf (gz m a b) (va m) (vC m) X) (vC m), hk.2.1.1, by omega, (f2.atL (a := 64) (k := 12) rfl).trans g2, (f2.at (a := 64) (k := 13) rfl).trans g3, g4, fun j hj => (g5 j hj).trans ?_⟩
      rw [bs_bit, decide_eq_true hj, Bool.true_and]
  · obtain ⟨S6, e6, hB6, f6, hM6, r6, b6⟩ := start_ok (n := n) (by omega) hB hL
    have q := QS.s0 hV f6 hM6 r6 b6
    exact ⟨_, S, S6, u1, u2 S S6 hB e6 hB6 hM6, q.dg, hG.v q⟩
end
