/-! KEEP: both sides -/
section
variable {n : Nat} {S : rvS} {m m' : Nat → Nat} {wd : Nat → List Nat}
theorem rngt (x : Int32) : (∃ a, 1 ≤ a ∧ a ≤ 99 ∧ x = nI a) ∨ (x < nI 1 ∨ (¬ x < nI 1 ∧ nI 99 < x)) := by
  rcases rng x (N := 100) (by decide) with ⟨a, h, rfl⟩ | h
  · by_cases c : 1 ≤ a
    · exact Or.inl ⟨a, c, by omega, rfl⟩
    · exact Or.inr (Or.inl (by rw [n_lt (by omega) (by decide)]; omega))
  · rcases h with h | h
    · exact Or.inr (Or.inl (Int32.lt_trans h (by decide)))
    · by_cases c : x < nI 1
      · exact Or.inr (Or.inl c)
      · exact Or.inr (Or.inr ⟨c, Int32.lt_of_lt_of_le (show nI 99 < nI 100 by decide) h⟩)
theorem k_ds {a : Nat} (h1 : 1 ≤ a) (h2 : a ≤ 99) : fnX12_isDaySum n S (nI a) = some (nI 1) := by
  simp (disch := first | assumption | omega) only [fnX12_isDaySum, z0, z1, z2, z3, z4, z5, z6, z7, z8, z9, z10, z11, z12, z13, z15, z16, z17, z18, z20, z21, z23, z24, z25, z31, z32, z39, z40, z41, z46, z48, z50, z57, z59, z60, z61, z62, z63, z64, z97, z98, z99, z100, z101, z102, z103, z104, z105, z106, z107, z108, z109, z110, z111, z112, z113, z114, z115, z116, z117, z118, z119, z120, z121, z122, z128, z132, z200, z240, z255, z372, z390625, z400, z420, z421, z422, z662, z900, z940, z999, z1000, z1024, z2000, z5860, z10000, z12345, z15625, z266240, z1048575, z1064960, z1103515245, z_m1, n_le, n_lt, n_eq, n_bit0, n_bit1, n_sbit0, n_shl, z_ltM, z_Mlt, z_leM, z_Mle, z_eqM, z_Meq, bI0, bI1, bI_01, bI_01t, bI_10, bI_10f, if_true, if_false, eq_self, reduceCtorEq, if_pos, if_neg]
theorem k_ds0 {x : Int32} (h : x < nI 1 ∨ (¬ x < nI 1 ∧ nI 99 < x)) : fnX12_isDaySum n S x = some (nI 0) := by
  rw [fnX12_isDaySum, z1, z99]
  rcases h with h | ⟨h, h2⟩
  · rw [if_pos h]; rfl
  · rw [if_neg h, if_pos h2]; rfl
theorem m_ds {a : Nat} (h1 : 1 ≤ a) (h2 : a ≤ 99) : fnX13_isIn n S (nI a) (1 : Int32) (99 : Int32) = some (nI 1) := by
  simp (disch := first | assumption | omega) only [fnX13_isIn, z0, z1, z2, z3, z4, z5, z6, z7, z8, z9, z10, z11, z12, z13, z15, z16, z17, z18, z20, z21, z23, z24, z25, z31, z32, z39, z40, z41, z46, z48, z50, z57, z59, z60, z61, z62, z63, z64, z97, z98, z99, z100, z101, z102, z103, z104, z105, z106, z107, z108, z109, z110, z111, z112, z113, z114, z115, z116, z117, z118, z119, z120, z121, z122, z128, z132, z200, z240, z255, z372, z390625, z400, z420, z421, z422, z662, z900, z940, z999, z1000, z1024, z2000, z5860, z10000, z12345, z15625, z266240, z1048575, z1064960, z1103515245, z_m1, n_le, n_lt, n_eq, n_bit0, n_bit1, n_sbit0, n_shl, z_ltM, z_Mlt, z_leM, z_Mle, z_eqM, z_Meq, bI0, bI1, bI_01, bI_01t, bI_10, bI_10f, if_true, if_false, eq_self, reduceCtorEq, if_pos, if_neg, bo_1]
theorem m_ds0 {x : Int32} (h : x < nI 1 ∨ (¬ x < nI 1 ∧ nI 99 < x)) : fnX13_isIn n S x (1 : Int32) (99 : Int32) = some (nI 0) := by
  rw [fnX13_isIn, z1, z99]
  rcases h with h | ⟨h, h2⟩
  · rw [if_pos h]; rfl
  · rw [if_neg h, if_pos h2]; rfl
theorem m_ds' {a : Nat} (h1 : 1 ≤ a) (h2 : a ≤ 99) : fnX13_isIn n S (nI a) (nI 1) (nI 99) = some (nI 1) := by
  rw [← z1, ← z99]; exact (m_ds h1 h2).trans (by rw [z1])
theorem m_ds0' {x : Int32} (h : x < nI 1 ∨ (¬ x < nI 1 ∧ nI 99 < x)) : fnX13_isIn n S x (nI 1) (nI 99) = some (nI 0) := by
  rw [← z1, ← z99]; exact m_ds0 h
/-- three who, two sums, or not so -/
theorem ok5 (hB : rv_B S) (hR : CR S 67 m) (hk : okm m) (x y z u v : Int32) : (∃ a b c X Y, a < vW m ∧ b < vW m ∧ c < vW m ∧ 1 ≤ X ∧ X ≤ 99 ∧ 1 ≤ Y ∧ Y ≤ 99 ∧ x = nI a ∧ y = nI b ∧ z = nI X ∧ u = nI c ∧ v = nI Y) ∨ (fnX12_keep n S 64 x y z u v = some (-(nI 2), S) ∧ ∀ S1 S6, rv_B S1 → fnX13_lay n (rv_sI S1 189 0 (nI 0)) 189 = some S6 → rv_B S6 → MR S6 m → fnX13_keep n S1 189 x y z u v = some (-(nI 2), S6)) := by
  obtain ⟨hp, hc, hd⟩ := id hk
  have h24 := hp.1
  have hC := CS_of hB
  have e44 : cX12_keep_44 n S 64 x y z u v = some (-(nI 2), S) := by
    rw [cX12_keep_44, cX12_keep_45, if_pos rfl]; rfl
  rcases rng x (N := vW m) (by omega) with ⟨a, ha, rfl⟩ | hx
  · have k1 := k_isWho (n := n) hB hR hk ha
    rcases rng y (N := vW m) (by omega) with ⟨b, hb, rfl⟩ | hy
    · have k2 := k_isWho (n := n) hB hR hk hb
      rcases rng u (N := vW m) (by omega) with ⟨c, hcc, rfl⟩ | hu
      · have k3 := k_isWho (n := n) hB hR hk hcc
        rcases rngt z with ⟨X, h1, hX, rfl⟩ | hz
        · have k4 := k_ds (n := n) (S := S) h1 hX
          rcases rngt v with ⟨Y, h1', hY, rfl⟩ | hv
          · exact Or.inl ⟨a, b, c, X, Y, ha, hb, hcc, h1, hX, h1', hY, rfl, rfl, rfl, rfl, rfl⟩
          · refine Or.inr ⟨?_, fun S1 S6 hB1 e6 hB6 hM6 => ?_⟩
            · rw [fnX12_keep]
              repeat (first | (conv => (lhs; arg 1; simp (disch := first | assumption | omega) only [tk_gI, tk_gL, tk_gR, tk_pI, tk_pL, rv_aI, rv_aL, rv_aR, rv_uI, rv_uL, rv_uB, rv_uZ, pu_ckI, pu_ckL, pu_lnI, pu_lnL, tk_rI, tk_rL, Option.bind_some, Option.map_some, rv_lt, tk_ix, z0, z1, z2, z3, z4, z5, z6, z7, z8, z9, z10, z11, z12, z13, z15, z16, z17, z18, z20, z21, z23, z24, z25, z31, z32, z39, z40, z41, z46, z48, z50, z57, z59, z60, z61, z62, z63, z64, z97, z98, z99, z100, z101, z102, z103, z104, z105, z106, z107, z108, z109, z110, z111, z112, z113, z114, z115, z116, z117, z118, z119, z120, z121, z122, z128, z132, z200, z240, z255, z372, z390625, z400, z420, z421, z422, z662, z900, z940, z999, z1000, z1024, z2000, z5860, z10000, z12345, z15625, z266240, z1048575, z1064960, z1103515245, z_m1, n_le, n_lt, n_eq, n_bit0, n_bit1, n_sbit0, n_shl, z_ltM, z_Mlt, z_leM, z_Mle, z_eqM, z_Meq, bI0, bI1, bI_01, bI_01t, bI_10, bI_10f, if_true, if_false, eq_self, reduceCtorEq, hC, k1, k2, k3, k4, k_ds0 (n := n) (S := S) hv])); first | rw [Option.bind_some] | rw [bp_s] | rw [if_true] | rw [if_false] | rw [rv_lt_eq] | rw [if_pos (by omega)] | rw [if_neg (by omega)])
              exact e44
            · rw [fnX13_keep]
              repeat (first | (conv => (lhs; arg 1; simp (disch := first | assumption | omega) only [tk_gI, tk_gL, tk_gR, tk_pI, tk_pL, rv_aI, rv_aL, rv_aR, rv_uI, rv_uL, rv_uB, rv_uZ, pu_ckI, pu_ckL, pu_lnI, pu_lnL, tk_rI, tk_rL, Option.bind_some, Option.map_some, rv_lt, tk_ix, z0, z1, z2, z3, z4, z5, z6, z7, z8, z9, z10, z11, z12, z13, z15, z16, z17, z18, z20, z21, z23, z24, z25, z31, z32, z39, z40, z41, z46, z48, z50, z57, z59, z60, z61, z62, z63, z64, z97, z98, z99, z100, z101, z102, z103, z104, z105, z106, z107, z108, z109, z110, z111, z112, z113, z114, z115, z116, z117, z118, z119, z120, z121, z122, z128, z132, z200, z240, z255, z372, z390625, z400, z420, z421, z422, z662, z900, z940, z999, z1000, z1024, z2000, z5860, z10000, z12345, z15625, z266240, z1048575, z1064960, z1103515245, z_m1, n_le, n_lt, n_eq, n_bit0, n_bit1, n_sbit0, n_shl, z_ltM, z_Mlt, z_leM, z_Mle, z_eqM, z_Meq, bI0, bI1, bI_01, bI_01t, bI_10, bI_10f, if_true, if_false, eq_self, reduceCtorEq, rc_189 hB1, e6, rc_189 hB6, m_isWho hB6 hM6 hp ha, m_isWho hB6 hM6 hp hb, m_isWho hB6 hM6 hp hcc, m_ds' (n := n) (S := S6) h1 hX, m_ds0' (n := n) (S := S6) hv])); first | rw [Option.bind_some] | rw [bp_s] | rw [if_true] | rw [if_false] | rw [rv_lt_eq] | rw [if_pos (by omega)] | rw [if_neg (by omega)])
              all_goals rfl
        · refine Or.inr ⟨?_, fun S1 S6 hB1 e6 hB6 hM6 => ?_⟩
          · rw [fnX12_keep]
            repeat (first | (conv => (lhs; arg 1; simp (disch := first | assumption | omega) only [tk_gI, tk_gL, tk_gR, tk_pI, tk_pL, rv_aI, rv_aL, rv_aR, rv_uI, rv_uL, rv_uB, rv_uZ, pu_ckI, pu_ckL, pu_lnI, pu_lnL, tk_rI, tk_rL, Option.bind_some, Option.map_some, rv_lt, tk_ix, z0, z1, z2, z3, z4, z5, z6, z7, z8, z9, z10, z11, z12, z13, z15, z16, z17, z18, z20, z21, z23, z24, z25, z31, z32, z39, z40, z41, z46, z48, z50, z57, z59, z60, z61, z62, z63, z64, z97, z98, z99, z100, z101, z102, z103, z104, z105, z106, z107, z108, z109, z110, z111, z112, z113, z114, z115, z116, z117, z118, z119, z120, z121, z122, z128, z132, z200, z240, z255, z372, z390625, z400, z420, z421, z422, z662, z900, z940, z999, z1000, z1024, z2000, z5860, z10000, z12345, z15625, z266240, z1048575, z1064960, z1103515245, z_m1, n_le, n_lt, n_eq, n_bit0, n_bit1, n_sbit0, n_shl, z_ltM, z_Mlt, z_leM, z_Mle, z_eqM, z_Meq, bI0, bI1, bI_01, bI_01t, bI_10, bI_10f, if_true, if_false, eq_self, reduceCtorEq, hC, k1, k2, k3, k_ds0 (n := n) (S := S) hz])); first | rw [Option.bind_some] | rw [bp_s] | rw [if_true] | rw [if_false] | rw [rv_lt_eq] | rw [if_pos (by omega)] | rw [if_neg (by omega)])
            exact e44
          · rw [fnX13_keep]
            repeat (first | (conv => (lhs; arg 1; simp (disch := first | assumption | omega) only [tk_gI, tk_gL, tk_gR, tk_pI, tk_pL, rv_aI, rv_aL, rv_aR, rv_uI, rv_uL, rv_uB, rv_uZ, pu_ckI, pu_ckL, pu_lnI, pu_lnL, tk_rI, tk_rL, Option.bind_some, Option.map_some, rv_lt, tk_ix, z0, z1, z2, z3, z4, z5, z6, z7, z8, z9, z10, z11, z12, z13, z15, z16, z17, z18, z20, z21, z23, z24, z25, z31, z32, z39, z40, z41, z46, z48, z50, z57, z59, z60, z61, z62, z63, z64, z97, z98, z99, z100, z101, z102, z103, z104, z105, z106, z107, z108, z109, z110, z111, z112, z113, z114, z115, z116, z117, z118, z119, z120, z121, z122, z128, z132, z200, z240, z255, z372, z390625, z400, z420, z421, z422, z662, z900, z940, z999, z1000, z1024, z2000, z5860, z10000, z12345, z15625, z266240, z1048575, z1064960, z1103515245, z_m1, n_le, n_lt, n_eq, n_bit0, n_bit1, n_sbit0, n_shl, z_ltM, z_Mlt, z_leM, z_Mle, z_eqM, z_Meq, bI0, bI1, bI_01, bI_01t, bI_10, bI_10f, if_true, if_false, eq_self, reduceCtorEq, rc_189 hB1, e6, rc_189 hB6, m_isWho hB6 hM6 hp ha, m_isWho hB6 hM6 hp hb, m_isWho hB6 hM6 hp hcc, m_ds0' (n := n) (S := S6) hz])); first | rw [Option.bind_some] | rw [bp_s] | rw [if_true] | rw [if_false] | rw [rv_lt_eq] | rw [if_pos (by omega)] | rw [if_neg (by omega)])
            all_goals rfl
      · refine Or.inr ⟨?_, fun S1 S6 hB1 e6 hB6 hM6 => ?_⟩
        · rw [fnX12_keep]
          repeat (first | (conv => (lhs; arg 1; simp (disch := first | assumption | omega) only [tk_gI, tk_gL, tk_gR, tk_pI, tk_pL, rv_aI, rv_aL, rv_aR, rv_uI, rv_uL, rv_uB, rv_uZ, pu_ckI, pu_ckL, pu_lnI, pu_lnL, tk_rI, tk_rL, Option.bind_some, Option.map_some, rv_lt, tk_ix, z0, z1, z2, z3, z4, z5, z6, z7, z8, z9, z10, z11, z12, z13, z15, z16, z17, z18, z20, z21, z23, z24, z25, z31, z32, z39, z40, z41, z46, z48, z50, z57, z59, z60, z61, z62, z63, z64, z97, z98, z99, z100, z101, z102, z103, z104, z105, z106, z107, z108, z109, z110, z111, z112, z113, z114, z115, z116, z117, z118, z119, z120, z121, z122, z128, z132, z200, z240, z255, z372, z390625, z400, z420, z421, z422, z662, z900, z940, z999, z1000, z1024, z2000, z5860, z10000, z12345, z15625, z266240, z1048575, z1064960, z1103515245, z_m1, n_le, n_lt, n_eq, n_bit0, n_bit1, n_sbit0, n_shl, z_ltM, z_Mlt, z_leM, z_Mle, z_eqM, z_Meq, bI0, bI1, bI_01, bI_01t, bI_10, bI_10f, if_true, if_false, eq_self, reduceCtorEq, hC, k1, k2, k_isWho0 hB hR hu])); first | rw [Option.bind_some] | rw [bp_s] | rw [if_true] | rw [if_false] | rw [rv_lt_eq] | rw [if_pos (by omega)] | rw [if_neg (by omega)])
          exact e44
        · rw [fnX13_keep]
          repeat (first | (conv => (lhs; arg 1; simp (disch := first | assumption | omega) only [tk_gI, tk_gL, tk_gR, tk_pI, tk_pL, rv_aI, rv_aL, rv_aR, rv_uI, rv_uL, rv_uB, rv_uZ, pu_ckI, pu_ckL, pu_lnI, pu_lnL, tk_rI, tk_rL, Option.bind_some, Option.map_some, rv_lt, tk_ix, z0, z1, z2, z3, z4, z5, z6, z7, z8, z9, z10, z11, z12, z13, z15, z16, z17, z18, z20, z21, z23, z24, z25, z31, z32, z39, z40, z41, z46, z48, z50, z57, z59, z60, z61, z62, z63, z64, z97, z98, z99, z100, z101, z102, z103, z104, z105, z106, z107, z108, z109, z110, z111, z112, z113, z114, z115, z116, z117, z118, z119, z120, z121, z122, z128, z132, z200, z240, z255, z372, z390625, z400, z420, z421, z422, z662, z900, z940, z999, z1000, z1024, z2000, z5860, z10000, z12345, z15625, z266240, z1048575, z1064960, z1103515245, z_m1, n_le, n_lt, n_eq, n_bit0, n_bit1, n_sbit0, n_shl, z_ltM, z_Mlt, z_leM, z_Mle, z_eqM, z_Meq, bI0, bI1, bI_01, bI_01t, bI_10, bI_10f, if_true, if_false, eq_self, reduceCtorEq, rc_189 hB1, e6, rc_189 hB6, m_isWho hB6 hM6 hp ha, m_isWho hB6 hM6 hp hb, m_isWho0 hB6 hM6 hu])); first | rw [Option.bind_some] | rw [bp_s] | rw [if_true] | rw [if_false] | rw [rv_lt_eq] | rw [if_pos (by omega)] | rw [if_neg (by omega)])
          all_goals rfl
    · refine Or.inr ⟨?_, fun S1 S6 hB1 e6 hB6 hM6 => ?_⟩
      · rw [fnX12_keep]
        repeat (first | (conv => (lhs; arg 1; simp (disch := first | assumption | omega) only [tk_gI, tk_gL, tk_gR, tk_pI, tk_pL, rv_aI, rv_aL, rv_aR, rv_uI, rv_uL, rv_uB, rv_uZ, pu_ckI, pu_ckL, pu_lnI, pu_lnL, tk_rI, tk_rL, Option.bind_some, Option.map_some, rv_lt, tk_ix, z0, z1, z2, z3, z4, z5, z6, z7, z8, z9, z10, z11, z12, z13, z15, z16, z17, z18, z20, z21, z23, z24, z25, z31, z32, z39, z40, z41, z46, z48, z50, z57, z59, z60, z61, z62, z63, z64, z97, z98, z99, z100, z101, z102, z103, z104, z105, z106, z107, z108, z109, z110, z111, z112, z113, z114, z115, z116, z117, z118, z119, z120, z121, z122, z128, z132, z200, z240, z255, z372, z390625, z400, z420, z421, z422, z662, z900, z940, z999, z1000, z1024, z2000, z5860, z10000, z12345, z15625, z266240, z1048575, z1064960, z1103515245, z_m1, n_le, n_lt, n_eq, n_bit0, n_bit1, n_sbit0, n_shl, z_ltM, z_Mlt, z_leM, z_Mle, z_eqM, z_Meq, bI0, bI1, bI_01, bI_01t, bI_10, bI_10f, if_true, if_false, eq_self, reduceCtorEq, hC, k1, k_isWho0 hB hR hy])); first | rw [Option.bind_some] | rw [bp_s] | rw [if_true] | rw [if_false] | rw [rv_lt_eq] | rw [if_pos (by omega)] | rw [if_neg (by omega)])
        exact e44
      · rw [fnX13_keep]
        repeat (first | (conv => (lhs; arg 1; simp (disch := first | assumption | omega) only [tk_gI, tk_gL, tk_gR, tk_pI, tk_pL, rv_aI, rv_aL, rv_aR, rv_uI, rv_uL, rv_uB, rv_uZ, pu_ckI, pu_ckL, pu_lnI, pu_lnL, tk_rI, tk_rL, Option.bind_some, Option.map_some, rv_lt, tk_ix, z0, z1, z2, z3, z4, z5, z6, z7, z8, z9, z10, z11, z12, z13, z15, z16, z17, z18, z20, z21, z23, z24, z25, z31, z32, z39, z40, z41, z46, z48, z50, z57, z59, z60, z61, z62, z63, z64, z97, z98, z99, z100, z101, z102, z103, z104, z105, z106, z107, z108, z109, z110, z111, z112, z113, z114, z115, z116, z117, z118, z119, z120, z121, z122, z128, z132, z200, z240, z255, z372, z390625, z400, z420, z421, z422, z662, z900, z940, z999, z1000, z1024, z2000, z5860, z10000, z12345, z15625, z266240, z1048575, z1064960, z1103515245, z_m1, n_le, n_lt, n_eq, n_bit0, n_bit1, n_sbit0, n_shl, z_ltM, z_Mlt, z_leM, z_Mle, z_eqM, z_Meq, bI0, bI1, bI_01, bI_01t, bI_10, bI_10f, if_true, if_false, eq_self, reduceCtorEq, rc_189 hB1, e6, rc_189 hB6, m_isWho hB6 hM6 hp ha, m_isWho0 hB6 hM6 hy])); first | rw [Option.bind_some] | rw [bp_s] | rw [if_true] | rw [if_false] | rw [rv_lt_eq] | rw [if_pos (by omega)] | rw [if_neg (by omega)])
        all_goals rfl
  · refine Or.inr ⟨?_, fun S1 S6 hB1 e6 hB6 hM6 => ?_⟩
    · rw [fnX12_keep]
      repeat (first | (conv => (lhs; arg 1; simp (disch := first | assumption | omega) only [tk_gI, tk_gL, tk_gR, tk_pI, tk_pL, rv_aI, rv_aL, rv_aR, rv_uI, rv_uL, rv_uB, rv_uZ, pu_ckI, pu_ckL, pu_lnI, pu_lnL, tk_rI, tk_rL, Option.bind_some, Option.map_some, rv_lt, tk_ix, z0, z1, z2, z3, z4, z5, z6, z7, z8, z9, z10, z11, z12, z13, z15, z16, z17, z18, z20, z21, z23, z24, z25, z31, z32, z39, z40, z41, z46, z48, z50, z57, z59, z60, z61, z62, z63, z64, z97, z98, z99, z100, z101, z102, z103, z104, z105, z106, z107, z108, z109, z110, z111, z112, z113, z114, z115, z116, z117, z118, z119, z120, z121, z122, z128, z132, z200, z240, z255, z372, z390625, z400, z420, z421, z422, z662, z900, z940, z999, z1000, z1024, z2000, z5860, z10000, z12345, z15625, z266240, z1048575, z1064960, z1103515245, z_m1, n_le, n_lt, n_eq, n_bit0, n_bit1, n_sbit0, n_shl, z_ltM, z_Mlt, z_leM, z_Mle, z_eqM, z_Meq, bI0, bI1, bI_01, bI_01t, bI_10, bI_10f, if_true, if_false, eq_self, reduceCtorEq, hC, k_isWho0 hB hR hx])); first | rw [Option.bind_some] | rw [bp_s] | rw [if_true] | rw [if_false] | rw [rv_lt_eq] | rw [if_pos (by omega)] | rw [if_neg (by omega)])
      exact e44
    · rw [fnX13_keep]
      repeat (first | (conv => (lhs; arg 1; simp (disch := first | assumption | omega) only [tk_gI, tk_gL, tk_gR, tk_pI, tk_pL, rv_aI, rv_aL, rv_aR, rv_uI, rv_uL, rv_uB, rv_uZ, pu_ckI, pu_ckL, pu_lnI, pu_lnL, tk_rI, tk_rL, Option.bind_some, Option.map_some, rv_lt, tk_ix, z0, z1, z2, z3, z4, z5, z6, z7, z8, z9, z10, z11, z12, z13, z15, z16, z17, z18, z20, z21, z23, z24, z25, z31, z32, z39, z40, z41, z46, z48, z50, z57, z59, z60, z61, z62, z63, z64, z97, z98, z99, z100, z101, z102, z103, z104, z105, z106, z107, z108, z109, z110, z111, z112, z113, z114, z115, z116, z117, z118, z119, z120, z121, z122, z128, z132, z200, z240, z255, z372, z390625, z400, z420, z421, z422, z662, z900, z940, z999, z1000, z1024, z2000, z5860, z10000, z12345, z15625, z266240, z1048575, z1064960, z1103515245, z_m1, n_le, n_lt, n_eq, n_bit0, n_bit1, n_sbit0, n_shl, z_ltM, z_Mlt, z_leM, z_Mle, z_eqM, z_Meq, bI0, bI1, bI_01, bI_01t, bI_10, bI_10f, if_true, if_false, eq_self, reduceCtorEq, rc_189 hB1, e6, rc_189 hB6, m_isWho0 hB6 hM6 hx])); first | rw [Option.bind_some] | rw [bp_s] | rw [if_true] | rw [if_false] | rw [rv_lt_eq] | rw [if_pos (by omega)] | rw [if_neg (by omega)])
      all_goals rfl
theorem op_keep (hn : 10100 ≤ n) (hV : VI S m wd) (hG : GV S) (x y z u v : Int32) : ∃ r S1 S', fnX12_keep n S 64 x y z u v = some (r, S1) ∧ fnX13_keep n S1 189 x y z u v = some (r, S') ∧ QD DG S S' m wd ∧ GV S' := by
  obtain ⟨hB, hR, hL, hk, -⟩ := id hV
  obtain ⟨hp, hc, hd⟩ := id hk
  have h40 := hc.1
  rcases ok5 (n := n) hB hR hk x y z u v with ⟨a, b, c, X, Y, ha, hb, hcc, h1, hX, h1', hY, rfl, rfl, rfl, rfl, rfl⟩ | ⟨u1, u2⟩
  · have hC := CS_of hB
    have hv : vb 67 := Or.inl rfl
    have hVS := VS_of hB hv
    have hFS := FS_of hB hv.f
    have hPS := PS_of hB hv.p
    have r5 := rf_of hB (show (64, 5, 108) ∈ rv_rf0 by decide)
    have k1 := k_isWho (n := n) hB hR hk ha
    have k2 := k_isWho (n := n) hB hR hk hb
    have k3 := k_isWho (n := n) hB hR hk hcc
    have k4 := k_ds (n := n) (S := S) h1 hX
    have k5 := k_ds (n := n) (S := S) h1' hY
    have w1 := k_goingTo (n := n) (by omega) hFS hR.1 hPS hR.2.1 hp hc ha hb
    have w2 := k_goingTo (n := n) (by omega) hFS hR.1 hPS hR.2.1 hp hc ha hcc
    obtain ⟨e1, ee1⟩ : ∃ e1, e1 = gz m a b := ⟨_, rfl⟩
    obtain ⟨e2, ee2⟩ : ∃ e2, e2 = gz m a c := ⟨_, rfl⟩
    have w1 : fnX6_goingTo n S (67 + 8) (67 + 1) (nI a) (nI b) = some (lN (bs e1 (vC m))) := by rw [ee1]; exact w1
    have w2 : fnX6_goingTo n S (67 + 8) (67 + 1) (nI a) (nI c) = some (lN (bs e2 (vC m))) := by rw [ee2]; exact w2
    have kt := k_two (n := n) (e1 := e1) (e2 := e2) hn hB hR.2.1 hc h1 hX h1' hY
    rcases kt with ⟨t1, S1, e1', f1⟩ | ⟨t1, S1, e1', f1, g1⟩
    · have hB1 := f1.B hB
      have hL1 := hL.f f1 rfl rfl
      have q := hR.f f1 hv (Or.inl rfl) (Or.inr (by decide)) (Or.inr (by decide)) (Or.inr (by decide))
      obtain ⟨S6, e6, hB6, f6, hM6, r6, b6⟩ := start_ok (n := n) (by omega) hB1 hL1
      obtain ⟨S7, e7, f7, g7⟩ := m_layTwo (n := n) (by omega) hB6 hM6 hp hc ha hb hcc hX hY
      have hB7 := f7.B hB6
      have hM7 := hM6.f f7 rfl
      have fz : rvf [189000, 189022, 191, 199, 200] S1 S7 := (f6.mono rfl).tr (f7.mono rfl)
      have rr := rf_of hB7 (show (189, 25, 200) ∈ rv_rf0 by decide)
      have g8 := g7 0 (Nat.zero_le _) (Nat.zero_le _) X Y (Nat.le_refl _) (Nat.le_refl _)
      rw [Nat.sub_zero, ← ee1, ← ee2] at g8
      have cap := tg_cap (e1 := e1) (e2 := e2) (d := va m) (N := vC m) (vC m) X Y
      refine ⟨iM, S1, S7, ?_, ?_, QD.two hV f1 fz rfl rfl rfl rfl q hM7 (by rw [f7.at (a := 189) (k := 22) rfl]; exact b6) hk rfl rfl (r6.tr (R42.of f7 rfl)), (hG.f f1 rfl rfl rfl rfl).f fz rfl rfl rfl rfl⟩
      · have e2t : fnX12_told n S1 64 iM = some (iM, S1) := by rw [fnX12_told, if_pos (by decide)]
        rw [fnX12_keep]
        repeat (first | (conv => (lhs; arg 1; simp (disch := first | assumption | omega) only [tk_gI, tk_gL, tk_gR, tk_pI, tk_pL, rv_aI, rv_aL, rv_aR, rv_uI, rv_uL, rv_uB, rv_uZ, pu_ckI, pu_ckL, pu_lnI, pu_lnL, tk_rI, tk_rL, Option.bind_some, Option.map_some, rv_lt, tk_ix, z0, z1, z2, z3, z4, z5, z6, z7, z8, z9, z10, z11, z12, z13, z15, z16, z17, z18, z20, z21, z23, z24, z25, z31, z32, z39, z40, z41, z46, z48, z50, z57, z59, z60, z61, z62, z63, z64, z97, z98, z99, z100, z101, z102, z103, z104, z105, z106, z107, z108, z109, z110, z111, z112, z113, z114, z115, z116, z117, z118, z119, z120, z121, z122, z128, z132, z200, z240, z255, z372, z390625, z400, z420, z421, z422, z662, z900, z940, z999, z1000, z1024, z2000, z5860, z10000, z12345, z15625, z266240, z1048575, z1064960, z1103515245, z_m1, n_le, n_lt, n_eq, n_bit0, n_bit1, n_sbit0, n_shl, z_ltM, z_Mlt, z_leM, z_Mle, z_eqM, z_Meq, bI0, bI1, bI_01, bI_01t, bI_10, bI_10f, if_true, if_false, eq_self, reduceCtorEq, hC, k1, k2, k3, k4, k5])); first | rw [Option.bind_some] | rw [bp_s] | rw [if_true] | rw [if_false] | rw [rv_lt_eq] | rw [if_pos (by omega)] | rw [if_neg (by omega)])
        rw [cX12_keep_45, if_neg (by decide)]
        repeat (first | (conv => (lhs; arg 1; simp (disch := first | assumption | omega) only [tk_gI, tk_gL, tk_gR, tk_pI, tk_pL, rv_aI, rv_aL, rv_aR, rv_uI, rv_uL, rv_uB, rv_uZ, pu_ckI, pu_ckL, pu_lnI, pu_lnL, tk_rI, tk_rL, Option.bind_some, Option.map_some, rv_lt, tk_ix, hC, hVS, hPS, hFS, w1, w2, r5, rc_108 hB, e1', rc_64 hB1, e2t])); first | rw [Option.bind_some] | rw [bp_s] | rw [if_true] | rw [if_false] | rw [rv_lt_eq] | rw [if_pos (by omega)] | rw [if_neg (by omega)])
      · rw [fnX13_keep]
        repeat (first | (conv => (lhs; arg 1; simp (disch := first | assumption | omega) only [tk_gI, tk_gL, tk_gR, tk_pI, tk_pL, rv_aI, rv_aL, rv_aR, rv_uI, rv_uL, rv_uB, rv_uZ, pu_ckI, pu_ckL, pu_lnI, pu_lnL, tk_rI, tk_rL, Option.bind_some, Option.map_some, rv_lt, tk_ix, z0, z1, z2, z3, z4, z5, z6, z7, z8, z9, z10, z11, z12, z13, z15, z16, z17, z18, z20, z21, z23, z24, z25, z31, z32, z39, z40, z41, z46, z48, z50, z57, z59, z60, z61, z62, z63, z64, z97, z98, z99, z100, z101, z102, z103, z104, z105, z106, z107, z108, z109, z110, z111, z112, z113, z114, z115, z116, z117, z118, z119, z120, z121, z122, z128, z132, z200, z240, z255, z372, z390625, z400, z420, z421, z422, z662, z900, z940, z999, z1000, z1024, z2000, z5860, z10000, z12345, z15625, z266240, z1048575, z1064960, z1103515245, z_m1, n_le, n_lt, n_eq, n_bit0, n_bit1, n_sbit0, n_shl, z_ltM, z_Mlt, z_leM, z_Mle, z_eqM, z_Meq, bI0, bI1, bI_01, bI_01t, bI_10, bI_10f, if_true, if_false, eq_self, reduceCtorEq, rc_189 hB1, e6, rc_189 hB6, m_isWho hB6 hM6 hp ha, m_isWho hB6 hM6 hp hb, m_isWho hB6 hM6 hp hcc, m_ds' (n := n) (S := S6) h1 hX, m_ds' (n := n) (S := S6) h1' hY, e7, rc_189 hB7, rr, rn_200 hB7, m_two0, g8])); first | rw [Option.bind_some] | rw [bp_s] | rw [if_true] | rw [if_false] | rw [rv_lt_eq] | rw [if_pos (by omega)] | rw [if_neg (by omega)])
        all_goals rfl
    · have hB1 := f1.B hB
      have hR1 := hR.f f1 hv (Or.inl rfl) (Or.inr (by decide)) (Or.inr (by decide)) (Or.inr (by decide))
      obtain ⟨S2, e2', f2, g2, g3⟩ := k_told (n := n) (by omega) hB1 hR1.2.1 g1 (rfl : tg e1 e2 (va m) (vC m) (vC m) X Y = _)
      have hB2 := f2.B hB1
      have f12 : rvf [108, 110, 64012, 64013] S S2 := (f1.mono rfl).tr (f2.mono rfl)
      have hL2 := hL.f f12 rfl rfl
      have q := hR.f f12 hv (Or.inl rfl) (Or.inr (by decide)) (Or.inr (by decide)) (Or.inr (by decide))
      obtain ⟨S6, e6, hB6, f6, hM6, r6, b6⟩ := start_ok (n := n) (by omega) hB2 hL2
      obtain ⟨S7, e7, f7, g7⟩ := m_layTwo (n := n) (by omega) hB6 hM6 hp hc ha hb hcc hX hY
      have hB7 := f7.B hB6
      have hM7 := hM6.f f7 rfl
      have rr := rf_of hB7 (show (189, 25, 200) ∈ rv_rf0 by decide)
      have g8 := g7 0 (Nat.zero_le _) (Nat.zero_le _) X Y (Nat.le_refl _) (Nat.le_refl _)
      rw [Nat.sub_zero, ← ee1, ← ee2] at g8
      obtain ⟨F, eF⟩ : ∃ F, F = tg e1 e2 (va m) (vC m) (vC m) X Y := ⟨_, rfl⟩
      obtain ⟨S8, e8, f8, g9⟩ := m_lefts (n := n) (by omega) hB7 hY (nI a) (nI b) (nI X) (nI c) (nI F) (nI F)
      have hB8 := f8.B hB7
      have hM8 := hM7.f f8 rfl
      obtain ⟨S9, e9, f9, g10⟩ := m_kwalk (n := n) (by omega) hB8 hM8 hp hc ha hb hcc hX hY (g7.f f8 rfl) g9 (nI F)
      rw [← ee1, ← ee2] at g10
      rw [← ee1, ← ee2, ← eF] at e9
      have hB9 := f9.B hB8
      have hM9 := hM8.f f9 rfl
      obtain ⟨S10, e10, f10, g11, g12⟩ := m_tell (n := n) (by omega) hB9 hM9 hc
      have fz : rvf [189000, 189022, 191, 199, 200, 202, 203, 204, 201, 189028] S2 S10 := (f6.mono rfl).tr ((f7.mono rfl).tr ((f8.mono rfl).tr ((f9.mono rfl).tr (f10.mono rfl))))
      have b40 := bs_64 (Bk e1 e2 (va m) (vC m) X Y) h40
      rw [← eF] at t1 e1' e2' g8
      refine ⟨nI F, S2, S10, ?_, ?_, QD.two hV f12 fz rfl rfl rfl rfl q (hM9.f f10 rfl) (by rw [f10.at (a := 189) (k := 22) rfl, f9.at (a := 189) (k := 22) rfl, f8.at (a := 189) (k := 22) rfl, f7.at (a := 189) (k := 22) rfl]; exact b6) hk rfl rfl (r6.tr ((R42.of f7 rfl).tr ((R42.of f8 rfl).tr ((R42.of f9 rfl).tr (R42.of f10 rfl))))), vC m, bs (Bk e1 e2 (va m) (vC m) X Y) (vC m), h40, by omega, (fz.atL (a := 64) (k := 12) rfl).trans g2, (fz.at (a := 64) (k := 13) rfl).trans g3, g11, fun j hj => (g12 j hj).trans ((g10 j hj).trans ?_)⟩
      · rw [fnX12_keep]
        repeat (first | (conv => (lhs; arg 1; simp (disch := first | assumption | omega) only [tk_gI, tk_gL, tk_gR, tk_pI, tk_pL, rv_aI, rv_aL, rv_aR, rv_uI, rv_uL, rv_uB, rv_uZ, pu_ckI, pu_ckL, pu_lnI, pu_lnL, tk_rI, tk_rL, Option.bind_some, Option.map_some, rv_lt, tk_ix, z0, z1, z2, z3, z4, z5, z6, z7, z8, z9, z10, z11, z12, z13, z15, z16, z17, z18, z20, z21, z23, z24, z25, z31, z32, z39, z40, z41, z46, z48, z50, z57, z59, z60, z61, z62, z63, z64, z97, z98, z99, z100, z101, z102, z103, z104, z105, z106, z107, z108, z109, z110, z111, z112, z113, z114, z115, z116, z117, z118, z119, z120, z121, z122, z128, z132, z200, z240, z255, z372, z390625, z400, z420, z421, z422, z662, z900, z940, z999, z1000, z1024, z2000, z5860, z10000, z12345, z15625, z266240, z1048575, z1064960, z1103515245, z_m1, n_le, n_lt, n_eq, n_bit0, n_bit1, n_sbit0, n_shl, z_ltM, z_Mlt, z_leM, z_Mle, z_eqM, z_Meq, bI0, bI1, bI_01, bI_01t, bI_10, bI_10f, if_true, if_false, eq_self, reduceCtorEq, hC, k1, k2, k3, k4, k5])); first | rw [Option.bind_some] | rw [bp_s] | rw [if_true] | rw [if_false] | rw [rv_lt_eq] | rw [if_pos (by omega)] | rw [if_neg (by omega)])
        rw [cX12_keep_45, if_neg (by decide)]
        repeat (first | (conv => (lhs; arg 1; simp (disch := first | assumption | omega) only [tk_gI, tk_gL, tk_gR, tk_pI, tk_pL, rv_aI, rv_aL, rv_aR, rv_uI, rv_uL, rv_uB, rv_uZ, pu_ckI, pu_ckL, pu_lnI, pu_lnL, tk_rI, tk_rL, Option.bind_some, Option.map_some, rv_lt, tk_ix, hC, hVS, hPS, hFS, w1, w2, r5, rc_108 hB, e1', rc_64 hB1, e2'])); first | rw [Option.bind_some] | rw [bp_s] | rw [if_true] | rw [if_false] | rw [rv_lt_eq] | rw [if_pos (by omega)] | rw [if_neg (by omega)])
      · rw [fnX13_keep]
        repeat (first | (conv => (lhs; arg 1; simp (disch := first | assumption | omega) only [tk_gI, tk_gL, tk_gR, tk_pI, tk_pL, rv_aI, rv_aL, rv_aR, rv_uI, rv_uL, rv_uB, rv_uZ, pu_ckI, pu_ckL, pu_lnI, pu_lnL, tk_rI, tk_rL, Option.bind_some, Option.map_some, rv_lt, tk_ix, z0, z1, z2, z3, z4, z5, z6, z7, z8, z9, z10, z11, z12, z13, z15, z16, z17, z18, z20, z21, z23, z24, z25, z31, z32, z39, z40, z41, z46, z48, z50, z57, z59, z60, z61, z62, z63, z64, z97, z98, z99, z100, z101, z102, z103, z104, z105, z106, z107, z108, z109, z110, z111, z112, z113, z114, z115, z116, z117, z118, z119, z120, z121, z122, z128, z132, z200, z240, z255, z372, z390625, z400, z420, z421, z422, z662, z900, z940, z999, z1000, z1024, z2000, z5860, z10000, z12345, z15625, z266240, z1048575, z1064960, z1103515245, z_m1, n_le, n_lt, n_eq, n_bit0, n_bit1, n_sbit0, n_shl, z_ltM, z_Mlt, z_leM, z_Mle, z_eqM, z_Meq, bI0, bI1, bI_01, bI_01t, bI_10, bI_10f, if_true, if_false, eq_self, reduceCtorEq, rc_189 hB2, e6, rc_189 hB6, m_isWho hB6 hM6 hp ha, m_isWho hB6 hM6 hp hb, m_isWho hB6 hM6 hp hcc, m_ds' (n := n) (S := S6) h1 hX, m_ds' (n := n) (S := S6) h1' hY, e7, rc_189 hB7, rr, rn_200 hB7, m_two0, g8])); first | rw [Option.bind_some] | rw [bp_s] | rw [if_true] | rw [if_false] | rw [rv_lt_eq] | rw [if_pos (by omega)] | rw [if_neg (by omega)])
        rw [z0, e8, e9, cX13_keep_295]
        repeat (first | (conv => (lhs; arg 1; simp (disch := first | assumption | omega) only [tk_gI, tk_gL, tk_gR, tk_pI, tk_pL, rv_aI, rv_aL, rv_aR, rv_uI, rv_uL, rv_uB, rv_uZ, pu_ckI, pu_ckL, pu_lnI, pu_lnL, tk_rI, tk_rL, Option.bind_some, Option.map_some, rv_lt, tk_ix, rc_189 hB9, e10])); first | rw [Option.bind_some] | rw [bp_s] | rw [if_true] | rw [if_false] | rw [rv_lt_eq] | rw [if_pos (by omega)] | rw [if_neg (by omega)])
      · rw [bs_bit, decide_eq_true hj, Bool.true_and]
  · obtain ⟨S6, e6, hB6, f6, hM6, r6, b6⟩ := start_ok (n := n) (by omega) hB hL
    have q := QS.s0 hV f6 hM6 r6 b6
    exact ⟨_, S, S6, u1, u2 S S6 hB e6 hB6 hM6, q.dg, hG.v q⟩
end
