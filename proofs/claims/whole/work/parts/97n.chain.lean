/-! THE SEARCH: the reference walks back -/
section
variable {n : Nat} {S : rvS} {m : Nat → Nat} {s0 : St}
/-- d places back -/
def anc (P : Nat → Nat) : Nat → Nat → Nat
  | 0, i => i
  | d + 1, i => anc P d (P i)
theorem RQ_par (hp : okp m) {c : Cf} (hb : BI m s0 c) (hQ : RQ S c) {i : Nat} (hi : i < c.1) : S.2.1 205 (cQ c i) = nI (cQ c (c.2.2 i)) ∧ (i = 0 → cQ c (c.2.2 i) = cQ c i) ∧ (0 < i → ¬ cQ c (c.2.2 i) = cQ c i) := by
  refine ⟨hQ.2.2.1 i hi, fun e => by rw [e, hb.2.2.1], fun h e => ?_⟩
  have h1 := BI_P hb i h hi
  have h2 := cQ_inj hp (hb.2.2.2.1 _ (show c.2.2 i < c.1 by omega)).1 (hb.2.2.2.1 i hi).1 e
  have := hb.2.2.2.2.1 (c.2.2 i) i (by omega) hi h2
  omega
theorem m_h60 (hB : rv_B S) (hp : okp m) {c : Cf} (hb : BI m s0 c) (hQ : RQ S c) (x4 : Int32) : ∀ k i a q, i < c.1 → Chn c.2.2 k i → a + k < 2147483648 → cX13_hands_60 n (q + k + 1) S 189 (nI a) x4 (nI (cQ c i)) = cX13_hands_94 n n S 189 (nI (a + k)) (nI (a + k)) x4 := by
  have r205 := rf_of hB (show (189, 31, 205) ∈ rv_rf0 by decide)
  intro k
  induction k with
  | zero =>
    intro i a q hi h _
    have h : i = 0 := h
    have lt := cQ_lt hp hb hi
    obtain ⟨p1, p2, -⟩ := RQ_par hp hb hQ hi
    rw [p2 h] at p1
    rw [cX13_hands_60]
    repeat (first | (conv => (lhs; arg 1; simp (disch := first | assumption | omega) only [tk_gI, tk_gL, tk_gR, tk_pI, tk_pL, rv_aI, rv_aL, rv_aR, rv_uI, rv_uL, rv_uB, rv_uZ, pu_ckI, pu_ckL, pu_lnI, pu_lnL, tk_rI, tk_rL, Option.bind_some, Option.map_some, rv_lt, tk_ix, n_le, n_lt, n_eq, n_bit0, n_bit1, n_sbit0, n_shl, z_ltM, z_Mlt, z_leM, z_Mle, z_eqM, z_Meq, bI0, bI1, bI_01, bI_01t, bI_10, bI_10f, if_true, if_false, eq_self, reduceCtorEq, rc_189 hB, r205, rn_205 hB, p1])); first | rw [Option.bind_some] | rw [bp_s] | rw [if_true] | rw [if_false] | rw [rv_lt_eq] | rw [if_pos (by omega)] | rw [if_neg (by omega)])
    rw [Nat.add_zero]
  | succ k ih =>
    intro i a q hi h ha
    have lt := cQ_lt hp hb hi
    have hP := BI_P hb i h.1 hi
    have lt2 := cQ_lt hp hb (show c.2.2 i < c.1 by omega)
    obtain ⟨p1, -, p3⟩ := RQ_par hp hb hQ hi
    have p3 := p3 h.1
    rw [cX13_hands_60]
    repeat (first | (conv => (lhs; arg 1; simp (disch := first | assumption | omega) only [tk_gI, tk_gL, tk_gR, tk_pI, tk_pL, rv_aI, rv_aL, rv_aR, rv_uI, rv_uL, rv_uB, rv_uZ, pu_ckI, pu_ckL, pu_lnI, pu_lnL, tk_rI, tk_rL, Option.bind_some, Option.map_some, rv_lt, tk_ix, z0, z1, z2, z3, z4, z5, z6, z7, z8, z9, z10, z11, z12, z13, z15, z16, z17, z18, z20, z21, z23, z24, z25, z31, z32, z39, z40, z41, z46, z48, z50, z57, z59, z60, z61, z62, z63, z64, z97, z98, z99, z100, z101, z102, z103, z104, z105, z106, z107, z108, z109, z110, z111, z112, z113, z114, z115, z116, z117, z118, z119, z120, z121, z122, z128, z132, z200, z240, z255, z372, z390625, z400, z420, z421, z422, z662, z900, z940, z999, z1000, z1024, z2000, z5860, z10000, z12345, z15625, z266240, z1048575, z1064960, z1103515245, z_m1, n_le, n_lt, n_eq, n_bit0, n_bit1, n_sbit0, n_shl, z_ltM, z_Mlt, z_leM, z_Mle, z_eqM, z_Meq, bI0, bI1, bI_01, bI_01t, bI_10, bI_10f, if_true, if_false, eq_self, reduceCtorEq, rc_189 hB, r205, rn_205 hB, p1, nI_add])); first | rw [Option.bind_some] | rw [bp_s] | rw [if_true] | rw [if_false] | rw [rv_lt_eq] | rw [if_pos (by omega)] | rw [if_neg (by omega)])
    rw [z1, nI_add, show q + (k + 1) = q + k + 1 by omega, ih (c.2.2 i) (a + 1) q (by omega) h.2 (by omega), show a + 1 + k = a + (k + 1) by omega]
theorem m_a47 (hB : rv_B S) (hp : okp m) {c : Cf} (hb : BI m s0 c) (hQ : RQ S c) : ∀ k i a q, i < c.1 → Chn c.2.2 k i → a + k < 2147483648 → cX13_again_47 n (q + k + 1) S 189 (nI a) (nI (cQ c i)) = some (nI (a + k), S) := by
  have r205 := rf_of hB (show (189, 31, 205) ∈ rv_rf0 by decide)
  intro k
  induction k with
  | zero =>
    intro i a q hi h _
    have h : i = 0 := h
    have lt := cQ_lt hp hb hi
    obtain ⟨p1, p2, -⟩ := RQ_par hp hb hQ hi
    rw [p2 h] at p1
    rw [cX13_again_47]
    repeat (first | (conv => (lhs; arg 1; simp (disch := first | assumption | omega) only [tk_gI, tk_gL, tk_gR, tk_pI, tk_pL, rv_aI, rv_aL, rv_aR, rv_uI, rv_uL, rv_uB, rv_uZ, pu_ckI, pu_ckL, pu_lnI, pu_lnL, tk_rI, tk_rL, Option.bind_some, Option.map_some, rv_lt, tk_ix, n_le, n_lt, n_eq, n_bit0, n_bit1, n_sbit0, n_shl, z_ltM, z_Mlt, z_leM, z_Mle, z_eqM, z_Meq, bI0, bI1, bI_01, bI_01t, bI_10, bI_10f, if_true, if_false, eq_self, reduceCtorEq, rc_189 hB, r205, rn_205 hB, p1])); first | rw [Option.bind_some] | rw [bp_s] | rw [if_true] | rw [if_false] | rw [rv_lt_eq] | rw [if_pos (by omega)] | rw [if_neg (by omega)])
    rw [Nat.add_zero]
  | succ k ih =>
    intro i a q hi h ha
    have lt := cQ_lt hp hb hi
    have hP := BI_P hb i h.1 hi
    have lt2 := cQ_lt hp hb (show c.2.2 i < c.1 by omega)
    obtain ⟨p1, -, p3⟩ := RQ_par hp hb hQ hi
    have p3 := p3 h.1
    rw [cX13_again_47]
    repeat (first | (conv => (lhs; arg 1; simp (disch := first | assumption | omega) only [tk_gI, tk_gL, tk_gR, tk_pI, tk_pL, rv_aI, rv_aL, rv_aR, rv_uI, rv_uL, rv_uB, rv_uZ, pu_ckI, pu_ckL, pu_lnI, pu_lnL, tk_rI, tk_rL, Option.bind_some, Option.map_some, rv_lt, tk_ix, z0, z1, z2, z3, z4, z5, z6, z7, z8, z9, z10, z11, z12, z13, z15, z16, z17, z18, z20, z21, z23, z24, z25, z31, z32, z39, z40, z41, z46, z48, z50, z57, z59, z60, z61, z62, z63, z64, z97, z98, z99, z100, z101, z102, z103, z104, z105, z106, z107, z108, z109, z110, z111, z112, z113, z114, z115, z116, z117, z118, z119, z120, z121, z122, z128, z132, z200, z240, z255, z372, z390625, z400, z420, z421, z422, z662, z900, z940, z999, z1000, z1024, z2000, z5860, z10000, z12345, z15625, z266240, z1048575, z1064960, z1103515245, z_m1, n_le, n_lt, n_eq, n_bit0, n_bit1, n_sbit0, n_shl, z_ltM, z_Mlt, z_leM, z_Mle, z_eqM, z_Meq, bI0, bI1, bI_01, bI_01t, bI_10, bI_10f, if_true, if_false, eq_self, reduceCtorEq, rc_189 hB, r205, rn_205 hB, p1, nI_add])); first | rw [Option.bind_some] | rw [bp_s] | rw [if_true] | rw [if_false] | rw [rv_lt_eq] | rw [if_pos (by omega)] | rw [if_neg (by omega)])
    rw [z1, nI_add, show q + (k + 1) = q + k + 1 by omega, ih (c.2.2 i) (a + 1) q (by omega) h.2 (by omega), show a + 1 + k = a + (k + 1) by omega]
theorem m_own (hp : okp m) {o : Nat} {l : List Nat} (ho : o < vW m) (hl : okl m l) : fnX13_ownerOf n S 189 (nI (cd o l)) = some (nI o) := by
  have c0 := c25_lt hp hl 0
  have c1 := c25_lt hp hl 1
  have c2 := c25_lt hp hl 2
  have lt := cd_lt hp ho hl
  have h24 := hp.1
  have e : cd o l / 15625 = o := by unfold cd; omega
  rw [fnX13_ownerOf, z15625, nz_ok (by decide) (by decide), Option.bind_some, pk_div (by omega) (by decide) (by decide), e]
theorem m_h94 (hp : okp m) {c : Cf} (hb : BI m s0 c) (T : Nat) : ∀ k i q (S : rvS), rv_B S → RQ S c → i < c.1 → Chn c.2.2 k i → k ≤ 2000 → ∃ S', cX13_hands_94 n (q + k + 1) S 189 (nI T) (nI k) (nI (cQ c i)) = some (nI T, S') ∧ rvf [208, 189036] S S' ∧ S'.2.1 189 36 = nI T ∧ (∀ j, k ≤ j → S'.2.1 208 j = S.2.1 208 j) ∧ ∀ j, j < k → S'.2.1 208 j = nI (c.2.1 (anc c.2.2 (k - 1 - j) i)).1 := by
  intro k
  induction k with
  | zero =>
    intro i q S hB hQ hi h _
    have h : i = 0 := h
    have lt := cQ_lt hp hb hi
    have r205 := rf_of hB (show (189, 31, 205) ∈ rv_rf0 by decide)
    obtain ⟨p1, p2, -⟩ := RQ_par hp hb hQ hi
    rw [p2 h] at p1
    refine ⟨rv_sI S 189 36 (nI T), ?_, (rvf.sI S 189 36 _).mono rfl, rv_sI_eq _ _ _ _, fun j _ => rv_sI_a _ _ _ (by decide) _, fun j hj => absurd hj (Nat.not_lt_zero j)⟩
    rw [cX13_hands_94]
    repeat (first | (conv => (lhs; arg 1; simp (disch := first | assumption | omega) only [tk_gI, tk_gL, tk_gR, tk_pI, tk_pL, rv_aI, rv_aL, rv_aR, rv_uI, rv_uL, rv_uB, rv_uZ, pu_ckI, pu_ckL, pu_lnI, pu_lnL, tk_rI, tk_rL, Option.bind_some, Option.map_some, rv_lt, tk_ix, n_le, n_lt, n_eq, n_bit0, n_bit1, n_sbit0, n_shl, z_ltM, z_Mlt, z_leM, z_Mle, z_eqM, z_Meq, bI0, bI1, bI_01, bI_01t, bI_10, bI_10f, if_true, if_false, eq_self, reduceCtorEq, rc_189 hB, r205, rn_205 hB, p1])); first | rw [Option.bind_some] | rw [bp_s] | rw [if_true] | rw [if_false] | rw [rv_lt_eq] | rw [if_pos (by omega)] | rw [if_neg (by omega)])
  | succ k ih =>
    intro i q S hB hQ hi h hk
    have lt := cQ_lt hp hb hi
    have hP := BI_P hb i h.1 hi
    have lt2 := cQ_lt hp hb (show c.2.2 i < c.1 by omega)
    have r205 := rf_of hB (show (189, 31, 205) ∈ rv_rf0 by decide)
    have r208 := rf_of hB (show (189, 34, 208) ∈ rv_rf0 by decide)
    obtain ⟨p1, -, p3⟩ := RQ_par hp hb hQ hi
    have p3 := p3 h.1
    obtain ⟨ho, hl⟩ := (hb.2.2.2.1 i hi).1
    have ko := m_own (n := n) (S := S) hp ho hl
    obtain ⟨S1, eS1⟩ : ∃ S1, S1 = rv_sI S 208 k (nI (c.2.1 i).1) := ⟨_, rfl⟩
    have f1 : rvf [208] S S1 := by rw [eS1]; exact (rvf.rf _ _).w rfl rfl
    have hB1 := f1.B hB
    have hQ1 := hQ.f f1 rfl rfl rfl
    have q1 : S1.2.1 205 (cQ c i) = nI (cQ c (c.2.2 i)) := hQ1.2.2.1 i hi
    have r205' := rf_of hB1 (show (189, 31, 205) ∈ rv_rf0 by decide)
    obtain ⟨S2, e2, f2, g2, g3, g4⟩ := ih (c.2.2 i) q S1 hB1 hQ1 (by omega) h.2 (by omega)
    refine ⟨S2, ?_, (f1.mono rfl).tr f2, g2, fun j hj => ?_, fun j hj => ?_⟩
    · rw [show q + (k + 1) = q + k + 1 by omega, cX13_hands_94]
      repeat (first | (conv => (lhs; arg 1; simp (disch := first | assumption | omega) only [tk_gI, tk_gL, tk_gR, tk_pI, tk_pL, rv_aI, rv_aL, rv_aR, rv_uI, rv_uL, rv_uB, rv_uZ, pu_ckI, pu_ckL, pu_lnI, pu_lnL, tk_rI, tk_rL, Option.bind_some, Option.map_some, rv_lt, tk_ix, z0, z1, z2, z3, z4, z5, z6, z7, z8, z9, z10, z11, z12, z13, z15, z16, z17, z18, z20, z21, z23, z24, z25, z31, z32, z39, z40, z41, z46, z48, z50, z57, z59, z60, z61, z62, z63, z64, z97, z98, z99, z100, z101, z102, z103, z104, z105, z106, z107, z108, z109, z110, z111, z112, z113, z114, z115, z116, z117, z118, z119, z120, z121, z122, z128, z132, z200, z240, z255, z372, z390625, z400, z420, z421, z422, z662, z900, z940, z999, z1000, z1024, z2000, z5860, z10000, z12345, z15625, z266240, z1048575, z1064960, z1103515245, z_m1, n_le, n_lt, n_eq, n_bit0, n_bit1, n_sbit0, n_shl, z_ltM, z_Mlt, z_leM, z_Mle, z_eqM, z_Meq, bI0, bI1, bI_01, bI_01t, bI_10, bI_10f, if_true, if_false, eq_self, reduceCtorEq, rc_189 hB, r205, rn_205 hB, p1])); first | rw [Option.bind_some] | rw [bp_s] | rw [if_true] | rw [if_false] | rw [rv_lt_eq] | rw [if_pos (by omega)] | rw [if_neg (by omega)])
      rw [show (-1 : Int32) = iM from rfl, z_dec]
      repeat (first | (conv => (lhs; arg 1; simp (disch := first | assumption | omega) only [tk_gI, tk_gL, tk_gR, tk_pI, tk_pL, rv_aI, rv_aL, rv_aR, rv_uI, rv_uL, rv_uB, rv_uZ, pu_ckI, pu_ckL, pu_lnI, pu_lnL, tk_rI, tk_rL, Option.bind_some, Option.map_some, rv_lt, tk_ix, z0, z1, z2, z3, z4, z5, z6, z7, z8, z9, z10, z11, z12, z13, z15, z16, z17, z18, z20, z21, z23, z24, z25, z31, z32, z39, z40, z41, z46, z48, z50, z57, z59, z60, z61, z62, z63, z64, z97, z98, z99, z100, z101, z102, z103, z104, z105, z106, z107, z108, z109, z110, z111, z112, z113, z114, z115, z116, z117, z118, z119, z120, z121, z122, z128, z132, z200, z240, z255, z372, z390625, z400, z420, z421, z422, z662, z900, z940, z999, z1000, z1024, z2000, z5860, z10000, z12345, z15625, z266240, z1048575, z1064960, z1103515245, z_m1, n_le, n_lt, n_eq, n_bit0, n_bit1, n_sbit0, n_shl, z_ltM, z_Mlt, z_leM, z_Mle, z_eqM, z_Meq, bI0, bI1, bI_01, bI_01t, bI_10, bI_10f, if_true, if_false, eq_self, reduceCtorEq, rc_189 hB, r208, rn_208 hB, ko, ← eS1])); first | rw [Option.bind_some] | rw [bp_s] | rw [if_true] | rw [if_false] | rw [rv_lt_eq] | rw [if_pos (by omega)] | rw [if_neg (by omega)])
      rw [cX13_hands_130]
      repeat (first | (conv => (lhs; arg 1; simp (disch := first | assumption | omega) only [tk_gI, tk_gL, tk_gR, tk_pI, tk_pL, rv_aI, rv_aL, rv_aR, rv_uI, rv_uL, rv_uB, rv_uZ, pu_ckI, pu_ckL, pu_lnI, pu_lnL, tk_rI, tk_rL, Option.bind_some, Option.map_some, rv_lt, tk_ix, z0, z1, z2, z3, z4, z5, z6, z7, z8, z9, z10, z11, z12, z13, z15, z16, z17, z18, z20, z21, z23, z24, z25, z31, z32, z39, z40, z41, z46, z48, z50, z57, z59, z60, z61, z62, z63, z64, z97, z98, z99, z100, z101, z102, z103, z104, z105, z106, z107, z108, z109, z110, z111, z112, z113, z114, z115, z116, z117, z118, z119, z120, z121, z122, z128, z132, z200, z240, z255, z372, z390625, z400, z420, z421, z422, z662, z900, z940, z999, z1000, z1024, z2000, z5860, z10000, z12345, z15625, z266240, z1048575, z1064960, z1103515245, z_m1, n_le, n_lt, n_eq, n_bit0, n_bit1, n_sbit0, n_shl, z_ltM, z_Mlt, z_leM, z_Mle, z_eqM, z_Meq, bI0, bI1, bI_01, bI_01t, bI_10, bI_10f, if_true, if_false, eq_self, reduceCtorEq, rc_189 hB1, r205', rn_205 hB1, q1])); first | rw [Option.bind_some] | rw [bp_s] | rw [if_true] | rw [if_false] | rw [rv_lt_eq] | rw [if_pos (by omega)] | rw [if_neg (by omega)])
      exact e2
    · rw [g3 j (by omega), eS1, rv_sI_k _ _ (by omega)]
    · by_cases e : j = k
      · rw [e, g3 k (Nat.le_refl k), eS1, rv_sI_eq, show k + 1 - 1 - k = 0 by omega]
        rfl
      · rw [g4 j (by omega), show k + 1 - 1 - j = (k - 1 - j) + 1 by omega]
        rfl
end
