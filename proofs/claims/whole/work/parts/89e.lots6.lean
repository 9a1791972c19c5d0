/-! LOTS: a birth drawn, the reference's side -/
section
variable {n : Nat} {S : rvS} {m m' : Nat → Nat} {wd : Nat → List Nat}
/-- a birth, one day of sixteen, where there is room: in the payer's village -/
def dbr (m : Nat → Nat) (s : Int32) (a : Nat) : (Nat → Nat) × Int32 × Nat := if dr s 16 = 0 ∧ vW m < 24 then (br m (at_ m a), sd s, 1) else (m, sd s, 0)
theorem m_dbr (hn : 50 ≤ n) (hB : rv_B S) (hM : MR S m) (hk : okm m) {a : Nat} (ha : a < vW m) (hu : at_ m a < 4) {s : Int32} {t : Nat} (hs : S.2.1 189 49 = s) (h4 : S.2.1 189 52 = nI t) :
    ∃ S', cX13_day_84 n S 189 (nI 1) (nI a) = cX13_day_128 n S' 189 ∧ rvf [189049, 189052, 191] S S' ∧ MR S' (dbr m s a).1 ∧ R42 S S' ∧ S'.2.1 189 49 = (dbr m s a).2.1 ∧ S'.2.1 189 52 = nI (t + (dbr m s a).2.2) := by
  obtain ⟨hp, hc, hd⟩ := id hk
  have h24 := hp.1
  have d1 := m_draw (n := n) hB hs (N := 16) (by decide) (by decide)
  have l16 := dr_lt s (N := 16) (by decide)
  obtain ⟨S1, eS1⟩ : ∃ S1, S1 = rv_sI S 189 49 (sd s) := ⟨_, rfl⟩
  have f1 : rvf [189049] S S1 := by rw [eS1]; exact rvf.sI S 189 49 _
  have hB1 := f1.B hB
  have hs1 : S1.2.1 189 49 = sd s := by rw [eS1, rv_sI_eq]
  have hM1 := hM.f f1 rfl
  rw [← eS1] at d1
  clear eS1
  have g1 : S1.2.1 189 52 = nI t := (f1.at (a := 189) (k := 52) rfl).trans h4
  by_cases c : dr s 16 = 0
  · rw [c] at d1
    by_cases hW : vW m < 24
    · have e : dbr m s a = (br m (at_ m a), sd s, 1) := if_pos ⟨c, hW⟩
      have ko := m_at (n := n) hB1 hM1 (w := a) (by omega)
      obtain ⟨S2, e2, f2, hM2, r2⟩ := m_bear (n := n) (by omega) hB1 hM1 hW hu
      have hB2 := f2.B hB1
      have g2 : S2.2.1 189 52 = nI t := (f2.at (a := 189) (k := 52) rfl).trans g1
      have f3 : rvf [189052] S2 (rv_sI S2 189 52 (nI (t + 1))) := rvf.sI S2 189 52 _
      refine ⟨rv_sI S2 189 52 (nI (t + 1)), ?_, (f1.mono rfl).tr ((f2.mono rfl).tr (f3.mono rfl)), by rw [e]; exact hM2.f f3 rfl, (R42.of f1 rfl).tr (r2.tr (R42.of f3 rfl)), by rw [e, rv_sI_k _ _ (by decide), f2.at (a := 189) (k := 49) rfl]; exact hs1, by rw [e, rv_sI_eq]⟩
      rw [cX13_day_84]
      repeat (first | (conv => (lhs; arg 1; simp (disch := first | assumption | omega) only [tk_gI, tk_gL, tk_gR, tk_pI, tk_pL, rv_aI, rv_aL, rv_aR, rv_uI, rv_uL, rv_uB, rv_uZ, pu_ckI, pu_ckL, pu_lnI, pu_lnL, tk_rI, tk_rL, Option.bind_some, Option.map_some, rv_lt, tk_ix, z0, z1, z2, z3, z4, z5, z6, z7, z8, z9, z10, z11, z12, z13, z15, z16, z17, z18, z20, z21, z23, z24, z25, z31, z32, z39, z40, z41, z46, z48, z50, z57, z59, z60, z61, z62, z63, z64, z97, z98, z99, z100, z101, z102, z103, z104, z105, z106, z107, z108, z109, z110, z111, z112, z113, z114, z115, z116, z117, z118, z119, z120, z121, z122, z128, z132, z200, z240, z255, z372, z390625, z400, z420, z421, z422, z662, z900, z940, z999, z1000, z1024, z2000, z5860, z10000, z12345, z15625, z266240, z1048575, z1064960, z1103515245, z_m1, n_le, n_lt, n_eq, n_bit0, n_bit1, n_sbit0, n_shl, z_ltM, z_Mlt, z_leM, z_Mle, z_eqM, z_Meq, bI0, bI1, bI_01, bI_01t, bI_10, bI_10f, if_true, if_false, eq_self, reduceCtorEq, rc_189 hB, d1, rc_189 hB1, m_whos hB1 hM1, ko, e2, rc_189 hB2, g2, nI_add])); first | rw [Option.bind_some] | rw [bp_s] | rw [if_true] | rw [if_false] | rw [rv_lt_eq] | rw [if_pos (by omega)] | rw [if_neg (by omega)])
      all_goals rfl
    · have e : dbr m s a = (m, sd s, 0) := if_neg (fun z => hW z.2)
      have w24 : vW m = 24 := by omega
      have kw := m_whos (n := n) hB1 hM1
      rw [w24] at kw
      refine ⟨S1, ?_, f1.mono rfl, by rw [e]; exact hM1, R42.of f1 rfl, by rw [e]; exact hs1, by rw [e]; exact g1⟩
      rw [cX13_day_84]
      repeat (first | (conv => (lhs; arg 1; simp (disch := first | assumption | omega) only [tk_gI, tk_gL, tk_gR, tk_pI, tk_pL, rv_aI, rv_aL, rv_aR, rv_uI, rv_uL, rv_uB, rv_uZ, pu_ckI, pu_ckL, pu_lnI, pu_lnL, tk_rI, tk_rL, Option.bind_some, Option.map_some, rv_lt, tk_ix, z0, z1, z2, z3, z4, z5, z6, z7, z8, z9, z10, z11, z12, z13, z15, z16, z17, z18, z20, z21, z23, z24, z25, z31, z32, z39, z40, z41, z46, z48, z50, z57, z59, z60, z61, z62, z63, z64, z97, z98, z99, z100, z101, z102, z103, z104, z105, z106, z107, z108, z109, z110, z111, z112, z113, z114, z115, z116, z117, z118, z119, z120, z121, z122, z128, z132, z200, z240, z255, z372, z390625, z400, z420, z421, z422, z662, z900, z940, z999, z1000, z1024, z2000, z5860, z10000, z12345, z15625, z266240, z1048575, z1064960, z1103515245, z_m1, n_le, n_lt, n_eq, n_bit0, n_bit1, n_sbit0, n_shl, z_ltM, z_Mlt, z_leM, z_Mle, z_eqM, z_Meq, bI0, bI1, bI_01, bI_01t, bI_10, bI_10f, if_true, if_false, eq_self, reduceCtorEq, rc_189 hB, d1, rc_189 hB1, kw])); first | rw [Option.bind_some] | rw [bp_s] | rw [if_true] | rw [if_false] | rw [rv_lt_eq] | rw [if_pos (by omega)] | rw [if_neg (by omega)])
      all_goals rfl
  · have e : dbr m s a = (m, sd s, 0) := if_neg (fun z => c z.1)
    refine ⟨S1, ?_, f1.mono rfl, by rw [e]; exact hM1, R42.of f1 rfl, by rw [e]; exact hs1, by rw [e]; exact g1⟩
    rw [cX13_day_84]
    repeat (first | (conv => (lhs; arg 1; simp (disch := first | assumption | omega) only [tk_gI, tk_gL, tk_gR, tk_pI, tk_pL, rv_aI, rv_aL, rv_aR, rv_uI, rv_uL, rv_uB, rv_uZ, pu_ckI, pu_ckL, pu_lnI, pu_lnL, tk_rI, tk_rL, Option.bind_some, Option.map_some, rv_lt, tk_ix, z0, z1, z2, z3, z4, z5, z6, z7, z8, z9, z10, z11, z12, z13, z15, z16, z17, z18, z20, z21, z23, z24, z25, z31, z32, z39, z40, z41, z46, z48, z50, z57, z59, z60, z61, z62, z63, z64, z97, z98, z99, z100, z101, z102, z103, z104, z105, z106, z107, z108, z109, z110, z111, z112, z113, z114, z115, z116, z117, z118, z119, z120, z121, z122, z128, z132, z200, z240, z255, z372, z390625, z400, z420, z421, z422, z662, z900, z940, z999, z1000, z1024, z2000, z5860, z10000, z12345, z15625, z266240, z1048575, z1064960, z1103515245, z_m1, n_le, n_lt, n_eq, n_bit0, n_bit1, n_sbit0, n_shl, z_ltM, z_Mlt, z_leM, z_Mle, z_eqM, z_Meq, bI0, bI1, bI_01, bI_01t, bI_10, bI_10f, if_true, if_false, eq_self, reduceCtorEq, rc_189 hB, d1, if_neg c])); first | rw [Option.bind_some] | rw [bp_s] | rw [if_true] | rw [if_false] | rw [rv_lt_eq] | rw [if_pos (by omega)] | rw [if_neg (by omega)])
    all_goals rfl
end
