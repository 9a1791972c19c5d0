/-! LOTS: a theft drawn, the reference's side -/
section
variable {n : Nat} {S : rvS} {m m' : Nat → Nat} {wd : Nat → List Nat}
theorem m_d16 (hn : 50 ≤ n) (hB : rv_B S) (hM : MR S m) (hk : okm m) (hW : 0 < vW m) (hC0 : 0 < vC m) {s : Int32} {t : Nat} (hs : S.2.1 189 49 = s) (h4 : S.2.1 189 53 = nI t) :
    ∃ S', cX13_day_128 n S 189 = some S' ∧ rvf [189049, 189053, 191] S S' ∧ MR S' (d16 m s).1 ∧ R42 S S' ∧ S'.2.1 189 49 = (d16 m s).2.1 ∧ S'.2.1 189 53 = nI (t + (d16 m s).2.2) := by
  obtain ⟨hp, hc, hd⟩ := id hk
  have h24 := hp.1
  have h40 := hc.1
  have d1 := m_draw (n := n) hB hs (N := 16) (by decide) (by decide)
  have l16 := dr_lt s (N := 16) (by decide)
  obtain ⟨S1, eS1⟩ : ∃ S1, S1 = rv_sI S 189 49 (sd s) := ⟨_, rfl⟩
  have f1 : rvf [189049] S S1 := by rw [eS1]; exact rvf.sI S 189 49 _
  have hB1 := f1.B hB
  have hs1 : S1.2.1 189 49 = sd s := by rw [eS1, rv_sI_eq]
  have hM1 := hM.f f1 rfl
  rw [← eS1] at d1
  by_cases c : dr s 16 = 0
  · rw [c] at d1
    have e : d16 m s = dthf m (sd s) := if_pos c
    have la := dr_lt (sd s) hW
    have lb := dr_lt (sd (sd s)) hC0
    have d2 := m_draw (n := n) hB1 hs1 hW (by omega)
    obtain ⟨S2, eS2⟩ : ∃ S2, S2 = rv_sI S1 189 49 (sd (sd s)) := ⟨_, rfl⟩
    have f2 : rvf [189049] S1 S2 := by rw [eS2]; exact rvf.sI S1 189 49 _
    have hB2 := f2.B hB1
    have hs2 : S2.2.1 189 49 = sd (sd s) := by rw [eS2, rv_sI_eq]
    have hM2 := hM1.f f2 rfl
    rw [← eS2] at d2
    have d3 := m_draw (n := n) hB2 hs2 hC0 (by omega)
    obtain ⟨S3, eS3⟩ : ∃ S3, S3 = rv_sI S2 189 49 (sd (sd (sd s))) := ⟨_, rfl⟩
    have f3 : rvf [189049] S2 S3 := by rw [eS3]; exact rvf.sI S2 189 49 _
    have hB3 := f3.B hB2
    have hs3 : S3.2.1 189 49 = sd (sd (sd s)) := by rw [eS3, rv_sI_eq]
    have hM3 := hM2.f f3 rfl
    rw [← eS3] at d3
    obtain ⟨w, ew⟩ : ∃ w, w = dr (sd s) (vW m) := ⟨_, rfl⟩
    obtain ⟨g, eg⟩ : ∃ g, g = dr (sd (sd s)) (vC m) := ⟨_, rfl⟩
    obtain ⟨s3, es3⟩ : ∃ s3, s3 = sd (sd (sd s)) := ⟨_, rfl⟩
    have ed : dthf m (sd s) = if 0 < de m w then (m, s3, 0) else if ow m g = w then (m, s3, 0) else (own m g w, s3, 1) := by rw [ew, eg, es3]; rfl
    rw [← ew] at d2 la
    rw [← eg] at d3 lb
    rw [← es3] at hs3
    clear eS1 eS2 eS3
    have f13 : rvf [189049] S S3 := f1.tr (f2.tr f3)
    have kd := m_isDead (n := n) hB3 hM3 hp la
    have ko := m_ow (n := n) hB3 hM3 (c := g) (by omega)
    have ho := (hc.2.2 _ lb).2.2.1
    have g4 : S3.2.1 189 53 = nI t := (f13.at (a := 189) (k := 53) rfl).trans h4
    by_cases cd : 0 < de m (w)
    · have e : d16 m s = (m, s3, 0) := e.trans (ed.trans (if_pos cd))
      rw [decide_eq_true cd] at kd
      refine ⟨S3, ?_, f13.mono rfl, by rw [e]; exact hM3, R42.of f13 rfl, by rw [e]; exact hs3, by rw [e]; exact g4⟩
      rw [cX13_day_128]
      repeat (first | (conv => (lhs; arg 1; simp (disch := first | assumption | omega) only [tk_gI, tk_gL, tk_gR, tk_pI, tk_pL, rv_aI, rv_aL, rv_aR, rv_uI, rv_uL, rv_uB, rv_uZ, pu_ckI, pu_ckL, pu_lnI, pu_lnL, tk_rI, tk_rL, Option.bind_some, Option.map_some, rv_lt, tk_ix, z0, z1, z2, z3, z4, z5, z6, z7, z8, z9, z10, z11, z12, z13, z15, z16, z17, z18, z20, z21, z23, z24, z25, z31, z32, z39, z40, z41, z46, z48, z50, z57, z59, z60, z61, z62, z63, z64, z97, z98, z99, z100, z101, z102, z103, z104, z105, z106, z107, z108, z109, z110, z111, z112, z113, z114, z115, z116, z117, z118, z119, z120, z121, z122, z128, z132, z200, z240, z255, z372, z390625, z400, z420, z421, z422, z662, z900, z940, z999, z1000, z1024, z2000, z5860, z10000, z12345, z15625, z266240, z1048575, z1064960, z1103515245, z_m1, n_le, n_lt, n_eq, n_bit0, n_bit1, n_sbit0, n_shl, z_ltM, z_Mlt, z_leM, z_Mle, z_eqM, z_Meq, bI0, bI1, bI_01, bI_01t, bI_10, bI_10f, if_true, if_false, eq_self, reduceCtorEq, rc_189 hB, d1, rc_189 hB1, m_whos hB1 hM1, d2, rc_189 hB2, m_coins hB2 hM2, d3, rc_189 hB3, kd])); first | rw [Option.bind_some] | rw [bp_s] | rw [if_true] | rw [if_false] | rw [rv_lt_eq] | rw [if_pos (by omega)] | rw [if_neg (by omega)])
      all_goals rfl
    · rw [decide_eq_false cd] at kd
      by_cases co : ow m (g) = w
      · have e : d16 m s = (m, s3, 0) := e.trans (by rw [ed, if_neg cd, if_pos co])
        refine ⟨S3, ?_, f13.mono rfl, by rw [e]; exact hM3, R42.of f13 rfl, by rw [e]; exact hs3, by rw [e]; exact g4⟩
        rw [cX13_day_128]
        repeat (first | (conv => (lhs; arg 1; simp (disch := first | assumption | omega) only [tk_gI, tk_gL, tk_gR, tk_pI, tk_pL, rv_aI, rv_aL, rv_aR, rv_uI, rv_uL, rv_uB, rv_uZ, pu_ckI, pu_ckL, pu_lnI, pu_lnL, tk_rI, tk_rL, Option.bind_some, Option.map_some, rv_lt, tk_ix, z0, z1, z2, z3, z4, z5, z6, z7, z8, z9, z10, z11, z12, z13, z15, z16, z17, z18, z20, z21, z23, z24, z25, z31, z32, z39, z40, z41, z46, z48, z50, z57, z59, z60, z61, z62, z63, z64, z97, z98, z99, z100, z101, z102, z103, z104, z105, z106, z107, z108, z109, z110, z111, z112, z113, z114, z115, z116, z117, z118, z119, z120, z121, z122, z128, z132, z200, z240, z255, z372, z390625, z400, z420, z421, z422, z662, z900, z940, z999, z1000, z1024, z2000, z5860, z10000, z12345, z15625, z266240, z1048575, z1064960, z1103515245, z_m1, n_le, n_lt, n_eq, n_bit0, n_bit1, n_sbit0, n_shl, z_ltM, z_Mlt, z_leM, z_Mle, z_eqM, z_Meq, bI0, bI1, bI_01, bI_01t, bI_10, bI_10f, if_true, if_false, eq_self, reduceCtorEq, rc_189 hB, d1, rc_189 hB1, m_whos hB1 hM1, d2, rc_189 hB2, m_coins hB2 hM2, d3, rc_189 hB3, kd, ko, co])); first | rw [Option.bind_some] | rw [bp_s] | rw [if_true] | rw [if_false] | rw [rv_lt_eq] | rw [if_pos (by omega)] | rw [if_neg (by omega)])
        all_goals rfl
      · have e : d16 m s = (own m g w, s3, 1) := e.trans (by rw [ed, if_neg cd, if_neg co])
        have e133 : 132 + 6 * g + 1 = 133 + 6 * g := by omega
        obtain ⟨S4, eS4⟩ : ∃ S4, S4 = rv_sI S3 191 (133 + 6 * g) (nI (w)) := ⟨_, rfl⟩
        have f4 : rvf [191] S3 S4 := by rw [eS4]; exact (rvf.rf _ _).w rfl rfl
        have hB4 := f4.B hB3
        have hM4 : MR S4 (own m g w) := by rw [eS4]; exact hM3.u _ _
        have r4 : R42 S3 S4 := by rw [eS4]; exact fun j hj => rv_sI_k _ _ (by omega) _
        have g5 : S4.2.1 189 53 = nI t := (f4.at (a := 189) (k := 53) rfl).trans g4
        have f5 : rvf [189053] S4 (rv_sI S4 189 53 (nI (t + 1))) := rvf.sI S4 189 53 _
        refine ⟨rv_sI S4 189 53 (nI (t + 1)), ?_, (f13.mono rfl).tr ((f4.mono rfl).tr (f5.mono rfl)), by rw [e]; exact hM4.f f5 rfl, (R42.of f13 rfl).tr (r4.tr (R42.of f5 rfl)), by rw [e, rv_sI_k _ _ (by decide), f4.at (a := 189) (k := 49) rfl]; exact hs3, by rw [e, rv_sI_eq]⟩
        rw [cX13_day_128]
        repeat (first | (conv => (lhs; arg 1; simp (disch := first | assumption | omega) only [tk_gI, tk_gL, tk_gR, tk_pI, tk_pL, rv_aI, rv_aL, rv_aR, rv_uI, rv_uL, rv_uB, rv_uZ, pu_ckI, pu_ckL, pu_lnI, pu_lnL, tk_rI, tk_rL, Option.bind_some, Option.map_some, rv_lt, tk_ix, z0, z1, z2, z3, z4, z5, z6, z7, z8, z9, z10, z11, z12, z13, z15, z16, z17, z18, z20, z21, z23, z24, z25, z31, z32, z39, z40, z41, z46, z48, z50, z57, z59, z60, z61, z62, z63, z64, z97, z98, z99, z100, z101, z102, z103, z104, z105, z106, z107, z108, z109, z110, z111, z112, z113, z114, z115, z116, z117, z118, z119, z120, z121, z122, z128, z132, z200, z240, z255, z372, z390625, z400, z420, z421, z422, z662, z900, z940, z999, z1000, z1024, z2000, z5860, z10000, z12345, z15625, z266240, z1048575, z1064960, z1103515245, z_m1, n_le, n_lt, n_eq, n_bit0, n_bit1, n_sbit0, n_shl, z_ltM, z_Mlt, z_leM, z_Mle, z_eqM, z_Meq, bI0, bI1, bI_01, bI_01t, bI_10, bI_10f, if_true, if_false, eq_self, reduceCtorEq, rc_189 hB, d1, rc_189 hB1, m_whos hB1 hM1, d2, rc_189 hB2, m_coins hB2 hM2, d3, rc_189 hB3, kd, ko, co, rf_of hB3 (show (189, 14, 191) ∈ rv_rf0 by decide), rn_191 hB3, z_mul, nI_add, e133, ← eS4, rc_189 hB4, g5])); first | rw [Option.bind_some] | rw [bp_s] | rw [if_true] | rw [if_false] | rw [rv_lt_eq] | rw [if_pos (by omega)] | rw [if_neg (by omega)])
        all_goals rfl
  · have e : d16 m s = (m, sd s, 0) := if_neg c
    refine ⟨S1, ?_, f1.mono rfl, by rw [e]; exact hM1, R42.of f1 rfl, by rw [e]; exact hs1, by rw [e]; exact (f1.at (a := 189) (k := 53) rfl).trans h4⟩
    rw [cX13_day_128]
    repeat (first | (conv => (lhs; arg 1; simp (disch := first | assumption | omega) only [tk_gI, tk_gL, tk_gR, tk_pI, tk_pL, rv_aI, rv_aL, rv_aR, rv_uI, rv_uL, rv_uB, rv_uZ, pu_ckI, pu_ckL, pu_lnI, pu_lnL, tk_rI, tk_rL, Option.bind_some, Option.map_some, rv_lt, tk_ix, z0, z1, z2, z3, z4, z5, z6, z7, z8, z9, z10, z11, z12, z13, z15, z16, z17, z18, z20, z21, z23, z24, z25, z31, z32, z39, z40, z41, z46, z48, z50, z57, z59, z60, z61, z62, z63, z64, z97, z98, z99, z100, z101, z102, z103, z104, z105, z106, z107, z108, z109, z110, z111, z112, z113, z114, z115, z116, z117, z118, z119, z120, z121, z122, z128, z132, z200, z240, z255, z372, z390625, z400, z420, z421, z422, z662, z900, z940, z999, z1000, z1024, z2000, z5860, z10000, z12345, z15625, z266240, z1048575, z1064960, z1103515245, z_m1, n_le, n_lt, n_eq, n_bit0, n_bit1, n_sbit0, n_shl, z_ltM, z_Mlt, z_leM, z_Mle, z_eqM, z_Meq, bI0, bI1, bI_01, bI_01t, bI_10, bI_10f, if_true, if_false, eq_self, reduceCtorEq, rc_189 hB, d1, if_neg c])); first | rw [Option.bind_some] | rw [bp_s] | rw [if_true] | rw [if_false] | rw [rv_lt_eq] | rw [if_pos (by omega)] | rw [if_neg (by omega)])
    all_goals rfl
end
