/-! LOTS: a payment drawn, the reference's side -/
section
variable {n : Nat} {S : rvS} {m m' : Nat → Nat} {wd : Nat → List Nat}
theorem m_dpay (hn : 50 ≤ n) (hB : rv_B S) (hM : MR S m) (hk : okm m) (hW : 0 < vW m) {s : Int32} {p q : Nat} (hs : S.2.1 189 49 = s) (h1 : S.2.1 189 50 = nI p) (h2 : S.2.1 189 51 = nI q) (x : Int32) :
    ∃ S', fnX13_day n S 189 x = cX13_day_84 n S' 189 x (nI (dr s (vW m))) ∧ rvf [189049, 189050, 189051, 191, 199] S S' ∧ MR S' (dpay m s).1 ∧ R42 S S' ∧ S'.2.1 189 49 = (dpay m s).2.1 ∧ S'.2.1 189 50 = nI (p + (dpay m s).2.2.1) ∧ S'.2.1 189 51 = nI (q + (dpay m s).2.2.2) := by
  obtain ⟨hp, hc, hd⟩ := id hk
  have h24 := hp.1
  have h40 := hc.1
  have la := dr_lt s hW
  have lb := dr_lt (sd s) hW
  have d1 := m_draw (n := n) hB hs hW (by omega)
  obtain ⟨S1, eS1⟩ : ∃ S1, S1 = rv_sI S 189 49 (sd s) := ⟨_, rfl⟩
  have f1 : rvf [189049] S S1 := by rw [eS1]; exact rvf.sI S 189 49 (sd s)
  have hB1 := f1.B hB
  have hs1 : S1.2.1 189 49 = sd s := by rw [eS1, rv_sI_eq]
  have hM1 := hM.f f1 rfl
  have d2 := m_draw (n := n) hB1 hs1 hW (by omega)
  obtain ⟨S2, eS2⟩ : ∃ S2, S2 = rv_sI S1 189 49 (sd (sd s)) := ⟨_, rfl⟩
  have f2 : rvf [189049] S1 S2 := by rw [eS2]; exact rvf.sI S1 189 49 (sd (sd s))
  have hB2 := f2.B hB1
  have hs2 : S2.2.1 189 49 = sd (sd s) := by rw [eS2, rv_sI_eq]
  have hM2 := hM1.f f2 rfl
  rw [← eS1] at d1
  rw [← eS2] at d2
  have f12 : rvf [189049] S S2 := f1.tr f2
  obtain ⟨w1, w2⟩ := m_owned (n := n) hn hB2 hM2 hc h24 (a := dr s (vW m)) (by omega)
  have hle := fb_ct_le (fun c => decide (ow m c = dr s (vW m))) (vC m)
  have lit : (-1 : Int32) = iM := rfl
  by_cases c0 : fb_ct (fun c => decide (ow m c = dr s (vW m))) (vC m) = 0
  · have e : dpay m s = (m, sd (sd s), 0, 0) := if_pos c0
    rw [c0] at w1
    refine ⟨S2, ?_, f12.mono rfl, by rw [e]; exact hM2, R42.of f12 rfl, by rw [e]; exact hs2, by rw [e]; exact (f12.at (a := 189) (k := 50) rfl).trans h1, by rw [e]; exact (f12.at (a := 189) (k := 51) rfl).trans h2⟩
    rw [fnX13_day, lit]
    repeat (first | (conv => (lhs; arg 1; simp (disch := first | assumption | omega) only [tk_gI, tk_gL, tk_gR, tk_pI, tk_pL, rv_aI, rv_aL, rv_aR, rv_uI, rv_uL, rv_uB, rv_uZ, pu_ckI, pu_ckL, pu_lnI, pu_lnL, tk_rI, tk_rL, Option.bind_some, Option.map_some, rv_lt, tk_ix, rc_189 hB, m_whos hB hM, d1, rc_189 hB1, m_whos hB1 hM1, d2, rc_189 hB2, w1])); first | rw [Option.bind_some] | rw [bp_s] | rw [if_true] | rw [if_false] | rw [rv_lt_eq] | rw [if_pos (by omega)] | rw [if_neg (by omega)])
    all_goals first | rfl | (rw [if_pos (by decide)])
  · have lk := dr_lt (sd (sd s)) (show 0 < fb_ct (fun c => decide (ow m c = dr s (vW m))) (vC m) by omega)
    have d3 := m_draw (n := n) hB2 hs2 (N := fb_ct (fun c => decide (ow m c = dr s (vW m))) (vC m)) (by omega) (by omega)
    obtain ⟨S3, eS3⟩ : ∃ S3, S3 = rv_sI S2 189 49 (sd (sd (sd s))) := ⟨_, rfl⟩
    have f3 : rvf [189049] S2 S3 := by rw [eS3]; exact rvf.sI S2 189 49 _
    rw [← eS3] at d3
    have hB3 := f3.B hB2
    have hs3 : S3.2.1 189 49 = sd (sd (sd s)) := by rw [eS3, rv_sI_eq]
    have hM3 := hM2.f f3 rfl
    have f13 : rvf [189049] S S3 := f12.tr f3
    obtain ⟨-, w3⟩ := m_owned (n := n) hn hB3 hM3 hc h24 (a := dr s (vW m)) (by omega)
    have kk := w3 _ lk
    obtain ⟨-, kl, ko⟩ := k_kth (n := n) (S := S3) hn h40 lk
    obtain ⟨c, ec⟩ : ∃ c, c = kth (fun c => decide (ow m c = dr s (vW m))) (dr (sd (sd s)) (fb_ct (fun c => decide (ow m c = dr s (vW m))) (vC m))) (vC m) 0 0 := ⟨_, rfl⟩
    rw [← ec] at kk kl ko
    obtain ⟨S4, e4, f4, -⟩ := m_why (n := n) (by omega) hB3 hM3 hp hc kl lb
    have hB4 := f4.B hB3
    have hM4 := hM3.f f4 rfl
    have wl := wy_le m (ow m c) (rl m c) (dr (sd s) (vW m))
    have pos : ¬ nI (fb_ct (fun c => decide (ow m c = dr s (vW m))) (vC m)) ≤ (0 : Int32) := by rw [z0, n_le (by omega) (by decide)]; omega
    have g4 : ∀ k, k ≠ 49 → (k = 50 ∨ k = 51) → S4.2.1 189 k = S.2.1 189 k := fun k _ hk => by
      rcases hk with rfl | rfl
      · rw [f4.at (a := 189) (k := 50) rfl, f13.at (a := 189) (k := 50) rfl]
      · rw [f4.at (a := 189) (k := 51) rfl, f13.at (a := 189) (k := 51) rfl]
    by_cases c1 : wy m (ow m c) (rl m c) (dr (sd s) (vW m)) = 0
    · have e : dpay m s = (mv m c (dr (sd s) (vW m)), sd (sd (sd s)), 1, 0) := by
        rw [dpay, if_neg c0, ← ec, if_pos c1]
      rw [c1] at e4
      obtain ⟨S5, e5, f5, hM5, r5⟩ := m_goes (n := n) (by omega) hB4 hM4 hc kl (dr (sd s) (vW m))
      have hB5 := f5.B hB4
      have g1 : S5.2.1 189 50 = nI p := (f5.at (a := 189) (k := 50) rfl).trans ((g4 50 (by decide) (Or.inl rfl)).trans h1)
      have g2 : S5.2.1 189 51 = nI q := (f5.at (a := 189) (k := 51) rfl).trans ((g4 51 (by decide) (Or.inr rfl)).trans h2)
      have g0 : S5.2.1 189 49 = sd (sd (sd s)) := (f5.at (a := 189) (k := 49) rfl).trans ((f4.at (a := 189) (k := 49) rfl).trans hs3)
      have f6 : rvf [189050] S5 (rv_sI S5 189 50 (nI (p + 1))) := rvf.sI S5 189 50 _
      refine ⟨rv_sI S5 189 50 (nI (p + 1)), ?_, (f13.mono rfl).tr ((f4.mono rfl).tr ((f5.mono rfl).tr (f6.mono rfl))), by rw [e]; exact hM5.f f6 rfl, (R42.of f13 rfl).tr ((R42.of f4 rfl).tr (r5.tr (R42.of f6 rfl))), by rw [e, rv_sI_k _ _ (by decide)]; exact g0, by rw [e, rv_sI_eq], by rw [e, rv_sI_k _ _ (by decide)]; exact g2⟩
      rw [fnX13_day, lit]
      repeat (first | (conv => (lhs; arg 1; simp (disch := first | assumption | omega) only [tk_gI, tk_gL, tk_gR, tk_pI, tk_pL, rv_aI, rv_aL, rv_aR, rv_uI, rv_uL, rv_uB, rv_uZ, pu_ckI, pu_ckL, pu_lnI, pu_lnL, tk_rI, tk_rL, Option.bind_some, Option.map_some, rv_lt, tk_ix, rc_189 hB, m_whos hB hM, d1, rc_189 hB1, m_whos hB1 hM1, d2, rc_189 hB2, w1])); first | rw [Option.bind_some] | rw [bp_s] | rw [if_true] | rw [if_false] | rw [rv_lt_eq] | rw [if_pos (by omega)] | rw [if_neg (by omega)])
      repeat (first | (conv => (lhs; arg 1; simp (disch := first | assumption | omega) only [tk_gI, tk_gL, tk_gR, tk_pI, tk_pL, rv_aI, rv_aL, rv_aR, rv_uI, rv_uL, rv_uB, rv_uZ, pu_ckI, pu_ckL, pu_lnI, pu_lnL, tk_rI, tk_rL, Option.bind_some, Option.map_some, rv_lt, tk_ix, z0, z1, z2, z3, z4, z5, z6, z7, z8, z9, z10, z11, z12, z13, z15, z16, z17, z18, z20, z21, z23, z24, z25, z31, z32, z39, z40, z41, z46, z48, z50, z57, z59, z60, z61, z62, z63, z64, z97, z98, z99, z100, z101, z102, z103, z104, z105, z106, z107, z108, z109, z110, z111, z112, z113, z114, z115, z116, z117, z118, z119, z120, z121, z122, z128, z132, z200, z240, z255, z372, z390625, z400, z420, z421, z422, z662, z900, z940, z999, z1000, z1024, z2000, z5860, z10000, z12345, z15625, z266240, z1048575, z1064960, z1103515245, z_m1, n_le, n_lt, n_eq, n_bit0, n_bit1, n_sbit0, n_shl, z_ltM, z_Mlt, z_leM, z_Mle, z_eqM, z_Meq, bI0, bI1, bI_01, bI_01t, bI_10, bI_10f, if_true, if_false, eq_self, reduceCtorEq, rc_189 hB2, d3, rc_189 hB3, kk, e4, rc_189 hB4, e5, rc_189 hB5, g1, nI_add])); first | rw [Option.bind_some] | rw [bp_s] | rw [if_true] | rw [if_false] | rw [rv_lt_eq] | rw [if_pos (by omega)] | rw [if_neg (by omega)])
      all_goals rfl
    · have e : dpay m s = (m, sd (sd (sd s)), 0, 1) := by
        rw [dpay, if_neg c0, ← ec, if_neg c1]
      have g1 : S4.2.1 189 50 = nI p := (g4 50 (by decide) (Or.inl rfl)).trans h1
      have g2 : S4.2.1 189 51 = nI q := (g4 51 (by decide) (Or.inr rfl)).trans h2
      have g0 : S4.2.1 189 49 = sd (sd (sd s)) := (f4.at (a := 189) (k := 49) rfl).trans hs3
      have f6 : rvf [189051] S4 (rv_sI S4 189 51 (nI (q + 1))) := rvf.sI S4 189 51 _
      refine ⟨rv_sI S4 189 51 (nI (q + 1)), ?_, (f13.mono rfl).tr ((f4.mono rfl).tr (f6.mono rfl)), by rw [e]; exact hM4.f f6 rfl, (R42.of f13 rfl).tr ((R42.of f4 rfl).tr (R42.of f6 rfl)), by rw [e, rv_sI_k _ _ (by decide)]; exact g0, by rw [e, rv_sI_k _ _ (by decide)]; exact g1, by rw [e, rv_sI_eq]⟩
      rw [fnX13_day, lit]
      repeat (first | (conv => (lhs; arg 1; simp (disch := first | assumption | omega) only [tk_gI, tk_gL, tk_gR, tk_pI, tk_pL, rv_aI, rv_aL, rv_aR, rv_uI, rv_uL, rv_uB, rv_uZ, pu_ckI, pu_ckL, pu_lnI, pu_lnL, tk_rI, tk_rL, Option.bind_some, Option.map_some, rv_lt, tk_ix, rc_189 hB, m_whos hB hM, d1, rc_189 hB1, m_whos hB1 hM1, d2, rc_189 hB2, w1])); first | rw [Option.bind_some] | rw [bp_s] | rw [if_true] | rw [if_false] | rw [rv_lt_eq] | rw [if_pos (by omega)] | rw [if_neg (by omega)])
      repeat (first | (conv => (lhs; arg 1; simp (disch := first | assumption | omega) only [tk_gI, tk_gL, tk_gR, tk_pI, tk_pL, rv_aI, rv_aL, rv_aR, rv_uI, rv_uL, rv_uB, rv_uZ, pu_ckI, pu_ckL, pu_lnI, pu_lnL, tk_rI, tk_rL, Option.bind_some, Option.map_some, rv_lt, tk_ix, z0, z1, z2, z3, z4, z5, z6, z7, z8, z9, z10, z11, z12, z13, z15, z16, z17, z18, z20, z21, z23, z24, z25, z31, z32, z39, z40, z41, z46, z48, z50, z57, z59, z60, z61, z62, z63, z64, z97, z98, z99, z100, z101, z102, z103, z104, z105, z106, z107, z108, z109, z110, z111, z112, z113, z114, z115, z116, z117, z118, z119, z120, z121, z122, z128, z132, z200, z240, z255, z372, z390625, z400, z420, z421, z422, z662, z900, z940, z999, z1000, z1024, z2000, z5860, z10000, z12345, z15625, z266240, z1048575, z1064960, z1103515245, z_m1, n_le, n_lt, n_eq, n_bit0, n_bit1, n_sbit0, n_shl, z_ltM, z_Mlt, z_leM, z_Mle, z_eqM, z_Meq, bI0, bI1, bI_01, bI_01t, bI_10, bI_10f, if_true, if_false, eq_self, reduceCtorEq, rc_189 hB2, d3, rc_189 hB3, kk, e4, if_neg c1, rc_189 hB4, g2, nI_add])); first | rw [Option.bind_some] | rw [bp_s] | rw [if_true] | rw [if_false] | rw [rv_lt_eq] | rw [if_pos (by omega)] | rw [if_neg (by omega)])
      all_goals rfl
end
