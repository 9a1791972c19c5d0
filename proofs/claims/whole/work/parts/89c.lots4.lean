/-! LOTS: a theft drawn -/
section
variable {n : Nat} {S : rvS} {m m' : Nat → Nat} {wd : Nat → List Nat}
def dthf (m : Nat → Nat) (s : Int32) : (Nat → Nat) × Int32 × Nat :=
  if 0 < de m (dr s (vW m)) then (m, sd (sd s), 0) else if ow m (dr (sd s) (vC m)) = dr s (vW m) then (m, sd (sd s), 0) else (own m (dr (sd s) (vC m)) (dr s (vW m)), sd (sd s), 1)
/-- a theft, one day of sixteen -/
def d16 (m : Nat → Nat) (s : Int32) : (Nat → Nat) × Int32 × Nat := if dr s 16 = 0 then dthf m (sd s) else (m, sd s, 0)
theorem k_dthf (hn : 50 ≤ n) (hB : rv_B S) (hR : CR S 67 m) (hk : okm m) (hW : 0 < vW m) (hC0 : 0 < vC m) {s : Int32} {t : Nat} (hs : S.2.1 147 0 = s) (h4 : S.2.1 147 4 = nI t) :
    ∃ S', fnX3_drawTheft n S 147 67 = some S' ∧ rvf [147, 77] S S' ∧ CR S' 67 (dthf m s).1 ∧ S'.2.1 147 0 = (dthf m s).2.1 ∧ S'.2.1 147 4 = nI (t + (dthf m s).2.2) ∧ ∀ k, k ≠ 0 → k ≠ 4 → S'.2.1 147 k = S.2.1 147 k := by
  obtain ⟨hp, hc, hd⟩ := id hk
  have h24 := hp.1
  have h40 := hc.1
  have hv : vb 67 := Or.inl rfl
  have la := dr_lt s hW
  have lb := dr_lt (sd s) hC0
  have hVS := VS_of hB hv
  have hFS := FS_of hB hv.f
  have d1 := k_draw (n := n) hB hs hW (by omega)
  obtain ⟨S1, eS1⟩ : ∃ S1, S1 = rv_sI S 147 0 (sd s) := ⟨_, rfl⟩
  have f1 : rvf [147] S S1 := by rw [eS1]; exact (rvf.rf _ _).w rfl rfl
  have hB1 := f1.B hB
  have hs1 : S1.2.1 147 0 = sd s := by rw [eS1, rv_sI_eq]
  have R1 := hR.f f1 hv (Or.inl rfl) (Or.inr (by decide)) (Or.inr (by decide)) (Or.inr (by decide))
  have hVS1 := VS_of hB1 hv
  have hPS1 := PS_of hB1 hv.p
  have d2 := k_draw (n := n) hB1 hs1 hC0 (by omega)
  obtain ⟨S2, eS2⟩ : ∃ S2, S2 = rv_sI S1 147 0 (sd (sd s)) := ⟨_, rfl⟩
  have f2 : rvf [147] S1 S2 := by rw [eS2]; exact (rvf.rf _ _).w rfl rfl
  have hB2 := f2.B hB1
  have hs2 : S2.2.1 147 0 = sd (sd s) := by rw [eS2, rv_sI_eq]
  have R2 := R1.f f2 hv (Or.inl rfl) (Or.inr (by decide)) (Or.inr (by decide)) (Or.inr (by decide))
  have hVS2 := VS_of hB2 hv
  have hPS2 := PS_of hB2 hv.p
  have hFS2 := FS_of hB2 hv.f
  have k2 : ∀ k, k ≠ 0 → S2.2.1 147 k = S.2.1 147 k := fun k hk => by rw [eS2, rv_sI_k _ _ hk, eS1, rv_sI_k _ _ hk]
  rw [← eS1] at d1
  rw [← eS2] at d2
  obtain ⟨w, ew⟩ : ∃ w, w = dr s (vW m) := ⟨_, rfl⟩
  obtain ⟨c, ec⟩ : ∃ c, c = dr (sd s) (vC m) := ⟨_, rfl⟩
  obtain ⟨s2, es2⟩ : ∃ s2, s2 = sd (sd s) := ⟨_, rfl⟩
  have ed : dthf m s = if 0 < de m w then (m, s2, 0) else if ow m c = w then (m, s2, 0) else (own m c w, s2, 1) := by rw [ew, ec, es2]; rfl
  rw [← ew] at d1 la
  rw [← ec] at d2 lb
  rw [← es2] at hs2
  clear eS1 eS2
  have hF := hR.1.1
  have hP1 := R1.2.1.1
  have hP2 := R2.2.1
  have kh := k_hasC (n := n) hPS2 hP2 hc lb
  have kd := k_isDead (n := n) hFS2 R2.1 hp la
  have ho := (hc.2.2 _ lb).2.2.1
  have g4 : S2.2.1 147 4 = nI t := (k2 4 (by decide)).trans h4
  have f12 : rvf [147, 77] S S2 := (f1.mono rfl).tr (f2.mono rfl)
  by_cases cd : 0 < de m (w)
  · have e : dthf m s = (m, s2, 0) := ed.trans (if_pos cd)
    rw [decide_eq_true cd] at kd
    refine ⟨S2, ?_, f12, by rw [e]; exact R2, by rw [e]; exact hs2, by rw [e]; exact g4, fun k h0 _ => k2 k h0⟩
    rw [fnX3_drawTheft]
    repeat (first | (conv => (lhs; arg 1; simp (disch := first | assumption | omega) only [tk_gI, tk_gL, tk_gR, tk_pI, tk_pL, rv_aI, rv_aL, rv_aR, rv_uI, rv_uL, rv_uB, rv_uZ, pu_ckI, pu_ckL, pu_lnI, pu_lnL, tk_rI, tk_rL, Option.bind_some, Option.map_some, rv_lt, tk_ix, z0, z1, z2, z3, z4, z5, z6, z7, z8, z9, z10, z11, z12, z13, z15, z16, z17, z18, z20, z21, z23, z24, z25, z31, z32, z39, z40, z41, z46, z48, z50, z57, z59, z60, z61, z62, z63, z64, z97, z98, z99, z100, z101, z102, z103, z104, z105, z106, z107, z108, z109, z110, z111, z112, z113, z114, z115, z116, z117, z118, z119, z120, z121, z122, z128, z132, z200, z240, z255, z372, z390625, z400, z420, z421, z422, z662, z900, z940, z999, z1000, z1024, z2000, z5860, z10000, z12345, z15625, z266240, z1048575, z1064960, z1103515245, z_m1, n_le, n_lt, n_eq, n_bit0, n_bit1, n_sbit0, n_shl, z_ltM, z_Mlt, z_leM, z_Mle, z_eqM, z_Meq, bI0, bI1, bI_01, bI_01t, bI_10, bI_10f, if_true, if_false, eq_self, reduceCtorEq, hVS, hFS, hF, rc_147 hB, d1, hVS1, hPS1, hP1, rc_147 hB1, d2, hVS2, hPS2, hFS2, kh, kd])); first | rw [Option.bind_some] | rw [bp_s] | rw [if_true] | rw [if_false] | rw [rv_lt_eq] | rw [if_pos (by omega)] | rw [if_neg (by omega)])
    all_goals rfl
  · rw [decide_eq_false cd] at kd
    by_cases co : ow m (c) = w
    · have e : dthf m s = (m, s2, 0) := by rw [ed, if_neg cd, if_pos co]
      refine ⟨S2, ?_, f12, by rw [e]; exact R2, by rw [e]; exact hs2, by rw [e]; exact g4, fun k h0 _ => k2 k h0⟩
      rw [fnX3_drawTheft]
      repeat (first | (conv => (lhs; arg 1; simp (disch := first | assumption | omega) only [tk_gI, tk_gL, tk_gR, tk_pI, tk_pL, rv_aI, rv_aL, rv_aR, rv_uI, rv_uL, rv_uB, rv_uZ, pu_ckI, pu_ckL, pu_lnI, pu_lnL, tk_rI, tk_rL, Option.bind_some, Option.map_some, rv_lt, tk_ix, z0, z1, z2, z3, z4, z5, z6, z7, z8, z9, z10, z11, z12, z13, z15, z16, z17, z18, z20, z21, z23, z24, z25, z31, z32, z39, z40, z41, z46, z48, z50, z57, z59, z60, z61, z62, z63, z64, z97, z98, z99, z100, z101, z102, z103, z104, z105, z106, z107, z108, z109, z110, z111, z112, z113, z114, z115, z116, z117, z118, z119, z120, z121, z122, z128, z132, z200, z240, z255, z372, z390625, z400, z420, z421, z422, z662, z900, z940, z999, z1000, z1024, z2000, z5860, z10000, z12345, z15625, z266240, z1048575, z1064960, z1103515245, z_m1, n_le, n_lt, n_eq, n_bit0, n_bit1, n_sbit0, n_shl, z_ltM, z_Mlt, z_leM, z_Mle, z_eqM, z_Meq, bI0, bI1, bI_01, bI_01t, bI_10, bI_10f, if_true, if_false, eq_self, reduceCtorEq, hVS, hFS, hF, rc_147 hB, d1, hVS1, hPS1, hP1, rc_147 hB1, d2, hVS2, hPS2, hFS2, kh, kd, hP2, co])); first | rw [Option.bind_some] | rw [bp_s] | rw [if_true] | rw [if_false] | rw [rv_lt_eq] | rw [if_pos (by omega)] | rw [if_neg (by omega)])
      all_goals rfl
    · have e : dthf m s = (own m c w, s2, 1) := by rw [ed, if_neg cd, if_neg co]
      have R3 := own_CR (w := w) R2 hk lb
      obtain ⟨S3, eS3⟩ : ∃ S3, S3 = rv_sI S2 77 (c) (nI (w)) := ⟨_, rfl⟩
      have f3 : rvf [77] S2 S3 := by rw [eS3]; exact (rvf.rf _ _).w rfl rfl
      rw [← eS3] at R3
      have hB3 := f3.B hB2
      have g3 : S3.2.1 147 4 = nI t := (f3.row rfl rfl 4).trans g4
      have f4 : rvf [147] S3 (rv_sI S3 147 4 (nI (t + 1))) := (rvf.rf _ _).w rfl rfl
      have R4 := R3.f f4 hv (Or.inl rfl) (Or.inr (by decide)) (Or.inr (by decide)) (Or.inr (by decide))
      refine ⟨rv_sI S3 147 4 (nI (t + 1)), ?_, f12.tr ((f3.mono rfl).tr (f4.mono rfl)), by rw [e]; exact R4, by rw [e, rv_sI_k _ _ (by decide), f3.row rfl rfl]; exact hs2, by rw [e, rv_sI_eq], fun k h0 h4 => by rw [rv_sI_k _ _ h4, f3.row rfl rfl]; exact k2 k h0⟩
      rw [fnX3_drawTheft]
      repeat (first | (conv => (lhs; arg 1; simp (disch := first | assumption | omega) only [tk_gI, tk_gL, tk_gR, tk_pI, tk_pL, rv_aI, rv_aL, rv_aR, rv_uI, rv_uL, rv_uB, rv_uZ, pu_ckI, pu_ckL, pu_lnI, pu_lnL, tk_rI, tk_rL, Option.bind_some, Option.map_some, rv_lt, tk_ix, z0, z1, z2, z3, z4, z5, z6, z7, z8, z9, z10, z11, z12, z13, z15, z16, z17, z18, z20, z21, z23, z24, z25, z31, z32, z39, z40, z41, z46, z48, z50, z57, z59, z60, z61, z62, z63, z64, z97, z98, z99, z100, z101, z102, z103, z104, z105, z106, z107, z108, z109, z110, z111, z112, z113, z114, z115, z116, z117, z118, z119, z120, z121, z122, z128, z132, z200, z240, z255, z372, z390625, z400, z420, z421, z422, z662, z900, z940, z999, z1000, z1024, z2000, z5860, z10000, z12345, z15625, z266240, z1048575, z1064960, z1103515245, z_m1, n_le, n_lt, n_eq, n_bit0, n_bit1, n_sbit0, n_shl, z_ltM, z_Mlt, z_leM, z_Mle, z_eqM, z_Meq, bI0, bI1, bI_01, bI_01t, bI_10, bI_10f, if_true, if_false, eq_self, reduceCtorEq, hVS, hFS, hF, rc_147 hB, d1, hVS1, hPS1, hP1, rc_147 hB1, d2, hVS2, hPS2, hFS2, kh, kd, hP2, co, ← eS3, rc_147 hB3, g3, nI_add])); first | rw [Option.bind_some] | rw [bp_s] | rw [if_true] | rw [if_false] | rw [rv_lt_eq] | rw [if_pos (by omega)] | rw [if_neg (by omega)])
      all_goals rfl
theorem k_d16 (hn : 50 ≤ n) (hB : rv_B S) (hR : CR S 67 m) (hk : okm m) (hW : 0 < vW m) (hC0 : 0 < vC m) {s : Int32} {t : Nat} (hs : S.2.1 147 0 = s) (h4 : S.2.1 147 4 = nI t) :
    ∃ S', cX3_passDay_59 n S 147 67 = some S' ∧ rvf [147, 77] S S' ∧ CR S' 67 (d16 m s).1 ∧ S'.2.1 147 0 = (d16 m s).2.1 ∧ S'.2.1 147 4 = nI (t + (d16 m s).2.2) ∧ ∀ k, k ≠ 0 → k ≠ 4 → S'.2.1 147 k = S.2.1 147 k := by
  have hv : vb 67 := Or.inl rfl
  have la := dr_lt s (N := 16) (by decide)
  have d1 := k_draw (n := n) hB hs (N := 16) (by decide) (by decide)
  obtain ⟨S1, eS1⟩ : ∃ S1, S1 = rv_sI S 147 0 (sd s) := ⟨_, rfl⟩
  have f1 : rvf [147] S S1 := by rw [eS1]; exact (rvf.rf _ _).w rfl rfl
  have hB1 := f1.B hB
  have hs1 : S1.2.1 147 0 = sd s := by rw [eS1, rv_sI_eq]
  have R1 := hR.f f1 hv (Or.inl rfl) (Or.inr (by decide)) (Or.inr (by decide)) (Or.inr (by decide))
  have k1 : ∀ k, k ≠ 0 → S1.2.1 147 k = S.2.1 147 k := fun k hk => by rw [eS1, rv_sI_k _ _ hk]
  rw [← eS1] at d1
  by_cases c : dr s 16 = 0
  · have e : d16 m s = dthf m (sd s) := if_pos c
    rw [c] at d1
    obtain ⟨S2, e2, f2, g1, g2, g3, g4⟩ := k_dthf hn hB1 R1 hk hW hC0 hs1 ((k1 4 (by decide)).trans h4)
    refine ⟨S2, ?_, (f1.mono rfl).tr f2, by rw [e]; exact g1, by rw [e]; exact g2, by rw [e]; exact g3, fun k h0 h4 => (g4 k h0 h4).trans (k1 k h0)⟩
    rw [cX3_passDay_59]
    repeat (first | (conv => (lhs; arg 1; simp (disch := first | assumption | omega) only [tk_gI, tk_gL, tk_gR, tk_pI, tk_pL, rv_aI, rv_aL, rv_aR, rv_uI, rv_uL, rv_uB, rv_uZ, pu_ckI, pu_ckL, pu_lnI, pu_lnL, tk_rI, tk_rL, Option.bind_some, Option.map_some, rv_lt, tk_ix, z0, z1, z2, z3, z4, z5, z6, z7, z8, z9, z10, z11, z12, z13, z15, z16, z17, z18, z20, z21, z23, z24, z25, z31, z32, z39, z40, z41, z46, z48, z50, z57, z59, z60, z61, z62, z63, z64, z97, z98, z99, z100, z101, z102, z103, z104, z105, z106, z107, z108, z109, z110, z111, z112, z113, z114, z115, z116, z117, z118, z119, z120, z121, z122, z128, z132, z200, z240, z255, z372, z390625, z400, z420, z421, z422, z662, z900, z940, z999, z1000, z1024, z2000, z5860, z10000, z12345, z15625, z266240, z1048575, z1064960, z1103515245, z_m1, n_le, n_lt, n_eq, n_bit0, n_bit1, n_sbit0, n_shl, z_ltM, z_Mlt, z_leM, z_Mle, z_eqM, z_Meq, bI0, bI1, bI_01, bI_01t, bI_10, bI_10f, if_true, if_false, eq_self, reduceCtorEq, rc_147 hB, d1, rc_147 hB1, e2])); first | rw [Option.bind_some] | rw [bp_s] | rw [if_true] | rw [if_false] | rw [rv_lt_eq] | rw [if_pos (by omega)] | rw [if_neg (by omega)])
    all_goals rfl
  · have e : d16 m s = (m, sd s, 0) := if_neg c
    refine ⟨S1, ?_, f1.mono rfl, by rw [e]; exact R1, by rw [e]; exact hs1, by rw [e]; exact (k1 4 (by decide)).trans h4, fun k h0 _ => k1 k h0⟩
    rw [cX3_passDay_59]
    repeat (first | (conv => (lhs; arg 1; simp (disch := first | assumption | omega) only [tk_gI, tk_gL, tk_gR, tk_pI, tk_pL, rv_aI, rv_aL, rv_aR, rv_uI, rv_uL, rv_uB, rv_uZ, pu_ckI, pu_ckL, pu_lnI, pu_lnL, tk_rI, tk_rL, Option.bind_some, Option.map_some, rv_lt, tk_ix, z0, z1, z2, z3, z4, z5, z6, z7, z8, z9, z10, z11, z12, z13, z15, z16, z17, z18, z20, z21, z23, z24, z25, z31, z32, z39, z40, z41, z46, z48, z50, z57, z59, z60, z61, z62, z63, z64, z97, z98, z99, z100, z101, z102, z103, z104, z105, z106, z107, z108, z109, z110, z111, z112, z113, z114, z115, z116, z117, z118, z119, z120, z121, z122, z128, z132, z200, z240, z255, z372, z390625, z400, z420, z421, z422, z662, z900, z940, z999, z1000, z1024, z2000, z5860, z10000, z12345, z15625, z266240, z1048575, z1064960, z1103515245, z_m1, n_le, n_lt, n_eq, n_bit0, n_bit1, n_sbit0, n_shl, z_ltM, z_Mlt, z_leM, z_Mle, z_eqM, z_Meq, bI0, bI1, bI_01, bI_01t, bI_10, bI_10f, if_true, if_false, eq_self, reduceCtorEq, rc_147 hB, d1, if_neg c])); first | rw [Option.bind_some] | rw [bp_s] | rw [if_true] | rw [if_false] | rw [rv_lt_eq] | rw [if_pos (by omega)] | rw [if_neg (by omega)])
    all_goals rfl
end
