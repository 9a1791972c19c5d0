/-! STEAL, WED, BORN, CHANGE -/
section
variable {n : Nat} {S : rvS} {m m' : Nat → Nat} {wd : Nat → List Nat}
theorem CR.rows {S1 : rvS} (h : CR S 67 m) (g : ∀ a, a ∈ [67, 68, 69, 70, 71, 73, 74, 75, 76, 77, 78, 84, 85, 86] → ∀ k, S1.2.1 a k = S.2.1 a k) : CR S1 67 m := by
  obtain ⟨⟨a1, a2, a3, a4, a5, a6, a7, a8⟩, ⟨b1, b2, b3, b4, b5⟩, c1, c2, c3, c4, c5, c6, c7⟩ := h
  exact ⟨⟨(g 68 (by decide) _).trans a1, (g 68 (by decide) _).trans a2, (g 68 (by decide) _).trans a3, fun w h => (g 69 (by decide) w).trans (a4 w h), fun w h => (g 70 (by decide) w).trans (a5 w h), fun w h => (g 71 (by decide) w).trans (a6 w h), fun w h => (g 73 (by decide) w).trans (a7 w h), fun w h => (g 74 (by decide) w).trans (a8 w h)⟩, ⟨(g 75 (by decide) _).trans b1, (g 75 (by decide) _).trans b2, fun w h => (g 76 (by decide) w).trans (b3 w h), fun w h => (g 77 (by decide) w).trans (b4 w h), fun w h => (g 78 (by decide) w).trans (b5 w h)⟩, (g 67 (by decide) _).trans c1, (g 67 (by decide) _).trans c2, (g 67 (by decide) _).trans c3, (g 67 (by decide) _).trans c4, fun w h => (g 84 (by decide) w).trans (c5 w h), fun w h => (g 85 (by decide) w).trans (c6 w h), fun w h => (g 86 (by decide) w).trans (c7 w h)⟩
/-! a theft: the owner alone -/
def own (m : Nat → Nat) (c w : Nat) : Nat → Nat := u1 m (133 + 6 * c) w
theorem own_off (m : Nat → Nat) {c k : Nat} (w : Nat) (h : k ≠ 133 + 6 * c) : own m c w k = m k := u1_ne _ _ h
theorem own_ow (m : Nat → Nat) (c w d : Nat) : ow (own m c w) d = if d = c then w else ow m d := by
  by_cases h : d = c
  · subst h; rw [if_pos rfl]; exact u1_eq _ _ _
  · rw [if_neg h]; exact own_off m w (by omega)
theorem own_rl (m : Nat → Nat) (c w d : Nat) : rl (own m c w) d = rl m d := by
  unfold rl
  rw [show mn (own m c w) d = mn m d from own_off m w (by omega)]
  have h0 : rm (own m c w) d 0 = rm m d 0 := own_off m w (by omega)
  have h1 : rm (own m c w) d 1 = rm m d 1 := own_off m w (by omega)
  have h2 : rm (own m c w) d 2 = rm m d 2 := own_off m w (by omega)
  rw [h0, h1, h2]
theorem own_okm (hk : okm m) {c w : Nat} (h : c < vC m) (hw : w < vW m) : okm (own m c w) := by
  obtain ⟨hp, hc, hd⟩ := hk
  have h40 := hc.1
  have lo : ∀ k, k < 132 → own m c w k = m k := fun k hk => own_off m w (by omega)
  have hi : ∀ k, 372 ≤ k → own m c w k = m k := fun k hk => own_off m w (by omega)
  refine ⟨hp.c lo, ?_, hd.c hp.1 lo hi⟩
  obtain ⟨h1, h2, h3⟩ := hc
  have e0 : vW (own m c w) = vW m := lo 0 (by decide)
  have e1 : vC (own m c w) = vC m := lo 1 (by decide)
  have e3 : vN (own m c w) = vN m := lo 3 (by decide)
  refine ⟨by rw [e1]; exact h1, by rw [e3]; exact h2, fun d hd => ?_⟩
  rw [e1] at hd
  obtain ⟨g1, g2, g3, g4, g5⟩ := h3 d hd
  have r2 : mn (own m c w) d = mn m d := own_off m w (by omega)
  have r1 : va (own m c w) d = va m d := own_off m w (by omega)
  refine ⟨by rw [r1]; exact g1, by rw [r1]; exact g2, ?_, by rw [e3, r2]; exact g4, fun i hi => ?_⟩
  · rw [e0, own_ow]; split
    · exact hw
    · exact g3
  · rw [r2] at hi
    rw [e0, show rm (own m c w) d i = rm m d i from own_off m w (by omega)]
    exact g5 i hi
theorem own_CR (hR : CR S 67 m) (hk : okm m) {c w : Nat} (h : c < vC m) : CR (rv_sI S 77 c (nI w)) 67 (own m c w) := by
  obtain ⟨hp, hc, hd⟩ := hk
  have h40 := hc.1
  obtain ⟨hF, ⟨b1, b2, b3, b4, b5⟩, hD⟩ := hR
  have lo : ∀ k, k < 132 → own m c w k = m k := fun k hk => own_off m w (by omega)
  have hi : ∀ k, 372 ≤ k → own m c w k = m k := fun k hk => own_off m w (by omega)
  have e1 : vC (own m c w) = vC m := lo 1 (by decide)
  have e3 : vN (own m c w) = vN m := lo 3 (by decide)
  have hF1 : FR (rv_sI S 77 c (nI w)) (67 + 1) m := hF
  have hD1 : DR (rv_sI S 77 c (nI w)) 67 m := hD
  refine ⟨hF1.c hp lo, ⟨?_, ?_, fun d hd => ?_, fun d hd => ?_, fun d hd => ?_⟩, hD1.c hd.1 lo hi⟩
  · rw [rv_sI_a _ _ _ (by decide), e1]; exact b1
  · rw [rv_sI_a _ _ _ (by decide), e3]; exact b2
  · rw [e1] at hd
    rw [rv_sI_a _ _ _ (by decide), show va (own m c w) d = va m d from own_off m w (by omega)]; exact b3 d hd
  · rw [e1] at hd
    rw [own_ow]
    by_cases g : d = c
    · subst g; rw [if_pos rfl]; exact rv_sI_eq _ _ _ _
    · rw [if_neg g, rv_sI_k _ _ g]; exact b4 d hd
  · rw [e1] at hd
    rw [rv_sI_a _ _ _ (by decide), own_rl]; exact b5 d hd
theorem op_steal (hn : 500 ≤ n) (hV : VI S m wd) (x y : Int32) : ∃ r S1 S' m', fnX12_steal n S 64 x y = some (r, S1) ∧ fnX13_steal n S1 189 x y = some (r, S') ∧ QS S S' m' wd := by
  obtain ⟨hB, hR, hL, hk, -⟩ := id hV; have hp := hk.1; have hc := hk.2.1; have hd := hk.2.2; obtain ⟨S6, e6, hB6, f6, hM6, r6, b6⟩ := start_ok hn hB hL; have hC := CS_of hB; have hv : vb 67 := Or.inl rfl; have hVS := VS_of hB hv; have hFS := FS_of hB hv.f; have hPS := PS_of hB hv.p; have h24 := hp.1; have h40 := hc.1; have n10 : 10 ≤ n := (by omega); have n50 : 50 ≤ n := (by omega)
  obtain ⟨hF, hP, hD⟩ := id hR
  have same : ∀ {r : Int32}, fnX12_steal n S 64 x y = some (r, S) → (∃ S', fnX13_steal n S 189 x y = some (r, S') ∧ QS S S' m wd) → ∃ r S1 S' m', fnX12_steal n S 64 x y = some (r, S1) ∧ fnX13_steal n S1 189 x y = some (r, S') ∧ QS S S' m' wd := fun h1 ⟨S', h2, h3⟩ => ⟨_, S, S', m, h1, h2, h3⟩
  rcases rng x (N := vW m) (by omega) with ⟨w, hw, rfl⟩ | hx
  · rcases rng y (N := vC m) (by omega) with ⟨c, h, rfl⟩ | hy
    · have ho := (hc.2.2 c h).2.2.1
      by_cases cd : 0 < de m w
      · refine same (r := nI 0) ?_ ⟨S6, ?_, QS.s0 hV f6 hM6 r6 b6⟩
        · simp (disch := first | assumption | omega) only [fnX12_steal, tk_gI, tk_gL, tk_gR, tk_pI, tk_pL, rv_aI, rv_aL, rv_aR, rv_uI, rv_uL, rv_uB, rv_uZ, pu_ckI, pu_ckL, pu_lnI, pu_lnL, tk_rI, tk_rL, Option.bind_some, Option.map_some, rv_lt, tk_ix, z0, z1, z2, z3, z4, z5, z6, z7, z8, z9, z10, z11, z12, z13, z15, z16, z17, z18, z20, z21, z23, z24, z25, z31, z32, z39, z40, z41, z46, z48, z50, z57, z59, z60, z61, z62, z63, z64, z97, z98, z99, z100, z101, z102, z103, z104, z105, z106, z107, z108, z109, z110, z111, z112, z113, z114, z115, z116, z117, z118, z119, z120, z121, z122, z128, z132, z200, z240, z255, z372, z390625, z400, z420, z421, z422, z662, z900, z940, z999, z1000, z1024, z2000, z5860, z10000, z12345, z15625, z266240, z1048575, z1064960, z1103515245, z_m1, n_le, n_lt, n_eq, n_bit0, n_bit1, n_sbit0, n_shl, z_ltM, z_Mlt, z_leM, z_Mle, z_eqM, z_Meq, bI0, bI1, bI_01, bI_01t, bI_10, bI_10f, if_true, if_false, eq_self, reduceCtorEq, hC, hVS, hFS, k_isWho hB hR hk hw, k_isCoin hB hR hk h, k_isDead hFS hF hp hw, decide_eq_true cd]
        · simp (disch := first | assumption | omega) only [fnX13_steal, tk_gI, tk_gL, tk_gR, tk_pI, tk_pL, rv_aI, rv_aL, rv_aR, rv_uI, rv_uL, rv_uB, rv_uZ, pu_ckI, pu_ckL, pu_lnI, pu_lnL, tk_rI, tk_rL, Option.bind_some, Option.map_some, rv_lt, tk_ix, z0, z1, z2, z3, z4, z5, z6, z7, z8, z9, z10, z11, z12, z13, z15, z16, z17, z18, z20, z21, z23, z24, z25, z31, z32, z39, z40, z41, z46, z48, z50, z57, z59, z60, z61, z62, z63, z64, z97, z98, z99, z100, z101, z102, z103, z104, z105, z106, z107, z108, z109, z110, z111, z112, z113, z114, z115, z116, z117, z118, z119, z120, z121, z122, z128, z132, z200, z240, z255, z372, z390625, z400, z420, z421, z422, z662, z900, z940, z999, z1000, z1024, z2000, z5860, z10000, z12345, z15625, z266240, z1048575, z1064960, z1103515245, z_m1, n_le, n_lt, n_eq, n_bit0, n_bit1, n_sbit0, n_shl, z_ltM, z_Mlt, z_leM, z_Mle, z_eqM, z_Meq, bI0, bI1, bI_01, bI_01t, bI_10, bI_10f, if_true, if_false, eq_self, reduceCtorEq, rc_189 hB, e6, rc_189 hB6, m_isWho hB6 hM6 hp hw, m_isCoin hB6 hM6 hc h, m_ow hB6 hM6, m_isDead hB6 hM6 hp hw, decide_eq_true cd, ite_self]
      · by_cases co : ow m c = w
        · refine same (r := nI 0) ?_ ⟨S6, ?_, QS.s0 hV f6 hM6 r6 b6⟩
          · simp (disch := first | assumption | omega) only [fnX12_steal, tk_gI, tk_gL, tk_gR, tk_pI, tk_pL, rv_aI, rv_aL, rv_aR, rv_uI, rv_uL, rv_uB, rv_uZ, pu_ckI, pu_ckL, pu_lnI, pu_lnL, tk_rI, tk_rL, Option.bind_some, Option.map_some, rv_lt, tk_ix, z0, z1, z2, z3, z4, z5, z6, z7, z8, z9, z10, z11, z12, z13, z15, z16, z17, z18, z20, z21, z23, z24, z25, z31, z32, z39, z40, z41, z46, z48, z50, z57, z59, z60, z61, z62, z63, z64, z97, z98, z99, z100, z101, z102, z103, z104, z105, z106, z107, z108, z109, z110, z111, z112, z113, z114, z115, z116, z117, z118, z119, z120, z121, z122, z128, z132, z200, z240, z255, z372, z390625, z400, z420, z421, z422, z662, z900, z940, z999, z1000, z1024, z2000, z5860, z10000, z12345, z15625, z266240, z1048575, z1064960, z1103515245, z_m1, n_le, n_lt, n_eq, n_bit0, n_bit1, n_sbit0, n_shl, z_ltM, z_Mlt, z_leM, z_Mle, z_eqM, z_Meq, bI0, bI1, bI_01, bI_01t, bI_10, bI_10f, if_true, if_false, eq_self, reduceCtorEq, if_pos, if_neg, hC, hVS, hFS, hPS, hP, k_isWho hB hR hk hw, k_isCoin hB hR hk h, k_isDead hFS hF hp hw, decide_eq_false cd]
          · simp (disch := first | assumption | omega) only [fnX13_steal, tk_gI, tk_gL, tk_gR, tk_pI, tk_pL, rv_aI, rv_aL, rv_aR, rv_uI, rv_uL, rv_uB, rv_uZ, pu_ckI, pu_ckL, pu_lnI, pu_lnL, tk_rI, tk_rL, Option.bind_some, Option.map_some, rv_lt, tk_ix, z0, z1, z2, z3, z4, z5, z6, z7, z8, z9, z10, z11, z12, z13, z15, z16, z17, z18, z20, z21, z23, z24, z25, z31, z32, z39, z40, z41, z46, z48, z50, z57, z59, z60, z61, z62, z63, z64, z97, z98, z99, z100, z101, z102, z103, z104, z105, z106, z107, z108, z109, z110, z111, z112, z113, z114, z115, z116, z117, z118, z119, z120, z121, z122, z128, z132, z200, z240, z255, z372, z390625, z400, z420, z421, z422, z662, z900, z940, z999, z1000, z1024, z2000, z5860, z10000, z12345, z15625, z266240, z1048575, z1064960, z1103515245, z_m1, n_le, n_lt, n_eq, n_bit0, n_bit1, n_sbit0, n_shl, z_ltM, z_Mlt, z_leM, z_Mle, z_eqM, z_Meq, bI0, bI1, bI_01, bI_01t, bI_10, bI_10f, if_true, if_false, eq_self, reduceCtorEq, if_pos, if_neg, rc_189 hB, e6, rc_189 hB6, m_isWho hB6 hM6 hp hw, m_isCoin hB6 hM6 hc h, m_ow hB6 hM6]
        · have f1 : rvf [77] S (rv_sI S 77 c (nI w)) := rvf.sIr S c _ rfl
          have hR1 := own_CR (w := w) hR hk h
          obtain ⟨S1, eS1⟩ : ∃ S1, S1 = rv_sI S 77 c (nI w) := ⟨_, rfl⟩
          rw [← eS1] at f1 hR1
          have hB1 := f1.B hB
          obtain ⟨S2, e2, hB2, f2, hM2, r2, b2⟩ := start_ok hn hB1 (hL.f f1 rfl rfl)
          have fz : rvf [189000, 189022, 191] S1 (rv_sI S2 191 (133 + 6 * c) (nI w)) := f2.w rfl rfl
          have e133 : 132 + 6 * c + 1 = 133 + 6 * c := by omega
          refine ⟨nI 1, S1, _, own m c w, ?_, ?_, QS.two hV f1 fz rfl rfl rfl rfl hR1 (hM2.u _ _) b2 (own_okm hk h hw) (own_off m w (by omega)) (own_off m w (by omega)) (r2.u _ (by omega))⟩
          · simp (disch := first | assumption | omega) only [fnX12_steal, tk_gI, tk_gL, tk_gR, tk_pI, tk_pL, rv_aI, rv_aL, rv_aR, rv_uI, rv_uL, rv_uB, rv_uZ, pu_ckI, pu_ckL, pu_lnI, pu_lnL, tk_rI, tk_rL, Option.bind_some, Option.map_some, rv_lt, tk_ix, z0, z1, z2, z3, z4, z5, z6, z7, z8, z9, z10, z11, z12, z13, z15, z16, z17, z18, z20, z21, z23, z24, z25, z31, z32, z39, z40, z41, z46, z48, z50, z57, z59, z60, z61, z62, z63, z64, z97, z98, z99, z100, z101, z102, z103, z104, z105, z106, z107, z108, z109, z110, z111, z112, z113, z114, z115, z116, z117, z118, z119, z120, z121, z122, z128, z132, z200, z240, z255, z372, z390625, z400, z420, z421, z422, z662, z900, z940, z999, z1000, z1024, z2000, z5860, z10000, z12345, z15625, z266240, z1048575, z1064960, z1103515245, z_m1, n_le, n_lt, n_eq, n_bit0, n_bit1, n_sbit0, n_shl, z_ltM, z_Mlt, z_leM, z_Mle, z_eqM, z_Meq, bI0, bI1, bI_01, bI_01t, bI_10, bI_10f, if_true, if_false, eq_self, reduceCtorEq, if_pos, if_neg, hC, hVS, hFS, hPS, hP, k_isWho hB hR hk hw, k_isCoin hB hR hk h, k_isDead hFS hF hp hw, decide_eq_false cd]
            rw [eS1]
          · simp (disch := first | assumption | omega) only [fnX13_steal, tk_gI, tk_gL, tk_gR, tk_pI, tk_pL, rv_aI, rv_aL, rv_aR, rv_uI, rv_uL, rv_uB, rv_uZ, pu_ckI, pu_ckL, pu_lnI, pu_lnL, tk_rI, tk_rL, Option.bind_some, Option.map_some, rv_lt, tk_ix, z0, z1, z2, z3, z4, z5, z6, z7, z8, z9, z10, z11, z12, z13, z15, z16, z17, z18, z20, z21, z23, z24, z25, z31, z32, z39, z40, z41, z46, z48, z50, z57, z59, z60, z61, z62, z63, z64, z97, z98, z99, z100, z101, z102, z103, z104, z105, z106, z107, z108, z109, z110, z111, z112, z113, z114, z115, z116, z117, z118, z119, z120, z121, z122, z128, z132, z200, z240, z255, z372, z390625, z400, z420, z421, z422, z662, z900, z940, z999, z1000, z1024, z2000, z5860, z10000, z12345, z15625, z266240, z1048575, z1064960, z1103515245, z_m1, n_le, n_lt, n_eq, n_bit0, n_bit1, n_sbit0, n_shl, z_ltM, z_Mlt, z_leM, z_Mle, z_eqM, z_Meq, bI0, bI1, bI_01, bI_01t, bI_10, bI_10f, if_true, if_false, eq_self, reduceCtorEq, if_pos, if_neg, rc_189 hB1, e2, rc_189 hB2, m_isWho hB2 hM2 hp hw, m_isCoin hB2 hM2 hc h, m_ow hB2 hM2, m_isDead hB2 hM2 hp hw, decide_eq_false cd, rf_of hB2 (show (189, 14, 191) ∈ rv_rf0 by decide), rn_191 hB2, nI_add, z_mul, e133]
    · refine same (r := nI 0) ?_ ⟨S6, ?_, QS.s0 hV f6 hM6 r6 b6⟩
      · simp (disch := first | assumption | omega) only [fnX12_steal, tk_gI, tk_gL, tk_gR, tk_pI, tk_pL, rv_aI, rv_aL, rv_aR, rv_uI, rv_uL, rv_uB, rv_uZ, pu_ckI, pu_ckL, pu_lnI, pu_lnL, tk_rI, tk_rL, Option.bind_some, Option.map_some, rv_lt, tk_ix, z0, z1, z2, z3, z4, z5, z6, z7, z8, z9, z10, z11, z12, z13, z15, z16, z17, z18, z20, z21, z23, z24, z25, z31, z32, z39, z40, z41, z46, z48, z50, z57, z59, z60, z61, z62, z63, z64, z97, z98, z99, z100, z101, z102, z103, z104, z105, z106, z107, z108, z109, z110, z111, z112, z113, z114, z115, z116, z117, z118, z119, z120, z121, z122, z128, z132, z200, z240, z255, z372, z390625, z400, z420, z421, z422, z662, z900, z940, z999, z1000, z1024, z2000, z5860, z10000, z12345, z15625, z266240, z1048575, z1064960, z1103515245, z_m1, n_le, n_lt, n_eq, n_bit0, n_bit1, n_sbit0, n_shl, z_ltM, z_Mlt, z_leM, z_Mle, z_eqM, z_Meq, bI0, bI1, bI_01, bI_01t, bI_10, bI_10f, if_true, if_false, eq_self, reduceCtorEq, hC, k_isWho hB hR hk hw, k_isCoin0 hB hR hy]
      · simp (disch := first | assumption | omega) only [fnX13_steal, tk_gI, tk_gL, tk_gR, tk_pI, tk_pL, rv_aI, rv_aL, rv_aR, rv_uI, rv_uL, rv_uB, rv_uZ, pu_ckI, pu_ckL, pu_lnI, pu_lnL, tk_rI, tk_rL, Option.bind_some, Option.map_some, rv_lt, tk_ix, z0, z1, z2, z3, z4, z5, z6, z7, z8, z9, z10, z11, z12, z13, z15, z16, z17, z18, z20, z21, z23, z24, z25, z31, z32, z39, z40, z41, z46, z48, z50, z57, z59, z60, z61, z62, z63, z64, z97, z98, z99, z100, z101, z102, z103, z104, z105, z106, z107, z108, z109, z110, z111, z112, z113, z114, z115, z116, z117, z118, z119, z120, z121, z122, z128, z132, z200, z240, z255, z372, z390625, z400, z420, z421, z422, z662, z900, z940, z999, z1000, z1024, z2000, z5860, z10000, z12345, z15625, z266240, z1048575, z1064960, z1103515245, z_m1, n_le, n_lt, n_eq, n_bit0, n_bit1, n_sbit0, n_shl, z_ltM, z_Mlt, z_leM, z_Mle, z_eqM, z_Meq, bI0, bI1, bI_01, bI_01t, bI_10, bI_10f, if_true, if_false, eq_self, reduceCtorEq, rc_189 hB, e6, rc_189 hB6, m_isWho hB6 hM6 hp hw, m_isCoin0 hB6 hM6 hy]
  · refine same (r := nI 0) ?_ ⟨S6, ?_, QS.s0 hV f6 hM6 r6 b6⟩
    · simp (disch := first | assumption | omega) only [fnX12_steal, tk_gI, tk_gL, tk_gR, tk_pI, tk_pL, rv_aI, rv_aL, rv_aR, rv_uI, rv_uL, rv_uB, rv_uZ, pu_ckI, pu_ckL, pu_lnI, pu_lnL, tk_rI, tk_rL, Option.bind_some, Option.map_some, rv_lt, tk_ix, z0, z1, z2, z3, z4, z5, z6, z7, z8, z9, z10, z11, z12, z13, z15, z16, z17, z18, z20, z21, z23, z24, z25, z31, z32, z39, z40, z41, z46, z48, z50, z57, z59, z60, z61, z62, z63, z64, z97, z98, z99, z100, z101, z102, z103, z104, z105, z106, z107, z108, z109, z110, z111, z112, z113, z114, z115, z116, z117, z118, z119, z120, z121, z122, z128, z132, z200, z240, z255, z372, z390625, z400, z420, z421, z422, z662, z900, z940, z999, z1000, z1024, z2000, z5860, z10000, z12345, z15625, z266240, z1048575, z1064960, z1103515245, z_m1, n_le, n_lt, n_eq, n_bit0, n_bit1, n_sbit0, n_shl, z_ltM, z_Mlt, z_leM, z_Mle, z_eqM, z_Meq, bI0, bI1, bI_01, bI_01t, bI_10, bI_10f, if_true, if_false, eq_self, reduceCtorEq, hC, k_isWho0 hB hR hx]
    · simp (disch := first | assumption | omega) only [fnX13_steal, tk_gI, tk_gL, tk_gR, tk_pI, tk_pL, rv_aI, rv_aL, rv_aR, rv_uI, rv_uL, rv_uB, rv_uZ, pu_ckI, pu_ckL, pu_lnI, pu_lnL, tk_rI, tk_rL, Option.bind_some, Option.map_some, rv_lt, tk_ix, z0, z1, z2, z3, z4, z5, z6, z7, z8, z9, z10, z11, z12, z13, z15, z16, z17, z18, z20, z21, z23, z24, z25, z31, z32, z39, z40, z41, z46, z48, z50, z57, z59, z60, z61, z62, z63, z64, z97, z98, z99, z100, z101, z102, z103, z104, z105, z106, z107, z108, z109, z110, z111, z112, z113, z114, z115, z116, z117, z118, z119, z120, z121, z122, z128, z132, z200, z240, z255, z372, z390625, z400, z420, z421, z422, z662, z900, z940, z999, z1000, z1024, z2000, z5860, z10000, z12345, z15625, z266240, z1048575, z1064960, z1103515245, z_m1, n_le, n_lt, n_eq, n_bit0, n_bit1, n_sbit0, n_shl, z_ltM, z_Mlt, z_leM, z_Mle, z_eqM, z_Meq, bI0, bI1, bI_01, bI_01t, bI_10, bI_10f, if_true, if_false, eq_self, reduceCtorEq, rc_189 hB, e6, rc_189 hB6, m_isWho0 hB6 hM6 hx]
/-! a wedding -/
def wdd (m : Nat → Nat) (a b : Nat) : Nat → Nat := u1 (u1 m (9 + 5 * a) (b + 1)) (9 + 5 * b) (a + 1)
theorem wdd_off {a b k : Nat} (h1 : k ≠ 9 + 5 * a) (h2 : k ≠ 9 + 5 * b) : wdd m a b k = m k := by
  unfold wdd
  rw [u1_ne _ _ h2, u1_ne _ _ h1]
theorem wdd_mt {a b w : Nat} : mt (wdd m a b) w = if w = b then a + 1 else if w = a then b + 1 else mt m w := by
  show wdd m a b (9 + 5 * w) = _
  unfold wdd
  by_cases c1 : w = b
  · subst c1; rw [u1_eq, if_pos rfl]
  · rw [u1_ne _ _ (by omega), if_neg c1]
    by_cases c2 : w = a
    · subst c2; rw [u1_eq, if_pos rfl]
    · rw [u1_ne _ _ (by omega), if_neg c2]
theorem wdd_okm (hk : okm m) {a b : Nat} (ha : a < vW m) (hb : b < vW m) (hab : a ≠ b) (h1 : mt m a = 0) (h2 : mt m b = 0) : okm (wdd m a b) := by
  obtain ⟨hp, hc, hd⟩ := hk
  have h24 := hp.1
  have lo : ∀ k, k < 8 → wdd m a b k = m k := fun k hk => wdd_off (by omega) (by omega)
  have hi : ∀ k, 128 ≤ k → wdd m a b k = m k := fun k hk => wdd_off (by omega) (by omega)
  have e0 : vW (wdd m a b) = vW m := lo 0 (by decide)
  refine ⟨?_, hc.c e0 (lo 1 (by decide)) (lo 3 (by decide)) (fun k h1 h2 => hi k (by omega)), hd.c2 h24 lo (fun k h => hi k (by omega))⟩
  obtain ⟨q1, q2, q3, q4, q5, q6⟩ := hp
  refine ⟨by rw [e0]; exact q1, fun w hw => ?_, fun w hw => ?_, fun x y hx hy => ?_, fun v hv => ?_, fun x y hx hy => ?_⟩
  · rw [e0] at hw
    rw [show at_ (wdd m a b) w = at_ m w from wdd_off (by omega) (by omega)]; exact q2 w hw
  · rw [e0] at hw
    rw [e0, show de (wdd m a b) w = de m w from wdd_off (by omega) (by omega), show sg (wdd m a b) w = sg m w from wdd_off (by omega) (by omega)]
    refine ⟨?_, (q3 w hw).2⟩
    rw [wdd_mt]
    split
    · omega
    · split
      · omega
      · exact (q3 w hw).1
  · rw [e0] at hx hy
    rw [wdd_mt, wdd_mt]
    intro z
    by_cases c1 : x = b
    · rw [if_pos c1] at z
      have : y = a := by omega
      subst this
      rw [if_neg hab, if_pos rfl]
      omega
    · rw [if_neg c1] at z
      by_cases c2 : x = a
      · rw [if_pos c2] at z
        have : y = b := by omega
        subst this
        rw [if_pos rfl]
        omega
      · rw [if_neg c2] at z
        obtain ⟨z1, z2⟩ := q4 x y hx hy z
        have n1 : y ≠ b := fun e => by subst e; omega
        have n2 : y ≠ a := fun e => by subst e; omega
        rw [if_neg n1, if_neg n2]
        exact ⟨z1, z2⟩
  · rw [show rd (wdd m a b) v = rd m v from hi _ (by omega)]; exact q5 v hv
  · unfold nr
    rw [show rd (wdd m a b) x = rd m x from hi _ (by omega), show rd (wdd m a b) y = rd m y from hi _ (by omega)]; exact q6 x y hx hy
theorem k_isFree (hB : rv_B S) {f : Nat} (hf : fb f) (hF : FR S f m) (hp : okp m) {w : Nat} (hw : w < vW m) : fnX1_isFree n S f (nI w) = some (bI (!decide (0 < de m w) && decide (mt m w = 0))) := by
  have hFS := FS_of hB hf
  have h24 := hp.1
  have h1 := hs_lt hp hw
  have h2 : 2 ^ w < 2 ^ 24 := Nat.pow_lt_pow_right (by decide) (by omega)
  have e : (hs m w = 2 ^ w) = (mt m w = 0) := by
    rw [eq_iff_iff]
    constructor
    · intro z
      by_cases c : mt m w = 0
      · exact c
      · have := hs_bit m w (mt m w - 1)
        rw [z, Nat.testBit_two_pow] at this
        have hne : ¬ w = mt m w - 1 := fun q => by
          have hq : mt m w = w + 1 := by omega
          exact ((hp.2.2.2.1 w w hw hw hq).2 rfl)
        rw [decide_eq_false hne, decide_eq_true (show mt m w = mt m w - 1 + 1 by omega), Bool.or_true] at this
        cases this
    · intro z
      rw [hs, if_pos z]
  simp (disch := first | assumption | omega) only [fnX1_isFree, tk_gI, tk_gL, tk_gR, tk_pI, tk_pL, rv_aI, rv_aL, rv_aR, rv_uI, rv_uL, rv_uB, rv_uZ, pu_ckI, pu_ckL, pu_lnI, pu_lnL, tk_rI, tk_rL, Option.bind_some, Option.map_some, rv_lt, tk_ix, z0, z1, z2, z3, z4, z5, z6, z7, z8, z9, z10, z11, z12, z13, z15, z16, z17, z18, z20, z21, z23, z24, z25, z31, z32, z39, z40, z41, z46, z48, z50, z57, z59, z60, z61, z62, z63, z64, z97, z98, z99, z100, z101, z102, z103, z104, z105, z106, z107, z108, z109, z110, z111, z112, z113, z114, z115, z116, z117, z118, z119, z120, z121, z122, z128, z132, z200, z240, z255, z372, z390625, z400, z420, z421, z422, z662, z900, z940, z999, z1000, z1024, z2000, z5860, z10000, z12345, z15625, z266240, z1048575, z1064960, z1103515245, z_m1, n_le, n_lt, n_eq, n_bit0, n_bit1, n_sbit0, n_shl, z_ltM, z_Mlt, z_leM, z_Mle, z_eqM, z_Meq, bI0, bI1, bI_01, bI_01t, bI_10, bI_10f, if_true, if_false, eq_self, reduceCtorEq, hFS, hF, k_has hFS hF hp hw, k_isDead hFS hF hp hw, n_shl, e]
  by_cases c : 0 < de m w
  · rw [decide_eq_true c]; rfl
  · rw [decide_eq_false c]
    by_cases c2 : mt m w = 0
    · rw [if_pos c2, decide_eq_true c2]; rfl
    · rw [if_neg c2, decide_eq_false c2]; rfl
theorem wdd_hs {a b w : Nat} (hab : a ≠ b) (h1 : mt m a = 0) (h2 : mt m b = 0) : hs (wdd m a b) w = if w = b then hs m b ||| 2 ^ a else if w = a then hs m a ||| 2 ^ b else hs m w := by
  unfold hs
  rw [wdd_mt]
  by_cases c1 : w = b
  · subst c1
    rw [if_pos rfl, if_pos rfl, if_neg (by omega), h2, if_pos rfl]
    rfl
  · rw [if_neg c1, if_neg c1]
    by_cases c2 : w = a
    · subst c2
      rw [if_pos rfl, if_pos rfl, if_neg (by omega), h1, if_pos rfl]
      rfl
    · rw [if_neg c2, if_neg c2]
end
