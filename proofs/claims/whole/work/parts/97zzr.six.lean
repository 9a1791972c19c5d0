/-! THE CALLS THAT CHANGE: how many names there are does not change -/
section
variable {n : Nat} {S : rvS} {m m' : Nat → Nat} {wd : Nat → List Nat}
theorem op_pay6 (hn : 500 ≤ n) (hV : VI S m wd) (x y : Int32) : ∃ r S1 S' m', fnX12_pay n S 64 x y = some (r, S1) ∧ fnX13_pay n S1 189 x y = some (r, S') ∧ QS S S' m' wd ∧ m' 6 = m 6 := by
  obtain ⟨hB, hR, hL, hk, -⟩ := id hV; have hp := hk.1; have hc := hk.2.1; have hd := hk.2.2; obtain ⟨S6, e6, hB6, f6, hM6, r6, b6⟩ := start_ok hn hB hL; have hC := CS_of hB; have hv : vb 67 := Or.inl rfl; have hVS := VS_of hB hv; have hFS := FS_of hB hv.f; have hPS := PS_of hB hv.p; have h24 := hp.1; have h40 := hc.1; have n10 : 10 ≤ n := (by omega); have n50 : 50 ≤ n := (by omega)
  have same : ∀ {r : Int32}, fnX12_pay n S 64 x y = some (r, S) → (∃ S', fnX13_pay n S 189 x y = some (r, S') ∧ QS S S' m wd) → ∃ r S1 S' m', fnX12_pay n S 64 x y = some (r, S1) ∧ fnX13_pay n S1 189 x y = some (r, S') ∧ QS S S' m' wd ∧ m' 6 = m 6 := fun h1 ⟨S', h2, h3⟩ => ⟨_, S, S', m, h1, h2, h3, rfl⟩
  rcases rng x (N := vC m) (by omega) with ⟨c, h, rfl⟩ | hx
  · rcases rng y (N := vW m) (by omega) with ⟨w, hw, rfl⟩ | hy
    · have g1 := wy_le m (ow m c) (rl m c) w
      by_cases c1 : wy m (ow m c) (rl m c) w = 0
      · obtain ⟨hF, hP, hD⟩ := id hR
        have kw := k9_whyNot n10 hB hv hR hk h hw
        rw [c1] at kw
        have km := k_move (n := n) hPS hP hp hc h (nI w)
        have f1 : rvf [77, 78] S (rv_sI (rv_sI S (67 + 8 + 3) c (nI (rb (ps m (ow m c) (rl m c))))) (67 + 8 + 2) c (nI w)) := ((rvf.rf _ _).w rfl rfl).w rfl rfl
        have hP1 := mv_PR (w := w) hP hc h
        obtain ⟨S1, eS1⟩ : ∃ S1, S1 = rv_sI (rv_sI S (67 + 8 + 3) c (nI (rb (ps m (ow m c) (rl m c))))) (67 + 8 + 2) c (nI w) := ⟨_, rfl⟩
        rw [← eS1] at km f1 hP1
        have hB1 := f1.B hB
        obtain ⟨S2, e2, hB2, f2, hM2, r2, b2⟩ := start_ok hn hB1 (hL.f f1 rfl rfl)
        obtain ⟨S3, e3, f3, -⟩ := m_why n10 hB2 hM2 hp hc h hw
        have hB3 := f3.B hB2
        have hM3 := hM2.f f3 rfl
        rw [c1] at e3
        obtain ⟨S4, e4, f4, hM4, r4⟩ := m_goes n10 hB3 hM3 hc h w
        have fz : rvf [189000, 189022, 191, 199] S1 S4 := (f2.mono rfl).tr ((f3.mono rfl).tr (f4.mono rfl))
        have hb4 : ¬ S4.2.1 189 22 = 0 := by rw [f4.at (a := 189) (k := 22) rfl, f3.at (a := 189) (k := 22) rfl]; exact b2
        have q : CR S1 67 (mv m c w) := by
          have hCs : FR S1 (67 + 1) m ∧ DR S1 67 m := by
            rw [eS1]
            exact ⟨hF, hD⟩
          exact ⟨hCs.1.c hp (mv_lo w), hP1, hCs.2.c hd.1 (mv_lo w) (mv_hi (by omega) w)⟩
        refine ⟨nI 0, S1, S4, mv m c w, ?_, ?_, QS.two hV f1 fz rfl rfl rfl rfl q hM4 hb4 (mv_okm hk h hw) (mv_lo w 0 (by decide)) (mv_lo w 6 (by decide)) (r2.tr ((R42.of f3 rfl).tr r4)), mv_lo w 6 (by decide)⟩
        · simp (disch := first | assumption | omega) only [fnX12_pay, cX12_pay_29, tk_gI, tk_gL, tk_gR, tk_pI, tk_pL, rv_aI, rv_aL, rv_aR, rv_uI, rv_uL, rv_uB, rv_uZ, pu_ckI, pu_ckL, pu_lnI, pu_lnL, tk_rI, tk_rL, Option.bind_some, Option.map_some, rv_lt, tk_ix, z0, z1, z2, z3, z4, z5, z6, z7, z8, z9, z10, z11, z12, z13, z15, z16, z17, z18, z20, z21, z23, z24, z25, z31, z32, z39, z40, z41, z46, z48, z50, z57, z59, z60, z61, z62, z63, z64, z97, z98, z99, z100, z101, z102, z103, z104, z105, z106, z107, z108, z109, z110, z111, z112, z113, z114, z115, z116, z117, z118, z119, z120, z121, z122, z128, z132, z200, z240, z255, z372, z390625, z400, z420, z421, z422, z662, z900, z940, z999, z1000, z1024, z2000, z5860, z10000, z12345, z15625, z266240, z1048575, z1064960, z1103515245, z_m1, n_le, n_lt, n_eq, n_bit0, n_bit1, n_sbit0, n_shl, z_ltM, z_Mlt, z_leM, z_Mle, z_eqM, z_Meq, bI0, bI1, bI_01, bI_01t, bI_10, bI_10f, if_true, if_false, eq_self, reduceCtorEq, if_pos, if_neg, hC, hVS, hPS, k_isCoin hB hR hk h, k_isWho hB hR hk hw, kw, km]
        · simp (disch := first | assumption | omega) only [fnX13_pay, tk_gI, tk_gL, tk_gR, tk_pI, tk_pL, rv_aI, rv_aL, rv_aR, rv_uI, rv_uL, rv_uB, rv_uZ, pu_ckI, pu_ckL, pu_lnI, pu_lnL, tk_rI, tk_rL, Option.bind_some, Option.map_some, rv_lt, tk_ix, z0, z1, z2, z3, z4, z5, z6, z7, z8, z9, z10, z11, z12, z13, z15, z16, z17, z18, z20, z21, z23, z24, z25, z31, z32, z39, z40, z41, z46, z48, z50, z57, z59, z60, z61, z62, z63, z64, z97, z98, z99, z100, z101, z102, z103, z104, z105, z106, z107, z108, z109, z110, z111, z112, z113, z114, z115, z116, z117, z118, z119, z120, z121, z122, z128, z132, z200, z240, z255, z372, z390625, z400, z420, z421, z422, z662, z900, z940, z999, z1000, z1024, z2000, z5860, z10000, z12345, z15625, z266240, z1048575, z1064960, z1103515245, z_m1, n_le, n_lt, n_eq, n_bit0, n_bit1, n_sbit0, n_shl, z_ltM, z_Mlt, z_leM, z_Mle, z_eqM, z_Meq, bI0, bI1, bI_01, bI_01t, bI_10, bI_10f, if_true, if_false, eq_self, reduceCtorEq, if_pos, if_neg, rc_189 hB1, e2, rc_189 hB2, m_isCoin hB2 hM2 hc h, m_isWho hB2 hM2 hp hw, e3, bp_s, rc_189 hB3, e4]
      · obtain ⟨S', e, f, -⟩ := m_why n10 hB6 hM6 hp hc h hw
        refine same (r := nI (wy m (ow m c) (rl m c) w)) ?_ ⟨S', ?_, QS.st hV f6 hM6 r6 b6 f⟩
        · simp (disch := first | assumption | omega) only [fnX12_pay, cX12_pay_29, tk_gI, tk_gL, tk_gR, tk_pI, tk_pL, rv_aI, rv_aL, rv_aR, rv_uI, rv_uL, rv_uB, rv_uZ, pu_ckI, pu_ckL, pu_lnI, pu_lnL, tk_rI, tk_rL, Option.bind_some, Option.map_some, rv_lt, tk_ix, z0, z1, z2, z3, z4, z5, z6, z7, z8, z9, z10, z11, z12, z13, z15, z16, z17, z18, z20, z21, z23, z24, z25, z31, z32, z39, z40, z41, z46, z48, z50, z57, z59, z60, z61, z62, z63, z64, z97, z98, z99, z100, z101, z102, z103, z104, z105, z106, z107, z108, z109, z110, z111, z112, z113, z114, z115, z116, z117, z118, z119, z120, z121, z122, z128, z132, z200, z240, z255, z372, z390625, z400, z420, z421, z422, z662, z900, z940, z999, z1000, z1024, z2000, z5860, z10000, z12345, z15625, z266240, z1048575, z1064960, z1103515245, z_m1, n_le, n_lt, n_eq, n_bit0, n_bit1, n_sbit0, n_shl, z_ltM, z_Mlt, z_leM, z_Mle, z_eqM, z_Meq, bI0, bI1, bI_01, bI_01t, bI_10, bI_10f, if_true, if_false, eq_self, reduceCtorEq, hC, hVS, k_isCoin hB hR hk h, k_isWho hB hR hk hw, k9_whyNot n10 hB hv hR hk h hw, if_neg c1]
        · simp (disch := first | assumption | omega) only [fnX13_pay, tk_gI, tk_gL, tk_gR, tk_pI, tk_pL, rv_aI, rv_aL, rv_aR, rv_uI, rv_uL, rv_uB, rv_uZ, pu_ckI, pu_ckL, pu_lnI, pu_lnL, tk_rI, tk_rL, Option.bind_some, Option.map_some, rv_lt, tk_ix, z0, z1, z2, z3, z4, z5, z6, z7, z8, z9, z10, z11, z12, z13, z15, z16, z17, z18, z20, z21, z23, z24, z25, z31, z32, z39, z40, z41, z46, z48, z50, z57, z59, z60, z61, z62, z63, z64, z97, z98, z99, z100, z101, z102, z103, z104, z105, z106, z107, z108, z109, z110, z111, z112, z113, z114, z115, z116, z117, z118, z119, z120, z121, z122, z128, z132, z200, z240, z255, z372, z390625, z400, z420, z421, z422, z662, z900, z940, z999, z1000, z1024, z2000, z5860, z10000, z12345, z15625, z266240, z1048575, z1064960, z1103515245, z_m1, n_le, n_lt, n_eq, n_bit0, n_bit1, n_sbit0, n_shl, z_ltM, z_Mlt, z_leM, z_Mle, z_eqM, z_Meq, bI0, bI1, bI_01, bI_01t, bI_10, bI_10f, if_true, if_false, eq_self, reduceCtorEq, rc_189 hB, e6, rc_189 hB6, m_isCoin hB6 hM6 hc h, m_isWho hB6 hM6 hp hw, e, bp_s, if_neg c1]
    · refine same (r := iM) ?_ ⟨S6, ?_, QS.s0 hV f6 hM6 r6 b6⟩
      · simp (disch := first | assumption | omega) only [fnX12_pay, cX12_pay_28, cX12_pay_29, tk_gI, tk_gL, tk_gR, tk_pI, tk_pL, rv_aI, rv_aL, rv_aR, rv_uI, rv_uL, rv_uB, rv_uZ, pu_ckI, pu_ckL, pu_lnI, pu_lnL, tk_rI, tk_rL, Option.bind_some, Option.map_some, rv_lt, tk_ix, z0, z1, z2, z3, z4, z5, z6, z7, z8, z9, z10, z11, z12, z13, z15, z16, z17, z18, z20, z21, z23, z24, z25, z31, z32, z39, z40, z41, z46, z48, z50, z57, z59, z60, z61, z62, z63, z64, z97, z98, z99, z100, z101, z102, z103, z104, z105, z106, z107, z108, z109, z110, z111, z112, z113, z114, z115, z116, z117, z118, z119, z120, z121, z122, z128, z132, z200, z240, z255, z372, z390625, z400, z420, z421, z422, z662, z900, z940, z999, z1000, z1024, z2000, z5860, z10000, z12345, z15625, z266240, z1048575, z1064960, z1103515245, z_m1, n_le, n_lt, n_eq, n_bit0, n_bit1, n_sbit0, n_shl, z_ltM, z_Mlt, z_leM, z_Mle, z_eqM, z_Meq, bI0, bI1, bI_01, bI_01t, bI_10, bI_10f, if_true, if_false, eq_self, reduceCtorEq, hC, k_isCoin hB hR hk h, k_isWho0 hB hR hy]
      · simp (disch := first | assumption | omega) only [fnX13_pay, tk_gI, tk_gL, tk_gR, tk_pI, tk_pL, rv_aI, rv_aL, rv_aR, rv_uI, rv_uL, rv_uB, rv_uZ, pu_ckI, pu_ckL, pu_lnI, pu_lnL, tk_rI, tk_rL, Option.bind_some, Option.map_some, rv_lt, tk_ix, z0, z1, z2, z3, z4, z5, z6, z7, z8, z9, z10, z11, z12, z13, z15, z16, z17, z18, z20, z21, z23, z24, z25, z31, z32, z39, z40, z41, z46, z48, z50, z57, z59, z60, z61, z62, z63, z64, z97, z98, z99, z100, z101, z102, z103, z104, z105, z106, z107, z108, z109, z110, z111, z112, z113, z114, z115, z116, z117, z118, z119, z120, z121, z122, z128, z132, z200, z240, z255, z372, z390625, z400, z420, z421, z422, z662, z900, z940, z999, z1000, z1024, z2000, z5860, z10000, z12345, z15625, z266240, z1048575, z1064960, z1103515245, z_m1, n_le, n_lt, n_eq, n_bit0, n_bit1, n_sbit0, n_shl, z_ltM, z_Mlt, z_leM, z_Mle, z_eqM, z_Meq, bI0, bI1, bI_01, bI_01t, bI_10, bI_10f, if_true, if_false, eq_self, reduceCtorEq, rc_189 hB, e6, rc_189 hB6, m_isCoin hB6 hM6 hc h, m_isWho0 hB6 hM6 hy]
  · refine same (r := iM) ?_ ⟨S6, ?_, QS.s0 hV f6 hM6 r6 b6⟩
    · simp (disch := first | assumption | omega) only [fnX12_pay, cX12_pay_28, cX12_pay_29, tk_gI, tk_gL, tk_gR, tk_pI, tk_pL, rv_aI, rv_aL, rv_aR, rv_uI, rv_uL, rv_uB, rv_uZ, pu_ckI, pu_ckL, pu_lnI, pu_lnL, tk_rI, tk_rL, Option.bind_some, Option.map_some, rv_lt, tk_ix, z0, z1, z2, z3, z4, z5, z6, z7, z8, z9, z10, z11, z12, z13, z15, z16, z17, z18, z20, z21, z23, z24, z25, z31, z32, z39, z40, z41, z46, z48, z50, z57, z59, z60, z61, z62, z63, z64, z97, z98, z99, z100, z101, z102, z103, z104, z105, z106, z107, z108, z109, z110, z111, z112, z113, z114, z115, z116, z117, z118, z119, z120, z121, z122, z128, z132, z200, z240, z255, z372, z390625, z400, z420, z421, z422, z662, z900, z940, z999, z1000, z1024, z2000, z5860, z10000, z12345, z15625, z266240, z1048575, z1064960, z1103515245, z_m1, n_le, n_lt, n_eq, n_bit0, n_bit1, n_sbit0, n_shl, z_ltM, z_Mlt, z_leM, z_Mle, z_eqM, z_Meq, bI0, bI1, bI_01, bI_01t, bI_10, bI_10f, if_true, if_false, eq_self, reduceCtorEq, hC, k_isCoin0 hB hR hx]
    · simp (disch := first | assumption | omega) only [fnX13_pay, tk_gI, tk_gL, tk_gR, tk_pI, tk_pL, rv_aI, rv_aL, rv_aR, rv_uI, rv_uL, rv_uB, rv_uZ, pu_ckI, pu_ckL, pu_lnI, pu_lnL, tk_rI, tk_rL, Option.bind_some, Option.map_some, rv_lt, tk_ix, z0, z1, z2, z3, z4, z5, z6, z7, z8, z9, z10, z11, z12, z13, z15, z16, z17, z18, z20, z21, z23, z24, z25, z31, z32, z39, z40, z41, z46, z48, z50, z57, z59, z60, z61, z62, z63, z64, z97, z98, z99, z100, z101, z102, z103, z104, z105, z106, z107, z108, z109, z110, z111, z112, z113, z114, z115, z116, z117, z118, z119, z120, z121, z122, z128, z132, z200, z240, z255, z372, z390625, z400, z420, z421, z422, z662, z900, z940, z999, z1000, z1024, z2000, z5860, z10000, z12345, z15625, z266240, z1048575, z1064960, z1103515245, z_m1, n_le, n_lt, n_eq, n_bit0, n_bit1, n_sbit0, n_shl, z_ltM, z_Mlt, z_leM, z_Mle, z_eqM, z_Meq, bI0, bI1, bI_01, bI_01t, bI_10, bI_10f, if_true, if_false, eq_self, reduceCtorEq, rc_189 hB, e6, rc_189 hB6, m_isCoin0 hB6 hM6 hx]
end
section
variable {n : Nat} {S : rvS} {m m' : Nat → Nat} {wd : Nat → List Nat}
theorem op_road6 (hn : 500 ≤ n) (hV : VI S m wd) (x y : Int32) : ∃ r S1 S' m', fnX12_road n S 64 x y = some (r, S1) ∧ fnX13_road n S1 189 x y = some (r, S') ∧ QS S S' m' wd ∧ m' 6 = m 6 := by
  obtain ⟨hB, hR, hL, hk, -⟩ := id hV; have hp := hk.1; have hc := hk.2.1; have hd := hk.2.2; obtain ⟨S6, e6, hB6, f6, hM6, r6, b6⟩ := start_ok hn hB hL; have hC := CS_of hB; have hv : vb 67 := Or.inl rfl; have hVS := VS_of hB hv; have hFS := FS_of hB hv.f; have hPS := PS_of hB hv.p; have h24 := hp.1; have h40 := hc.1; have n10 : 10 ≤ n := (by omega); have n50 : 50 ≤ n := (by omega)
  obtain ⟨hF, hP, hD⟩ := id hR
  have same : ∀ {r : Int32}, fnX12_road n S 64 x y = some (r, S) → (∃ S', fnX13_road n S 189 x y = some (r, S') ∧ QS S S' m wd) → ∃ r S1 S' m', fnX12_road n S 64 x y = some (r, S1) ∧ fnX13_road n S1 189 x y = some (r, S') ∧ QS S S' m' wd ∧ m' 6 = m 6 := fun h1 ⟨S', h2, h3⟩ => ⟨_, S, S', m, h1, h2, h3, rfl⟩
  rcases rng x (N := 4) (by omega) with ⟨a, ha, rfl⟩ | hx
  · rcases rng y (N := 4) (by omega) with ⟨b, hb, rfl⟩ | hy
    · cases cn : nr m a b
      · have hab : a ≠ b := fun z => by
          subst z
          have := (hp.2.2.2.2.1 a ha).2
          unfold nr at cn
          rw [this] at cn
          cases cn
        have ka := k_areNear (n := n) hFS hF hp ha hb
        rw [cn] at ka
        obtain ⟨S1, e1, f1, g1⟩ := k_join n50 hB hv.f hF hp ha hb hab
        have f1 : rvf [73, 74] S S1 := f1
        have hB1 := f1.B hB
        obtain ⟨S2, e2, hB2, f2, hM2, r2, b2⟩ := start_ok hn hB1 (hL.f f1 rfl rfl)
        have kn := m_near (n := n) hB2 hM2 hp ha hb
        rw [cn] at kn
        have q1 : S2.2.1 191 (128 + a) = nI (rd m a) := hM2 _ (by omega)
        have q2 : (rv_sI S2 191 (128 + a) (nI (rd m a ||| 2 ^ b))).2.1 191 (128 + b) = nI (rd m b) := by rw [rv_sI_k _ _ (by omega)]; exact hM2 _ (by omega)
        have fz : rvf [189000, 189022, 191] S1 (rv_sI (rv_sI S2 191 (128 + a) (nI (rd m a ||| 2 ^ b))) 191 (128 + b) (nI (rd m b ||| 2 ^ a))) := (f2.w rfl rfl).w rfl rfl
        refine ⟨nI 1, S1, _, jn m a b, ?_, ?_, QS.two hV f1 fz rfl rfl rfl rfl ?_ ((hM2.u _ _).u _ _) b2 (jn_okm hk ha hb hab) (jn_off (by omega) ha hb) (jn_off (by omega) ha hb) ((r2.u _ (by omega)).u _ (by omega)), jn_off (by omega) ha hb⟩
        · simp (disch := first | assumption | omega) only [fnX12_road, tk_gI, tk_gL, tk_gR, tk_pI, tk_pL, rv_aI, rv_aL, rv_aR, rv_uI, rv_uL, rv_uB, rv_uZ, pu_ckI, pu_ckL, pu_lnI, pu_lnL, tk_rI, tk_rL, Option.bind_some, Option.map_some, rv_lt, tk_ix, z0, z1, z2, z3, z4, z5, z6, z7, z8, z9, z10, z11, z12, z13, z15, z16, z17, z18, z20, z21, z23, z24, z25, z31, z32, z39, z40, z41, z46, z48, z50, z57, z59, z60, z61, z62, z63, z64, z97, z98, z99, z100, z101, z102, z103, z104, z105, z106, z107, z108, z109, z110, z111, z112, z113, z114, z115, z116, z117, z118, z119, z120, z121, z122, z128, z132, z200, z240, z255, z372, z390625, z400, z420, z421, z422, z662, z900, z940, z999, z1000, z1024, z2000, z5860, z10000, z12345, z15625, z266240, z1048575, z1064960, z1103515245, z_m1, n_le, n_lt, n_eq, n_bit0, n_bit1, n_sbit0, n_shl, z_ltM, z_Mlt, z_leM, z_Mle, z_eqM, z_Meq, bI0, bI1, bI_01, bI_01t, bI_10, bI_10f, if_true, if_false, eq_self, reduceCtorEq, if_pos, if_neg, hC, hVS, hFS, k_isVillage ha, k_isVillage hb, ka, e1]
        · simp (disch := first | assumption | omega) only [fnX13_road, tk_gI, tk_gL, tk_gR, tk_pI, tk_pL, rv_aI, rv_aL, rv_aR, rv_uI, rv_uL, rv_uB, rv_uZ, pu_ckI, pu_ckL, pu_lnI, pu_lnL, tk_rI, tk_rL, Option.bind_some, Option.map_some, rv_lt, tk_ix, z0, z1, z2, z3, z4, z5, z6, z7, z8, z9, z10, z11, z12, z13, z15, z16, z17, z18, z20, z21, z23, z24, z25, z31, z32, z39, z40, z41, z46, z48, z50, z57, z59, z60, z61, z62, z63, z64, z97, z98, z99, z100, z101, z102, z103, z104, z105, z106, z107, z108, z109, z110, z111, z112, z113, z114, z115, z116, z117, z118, z119, z120, z121, z122, z128, z132, z200, z240, z255, z372, z390625, z400, z420, z421, z422, z662, z900, z940, z999, z1000, z1024, z2000, z5860, z10000, z12345, z15625, z266240, z1048575, z1064960, z1103515245, z_m1, n_le, n_lt, n_eq, n_bit0, n_bit1, n_sbit0, n_shl, z_ltM, z_Mlt, z_leM, z_Mle, z_eqM, z_Meq, bI0, bI1, bI_01, bI_01t, bI_10, bI_10f, if_true, if_false, eq_self, reduceCtorEq, if_pos, if_neg, rc_189 hB1, e2, rc_189 hB2, m_isV ha, m_isV hb, kn, rf_of hB2 (show (189, 14, 191) ∈ rv_rf0 by decide), rn_191 hB2, nI_add, q1, q2, n_shl, fa_or]
        · have qC : CR S1 67 m → CR S1 67 (jn m a b) := fun z => ⟨g1, z.2.1.c h40 (jn_off (by omega) ha hb) (jn_off (by omega) ha hb) (fun k h1 h2 => jn_off (by omega) ha hb), z.2.2.c2 (jn_off (by omega) ha hb) (jn_off (by omega) ha hb) (jn_off (by omega) ha hb) (fun k h1 => jn_off (by omega) ha hb)⟩
          have p1 : ∀ k, S1.2.1 (67 + 8) k = S.2.1 (67 + 8) k := f1.row rfl rfl
          have p2 : ∀ k, S1.2.1 (67 + 8 + 1) k = S.2.1 (67 + 8 + 1) k := f1.row rfl rfl
          have p3 : ∀ k, S1.2.1 (67 + 8 + 2) k = S.2.1 (67 + 8 + 2) k := f1.row rfl rfl
          have p4 : ∀ k, S1.2.1 (67 + 8 + 3) k = S.2.1 (67 + 8 + 3) k := f1.row rfl rfl
          have d0 : ∀ k, S1.2.1 67 k = S.2.1 67 k := f1.row rfl rfl
          have d1 : ∀ k, S1.2.1 (67 + 17) k = S.2.1 (67 + 17) k := f1.row rfl rfl
          have d2 : ∀ k, S1.2.1 (67 + 18) k = S.2.1 (67 + 18) k := f1.row rfl rfl
          have d3 : ∀ k, S1.2.1 (67 + 19) k = S.2.1 (67 + 19) k := f1.row rfl rfl
          obtain ⟨b1, b2, b3, b4, b5⟩ := hP
          obtain ⟨c1, c2, c3, c4, c5, c6, c7⟩ := hD
          have hP1 : PR S1 (67 + 8) m := ⟨(p1 _).trans b1, (p1 _).trans b2, fun c h => (p2 c).trans (b3 c h), fun c h => (p3 c).trans (b4 c h), fun c h => (p4 c).trans (b5 c h)⟩
          have hD1 : DR S1 67 m := ⟨(d0 _).trans c1, (d0 _).trans c2, (d0 _).trans c3, (d0 _).trans c4, fun c h => (d1 c).trans (c5 c h), fun c h => (d2 c).trans (c6 c h), fun c h => (d3 c).trans (c7 c h)⟩
          exact ⟨g1, hP1.c h40 (jn_off (by omega) ha hb) (jn_off (by omega) ha hb) (fun k h1 h2 => jn_off (by omega) ha hb), hD1.c2 (jn_off (by omega) ha hb) (jn_off (by omega) ha hb) (jn_off (by omega) ha hb) (fun k h1 => jn_off (by omega) ha hb)⟩
      · have ka := k_areNear (n := n) hFS hF hp ha hb
        rw [cn] at ka
        have kn := m_near (n := n) hB6 hM6 hp ha hb
        rw [cn] at kn
        refine same (r := nI 0) ?_ ⟨S6, ?_, QS.s0 hV f6 hM6 r6 b6⟩
        · simp (disch := first | assumption | omega) only [fnX12_road, tk_gI, tk_gL, tk_gR, tk_pI, tk_pL, rv_aI, rv_aL, rv_aR, rv_uI, rv_uL, rv_uB, rv_uZ, pu_ckI, pu_ckL, pu_lnI, pu_lnL, tk_rI, tk_rL, Option.bind_some, Option.map_some, rv_lt, tk_ix, z0, z1, z2, z3, z4, z5, z6, z7, z8, z9, z10, z11, z12, z13, z15, z16, z17, z18, z20, z21, z23, z24, z25, z31, z32, z39, z40, z41, z46, z48, z50, z57, z59, z60, z61, z62, z63, z64, z97, z98, z99, z100, z101, z102, z103, z104, z105, z106, z107, z108, z109, z110, z111, z112, z113, z114, z115, z116, z117, z118, z119, z120, z121, z122, z128, z132, z200, z240, z255, z372, z390625, z400, z420, z421, z422, z662, z900, z940, z999, z1000, z1024, z2000, z5860, z10000, z12345, z15625, z266240, z1048575, z1064960, z1103515245, z_m1, n_le, n_lt, n_eq, n_bit0, n_bit1, n_sbit0, n_shl, z_ltM, z_Mlt, z_leM, z_Mle, z_eqM, z_Meq, bI0, bI1, bI_01, bI_01t, bI_10, bI_10f, if_true, if_false, eq_self, reduceCtorEq, if_pos, if_neg, hC, hVS, hFS, k_isVillage ha, k_isVillage hb, ka]
        · simp (disch := first | assumption | omega) only [fnX13_road, tk_gI, tk_gL, tk_gR, tk_pI, tk_pL, rv_aI, rv_aL, rv_aR, rv_uI, rv_uL, rv_uB, rv_uZ, pu_ckI, pu_ckL, pu_lnI, pu_lnL, tk_rI, tk_rL, Option.bind_some, Option.map_some, rv_lt, tk_ix, z0, z1, z2, z3, z4, z5, z6, z7, z8, z9, z10, z11, z12, z13, z15, z16, z17, z18, z20, z21, z23, z24, z25, z31, z32, z39, z40, z41, z46, z48, z50, z57, z59, z60, z61, z62, z63, z64, z97, z98, z99, z100, z101, z102, z103, z104, z105, z106, z107, z108, z109, z110, z111, z112, z113, z114, z115, z116, z117, z118, z119, z120, z121, z122, z128, z132, z200, z240, z255, z372, z390625, z400, z420, z421, z422, z662, z900, z940, z999, z1000, z1024, z2000, z5860, z10000, z12345, z15625, z266240, z1048575, z1064960, z1103515245, z_m1, n_le, n_lt, n_eq, n_bit0, n_bit1, n_sbit0, n_shl, z_ltM, z_Mlt, z_leM, z_Mle, z_eqM, z_Meq, bI0, bI1, bI_01, bI_01t, bI_10, bI_10f, if_true, if_false, eq_self, reduceCtorEq, if_pos, if_neg, rc_189 hB, e6, rc_189 hB6, m_isV ha, m_isV hb, kn]
    · refine same (r := nI 0) ?_ ⟨S6, ?_, QS.s0 hV f6 hM6 r6 b6⟩
      · simp (disch := first | assumption | omega) only [fnX12_road, tk_gI, tk_gL, tk_gR, tk_pI, tk_pL, rv_aI, rv_aL, rv_aR, rv_uI, rv_uL, rv_uB, rv_uZ, pu_ckI, pu_ckL, pu_lnI, pu_lnL, tk_rI, tk_rL, Option.bind_some, Option.map_some, rv_lt, tk_ix, z0, z1, z2, z3, z4, z5, z6, z7, z8, z9, z10, z11, z12, z13, z15, z16, z17, z18, z20, z21, z23, z24, z25, z31, z32, z39, z40, z41, z46, z48, z50, z57, z59, z60, z61, z62, z63, z64, z97, z98, z99, z100, z101, z102, z103, z104, z105, z106, z107, z108, z109, z110, z111, z112, z113, z114, z115, z116, z117, z118, z119, z120, z121, z122, z128, z132, z200, z240, z255, z372, z390625, z400, z420, z421, z422, z662, z900, z940, z999, z1000, z1024, z2000, z5860, z10000, z12345, z15625, z266240, z1048575, z1064960, z1103515245, z_m1, n_le, n_lt, n_eq, n_bit0, n_bit1, n_sbit0, n_shl, z_ltM, z_Mlt, z_leM, z_Mle, z_eqM, z_Meq, bI0, bI1, bI_01, bI_01t, bI_10, bI_10f, if_true, if_false, eq_self, reduceCtorEq, k_isVillage ha, k_isV0 hy]
      · simp (disch := first | assumption | omega) only [fnX13_road, tk_gI, tk_gL, tk_gR, tk_pI, tk_pL, rv_aI, rv_aL, rv_aR, rv_uI, rv_uL, rv_uB, rv_uZ, pu_ckI, pu_ckL, pu_lnI, pu_lnL, tk_rI, tk_rL, Option.bind_some, Option.map_some, rv_lt, tk_ix, z0, z1, z2, z3, z4, z5, z6, z7, z8, z9, z10, z11, z12, z13, z15, z16, z17, z18, z20, z21, z23, z24, z25, z31, z32, z39, z40, z41, z46, z48, z50, z57, z59, z60, z61, z62, z63, z64, z97, z98, z99, z100, z101, z102, z103, z104, z105, z106, z107, z108, z109, z110, z111, z112, z113, z114, z115, z116, z117, z118, z119, z120, z121, z122, z128, z132, z200, z240, z255, z372, z390625, z400, z420, z421, z422, z662, z900, z940, z999, z1000, z1024, z2000, z5860, z10000, z12345, z15625, z266240, z1048575, z1064960, z1103515245, z_m1, n_le, n_lt, n_eq, n_bit0, n_bit1, n_sbit0, n_shl, z_ltM, z_Mlt, z_leM, z_Mle, z_eqM, z_Meq, bI0, bI1, bI_01, bI_01t, bI_10, bI_10f, if_true, if_false, eq_self, reduceCtorEq, rc_189 hB, e6, rc_189 hB6, m_isV ha, m_isV0 hy]
  · refine same (r := nI 0) ?_ ⟨S6, ?_, QS.s0 hV f6 hM6 r6 b6⟩
    · simp (disch := first | assumption | omega) only [fnX12_road, tk_gI, tk_gL, tk_gR, tk_pI, tk_pL, rv_aI, rv_aL, rv_aR, rv_uI, rv_uL, rv_uB, rv_uZ, pu_ckI, pu_ckL, pu_lnI, pu_lnL, tk_rI, tk_rL, Option.bind_some, Option.map_some, rv_lt, tk_ix, z0, z1, z2, z3, z4, z5, z6, z7, z8, z9, z10, z11, z12, z13, z15, z16, z17, z18, z20, z21, z23, z24, z25, z31, z32, z39, z40, z41, z46, z48, z50, z57, z59, z60, z61, z62, z63, z64, z97, z98, z99, z100, z101, z102, z103, z104, z105, z106, z107, z108, z109, z110, z111, z112, z113, z114, z115, z116, z117, z118, z119, z120, z121, z122, z128, z132, z200, z240, z255, z372, z390625, z400, z420, z421, z422, z662, z900, z940, z999, z1000, z1024, z2000, z5860, z10000, z12345, z15625, z266240, z1048575, z1064960, z1103515245, z_m1, n_le, n_lt, n_eq, n_bit0, n_bit1, n_sbit0, n_shl, z_ltM, z_Mlt, z_leM, z_Mle, z_eqM, z_Meq, bI0, bI1, bI_01, bI_01t, bI_10, bI_10f, if_true, if_false, eq_self, reduceCtorEq, k_isV0 hx]
    · simp (disch := first | assumption | omega) only [fnX13_road, tk_gI, tk_gL, tk_gR, tk_pI, tk_pL, rv_aI, rv_aL, rv_aR, rv_uI, rv_uL, rv_uB, rv_uZ, pu_ckI, pu_ckL, pu_lnI, pu_lnL, tk_rI, tk_rL, Option.bind_some, Option.map_some, rv_lt, tk_ix, z0, z1, z2, z3, z4, z5, z6, z7, z8, z9, z10, z11, z12, z13, z15, z16, z17, z18, z20, z21, z23, z24, z25, z31, z32, z39, z40, z41, z46, z48, z50, z57, z59, z60, z61, z62, z63, z64, z97, z98, z99, z100, z101, z102, z103, z104, z105, z106, z107, z108, z109, z110, z111, z112, z113, z114, z115, z116, z117, z118, z119, z120, z121, z122, z128, z132, z200, z240, z255, z372, z390625, z400, z420, z421, z422, z662, z900, z940, z999, z1000, z1024, z2000, z5860, z10000, z12345, z15625, z266240, z1048575, z1064960, z1103515245, z_m1, n_le, n_lt, n_eq, n_bit0, n_bit1, n_sbit0, n_shl, z_ltM, z_Mlt, z_leM, z_Mle, z_eqM, z_Meq, bI0, bI1, bI_01, bI_01t, bI_10, bI_10f, if_true, if_false, eq_self, reduceCtorEq, rc_189 hB, e6, rc_189 hB6, m_isV0 hx]
end
section
variable {n : Nat} {S : rvS} {m m' : Nat → Nat} {wd : Nat → List Nat}
theorem op_steal6 (hn : 500 ≤ n) (hV : VI S m wd) (x y : Int32) : ∃ r S1 S' m', fnX12_steal n S 64 x y = some (r, S1) ∧ fnX13_steal n S1 189 x y = some (r, S') ∧ QS S S' m' wd ∧ m' 6 = m 6 := by
  obtain ⟨hB, hR, hL, hk, -⟩ := id hV; have hp := hk.1; have hc := hk.2.1; have hd := hk.2.2; obtain ⟨S6, e6, hB6, f6, hM6, r6, b6⟩ := start_ok hn hB hL; have hC := CS_of hB; have hv : vb 67 := Or.inl rfl; have hVS := VS_of hB hv; have hFS := FS_of hB hv.f; have hPS := PS_of hB hv.p; have h24 := hp.1; have h40 := hc.1; have n10 : 10 ≤ n := (by omega); have n50 : 50 ≤ n := (by omega)
  obtain ⟨hF, hP, hD⟩ := id hR
  have same : ∀ {r : Int32}, fnX12_steal n S 64 x y = some (r, S) → (∃ S', fnX13_steal n S 189 x y = some (r, S') ∧ QS S S' m wd) → ∃ r S1 S' m', fnX12_steal n S 64 x y = some (r, S1) ∧ fnX13_steal n S1 189 x y = some (r, S') ∧ QS S S' m' wd ∧ m' 6 = m 6 := fun h1 ⟨S', h2, h3⟩ => ⟨_, S, S', m, h1, h2, h3, rfl⟩
  rcases rng x (N := vW m) (by omega) with ⟨w, hw, rfl⟩ | hx
  · rcases rng y (N := vC m) (by omega) with ⟨c, h, rfl⟩ | hy
    · have ho := (hc.2.2 c h).2.2.1
      by_cases cd : 0 < de m w
      · refine same (r := nI 0) ?_ ⟨S6, ?_, QS.s0 hV f6 hM6 r6 b6⟩
        · simp (disch := first | assumption | omega) only [fnX12_steal, tk_gI, tk_gL, tk_gR, tk_pI, tk_pL, rv_aI, rv_aL, rv_aR, rv_uI, rv_uL, rv_uB, rv_uZ, pu_ckI, pu_ckL, pu_lnI, pu_lnL, tk_rI, tk_rL, Option.bind_some, Option.map_some, rv_lt, tk_ix, z0, z1, z2, z3, z4, z5, z6, z7, z8, z9, z10, z11, z12, z13, z15, z16, z17, z18, z20, z21, z23, z24, z25, z31, z32, z39, z40, z41, z46, z48, z50, z57, z59, z60, z61, z62, z63, z64, z97, z98, z99, z100, z101, z102, z103, z104, z105, z106, z107, z108, z109, z110, z111, z112, z113, z114, z115, z116, z117, z118, z119, z120, z121, z122, z128, z132, z200, z240, z255, z372, z390625, z400, z420, z421, z422, z662, z900, z940, z999, z1000, z1024, z2000, z5860, z10000, z12345, z15625, z266240, z1048575, z1064960, z1103515245, z_m1, n_le, n_lt, n_eq, n_bit0, n_bit1, n_sbit0, n_shl, z_ltM, z_Mlt, z_leM, z_Mle, z_eqM, z_Meq, bI0, bI1, bI_01, bI_01t, bI_10, bI_10f, if_true, if_false, eq_self, reduceCtorEq, hC, hVS, hFS, k_isWho hB hR hk hw, k_isCoin hB hR hk h, k_isDead hFS hF hp hw, decide_eq_true cd]
        · simp (disch := first | assumption | omega) only [fnX13_steal, tk_gI, tk_gL, tk_gR, tk_pI, tk_pL, rv_aI, rv_aL, rv_aR, rv_uI, rv_uL, rv_uB, rv_uZ, pu_ckI, pu_ckL, pu_lnI, pu_lnL, tk_rI, tk_rL, Option.bind_some, Option.map_some, rv_lt, tk_ix, z0, z1, z2, z3, z4, z5, z6, z7, z8, z9, z10, z11, z12, z13, z15, z16, z17, z18, z20, z21, z23, z24, z25, z31, z32, z39, z40, z41, z46, z48, z50, z57, z59, z60, z61, z62, z63, z64, z97, z98, z99, z100, z101, z102, z103, z104, z105, z106, z107, z108, z109, z110, z111, z112, z113, z114, z115, z116, z117, z118, z119, z120, z121, z122, z128, z132, z200, z240, z255, z372, z390625, z400, z420, z421, z422, z662, z900, z940, z999, z1000, z1024, z2000, z5860, z10000, z12345, z15625, z266240, z1048575, z1064960, z1103515245, z_m1, n_le, n_lt, n_eq, n_bit0, n_bit1, n_sbit0, n_shl, z_ltM, z_Mlt, z_leM, z_Mle, z_eqM, z_Meq, bI0, bI1, bI_01, bI_01t, bI_10, bI_10f, if_true, if_false, eq_self, reduceCtorEq, rc_189 hB, e6, rc_189 hB6, m_isWho hB6 hM6 hp hw, m_isCoin hB6 hM6 hc h, m_ow hB6 hM6, m_isDead hB6 hM6 hp hw, decide_eq_true cd, ite_self]
      · by_cases co : ow m c = w
        · refine same (r := nI 0) ?_ ⟨S6, ?_, QS.s0 hV f6 hM6 r6 b6⟩
          · simp (disch := first | assumption | omega) only [fnX12_steal, tk_gI, tk_gL, tk_gR, tk_pI, tk_pL, rv_aI, rv_aL, rv_aR, rv_uI, rv_uL, rv_uB, rv_uZ, pu_ckI, pu_ckL, pu_lnI, pu_lnL, tk_rI, tk_rL, Option.bind_some, Option.map_some, rv_lt, tk_ix, z0, z1, z2, z3, z4, z5, z6, z7, z8, z9, z10, z11, z12, z13, z15, z16, z17, z18, z20, z21, z23, z24, z25, z31, z32, z39, z40, z41, z46, z48, z50, z57, z59, z60, z61, z62, z63, z64, z97, z98, z99, z100, z101, z102, z103, z104, z105, z106, z107, z108, z109, z110, z111, z112, z113, z114, z115, z116, z117, z118, z119, z120, z121, z122, z128, z132, z200, z240, z255, z372, z390625, z400, z420, z421, z422, z662, z900, z940, z999, z1000, z1024, z2000, z5860, z10000, z12345, z15625, z266240, z1048575, z1064960, z1103515245, z_m1, n_le, n_lt, n_eq, n_bit0, n_bit1, n_sbit0, n_shl, z_ltM, z_Mlt, z_leM, z_Mle, z_eqM, z_Meq, bI0, bI1, bI_01, bI_01t, bI_10, bI_10f, if_true, if_false, eq_self, reduceCtorEq, if_pos, if_neg, hC, hVS, hFS, hPS, hP, k_isWho hB hR hk hw, k_isCoin hB hR hk h, k_isDead hFS hF hp hw, decide_eq_false cd]
          · simp (disch := first | assumption | omega) only [fnX13_steal, tk_gI, tk_gL, tk_gR, tk_pI, tk_pL, rv_aI, rv_aL, rv_aR, rv_uI, rv_uL, rv_uB, rv_uZ, pu_ckI, pu_ckL, pu_lnI, pu_lnL, tk_rI, tk_rL, Option.bind_some, Option.map_some, rv_lt, tk_ix, z0, z1, z2, z3, z4, z5, z6, z7, z8, z9, z10, z11, z12, z13, z15, z16, z17, z18, z20, z21, z23, z24, z25, z31, z32, z39, z40, z41, z46, z48, z50, z57, z59, z60, z61, z62, z63, z64, z97, z98, z99, z100, z101, z102, z103, z104, z105, z106, z107, z108, z109, z110, z111, z112, z113, z114, z115, z116, z117, z118, z119, z120, z121, z122, z128, z132, z200, z240, z255, z372, z390625, z400, z420, z421, z422, z662, z900, z940, z999, z1000, z1024, z2000, z5860, z10000, z12345, z15625, z266240, z1048575, z1064960, z1103515245, z_m1, n_le, n_lt, n_eq, n_bit0, n_bit1, n_sbit0, n_shl, z_ltM, z_Mlt, z_leM, z_Mle, z_eqM, z_Meq, bI0, bI1, bI_01, bI_01t, bI_10, bI_10f, if_true, if_false, eq_self, reduceCtorEq, if_pos, if_neg, rc_189 hB, e6, rc_189 hB6, m_isWho hB6 hM6 hp hw, m_isCoin hB6 hM6 hc h, m_ow hB6 hM6]
        · have f1 : rvf [77] S (rv_sI S 77 c (nI w)) := rvf.sIr S c _ rfl
          have hR1 := own_CR (w := w) hR hk h
          obtain ⟨S1, eS1⟩ : ∃ S1, S1 = rv_sI S 77 c (nI w) := ⟨_, rfl⟩
          rw [← eS1] at f1 hR1
          have hB1 := f1.B hB
          obtain ⟨S2, e2, hB2, f2, hM2, r2, b2⟩ := start_ok hn hB1 (hL.f f1 rfl rfl)
          have fz : rvf [189000, 189022, 191] S1 (rv_sI S2 191 (133 + 6 * c) (nI w)) := f2.w rfl rfl
          have e133 : 132 + 6 * c + 1 = 133 + 6 * c := by omega
          refine ⟨nI 1, S1, _, own m c w, ?_, ?_, QS.two hV f1 fz rfl rfl rfl rfl hR1 (hM2.u _ _) b2 (own_okm hk h hw) (own_off m w (by omega)) (own_off m w (by omega)) (r2.u _ (by omega)), own_off m w (by omega)⟩
          · simp (disch := first | assumption | omega) only [fnX12_steal, tk_gI, tk_gL, tk_gR, tk_pI, tk_pL, rv_aI, rv_aL, rv_aR, rv_uI, rv_uL, rv_uB, rv_uZ, pu_ckI, pu_ckL, pu_lnI, pu_lnL, tk_rI, tk_rL, Option.bind_some, Option.map_some, rv_lt, tk_ix, z0, z1, z2, z3, z4, z5, z6, z7, z8, z9, z10, z11, z12, z13, z15, z16, z17, z18, z20, z21, z23, z24, z25, z31, z32, z39, z40, z41, z46, z48, z50, z57, z59, z60, z61, z62, z63, z64, z97, z98, z99, z100, z101, z102, z103, z104, z105, z106, z107, z108, z109, z110, z111, z112, z113, z114, z115, z116, z117, z118, z119, z120, z121, z122, z128, z132, z200, z240, z255, z372, z390625, z400, z420, z421, z422, z662, z900, z940, z999, z1000, z1024, z2000, z5860, z10000, z12345, z15625, z266240, z1048575, z1064960, z1103515245, z_m1, n_le, n_lt, n_eq, n_bit0, n_bit1, n_sbit0, n_shl, z_ltM, z_Mlt, z_leM, z_Mle, z_eqM, z_Meq, bI0, bI1, bI_01, bI_01t, bI_10, bI_10f, if_true, if_false, eq_self, reduceCtorEq, if_pos, if_neg, hC, hVS, hFS, hPS, hP, k_isWho hB hR hk hw, k_isCoin hB hR hk h, k_isDead hFS hF hp hw, decide_eq_false cd]
            rw [eS1]
          · simp (disch := first | assumption | omega) only [fnX13_steal, tk_gI, tk_gL, tk_gR, tk_pI, tk_pL, rv_aI, rv_aL, rv_aR, rv_uI, rv_uL, rv_uB, rv_uZ, pu_ckI, pu_ckL, pu_lnI, pu_lnL, tk_rI, tk_rL, Option.bind_some, Option.map_some, rv_lt, tk_ix, z0, z1, z2, z3, z4, z5, z6, z7, z8, z9, z10, z11, z12, z13, z15, z16, z17, z18, z20, z21, z23, z24, z25, z31, z32, z39, z40, z41, z46, z48, z50, z57, z59, z60, z61, z62, z63, z64, z97, z98, z99, z100, z101, z102, z103, z104, z105, z106, z107, z108, z109, z110, z111, z112, z113, z114, z115, z116, z117, z118, z119, z120, z121, z122, z128, z132, z200, z240, z255, z372, z390625, z400, z420, z421, z422, z662, z900, z940, z999, z1000, z1024, z2000, z5860, z10000, z12345, z15625, z266240, z1048575, z1064960, z1103515245, z_m1, n_le, n_lt, n_eq, n_bit0, n_bit1, n_sbit0, n_shl, z_ltM, z_Mlt, z_leM, z_Mle, z_eqM, z_Meq, bI0, bI1, bI_01, bI_01t, bI_10, bI_10f, if_true, if_false, eq_self, reduceCtorEq, if_pos, if_neg, rc_189 hB1, e2, rc_189 hB2, m_isWho hB2 hM2 hp hw, m_isCoin hB2 hM2 hc h, m_ow hB2 hM2, m_isDead hB2 hM2 hp hw, decide_eq_false cd, rf_of hB2 (show (189, 14, 191) ∈ rv_rf0 by decide), rn_191 hB2, nI_add, z_mul, e133]
    · refine same (r := nI 0) ?_ ⟨S6, ?_, QS.s0 hV f6 hM6 r6 b6⟩
      · simp (disch := first | assumption | omega) only [fnX12_steal, tk_gI, tk_gL, tk_gR, tk_pI, tk_pL, rv_aI, rv_aL, rv_aR, rv_uI, rv_uL, rv_uB, rv_uZ, pu_ckI, pu_ckL, pu_lnI, pu_lnL, tk_rI, tk_rL, Option.bind_some, Option.map_some, rv_lt, tk_ix, z0, z1, z2, z3, z4, z5, z6, z7, z8, z9, z10, z11, z12, z13, z15, z16, z17, z18, z20, z21, z23, z24, z25, z31, z32, z39, z40, z41, z46, z48, z50, z57, z59, z60, z61, z62, z63, z64, z97, z98, z99, z100, z101, z102, z103, z104, z105, z106, z107, z108, z109, z110, z111, z112, z113, z114, z115, z116, z117, z118, z119, z120, z121, z122, z128, z132, z200, z240, z255, z372, z390625, z400, z420, z421, z422, z662, z900, z940, z999, z1000, z1024, z2000, z5860, z10000, z12345, z15625, z266240, z1048575, z1064960, z1103515245, z_m1, n_le, n_lt, n_eq, n_bit0, n_bit1, n_sbit0, n_shl, z_ltM, z_Mlt, z_leM, z_Mle, z_eqM, z_Meq, bI0, bI1, bI_01, bI_01t, bI_10, bI_10f, if_true, if_false, eq_self, reduceCtorEq, hC, k_isWho hB hR hk hw, k_isCoin0 hB hR hy]
      · simp (disch := first | assumption | omega) only [fnX13_steal, tk_gI, tk_gL, tk_gR, tk_pI, tk_pL, rv_aI, rv_aL, rv_aR, rv_uI, rv_uL, rv_uB, rv_uZ, pu_ckI, pu_ckL, pu_lnI, pu_lnL, tk_rI, tk_rL, Option.bind_some, Option.map_some, rv_lt, tk_ix, z0, z1, z2, z3, z4, z5, z6, z7, z8, z9, z10, z11, z12, z13, z15, z16, z17, z18, z20, z21, z23, z24, z25, z31, z32, z39, z40, z41, z46, z48, z50, z57, z59, z60, z61, z62, z63, z64, z97, z98, z99, z100, z101, z102, z103, z104, z105, z106, z107, z108, z109, z110, z111, z112, z113, z114, z115, z116, z117, z118, z119, z120, z121, z122, z128, z132, z200, z240, z255, z372, z390625, z400, z420, z421, z422, z662, z900, z940, z999, z1000, z1024, z2000, z5860, z10000, z12345, z15625, z266240, z1048575, z1064960, z1103515245, z_m1, n_le, n_lt, n_eq, n_bit0, n_bit1, n_sbit0, n_shl, z_ltM, z_Mlt, z_leM, z_Mle, z_eqM, z_Meq, bI0, bI1, bI_01, bI_01t, bI_10, bI_10f, if_true, if_false, eq_self, reduceCtorEq, rc_189 hB, e6, rc_189 hB6, m_isWho hB6 hM6 hp hw, m_isCoin0 hB6 hM6 hy]
  · refine same (r := nI 0) ?_ ⟨S6, ?_, QS.s0 hV f6 hM6 r6 b6⟩
    · simp (disch := first | assumption | omega) only [fnX12_steal, tk_gI, tk_gL, tk_gR, tk_pI, tk_pL, rv_aI, rv_aL, rv_aR, rv_uI, rv_uL, rv_uB, rv_uZ, pu_ckI, pu_ckL, pu_lnI, pu_lnL, tk_rI, tk_rL, Option.bind_some, Option.map_some, rv_lt, tk_ix, z0, z1, z2, z3, z4, z5, z6, z7, z8, z9, z10, z11, z12, z13, z15, z16, z17, z18, z20, z21, z23, z24, z25, z31, z32, z39, z40, z41, z46, z48, z50, z57, z59, z60, z61, z62, z63, z64, z97, z98, z99, z100, z101, z102, z103, z104, z105, z106, z107, z108, z109, z110, z111, z112, z113, z114, z115, z116, z117, z118, z119, z120, z121, z122, z128, z132, z200, z240, z255, z372, z390625, z400, z420, z421, z422, z662, z900, z940, z999, z1000, z1024, z2000, z5860, z10000, z12345, z15625, z266240, z1048575, z1064960, z1103515245, z_m1, n_le, n_lt, n_eq, n_bit0, n_bit1, n_sbit0, n_shl, z_ltM, z_Mlt, z_leM, z_Mle, z_eqM, z_Meq, bI0, bI1, bI_01, bI_01t, bI_10, bI_10f, if_true, if_false, eq_self, reduceCtorEq, hC, k_isWho0 hB hR hx]
    · simp (disch := first | assumption | omega) only [fnX13_steal, tk_gI, tk_gL, tk_gR, tk_pI, tk_pL, rv_aI, rv_aL, rv_aR, rv_uI, rv_uL, rv_uB, rv_uZ, pu_ckI, pu_ckL, pu_lnI, pu_lnL, tk_rI, tk_rL, Option.bind_some, Option.map_some, rv_lt, tk_ix, z0, z1, z2, z3, z4, z5, z6, z7, z8, z9, z10, z11, z12, z13, z15, z16, z17, z18, z20, z21, z23, z24, z25, z31, z32, z39, z40, z41, z46, z48, z50, z57, z59, z60, z61, z62, z63, z64, z97, z98, z99, z100, z101, z102, z103, z104, z105, z106, z107, z108, z109, z110, z111, z112, z113, z114, z115, z116, z117, z118, z119, z120, z121, z122, z128, z132, z200, z240, z255, z372, z390625, z400, z420, z421, z422, z662, z900, z940, z999, z1000, z1024, z2000, z5860, z10000, z12345, z15625, z266240, z1048575, z1064960, z1103515245, z_m1, n_le, n_lt, n_eq, n_bit0, n_bit1, n_sbit0, n_shl, z_ltM, z_Mlt, z_leM, z_Mle, z_eqM, z_Meq, bI0, bI1, bI_01, bI_01t, bI_10, bI_10f, if_true, if_false, eq_self, reduceCtorEq, rc_189 hB, e6, rc_189 hB6, m_isWho0 hB6 hM6 hx]
end
section
variable {n : Nat} {S : rvS} {m m' : Nat → Nat} {wd : Nat → List Nat}
theorem op_wed6 (hn : 500 ≤ n) (hV : VI S m wd) (x y : Int32) : ∃ r S1 S' m', fnX12_wed n S 64 x y = some (r, S1) ∧ fnX13_wed n S1 189 x y = some (r, S') ∧ QS S S' m' wd ∧ m' 6 = m 6 := by
  obtain ⟨hB, hR, hL, hk, -⟩ := id hV; have hp := hk.1; have hc := hk.2.1; have hd := hk.2.2; obtain ⟨S6, e6, hB6, f6, hM6, r6, b6⟩ := start_ok hn hB hL; have hC := CS_of hB; have hv : vb 67 := Or.inl rfl; have hVS := VS_of hB hv; have hFS := FS_of hB hv.f; have hPS := PS_of hB hv.p; have h24 := hp.1; have h40 := hc.1; have n10 : 10 ≤ n := (by omega); have n50 : 50 ≤ n := (by omega)
  obtain ⟨hF, hP, hD⟩ := id hR
  have same : ∀ {r : Int32}, fnX12_wed n S 64 x y = some (r, S) → (∃ S', fnX13_wed n S 189 x y = some (r, S') ∧ QS S S' m wd) → ∃ r S1 S' m', fnX12_wed n S 64 x y = some (r, S1) ∧ fnX13_wed n S1 189 x y = some (r, S') ∧ QS S S' m' wd ∧ m' 6 = m 6 := fun h1 ⟨S', h2, h3⟩ => ⟨_, S, S', m, h1, h2, h3, rfl⟩
  rcases rng x (N := vW m) (by omega) with ⟨a, ha, rfl⟩ | hx
  · rcases rng y (N := vW m) (by omega) with ⟨b, hb, rfl⟩ | hy
    · have ka := k_isFree (n := n) hB hv.f hF hp ha
      have kb := k_isFree (n := n) hB hv.f hF hp hb
      have ta := (hp.2.2.1 a ha).1
      have tb := (hp.2.2.1 b hb).1
      by_cases cab : a = b
      · refine same (r := nI 0) ?_ ⟨S6, ?_, QS.s0 hV f6 hM6 r6 b6⟩
        · simp (disch := first | assumption | omega) only [fnX12_wed, tk_gI, tk_gL, tk_gR, tk_pI, tk_pL, rv_aI, rv_aL, rv_aR, rv_uI, rv_uL, rv_uB, rv_uZ, pu_ckI, pu_ckL, pu_lnI, pu_lnL, tk_rI, tk_rL, Option.bind_some, Option.map_some, rv_lt, tk_ix, z0, z1, z2, z3, z4, z5, z6, z7, z8, z9, z10, z11, z12, z13, z15, z16, z17, z18, z20, z21, z23, z24, z25, z31, z32, z39, z40, z41, z46, z48, z50, z57, z59, z60, z61, z62, z63, z64, z97, z98, z99, z100, z101, z102, z103, z104, z105, z106, z107, z108, z109, z110, z111, z112, z113, z114, z115, z116, z117, z118, z119, z120, z121, z122, z128, z132, z200, z240, z255, z372, z390625, z400, z420, z421, z422, z662, z900, z940, z999, z1000, z1024, z2000, z5860, z10000, z12345, z15625, z266240, z1048575, z1064960, z1103515245, z_m1, n_le, n_lt, n_eq, n_bit0, n_bit1, n_sbit0, n_shl, z_ltM, z_Mlt, z_leM, z_Mle, z_eqM, z_Meq, bI0, bI1, bI_01, bI_01t, bI_10, bI_10f, if_true, if_false, eq_self, reduceCtorEq, if_pos, if_neg, hC, k_isWho hB hR hk ha, k_isWho hB hR hk hb]
        · simp (disch := first | assumption | omega) only [fnX13_wed, tk_gI, tk_gL, tk_gR, tk_pI, tk_pL, rv_aI, rv_aL, rv_aR, rv_uI, rv_uL, rv_uB, rv_uZ, pu_ckI, pu_ckL, pu_lnI, pu_lnL, tk_rI, tk_rL, Option.bind_some, Option.map_some, rv_lt, tk_ix, z0, z1, z2, z3, z4, z5, z6, z7, z8, z9, z10, z11, z12, z13, z15, z16, z17, z18, z20, z21, z23, z24, z25, z31, z32, z39, z40, z41, z46, z48, z50, z57, z59, z60, z61, z62, z63, z64, z97, z98, z99, z100, z101, z102, z103, z104, z105, z106, z107, z108, z109, z110, z111, z112, z113, z114, z115, z116, z117, z118, z119, z120, z121, z122, z128, z132, z200, z240, z255, z372, z390625, z400, z420, z421, z422, z662, z900, z940, z999, z1000, z1024, z2000, z5860, z10000, z12345, z15625, z266240, z1048575, z1064960, z1103515245, z_m1, n_le, n_lt, n_eq, n_bit0, n_bit1, n_sbit0, n_shl, z_ltM, z_Mlt, z_leM, z_Mle, z_eqM, z_Meq, bI0, bI1, bI_01, bI_01t, bI_10, bI_10f, if_true, if_false, eq_self, reduceCtorEq, if_pos, if_neg, rc_189 hB, e6, rc_189 hB6, m_isWho hB6 hM6 hp ha, m_isWho hB6 hM6 hp hb]
      · by_cases ok : (¬ 0 < de m a ∧ mt m a = 0) ∧ ¬ 0 < de m b ∧ mt m b = 0
        · obtain ⟨⟨a1, a2⟩, b1, b2⟩ := ok
          rw [decide_eq_false a1, decide_eq_true a2] at ka
          rw [decide_eq_false b1, decide_eq_true b2] at kb
          obtain ⟨S1, eS1⟩ : ∃ S1, S1 = rv_sI (rv_sI S (67 + 1 + 2) a (nI (hs m a ||| 2 ^ b))) (67 + 1 + 2) b (nI (hs m b ||| 2 ^ a)) := ⟨_, rfl⟩
          have f1 : rvf [70] S S1 := by
            rw [eS1]
            exact ((rvf.rf _ _).w rfl rfl).w rfl rfl
          have hB1 := f1.B hB
          have lo : ∀ k, k < 8 → wdd m a b k = m k := fun k hk => wdd_off (by omega) (by omega)
          have hi : ∀ k, 128 ≤ k → wdd m a b k = m k := fun k hk => wdd_off (by omega) (by omega)
          have e0 : vW (wdd m a b) = vW m := lo 0 (by decide)
          have hR1 : CR S1 67 (wdd m a b) := by
            rw [eS1]
            obtain ⟨q1, q2, q3, q4, q5, q6, q7, q8⟩ := hF
            have hP1 : PR (rv_sI (rv_sI S (67 + 1 + 2) a (nI (hs m a ||| 2 ^ b))) (67 + 1 + 2) b (nI (hs m b ||| 2 ^ a))) (67 + 8) m := hP
            have hD1 : DR (rv_sI (rv_sI S (67 + 1 + 2) a (nI (hs m a ||| 2 ^ b))) (67 + 1 + 2) b (nI (hs m b ||| 2 ^ a))) 67 m := hD
            refine ⟨⟨?_, ?_, ?_, fun w hw => ?_, fun w hw => ?_, fun w hw => ?_, fun j hj => ?_, fun j hj => ?_⟩, hP1.c h40 (lo 1 (by decide)) (lo 3 (by decide)) (fun k h1 h2 => hi k (by omega)), hD1.c2 (lo 2 (by decide)) (lo 4 (by decide)) (lo 5 (by decide)) (fun k h => hi k (by omega))⟩
            · rw [e0]; exact q1
            · rw [e0]
              exact q2.trans (congrArg nI (bs_cong fun w hw => by rw [show de (wdd m a b) w = de m w from wdd_off (by omega) (by omega)]))
            · rw [e0]
              exact q3.trans (congrArg nI (bs_cong fun w hw => by rw [show sg (wdd m a b) w = sg m w from wdd_off (by omega) (by omega)]))
            · rw [e0] at hw; rw [show at_ (wdd m a b) w = at_ m w from wdd_off (by omega) (by omega)]; exact q4 w hw
            · rw [e0] at hw
              rw [wdd_hs cab a2 b2]
              by_cases c1 : w = b
              · subst c1; rw [rv_sI_eq, if_pos rfl]
              · rw [rv_sI_k _ _ c1, if_neg c1]
                by_cases c2 : w = a
                · subst c2; rw [rv_sI_eq, if_pos rfl]
                · rw [rv_sI_k _ _ c2, if_neg c2]; exact q5 w hw
            · rw [e0] at hw; rw [show ea (wdd m a b) w = ea m w from wdd_off (by omega) (by omega)]; exact q6 w hw
            · rw [show rd (wdd m a b) j = rd m j from hi _ (by omega)]; exact q7 j hj
            · refine (q8 j hj).trans ?_
              unfold rc
              rw [e0]
              exact congrArg nI (bs_cong fun w hw => by
                unfold nr
                rw [show at_ (wdd m a b) w = at_ m w from wdd_off (by omega) (by omega), show de (wdd m a b) w = de m w from wdd_off (by omega) (by omega), show rd (wdd m a b) j = rd m j from hi _ (by omega)])
          obtain ⟨S2, e2, hB2, f2, hM2, r2, bb2⟩ := start_ok hn hB1 (hL.f f1 rfl rfl)
          have fz : rvf [189000, 189022, 191] S1 (rv_sI (rv_sI S2 191 (9 + 5 * a) (nI (b + 1))) 191 (9 + 5 * b) (nI (a + 1))) := (f2.w rfl rfl).w rfl rfl
          have ea9 : 8 + 5 * a + 1 = 9 + 5 * a := by omega
          have eb9 : 8 + 5 * b + 1 = 9 + 5 * b := by omega
          have rb : (rv_sI S (67 + 1 + 2) a (nI (hs m a ||| 2 ^ b))).2.1 (67 + 1 + 2) b = nI (hs m b) := by
            rw [rv_sI_k _ _ (fun z => cab z.symm)]
            exact hF.2.2.2.2.1 b hb
          refine ⟨nI 1, S1, _, wdd m a b, ?_, ?_, QS.two hV f1 fz rfl rfl rfl rfl hR1 ((hM2.u _ _).u _ _) bb2 (wdd_okm hk ha hb cab a2 b2) (lo 0 (by decide)) (lo 6 (by decide)) ((r2.u _ (by omega)).u _ (by omega)), lo 6 (by decide)⟩
          · simp (disch := first | assumption | omega) only [fnX12_wed, fnX1_marry, tk_gI, tk_gL, tk_gR, tk_pI, tk_pL, rv_aI, rv_aL, rv_aR, rv_uI, rv_uL, rv_uB, rv_uZ, pu_ckI, pu_ckL, pu_lnI, pu_lnL, tk_rI, tk_rL, Option.bind_some, Option.map_some, rv_lt, tk_ix, z0, z1, z2, z3, z4, z5, z6, z7, z8, z9, z10, z11, z12, z13, z15, z16, z17, z18, z20, z21, z23, z24, z25, z31, z32, z39, z40, z41, z46, z48, z50, z57, z59, z60, z61, z62, z63, z64, z97, z98, z99, z100, z101, z102, z103, z104, z105, z106, z107, z108, z109, z110, z111, z112, z113, z114, z115, z116, z117, z118, z119, z120, z121, z122, z128, z132, z200, z240, z255, z372, z390625, z400, z420, z421, z422, z662, z900, z940, z999, z1000, z1024, z2000, z5860, z10000, z12345, z15625, z266240, z1048575, z1064960, z1103515245, z_m1, n_le, n_lt, n_eq, n_bit0, n_bit1, n_sbit0, n_shl, z_ltM, z_Mlt, z_leM, z_Mle, z_eqM, z_Meq, bI0, bI1, bI_01, bI_01t, bI_10, bI_10f, if_true, if_false, eq_self, reduceCtorEq, if_pos, if_neg, hC, hVS, hFS, k_isWho hB hR hk ha, k_isWho hB hR hk hb, ka, kb, k_has hFS hF hp ha, k_has hFS hF hp hb, hF, Bool.not_false, Bool.and_true, n_shl, fa_or, rb]
            rw [eS1]
          · rw [fnX13_wed]
            repeat (first | (conv => (lhs; arg 1; simp (disch := first | assumption | omega) only [tk_gI, tk_gL, tk_gR, tk_pI, tk_pL, rv_aI, rv_aL, rv_aR, rv_uI, rv_uL, rv_uB, rv_uZ, pu_ckI, pu_ckL, pu_lnI, pu_lnL, tk_rI, tk_rL, Option.bind_some, Option.map_some, rv_lt, tk_ix, z0, z1, z2, z3, z4, z5, z6, z7, z8, z9, z10, z11, z12, z13, z15, z16, z17, z18, z20, z21, z23, z24, z25, z31, z32, z39, z40, z41, z46, z48, z50, z57, z59, z60, z61, z62, z63, z64, z97, z98, z99, z100, z101, z102, z103, z104, z105, z106, z107, z108, z109, z110, z111, z112, z113, z114, z115, z116, z117, z118, z119, z120, z121, z122, z128, z132, z200, z240, z255, z372, z390625, z400, z420, z421, z422, z662, z900, z940, z999, z1000, z1024, z2000, z5860, z10000, z12345, z15625, z266240, z1048575, z1064960, z1103515245, z_m1, n_le, n_lt, n_eq, n_bit0, n_bit1, n_sbit0, n_shl, z_ltM, z_Mlt, z_leM, z_Mle, z_eqM, z_Meq, bI0, bI1, bI_01, bI_01t, bI_10, bI_10f, if_true, if_false, eq_self, reduceCtorEq, if_pos, if_neg, rc_189 hB1, e2, rc_189 hB2, m_isWho hB2 hM2 hp ha, m_isWho hB2 hM2 hp hb, m_isDead hB2 hM2 hp ha, m_isDead hB2 hM2 hp hb, decide_eq_false a1, decide_eq_false b1, cab, m_mt hB2 hM2, a2, b2, Nat.lt_irrefl, Nat.le_refl, rf_of hB2 (show (189, 14, 191) ∈ rv_rf0 by decide), rn_191 hB2, nI_add, z_mul, ea9, eb9])); first | rw [Option.bind_some] | rw [bp_s] | rw [if_true] | rw [if_false] | rw [rv_lt_eq] | rw [if_pos (by omega)] | rw [if_neg (by omega)])
            rw [z1]
        · refine same (r := nI 0) ?_ ⟨S6, ?_, QS.s0 hV f6 hM6 r6 b6⟩
          · simp (disch := first | assumption | omega) only [fnX12_wed, tk_gI, tk_gL, tk_gR, tk_pI, tk_pL, rv_aI, rv_aL, rv_aR, rv_uI, rv_uL, rv_uB, rv_uZ, pu_ckI, pu_ckL, pu_lnI, pu_lnL, tk_rI, tk_rL, Option.bind_some, Option.map_some, rv_lt, tk_ix, z0, z1, z2, z3, z4, z5, z6, z7, z8, z9, z10, z11, z12, z13, z15, z16, z17, z18, z20, z21, z23, z24, z25, z31, z32, z39, z40, z41, z46, z48, z50, z57, z59, z60, z61, z62, z63, z64, z97, z98, z99, z100, z101, z102, z103, z104, z105, z106, z107, z108, z109, z110, z111, z112, z113, z114, z115, z116, z117, z118, z119, z120, z121, z122, z128, z132, z200, z240, z255, z372, z390625, z400, z420, z421, z422, z662, z900, z940, z999, z1000, z1024, z2000, z5860, z10000, z12345, z15625, z266240, z1048575, z1064960, z1103515245, z_m1, n_le, n_lt, n_eq, n_bit0, n_bit1, n_sbit0, n_shl, z_ltM, z_Mlt, z_leM, z_Mle, z_eqM, z_Meq, bI0, bI1, bI_01, bI_01t, bI_10, bI_10f, if_true, if_false, eq_self, reduceCtorEq, hC, hVS, hFS, k_isWho hB hR hk ha, k_isWho hB hR hk hb, ka, kb, if_neg cab]
            by_cases g1 : 0 < de m a
            · simp [g1]
            · by_cases g2 : mt m a = 0
              · by_cases g3 : 0 < de m b
                · simp [g1, g2, g3]
                · have g4 : ¬ mt m b = 0 := fun z => ok ⟨⟨g1, g2⟩, g3, z⟩
                  simp [g1, g2, g3, g4]
              · simp [g1, g2]
          · rw [fnX13_wed]
            by_cases g1 : 0 < de m a
            · repeat (first | (conv => (lhs; arg 1; simp (disch := first | assumption | omega) only [tk_gI, tk_gL, tk_gR, tk_pI, tk_pL, rv_aI, rv_aL, rv_aR, rv_uI, rv_uL, rv_uB, rv_uZ, pu_ckI, pu_ckL, pu_lnI, pu_lnL, tk_rI, tk_rL, Option.bind_some, Option.map_some, rv_lt, tk_ix, z0, z1, z2, z3, z4, z5, z6, z7, z8, z9, z10, z11, z12, z13, z15, z16, z17, z18, z20, z21, z23, z24, z25, z31, z32, z39, z40, z41, z46, z48, z50, z57, z59, z60, z61, z62, z63, z64, z97, z98, z99, z100, z101, z102, z103, z104, z105, z106, z107, z108, z109, z110, z111, z112, z113, z114, z115, z116, z117, z118, z119, z120, z121, z122, z128, z132, z200, z240, z255, z372, z390625, z400, z420, z421, z422, z662, z900, z940, z999, z1000, z1024, z2000, z5860, z10000, z12345, z15625, z266240, z1048575, z1064960, z1103515245, z_m1, n_le, n_lt, n_eq, n_bit0, n_bit1, n_sbit0, n_shl, z_ltM, z_Mlt, z_leM, z_Mle, z_eqM, z_Meq, bI0, bI1, bI_01, bI_01t, bI_10, bI_10f, if_true, if_false, eq_self, reduceCtorEq, rc_189 hB, e6, rc_189 hB6, m_isWho hB6 hM6 hp ha, m_isWho hB6 hM6 hp hb, m_isDead hB6 hM6 hp ha, m_isDead hB6 hM6 hp hb, m_mt hB6 hM6, cab, decide_eq_true g1])); first | rw [Option.bind_some] | rw [bp_s] | rw [if_true] | rw [if_false] | rw [rv_lt_eq] | rw [if_pos (by omega)] | rw [if_neg (by omega)])
              rfl
            · by_cases g3 : 0 < de m b
              · repeat (first | (conv => (lhs; arg 1; simp (disch := first | assumption | omega) only [tk_gI, tk_gL, tk_gR, tk_pI, tk_pL, rv_aI, rv_aL, rv_aR, rv_uI, rv_uL, rv_uB, rv_uZ, pu_ckI, pu_ckL, pu_lnI, pu_lnL, tk_rI, tk_rL, Option.bind_some, Option.map_some, rv_lt, tk_ix, z0, z1, z2, z3, z4, z5, z6, z7, z8, z9, z10, z11, z12, z13, z15, z16, z17, z18, z20, z21, z23, z24, z25, z31, z32, z39, z40, z41, z46, z48, z50, z57, z59, z60, z61, z62, z63, z64, z97, z98, z99, z100, z101, z102, z103, z104, z105, z106, z107, z108, z109, z110, z111, z112, z113, z114, z115, z116, z117, z118, z119, z120, z121, z122, z128, z132, z200, z240, z255, z372, z390625, z400, z420, z421, z422, z662, z900, z940, z999, z1000, z1024, z2000, z5860, z10000, z12345, z15625, z266240, z1048575, z1064960, z1103515245, z_m1, n_le, n_lt, n_eq, n_bit0, n_bit1, n_sbit0, n_shl, z_ltM, z_Mlt, z_leM, z_Mle, z_eqM, z_Meq, bI0, bI1, bI_01, bI_01t, bI_10, bI_10f, if_true, if_false, eq_self, reduceCtorEq, rc_189 hB, e6, rc_189 hB6, m_isWho hB6 hM6 hp ha, m_isWho hB6 hM6 hp hb, m_isDead hB6 hM6 hp ha, m_isDead hB6 hM6 hp hb, m_mt hB6 hM6, cab, decide_eq_false g1, decide_eq_true g3])); first | rw [Option.bind_some] | rw [bp_s] | rw [if_true] | rw [if_false] | rw [rv_lt_eq] | rw [if_pos (by omega)] | rw [if_neg (by omega)])
                rfl
              · by_cases g2 : mt m a = 0
                · have g4 : ¬ mt m b = 0 := fun z => ok ⟨⟨g1, g2⟩, g3, z⟩
                  have g5 : ¬ mt m b ≤ 0 := by omega
                  repeat (first | (conv => (lhs; arg 1; simp (disch := first | assumption | omega) only [tk_gI, tk_gL, tk_gR, tk_pI, tk_pL, rv_aI, rv_aL, rv_aR, rv_uI, rv_uL, rv_uB, rv_uZ, pu_ckI, pu_ckL, pu_lnI, pu_lnL, tk_rI, tk_rL, Option.bind_some, Option.map_some, rv_lt, tk_ix, z0, z1, z2, z3, z4, z5, z6, z7, z8, z9, z10, z11, z12, z13, z15, z16, z17, z18, z20, z21, z23, z24, z25, z31, z32, z39, z40, z41, z46, z48, z50, z57, z59, z60, z61, z62, z63, z64, z97, z98, z99, z100, z101, z102, z103, z104, z105, z106, z107, z108, z109, z110, z111, z112, z113, z114, z115, z116, z117, z118, z119, z120, z121, z122, z128, z132, z200, z240, z255, z372, z390625, z400, z420, z421, z422, z662, z900, z940, z999, z1000, z1024, z2000, z5860, z10000, z12345, z15625, z266240, z1048575, z1064960, z1103515245, z_m1, n_le, n_lt, n_eq, n_bit0, n_bit1, n_sbit0, n_shl, z_ltM, z_Mlt, z_leM, z_Mle, z_eqM, z_Meq, bI0, bI1, bI_01, bI_01t, bI_10, bI_10f, if_true, if_false, eq_self, reduceCtorEq, rc_189 hB, e6, rc_189 hB6, m_isWho hB6 hM6 hp ha, m_isWho hB6 hM6 hp hb, m_isDead hB6 hM6 hp ha, m_isDead hB6 hM6 hp hb, m_mt hB6 hM6, cab, decide_eq_false g1, decide_eq_false g3, g2, g5, Nat.lt_irrefl])); first | rw [Option.bind_some] | rw [bp_s] | rw [if_true] | rw [if_false] | rw [rv_lt_eq] | rw [if_pos (by omega)] | rw [if_neg (by omega)])
                  rfl
                · have g4 : 0 < mt m a := by omega
                  repeat (first | (conv => (lhs; arg 1; simp (disch := first | assumption | omega) only [tk_gI, tk_gL, tk_gR, tk_pI, tk_pL, rv_aI, rv_aL, rv_aR, rv_uI, rv_uL, rv_uB, rv_uZ, pu_ckI, pu_ckL, pu_lnI, pu_lnL, tk_rI, tk_rL, Option.bind_some, Option.map_some, rv_lt, tk_ix, z0, z1, z2, z3, z4, z5, z6, z7, z8, z9, z10, z11, z12, z13, z15, z16, z17, z18, z20, z21, z23, z24, z25, z31, z32, z39, z40, z41, z46, z48, z50, z57, z59, z60, z61, z62, z63, z64, z97, z98, z99, z100, z101, z102, z103, z104, z105, z106, z107, z108, z109, z110, z111, z112, z113, z114, z115, z116, z117, z118, z119, z120, z121, z122, z128, z132, z200, z240, z255, z372, z390625, z400, z420, z421, z422, z662, z900, z940, z999, z1000, z1024, z2000, z5860, z10000, z12345, z15625, z266240, z1048575, z1064960, z1103515245, z_m1, n_le, n_lt, n_eq, n_bit0, n_bit1, n_sbit0, n_shl, z_ltM, z_Mlt, z_leM, z_Mle, z_eqM, z_Meq, bI0, bI1, bI_01, bI_01t, bI_10, bI_10f, if_true, if_false, eq_self, reduceCtorEq, rc_189 hB, e6, rc_189 hB6, m_isWho hB6 hM6 hp ha, m_isWho hB6 hM6 hp hb, m_isDead hB6 hM6 hp ha, m_isDead hB6 hM6 hp hb, m_mt hB6 hM6, cab, decide_eq_false g1, decide_eq_false g3, g4])); first | rw [Option.bind_some] | rw [bp_s] | rw [if_true] | rw [if_false] | rw [rv_lt_eq] | rw [if_pos (by omega)] | rw [if_neg (by omega)])
                  rfl
    · refine same (r := nI 0) ?_ ⟨S6, ?_, QS.s0 hV f6 hM6 r6 b6⟩
      · simp (disch := first | assumption | omega) only [fnX12_wed, tk_gI, tk_gL, tk_gR, tk_pI, tk_pL, rv_aI, rv_aL, rv_aR, rv_uI, rv_uL, rv_uB, rv_uZ, pu_ckI, pu_ckL, pu_lnI, pu_lnL, tk_rI, tk_rL, Option.bind_some, Option.map_some, rv_lt, tk_ix, z0, z1, z2, z3, z4, z5, z6, z7, z8, z9, z10, z11, z12, z13, z15, z16, z17, z18, z20, z21, z23, z24, z25, z31, z32, z39, z40, z41, z46, z48, z50, z57, z59, z60, z61, z62, z63, z64, z97, z98, z99, z100, z101, z102, z103, z104, z105, z106, z107, z108, z109, z110, z111, z112, z113, z114, z115, z116, z117, z118, z119, z120, z121, z122, z128, z132, z200, z240, z255, z372, z390625, z400, z420, z421, z422, z662, z900, z940, z999, z1000, z1024, z2000, z5860, z10000, z12345, z15625, z266240, z1048575, z1064960, z1103515245, z_m1, n_le, n_lt, n_eq, n_bit0, n_bit1, n_sbit0, n_shl, z_ltM, z_Mlt, z_leM, z_Mle, z_eqM, z_Meq, bI0, bI1, bI_01, bI_01t, bI_10, bI_10f, if_true, if_false, eq_self, reduceCtorEq, hC, k_isWho hB hR hk ha, k_isWho0 hB hR hy]
      · rw [fnX13_wed]
        repeat (first | (conv => (lhs; arg 1; simp (disch := first | assumption | omega) only [tk_gI, tk_gL, tk_gR, tk_pI, tk_pL, rv_aI, rv_aL, rv_aR, rv_uI, rv_uL, rv_uB, rv_uZ, pu_ckI, pu_ckL, pu_lnI, pu_lnL, tk_rI, tk_rL, Option.bind_some, Option.map_some, rv_lt, tk_ix, z0, z1, z2, z3, z4, z5, z6, z7, z8, z9, z10, z11, z12, z13, z15, z16, z17, z18, z20, z21, z23, z24, z25, z31, z32, z39, z40, z41, z46, z48, z50, z57, z59, z60, z61, z62, z63, z64, z97, z98, z99, z100, z101, z102, z103, z104, z105, z106, z107, z108, z109, z110, z111, z112, z113, z114, z115, z116, z117, z118, z119, z120, z121, z122, z128, z132, z200, z240, z255, z372, z390625, z400, z420, z421, z422, z662, z900, z940, z999, z1000, z1024, z2000, z5860, z10000, z12345, z15625, z266240, z1048575, z1064960, z1103515245, z_m1, n_le, n_lt, n_eq, n_bit0, n_bit1, n_sbit0, n_shl, z_ltM, z_Mlt, z_leM, z_Mle, z_eqM, z_Meq, bI0, bI1, bI_01, bI_01t, bI_10, bI_10f, if_true, if_false, eq_self, reduceCtorEq, rc_189 hB, e6, rc_189 hB6, m_isWho hB6 hM6 hp ha, m_isWho0 hB6 hM6 hy])); first | rw [Option.bind_some] | rw [bp_s] | rw [if_true] | rw [if_false] | rw [rv_lt_eq] | rw [if_pos (by omega)] | rw [if_neg (by omega)])
        rfl
  · refine same (r := nI 0) ?_ ⟨S6, ?_, QS.s0 hV f6 hM6 r6 b6⟩
    · simp (disch := first | assumption | omega) only [fnX12_wed, tk_gI, tk_gL, tk_gR, tk_pI, tk_pL, rv_aI, rv_aL, rv_aR, rv_uI, rv_uL, rv_uB, rv_uZ, pu_ckI, pu_ckL, pu_lnI, pu_lnL, tk_rI, tk_rL, Option.bind_some, Option.map_some, rv_lt, tk_ix, z0, z1, z2, z3, z4, z5, z6, z7, z8, z9, z10, z11, z12, z13, z15, z16, z17, z18, z20, z21, z23, z24, z25, z31, z32, z39, z40, z41, z46, z48, z50, z57, z59, z60, z61, z62, z63, z64, z97, z98, z99, z100, z101, z102, z103, z104, z105, z106, z107, z108, z109, z110, z111, z112, z113, z114, z115, z116, z117, z118, z119, z120, z121, z122, z128, z132, z200, z240, z255, z372, z390625, z400, z420, z421, z422, z662, z900, z940, z999, z1000, z1024, z2000, z5860, z10000, z12345, z15625, z266240, z1048575, z1064960, z1103515245, z_m1, n_le, n_lt, n_eq, n_bit0, n_bit1, n_sbit0, n_shl, z_ltM, z_Mlt, z_leM, z_Mle, z_eqM, z_Meq, bI0, bI1, bI_01, bI_01t, bI_10, bI_10f, if_true, if_false, eq_self, reduceCtorEq, hC, k_isWho0 hB hR hx]
    · rw [fnX13_wed]
      repeat (first | (conv => (lhs; arg 1; simp (disch := first | assumption | omega) only [tk_gI, tk_gL, tk_gR, tk_pI, tk_pL, rv_aI, rv_aL, rv_aR, rv_uI, rv_uL, rv_uB, rv_uZ, pu_ckI, pu_ckL, pu_lnI, pu_lnL, tk_rI, tk_rL, Option.bind_some, Option.map_some, rv_lt, tk_ix, z0, z1, z2, z3, z4, z5, z6, z7, z8, z9, z10, z11, z12, z13, z15, z16, z17, z18, z20, z21, z23, z24, z25, z31, z32, z39, z40, z41, z46, z48, z50, z57, z59, z60, z61, z62, z63, z64, z97, z98, z99, z100, z101, z102, z103, z104, z105, z106, z107, z108, z109, z110, z111, z112, z113, z114, z115, z116, z117, z118, z119, z120, z121, z122, z128, z132, z200, z240, z255, z372, z390625, z400, z420, z421, z422, z662, z900, z940, z999, z1000, z1024, z2000, z5860, z10000, z12345, z15625, z266240, z1048575, z1064960, z1103515245, z_m1, n_le, n_lt, n_eq, n_bit0, n_bit1, n_sbit0, n_shl, z_ltM, z_Mlt, z_leM, z_Mle, z_eqM, z_Meq, bI0, bI1, bI_01, bI_01t, bI_10, bI_10f, if_true, if_false, eq_self, reduceCtorEq, rc_189 hB, e6, rc_189 hB6, m_isWho0 hB6 hM6 hx])); first | rw [Option.bind_some] | rw [bp_s] | rw [if_true] | rw [if_false] | rw [rv_lt_eq] | rw [if_pos (by omega)] | rw [if_neg (by omega)])
      rfl
end
section
variable {n : Nat} {S : rvS} {m m' : Nat → Nat} {wd : Nat → List Nat}
theorem op_born6 (hn : 500 ≤ n) (hV : VI S m wd) (x : Int32) : ∃ r S1 S' m', fnX12_born n S 64 x = some (r, S1) ∧ fnX13_born n S1 189 x = some (r, S') ∧ QS S S' m' wd ∧ m' 6 = m 6 := by
  obtain ⟨hB, hR, hL, hk, -⟩ := id hV; have hp := hk.1; have hc := hk.2.1; have hd := hk.2.2; obtain ⟨S6, e6, hB6, f6, hM6, r6, b6⟩ := start_ok hn hB hL; have hC := CS_of hB; have hv : vb 67 := Or.inl rfl; have hVS := VS_of hB hv; have hFS := FS_of hB hv.f; have hPS := PS_of hB hv.p; have h24 := hp.1; have h40 := hc.1; have n10 : 10 ≤ n := (by omega); have n50 : 50 ≤ n := (by omega)
  obtain ⟨hF, hP, hD⟩ := id hR
  have same : ∀ {r : Int32}, fnX12_born n S 64 x = some (r, S) → (∃ S', fnX13_born n S 189 x = some (r, S') ∧ QS S S' m wd) → ∃ r S1 S' m', fnX12_born n S 64 x = some (r, S1) ∧ fnX13_born n S1 189 x = some (r, S') ∧ QS S S' m' wd ∧ m' 6 = m 6 := fun h1 ⟨S', h2, h3⟩ => ⟨_, S, S', m, h1, h2, h3, rfl⟩
  rcases rng x (N := 4) (by omega) with ⟨u, hu, rfl⟩ | hx
  · by_cases hW : vW m < 24
    · obtain ⟨S1, e1, f1, g1, nm1⟩ := k_add n50 hB hv.f hF hp hW hu
      have f1 : rvf [68, 69, 70, 71, 72, 74] S S1 := f1
      have hB1 := f1.B hB
      obtain ⟨S2, e2, hB2, f2, hM2, r2, b2⟩ := start_ok hn hB1 (hL.f f1 rfl rfl)
      obtain ⟨S3, e3, f3, hM3, r3⟩ := m_bear n10 hB2 hM2 hW hu
      have fz : rvf [189000, 189022, 191] S1 S3 := (f2.mono rfl).tr (f3.mono rfl)
      have hi : ∀ k, 132 ≤ k → br m u k = m k := fun k hk => br_off (by omega) (Or.inr (by show 13 + 5 * vW m ≤ k; omega))
      have lo : ∀ k, k ≠ 0 → k < 8 → br m u k = m k := fun k h0 hk => br_off h0 (Or.inl (by omega))
      have hR1 : CR S1 67 (br m u) := by
        have p1 : ∀ k, S1.2.1 (67 + 8) k = S.2.1 (67 + 8) k := f1.row rfl rfl
        have p2 : ∀ k, S1.2.1 (67 + 8 + 1) k = S.2.1 (67 + 8 + 1) k := f1.row rfl rfl
        have p3 : ∀ k, S1.2.1 (67 + 8 + 2) k = S.2.1 (67 + 8 + 2) k := f1.row rfl rfl
        have p4 : ∀ k, S1.2.1 (67 + 8 + 3) k = S.2.1 (67 + 8 + 3) k := f1.row rfl rfl
        have d0 : ∀ k, S1.2.1 67 k = S.2.1 67 k := f1.row rfl rfl
        have d1 : ∀ k, S1.2.1 (67 + 17) k = S.2.1 (67 + 17) k := f1.row rfl rfl
        have d2 : ∀ k, S1.2.1 (67 + 18) k = S.2.1 (67 + 18) k := f1.row rfl rfl
        have d3 : ∀ k, S1.2.1 (67 + 19) k = S.2.1 (67 + 19) k := f1.row rfl rfl
        obtain ⟨b1, b2, b3, b4, b5⟩ := hP
        obtain ⟨c1, c2, c3, c4, c5, c6, c7⟩ := hD
        have hP1 : PR S1 (67 + 8) m := ⟨(p1 _).trans b1, (p1 _).trans b2, fun c h => (p2 c).trans (b3 c h), fun c h => (p3 c).trans (b4 c h), fun c h => (p4 c).trans (b5 c h)⟩
        have hD1 : DR S1 67 m := ⟨(d0 _).trans c1, (d0 _).trans c2, (d0 _).trans c3, (d0 _).trans c4, fun c h => (d1 c).trans (c5 c h), fun c h => (d2 c).trans (c6 c h), fun c h => (d3 c).trans (c7 c h)⟩
        exact ⟨g1, hP1.c h40 (lo 1 (by decide) (by decide)) (lo 3 (by decide) (by decide)) (fun k h1 h2 => hi k h1), hD1.c2 (lo 2 (by decide) (by decide)) (lo 4 (by decide) (by decide)) (lo 5 (by decide) (by decide)) (fun k h1 => hi k (by omega))⟩
      obtain ⟨-, -, -, -, hNC, hNM, hok⟩ := id hV
      have e6 : br m u 6 = m 6 := lo 6 (by decide) (by decide)
      refine ⟨nI (vW m), S1, S3, br m u, ?_, ?_, ⟨⟨fz.B hB1, hR1.f fz hv (Or.inl rfl) (Or.inr (by decide)) (Or.inr (by decide)) (Or.inr (by decide)), MRL.of hM3 (by rw [f3.at (a := 189) (k := 22) rfl]; exact b2), br_okm hk hW hu, fun w hw => ?_, fun w hw => ?_, hok.c e6⟩, (f1.mono rfl).tr (fz.mono rfl), ((R42.of f1 rfl).tr r2).tr r3⟩, e6⟩
      · rw [fnX12_born]
        repeat (first | (conv => (lhs; arg 1; simp (disch := first | assumption | omega) only [tk_gI, tk_gL, tk_gR, tk_pI, tk_pL, rv_aI, rv_aL, rv_aR, rv_uI, rv_uL, rv_uB, rv_uZ, pu_ckI, pu_ckL, pu_lnI, pu_lnL, tk_rI, tk_rL, Option.bind_some, Option.map_some, rv_lt, tk_ix, z0, z1, z2, z3, z4, z5, z6, z7, z8, z9, z10, z11, z12, z13, z15, z16, z17, z18, z20, z21, z23, z24, z25, z31, z32, z39, z40, z41, z46, z48, z50, z57, z59, z60, z61, z62, z63, z64, z97, z98, z99, z100, z101, z102, z103, z104, z105, z106, z107, z108, z109, z110, z111, z112, z113, z114, z115, z116, z117, z118, z119, z120, z121, z122, z128, z132, z200, z240, z255, z372, z390625, z400, z420, z421, z422, z662, z900, z940, z999, z1000, z1024, z2000, z5860, z10000, z12345, z15625, z266240, z1048575, z1064960, z1103515245, z_m1, n_le, n_lt, n_eq, n_bit0, n_bit1, n_sbit0, n_shl, z_ltM, z_Mlt, z_leM, z_Mle, z_eqM, z_Meq, bI0, bI1, bI_01, bI_01t, bI_10, bI_10f, if_true, if_false, eq_self, reduceCtorEq, if_pos, if_neg, hC, hVS, hFS, hF, k_isVillage hu, ← y0, e1])); first | rw [Option.bind_some] | rw [bp_s] | rw [if_true] | rw [if_false] | rw [rv_lt_eq] | rw [if_pos (by omega)] | rw [if_neg (by omega)])
      · rw [fnX13_born]
        repeat (first | (conv => (lhs; arg 1; simp (disch := first | assumption | omega) only [tk_gI, tk_gL, tk_gR, tk_pI, tk_pL, rv_aI, rv_aL, rv_aR, rv_uI, rv_uL, rv_uB, rv_uZ, pu_ckI, pu_ckL, pu_lnI, pu_lnL, tk_rI, tk_rL, Option.bind_some, Option.map_some, rv_lt, tk_ix, z0, z1, z2, z3, z4, z5, z6, z7, z8, z9, z10, z11, z12, z13, z15, z16, z17, z18, z20, z21, z23, z24, z25, z31, z32, z39, z40, z41, z46, z48, z50, z57, z59, z60, z61, z62, z63, z64, z97, z98, z99, z100, z101, z102, z103, z104, z105, z106, z107, z108, z109, z110, z111, z112, z113, z114, z115, z116, z117, z118, z119, z120, z121, z122, z128, z132, z200, z240, z255, z372, z390625, z400, z420, z421, z422, z662, z900, z940, z999, z1000, z1024, z2000, z5860, z10000, z12345, z15625, z266240, z1048575, z1064960, z1103515245, z_m1, n_le, n_lt, n_eq, n_bit0, n_bit1, n_sbit0, n_shl, z_ltM, z_Mlt, z_leM, z_Mle, z_eqM, z_Meq, bI0, bI1, bI_01, bI_01t, bI_10, bI_10f, if_true, if_false, eq_self, reduceCtorEq, if_pos, if_neg, rc_189 hB1, e2, rc_189 hB2, m_isV hu, m_whos hB2 hM2, e3])); first | rw [Option.bind_some] | rw [bp_s] | rw [if_true] | rw [if_false] | rw [rv_lt_eq] | rw [if_pos (by omega)] | rw [if_neg (by omega)])
      · rw [fz.rowL (a := 67 + 5) rfl rfl, nm1, e6]
        rw [br_0] at hw
        have h6 := hd.2.2.2.2.2.1
        by_cases c : w = vW m
        · rw [if_pos c, if_neg (by omega)]
        · rw [if_neg c]; exact hNC w (by omega)
      · rw [e6] at hw
        rw [fz.rowL (a := 195) rfl rfl, f1.rowL (a := 195) rfl rfl]
        exact hNM w hw
    · have e24 : vW m = 24 := by omega
      refine same (r := iM) ?_ ⟨S6, ?_, QS.s0 hV f6 hM6 r6 b6⟩
      · simp (disch := first | assumption | omega) only [fnX12_born, tk_gI, tk_gL, tk_gR, tk_pI, tk_pL, rv_aI, rv_aL, rv_aR, rv_uI, rv_uL, rv_uB, rv_uZ, pu_ckI, pu_ckL, pu_lnI, pu_lnL, tk_rI, tk_rL, Option.bind_some, Option.map_some, rv_lt, tk_ix, z0, z1, z2, z3, z4, z5, z6, z7, z8, z9, z10, z11, z12, z13, z15, z16, z17, z18, z20, z21, z23, z24, z25, z31, z32, z39, z40, z41, z46, z48, z50, z57, z59, z60, z61, z62, z63, z64, z97, z98, z99, z100, z101, z102, z103, z104, z105, z106, z107, z108, z109, z110, z111, z112, z113, z114, z115, z116, z117, z118, z119, z120, z121, z122, z128, z132, z200, z240, z255, z372, z390625, z400, z420, z421, z422, z662, z900, z940, z999, z1000, z1024, z2000, z5860, z10000, z12345, z15625, z266240, z1048575, z1064960, z1103515245, z_m1, n_le, n_lt, n_eq, n_bit0, n_bit1, n_sbit0, n_shl, z_ltM, z_Mlt, z_leM, z_Mle, z_eqM, z_Meq, bI0, bI1, bI_01, bI_01t, bI_10, bI_10f, if_true, if_false, eq_self, reduceCtorEq, if_pos, if_neg, hC, hVS, hFS, hF, k_isVillage hu]
      · simp (disch := first | assumption | omega) only [fnX13_born, tk_gI, tk_gL, tk_gR, tk_pI, tk_pL, rv_aI, rv_aL, rv_aR, rv_uI, rv_uL, rv_uB, rv_uZ, pu_ckI, pu_ckL, pu_lnI, pu_lnL, tk_rI, tk_rL, Option.bind_some, Option.map_some, rv_lt, tk_ix, z0, z1, z2, z3, z4, z5, z6, z7, z8, z9, z10, z11, z12, z13, z15, z16, z17, z18, z20, z21, z23, z24, z25, z31, z32, z39, z40, z41, z46, z48, z50, z57, z59, z60, z61, z62, z63, z64, z97, z98, z99, z100, z101, z102, z103, z104, z105, z106, z107, z108, z109, z110, z111, z112, z113, z114, z115, z116, z117, z118, z119, z120, z121, z122, z128, z132, z200, z240, z255, z372, z390625, z400, z420, z421, z422, z662, z900, z940, z999, z1000, z1024, z2000, z5860, z10000, z12345, z15625, z266240, z1048575, z1064960, z1103515245, z_m1, n_le, n_lt, n_eq, n_bit0, n_bit1, n_sbit0, n_shl, z_ltM, z_Mlt, z_leM, z_Mle, z_eqM, z_Meq, bI0, bI1, bI_01, bI_01t, bI_10, bI_10f, if_true, if_false, eq_self, reduceCtorEq, if_pos, if_neg, rc_189 hB, e6, rc_189 hB6, m_isV hu, m_whos hB6 hM6]
  · refine same (r := iM) ?_ ⟨S6, ?_, QS.s0 hV f6 hM6 r6 b6⟩
    · simp (disch := first | assumption | omega) only [fnX12_born, tk_gI, tk_gL, tk_gR, tk_pI, tk_pL, rv_aI, rv_aL, rv_aR, rv_uI, rv_uL, rv_uB, rv_uZ, pu_ckI, pu_ckL, pu_lnI, pu_lnL, tk_rI, tk_rL, Option.bind_some, Option.map_some, rv_lt, tk_ix, z0, z1, z2, z3, z4, z5, z6, z7, z8, z9, z10, z11, z12, z13, z15, z16, z17, z18, z20, z21, z23, z24, z25, z31, z32, z39, z40, z41, z46, z48, z50, z57, z59, z60, z61, z62, z63, z64, z97, z98, z99, z100, z101, z102, z103, z104, z105, z106, z107, z108, z109, z110, z111, z112, z113, z114, z115, z116, z117, z118, z119, z120, z121, z122, z128, z132, z200, z240, z255, z372, z390625, z400, z420, z421, z422, z662, z900, z940, z999, z1000, z1024, z2000, z5860, z10000, z12345, z15625, z266240, z1048575, z1064960, z1103515245, z_m1, n_le, n_lt, n_eq, n_bit0, n_bit1, n_sbit0, n_shl, z_ltM, z_Mlt, z_leM, z_Mle, z_eqM, z_Meq, bI0, bI1, bI_01, bI_01t, bI_10, bI_10f, if_true, if_false, eq_self, reduceCtorEq, k_isV0 hx]
    · simp (disch := first | assumption | omega) only [fnX13_born, tk_gI, tk_gL, tk_gR, tk_pI, tk_pL, rv_aI, rv_aL, rv_aR, rv_uI, rv_uL, rv_uB, rv_uZ, pu_ckI, pu_ckL, pu_lnI, pu_lnL, tk_rI, tk_rL, Option.bind_some, Option.map_some, rv_lt, tk_ix, z0, z1, z2, z3, z4, z5, z6, z7, z8, z9, z10, z11, z12, z13, z15, z16, z17, z18, z20, z21, z23, z24, z25, z31, z32, z39, z40, z41, z46, z48, z50, z57, z59, z60, z61, z62, z63, z64, z97, z98, z99, z100, z101, z102, z103, z104, z105, z106, z107, z108, z109, z110, z111, z112, z113, z114, z115, z116, z117, z118, z119, z120, z121, z122, z128, z132, z200, z240, z255, z372, z390625, z400, z420, z421, z422, z662, z900, z940, z999, z1000, z1024, z2000, z5860, z10000, z12345, z15625, z266240, z1048575, z1064960, z1103515245, z_m1, n_le, n_lt, n_eq, n_bit0, n_bit1, n_sbit0, n_shl, z_ltM, z_Mlt, z_leM, z_Mle, z_eqM, z_Meq, bI0, bI1, bI_01, bI_01t, bI_10, bI_10f, if_true, if_false, eq_self, reduceCtorEq, rc_189 hB, e6, rc_189 hB6, m_isV0 hx]
end
section
variable {n : Nat} {S : rvS} {m m' : Nat → Nat} {wd : Nat → List Nat}
theorem op_change6 (hn : 500 ≤ n) (hV : VI S m wd) (x y : Int32) : ∃ r S1 S' m', fnX12_change n S 64 x y = some (r, S1) ∧ fnX13_change n S1 189 x y = some (r, S') ∧ QS S S' m' wd ∧ m' 6 = m 6 := by
  obtain ⟨hB, hR, hL, hk, -⟩ := id hV; have hp := hk.1; have hc := hk.2.1; have hd := hk.2.2; obtain ⟨S6, e6, hB6, f6, hM6, r6, b6⟩ := start_ok hn hB hL; have hC := CS_of hB; have hv : vb 67 := Or.inl rfl; have hVS := VS_of hB hv; have hFS := FS_of hB hv.f; have hPS := PS_of hB hv.p; have h24 := hp.1; have h40 := hc.1; have n10 : 10 ≤ n := (by omega); have n50 : 50 ≤ n := (by omega)
  obtain ⟨hF, hP, hD⟩ := id hR
  have same : ∀ {r : Int32}, fnX12_change n S 64 x y = some (r, S) → (∃ S', fnX13_change n S 189 x y = some (r, S') ∧ QS S S' m wd) → ∃ r S1 S' m', fnX12_change n S 64 x y = some (r, S1) ∧ fnX13_change n S1 189 x y = some (r, S') ∧ QS S S' m' wd ∧ m' 6 = m 6 := fun h1 ⟨S', h2, h3⟩ => ⟨_, S, S', m, h1, h2, h3, rfl⟩
  rcases rng x (N := vC m) (by omega) with ⟨c, h, rfl⟩ | hx
  · rcases rng y (N := vC m) (by omega) with ⟨d, h', rfl⟩ | hy
    · have kw := k_wnc n10 hB hv hR hk h h'
      have w5 : wnc m c d ≤ 4 := by unfold wnc; repeat' (split; omega)
                                    omega
      by_cases c1 : wnc m c d = 0
      · rw [c1] at kw
        obtain ⟨v1, v2, v3, -⟩ := hc.2.2 c h
        obtain ⟨w1, w2, w3, -⟩ := hc.2.2 d h'
        have vle : va m d ≤ va m c := by
          unfold wnc at c1
          split at c1
          · omega
          · split at c1
            · omega
            · split at c1
              · omega
              · split at c1
                · rename_i z
                  exact Nat.le_trans z (Nat.sub_le _ _)
                · omega
        have hcd : c ≠ d := fun z => by
          subst z
          unfold wnc at c1
          split at c1
          · omega
          · split at c1
            · omega
            · rename_i z
              have : wy m (ow m c) (rl m c) (ow m c) ≠ 0 := by
                unfold wy
                split
                · omega
                · have : sh m (ow m c) (ow m c) = true := by unfold sh; simp
                  rw [if_pos this]; omega
              exact z this
        -- the class
        obtain ⟨Sa, eSa⟩ : ∃ Sa, Sa = rv_sI S (67 + 1 + 3) (ow m d) (nI (ea m (ow m d) + (va m c - va m d))) := ⟨_, rfl⟩
        have fa : rvf [71] S Sa := by rw [eSa]; exact rvf.sIr S _ _ rfl
        have hBa := fa.B hB
        have hPa : PR Sa (67 + 8) m := by rw [eSa]; exact hP
        have hPSa := PS_of hBa hv.p
        have k1 := k_move (n := n) hPSa hPa hp hc h (nI (ow m d))
        obtain ⟨Sb, eSb⟩ : ∃ Sb, Sb = rv_sI (rv_sI Sa (67 + 8 + 3) c (nI (rb (ps m (ow m c) (rl m c))))) (67 + 8 + 2) c (nI (ow m d)) := ⟨_, rfl⟩
        have hPb := mv_PR (w := ow m d) hPa hc h
        rw [← eSb] at k1 hPb
        have fb' : rvf [77, 78] Sa Sb := by rw [eSb]; exact ((rvf.rf _ _).w rfl rfl).w rfl rfl
        have hBb := fb'.B hBa
        have hPSb := PS_of hBb hv.p
        have hcb := mv_okc (w := ow m d) hc h w3
        have hkb := mv_okm (w := ow m d) hk h w3
        have elo := fun k hk => mv_lo (m := m) (c := c) (ow m d) k hk
        have h'b : d < vC (mv m c (ow m d)) := by rw [show vC (mv m c (ow m d)) = vC m from elo 1 (by decide)]; exact h'
        have k2 := k_move (n := n) hPSb hPb hkb.1 hcb h'b (nI (ow m c))
        obtain ⟨Sc, eSc⟩ : ∃ Sc, Sc = rv_sI (rv_sI Sb (67 + 8 + 3) d (nI (rb (ps (mv m c (ow m d)) (ow (mv m c (ow m d)) d) (rl (mv m c (ow m d)) d))))) (67 + 8 + 2) d (nI (ow m c)) := ⟨_, rfl⟩
        have hPc := mv_PR (w := ow m c) hPb hcb h'b
        rw [← eSc] at k2 hPc
        have fc' : rvf [77, 78] Sb Sc := by rw [eSc]; exact ((rvf.rf _ _).w rfl rfl).w rfl rfl
        have f1 : rvf [71, 77, 78] S Sc := (fa.mono rfl).tr ((fb'.mono rfl).tr (fc'.mono rfl))
        have hBc := f1.B hB
        -- the new valley
        have w3b : ow m c < vW (mv m c (ow m d)) := by rw [show vW (mv m c (ow m d)) = vW m from elo 0 (by decide)]; exact v3
        have hkc := mv_okm (w := ow m c) hkb h'b w3b
        have elo2 := fun k hk => mv_lo (m := mv m c (ow m d)) (c := d) (ow m c) k hk
        have lo : ∀ k, k < 132 → mv (mv m c (ow m d)) d (ow m c) k = m k := fun k hk => (elo2 k hk).trans (elo k hk)
        have hi : ∀ k, 372 ≤ k → mv (mv m c (ow m d)) d (ow m c) k = m k := fun k hk => (mv_hi (by omega) _ k hk).trans (mv_hi (by omega) _ k hk)
        have hsd : ow m d < vW (mv (mv m c (ow m d)) d (ow m c)) := by rw [show vW (mv (mv m c (ow m d)) d (ow m c)) = vW m from lo 0 (by decide)]; exact w3
        have hke := ern_okm (v := va m c - va m d) hkc hsd
        have hR1 : CR Sc 67 (ern (mv (mv m c (ow m d)) d (ow m c)) (ow m d) (va m c - va m d)) := by
          have eo : ∀ k, 132 ≤ k ∨ k < 8 → ern (mv (mv m c (ow m d)) d (ow m c)) (ow m d) (va m c - va m d) k = mv (mv m c (ow m d)) d (ow m c) k := fun k hk => ern_off _ _ (by omega)
          have hFa : FR Sa (67 + 1) (ern m (ow m d) (va m c - va m d)) := by rw [eSa]; exact ern_FR hF hp w3
          have hFb : FR Sc (67 + 1) (ern m (ow m d) (va m c - va m d)) := by rw [eSc, eSb]; exact hFa
          have hDc : DR Sc 67 m := by rw [eSc, eSb, eSa]; exact hD
          refine ⟨hFb.c (ern_okm hk w3).1 (fun k hk => ?_), hPc.c hkc.2.1.1 (eo 1 (by decide)) (eo 3 (by decide)) (fun k h1 h2 => eo k (by omega)), (hDc.c hd.1 lo hi).c2 (eo 2 (by decide)) (eo 4 (by decide)) (eo 5 (by decide)) (fun k h1 => eo k (by omega))⟩
          unfold ern u1
          by_cases cc : k = 12 + 5 * ow m d
          · rw [if_pos cc, if_pos cc, show ea (mv (mv m c (ow m d)) d (ow m c)) (ow m d) = ea m (ow m d) from lo _ (by omega)]
          · rw [if_neg cc, if_neg cc]; exact lo k hk
        -- the reference
        obtain ⟨S2, e2, hB2, f2, hM2, r2, b2⟩ := start_ok hn hBc (hL.f f1 rfl rfl)
        obtain ⟨S3, e3, f3⟩ := m_wnc n50 hB2 hM2 hk h h'
        have hB3 := f3.B hB2
        have hM3 := hM2.f f3 rfl
        rw [c1] at e3
        obtain ⟨S4, e4, f4, hM4, r4⟩ := m_goes n10 hB3 hM3 hc h (ow m d)
        have hB4 := f4.B hB3
        obtain ⟨S5, e5, f5, hM5, r5⟩ := m_goes n10 hB4 hM4 hcb h'b (ow m c)
        have hB5 := f5.B hB4
        have q5 : S5.2.1 191 (8 + 5 * ow m d + 4) = nI (ea m (ow m d)) := by
          rw [hM5 _ (by omega), lo _ (by omega)]
          exact congrArg (fun k => nI (m k)) (by omega)
        have vc5 : va (mv (mv m c (ow m d)) d (ow m c)) c = va m c := by rw [mv_va, mv_va]
        have vd5 : va (mv (mv m c (ow m d)) d (ow m c)) d = va m d := by rw [mv_va, mv_va]
        have fz : rvf [189000, 189022, 191, 199] Sc (rv_sI S5 191 (12 + 5 * ow m d) (nI (ea m (ow m d) + (va m c - va m d)))) := ((f2.mono rfl).tr ((f3.mono rfl).tr ((f4.mono rfl).tr (f5.mono rfl)))).w rfl rfl
        have hb5 : ¬ (rv_sI S5 191 (12 + 5 * ow m d) (nI (ea m (ow m d) + (va m c - va m d)))).2.1 189 22 = 0 := by
          rw [rv_sI_a _ _ _ (by decide), f5.at (a := 189) (k := 22) rfl, f4.at (a := 189) (k := 22) rfl, f3.at (a := 189) (k := 22) rfl]; exact b2
        have hM6' : MR (rv_sI S5 191 (12 + 5 * ow m d) (nI (ea m (ow m d) + (va m c - va m d)))) (ern (mv (mv m c (ow m d)) d (ow m c)) (ow m d) (va m c - va m d)) := by
          have := hM5.u (12 + 5 * ow m d) (ea m (ow m d) + (va m c - va m d))
          unfold ern
          rw [show ea (mv (mv m c (ow m d)) d (ow m c)) (ow m d) = ea m (ow m d) from lo _ (by omega)]
          exact this
        have e12 : 8 + 5 * ow m d + 4 = 12 + 5 * ow m d := by omega
        rw [e12] at q5
        refine ⟨nI 0, Sc, _, ern (mv (mv m c (ow m d)) d (ow m c)) (ow m d) (va m c - va m d), ?_, ?_, QS.two hV f1 fz rfl rfl rfl rfl hR1 hM6' hb5 hke ((ern_off _ _ (by omega)).trans (lo 0 (by decide))) ((ern_off _ _ (by omega)).trans (lo 6 (by decide))) ((r2.tr ((R42.of f3 rfl).tr (r4.tr r5))).u _ (by omega)), (ern_off _ _ (by omega)).trans (lo 6 (by decide))⟩
        · rw [fnX12_change]
          have sw : fnX9_swap n S 67 (nI c) (nI d) = some Sc := by
            rw [fnX9_swap]
            have ke := k_earn (n := n) hFS hF hp (v := va m c - va m d) w3
            rw [← eSa] at ke
            repeat (first | (conv => (lhs; arg 1; simp (disch := first | assumption | omega) only [tk_gI, tk_gL, tk_gR, tk_pI, tk_pL, rv_aI, rv_aL, rv_aR, rv_uI, rv_uL, rv_uB, rv_uZ, pu_ckI, pu_ckL, pu_lnI, pu_lnL, tk_rI, tk_rL, Option.bind_some, Option.map_some, rv_lt, tk_ix, z0, z1, z2, z3, z4, z5, z6, z7, z8, z9, z10, z11, z12, z13, z15, z16, z17, z18, z20, z21, z23, z24, z25, z31, z32, z39, z40, z41, z46, z48, z50, z57, z59, z60, z61, z62, z63, z64, z97, z98, z99, z100, z101, z102, z103, z104, z105, z106, z107, z108, z109, z110, z111, z112, z113, z114, z115, z116, z117, z118, z119, z120, z121, z122, z128, z132, z200, z240, z255, z372, z390625, z400, z420, z421, z422, z662, z900, z940, z999, z1000, z1024, z2000, z5860, z10000, z12345, z15625, z266240, z1048575, z1064960, z1103515245, z_m1, n_le, n_lt, n_eq, n_bit0, n_bit1, n_sbit0, n_shl, z_ltM, z_Mlt, z_leM, z_Mle, z_eqM, z_Meq, bI0, bI1, bI_01, bI_01t, bI_10, bI_10f, if_true, if_false, eq_self, reduceCtorEq, if_pos, if_neg, hVS, hPS, hP, hFS, z_sub, ke])); first | rw [Option.bind_some] | rw [bp_s] | rw [if_true] | rw [if_false] | rw [rv_lt_eq] | rw [if_pos (by omega)] | rw [if_neg (by omega)])
            have hVSa := VS_of hBa hv
            have hVSb := VS_of hBb hv
            repeat (first | (conv => (lhs; arg 1; simp (disch := first | assumption | omega) only [tk_gI, tk_gL, tk_gR, tk_pI, tk_pL, rv_aI, rv_aL, rv_aR, rv_uI, rv_uL, rv_uB, rv_uZ, pu_ckI, pu_ckL, pu_lnI, pu_lnL, tk_rI, tk_rL, Option.bind_some, Option.map_some, rv_lt, tk_ix, z0, z1, z2, z3, z4, z5, z6, z7, z8, z9, z10, z11, z12, z13, z15, z16, z17, z18, z20, z21, z23, z24, z25, z31, z32, z39, z40, z41, z46, z48, z50, z57, z59, z60, z61, z62, z63, z64, z97, z98, z99, z100, z101, z102, z103, z104, z105, z106, z107, z108, z109, z110, z111, z112, z113, z114, z115, z116, z117, z118, z119, z120, z121, z122, z128, z132, z200, z240, z255, z372, z390625, z400, z420, z421, z422, z662, z900, z940, z999, z1000, z1024, z2000, z5860, z10000, z12345, z15625, z266240, z1048575, z1064960, z1103515245, z_m1, hVSa, hPSa, hVSb, hPSb, k1, k2])); first | rw [Option.bind_some] | rw [bp_s] | rw [if_true] | rw [if_false] | rw [rv_lt_eq] | rw [if_pos (by omega)] | rw [if_neg (by omega)])
            all_goals rfl
          repeat (first | (conv => (lhs; arg 1; simp (disch := first | assumption | omega) only [tk_gI, tk_gL, tk_gR, tk_pI, tk_pL, rv_aI, rv_aL, rv_aR, rv_uI, rv_uL, rv_uB, rv_uZ, pu_ckI, pu_ckL, pu_lnI, pu_lnL, tk_rI, tk_rL, Option.bind_some, Option.map_some, rv_lt, tk_ix, z0, z1, z2, z3, z4, z5, z6, z7, z8, z9, z10, z11, z12, z13, z15, z16, z17, z18, z20, z21, z23, z24, z25, z31, z32, z39, z40, z41, z46, z48, z50, z57, z59, z60, z61, z62, z63, z64, z97, z98, z99, z100, z101, z102, z103, z104, z105, z106, z107, z108, z109, z110, z111, z112, z113, z114, z115, z116, z117, z118, z119, z120, z121, z122, z128, z132, z200, z240, z255, z372, z390625, z400, z420, z421, z422, z662, z900, z940, z999, z1000, z1024, z2000, z5860, z10000, z12345, z15625, z266240, z1048575, z1064960, z1103515245, z_m1, n_le, n_lt, n_eq, n_bit0, n_bit1, n_sbit0, n_shl, z_ltM, z_Mlt, z_leM, z_Mle, z_eqM, z_Meq, bI0, bI1, bI_01, bI_01t, bI_10, bI_10f, if_true, if_false, eq_self, reduceCtorEq, hC, hVS, k_isCoin hB hR hk h, k_isCoin hB hR hk h', kw, sw])); first | rw [Option.bind_some] | rw [bp_s] | rw [if_true] | rw [if_false] | rw [rv_lt_eq] | rw [if_pos (by omega)] | rw [if_neg (by omega)])
          all_goals rfl
        · rw [fnX13_change]
          repeat (first | (conv => (lhs; arg 1; simp (disch := first | assumption | omega) only [tk_gI, tk_gL, tk_gR, tk_pI, tk_pL, rv_aI, rv_aL, rv_aR, rv_uI, rv_uL, rv_uB, rv_uZ, pu_ckI, pu_ckL, pu_lnI, pu_lnL, tk_rI, tk_rL, Option.bind_some, Option.map_some, rv_lt, tk_ix, z0, z1, z2, z3, z4, z5, z6, z7, z8, z9, z10, z11, z12, z13, z15, z16, z17, z18, z20, z21, z23, z24, z25, z31, z32, z39, z40, z41, z46, z48, z50, z57, z59, z60, z61, z62, z63, z64, z97, z98, z99, z100, z101, z102, z103, z104, z105, z106, z107, z108, z109, z110, z111, z112, z113, z114, z115, z116, z117, z118, z119, z120, z121, z122, z128, z132, z200, z240, z255, z372, z390625, z400, z420, z421, z422, z662, z900, z940, z999, z1000, z1024, z2000, z5860, z10000, z12345, z15625, z266240, z1048575, z1064960, z1103515245, z_m1, n_le, n_lt, n_eq, n_bit0, n_bit1, n_sbit0, n_shl, z_ltM, z_Mlt, z_leM, z_Mle, z_eqM, z_Meq, bI0, bI1, bI_01, bI_01t, bI_10, bI_10f, if_true, if_false, eq_self, reduceCtorEq, rc_189 hBc, e2, rc_189 hB2, m_isCoin hB2 hM2 hc h, m_isCoin hB2 hM2 hc h', e3, rc_189 hB3, m_ow hB3 hM3, e4, rc_189 hB4, e5, rc_189 hB5, rf_of hB5 (show (189, 14, 191) ∈ rv_rf0 by decide), rn_191 hB5, nI_add, z_mul, e12, q5, m_va hB5 hM5, vc5, vd5, z_sub])); first | rw [Option.bind_some] | rw [bp_s] | rw [if_true] | rw [if_false] | rw [rv_lt_eq] | rw [if_pos (by omega)] | rw [if_neg (by omega)])
          all_goals rfl
      · have kwm := m_wnc n50 hB6 hM6 hk h h'
        obtain ⟨S', e, f⟩ := kwm
        refine same (r := nI (wnc m c d)) ?_ ⟨S', ?_, QS.st hV f6 hM6 r6 b6 f⟩
        · rw [fnX12_change]
          repeat (first | (conv => (lhs; arg 1; simp (disch := first | assumption | omega) only [tk_gI, tk_gL, tk_gR, tk_pI, tk_pL, rv_aI, rv_aL, rv_aR, rv_uI, rv_uL, rv_uB, rv_uZ, pu_ckI, pu_ckL, pu_lnI, pu_lnL, tk_rI, tk_rL, Option.bind_some, Option.map_some, rv_lt, tk_ix, z0, z1, z2, z3, z4, z5, z6, z7, z8, z9, z10, z11, z12, z13, z15, z16, z17, z18, z20, z21, z23, z24, z25, z31, z32, z39, z40, z41, z46, z48, z50, z57, z59, z60, z61, z62, z63, z64, z97, z98, z99, z100, z101, z102, z103, z104, z105, z106, z107, z108, z109, z110, z111, z112, z113, z114, z115, z116, z117, z118, z119, z120, z121, z122, z128, z132, z200, z240, z255, z372, z390625, z400, z420, z421, z422, z662, z900, z940, z999, z1000, z1024, z2000, z5860, z10000, z12345, z15625, z266240, z1048575, z1064960, z1103515245, z_m1, n_le, n_lt, n_eq, n_bit0, n_bit1, n_sbit0, n_shl, z_ltM, z_Mlt, z_leM, z_Mle, z_eqM, z_Meq, bI0, bI1, bI_01, bI_01t, bI_10, bI_10f, if_true, if_false, eq_self, reduceCtorEq, hC, hVS, k_isCoin hB hR hk h, k_isCoin hB hR hk h', kw, c1])); first | rw [Option.bind_some] | rw [bp_s] | rw [if_true] | rw [if_false] | rw [rv_lt_eq] | rw [if_pos (by omega)] | rw [if_neg (by omega)])
        · rw [fnX13_change]
          repeat (first | (conv => (lhs; arg 1; simp (disch := first | assumption | omega) only [tk_gI, tk_gL, tk_gR, tk_pI, tk_pL, rv_aI, rv_aL, rv_aR, rv_uI, rv_uL, rv_uB, rv_uZ, pu_ckI, pu_ckL, pu_lnI, pu_lnL, tk_rI, tk_rL, Option.bind_some, Option.map_some, rv_lt, tk_ix, z0, z1, z2, z3, z4, z5, z6, z7, z8, z9, z10, z11, z12, z13, z15, z16, z17, z18, z20, z21, z23, z24, z25, z31, z32, z39, z40, z41, z46, z48, z50, z57, z59, z60, z61, z62, z63, z64, z97, z98, z99, z100, z101, z102, z103, z104, z105, z106, z107, z108, z109, z110, z111, z112, z113, z114, z115, z116, z117, z118, z119, z120, z121, z122, z128, z132, z200, z240, z255, z372, z390625, z400, z420, z421, z422, z662, z900, z940, z999, z1000, z1024, z2000, z5860, z10000, z12345, z15625, z266240, z1048575, z1064960, z1103515245, z_m1, n_le, n_lt, n_eq, n_bit0, n_bit1, n_sbit0, n_shl, z_ltM, z_Mlt, z_leM, z_Mle, z_eqM, z_Meq, bI0, bI1, bI_01, bI_01t, bI_10, bI_10f, if_true, if_false, eq_self, reduceCtorEq, rc_189 hB, e6, rc_189 hB6, m_isCoin hB6 hM6 hc h, m_isCoin hB6 hM6 hc h', e, c1])); first | rw [Option.bind_some] | rw [bp_s] | rw [if_true] | rw [if_false] | rw [rv_lt_eq] | rw [if_pos (by omega)] | rw [if_neg (by omega)])
    · refine same (r := iM) ?_ ⟨S6, ?_, QS.s0 hV f6 hM6 r6 b6⟩
      · simp (disch := first | assumption | omega) only [fnX12_change, tk_gI, tk_gL, tk_gR, tk_pI, tk_pL, rv_aI, rv_aL, rv_aR, rv_uI, rv_uL, rv_uB, rv_uZ, pu_ckI, pu_ckL, pu_lnI, pu_lnL, tk_rI, tk_rL, Option.bind_some, Option.map_some, rv_lt, tk_ix, z0, z1, z2, z3, z4, z5, z6, z7, z8, z9, z10, z11, z12, z13, z15, z16, z17, z18, z20, z21, z23, z24, z25, z31, z32, z39, z40, z41, z46, z48, z50, z57, z59, z60, z61, z62, z63, z64, z97, z98, z99, z100, z101, z102, z103, z104, z105, z106, z107, z108, z109, z110, z111, z112, z113, z114, z115, z116, z117, z118, z119, z120, z121, z122, z128, z132, z200, z240, z255, z372, z390625, z400, z420, z421, z422, z662, z900, z940, z999, z1000, z1024, z2000, z5860, z10000, z12345, z15625, z266240, z1048575, z1064960, z1103515245, z_m1, n_le, n_lt, n_eq, n_bit0, n_bit1, n_sbit0, n_shl, z_ltM, z_Mlt, z_leM, z_Mle, z_eqM, z_Meq, bI0, bI1, bI_01, bI_01t, bI_10, bI_10f, if_true, if_false, eq_self, reduceCtorEq, hC, k_isCoin hB hR hk h, k_isCoin0 hB hR hy]
      · rw [fnX13_change]
        repeat (first | (conv => (lhs; arg 1; simp (disch := first | assumption | omega) only [tk_gI, tk_gL, tk_gR, tk_pI, tk_pL, rv_aI, rv_aL, rv_aR, rv_uI, rv_uL, rv_uB, rv_uZ, pu_ckI, pu_ckL, pu_lnI, pu_lnL, tk_rI, tk_rL, Option.bind_some, Option.map_some, rv_lt, tk_ix, z0, z1, z2, z3, z4, z5, z6, z7, z8, z9, z10, z11, z12, z13, z15, z16, z17, z18, z20, z21, z23, z24, z25, z31, z32, z39, z40, z41, z46, z48, z50, z57, z59, z60, z61, z62, z63, z64, z97, z98, z99, z100, z101, z102, z103, z104, z105, z106, z107, z108, z109, z110, z111, z112, z113, z114, z115, z116, z117, z118, z119, z120, z121, z122, z128, z132, z200, z240, z255, z372, z390625, z400, z420, z421, z422, z662, z900, z940, z999, z1000, z1024, z2000, z5860, z10000, z12345, z15625, z266240, z1048575, z1064960, z1103515245, z_m1, n_le, n_lt, n_eq, n_bit0, n_bit1, n_sbit0, n_shl, z_ltM, z_Mlt, z_leM, z_Mle, z_eqM, z_Meq, bI0, bI1, bI_01, bI_01t, bI_10, bI_10f, if_true, if_false, eq_self, reduceCtorEq, rc_189 hB, e6, rc_189 hB6, m_isCoin hB6 hM6 hc h, m_isCoin0 hB6 hM6 hy])); first | rw [Option.bind_some] | rw [bp_s] | rw [if_true] | rw [if_false] | rw [rv_lt_eq] | rw [if_pos (by omega)] | rw [if_neg (by omega)])
        all_goals rfl
  · refine same (r := iM) ?_ ⟨S6, ?_, QS.s0 hV f6 hM6 r6 b6⟩
    · simp (disch := first | assumption | omega) only [fnX12_change, tk_gI, tk_gL, tk_gR, tk_pI, tk_pL, rv_aI, rv_aL, rv_aR, rv_uI, rv_uL, rv_uB, rv_uZ, pu_ckI, pu_ckL, pu_lnI, pu_lnL, tk_rI, tk_rL, Option.bind_some, Option.map_some, rv_lt, tk_ix, z0, z1, z2, z3, z4, z5, z6, z7, z8, z9, z10, z11, z12, z13, z15, z16, z17, z18, z20, z21, z23, z24, z25, z31, z32, z39, z40, z41, z46, z48, z50, z57, z59, z60, z61, z62, z63, z64, z97, z98, z99, z100, z101, z102, z103, z104, z105, z106, z107, z108, z109, z110, z111, z112, z113, z114, z115, z116, z117, z118, z119, z120, z121, z122, z128, z132, z200, z240, z255, z372, z390625, z400, z420, z421, z422, z662, z900, z940, z999, z1000, z1024, z2000, z5860, z10000, z12345, z15625, z266240, z1048575, z1064960, z1103515245, z_m1, n_le, n_lt, n_eq, n_bit0, n_bit1, n_sbit0, n_shl, z_ltM, z_Mlt, z_leM, z_Mle, z_eqM, z_Meq, bI0, bI1, bI_01, bI_01t, bI_10, bI_10f, if_true, if_false, eq_self, reduceCtorEq, hC, k_isCoin0 hB hR hx]
    · rw [fnX13_change]
      repeat (first | (conv => (lhs; arg 1; simp (disch := first | assumption | omega) only [tk_gI, tk_gL, tk_gR, tk_pI, tk_pL, rv_aI, rv_aL, rv_aR, rv_uI, rv_uL, rv_uB, rv_uZ, pu_ckI, pu_ckL, pu_lnI, pu_lnL, tk_rI, tk_rL, Option.bind_some, Option.map_some, rv_lt, tk_ix, z0, z1, z2, z3, z4, z5, z6, z7, z8, z9, z10, z11, z12, z13, z15, z16, z17, z18, z20, z21, z23, z24, z25, z31, z32, z39, z40, z41, z46, z48, z50, z57, z59, z60, z61, z62, z63, z64, z97, z98, z99, z100, z101, z102, z103, z104, z105, z106, z107, z108, z109, z110, z111, z112, z113, z114, z115, z116, z117, z118, z119, z120, z121, z122, z128, z132, z200, z240, z255, z372, z390625, z400, z420, z421, z422, z662, z900, z940, z999, z1000, z1024, z2000, z5860, z10000, z12345, z15625, z266240, z1048575, z1064960, z1103515245, z_m1, n_le, n_lt, n_eq, n_bit0, n_bit1, n_sbit0, n_shl, z_ltM, z_Mlt, z_leM, z_Mle, z_eqM, z_Meq, bI0, bI1, bI_01, bI_01t, bI_10, bI_10f, if_true, if_false, eq_self, reduceCtorEq, rc_189 hB, e6, rc_189 hB6, m_isCoin0 hB6 hM6 hx])); first | rw [Option.bind_some] | rw [bp_s] | rw [if_true] | rw [if_false] | rw [rv_lt_eq] | rw [if_pos (by omega)] | rw [if_neg (by omega)])
      all_goals rfl
end
section
variable {n : Nat} {S : rvS} {m m' : Nat → Nat} {wd : Nat → List Nat}
theorem op_dies6 (hn : 500 ≤ n) (hV : VI S m wd) (x y : Int32) : ∃ r S1 S' m', fnX12_dies n S 64 x y = some (r, S1) ∧ fnX13_dies n S1 189 x y = some (r, S') ∧ QS S S' m' wd ∧ m' 6 = m 6 := by
  obtain ⟨hB, hR, hL, hk, -⟩ := id hV; have hp := hk.1; have hc := hk.2.1; have hd := hk.2.2; obtain ⟨S6, e6, hB6, f6, hM6, r6, b6⟩ := start_ok hn hB hL; have hC := CS_of hB; have hv : vb 67 := Or.inl rfl; have hVS := VS_of hB hv; have hFS := FS_of hB hv.f; have hPS := PS_of hB hv.p; have h24 := hp.1; have h40 := hc.1; have n10 : 10 ≤ n := (by omega); have n50 : 50 ≤ n := (by omega)
  obtain ⟨hF, hP, hD⟩ := id hR
  have same : ∀ {r : Int32}, fnX12_dies n S 64 x y = some (r, S) → (∃ S', fnX13_dies n S 189 x y = some (r, S') ∧ QS S S' m wd) → ∃ r S1 S' m', fnX12_dies n S 64 x y = some (r, S1) ∧ fnX13_dies n S1 189 x y = some (r, S') ∧ QS S S' m' wd ∧ m' 6 = m 6 := fun h1 ⟨S', h2, h3⟩ => ⟨_, S, S', m, h1, h2, h3, rfl⟩
  rcases rng x (N := vW m) (by omega) with ⟨w, hw, rfl⟩ | hx
  · rcases rng y (N := vW m) (by omega) with ⟨h, hh, rfl⟩ | hy
    · by_cases cwh : w = h
      · refine same (r := iM) ?_ ⟨S6, ?_, QS.s0 hV f6 hM6 r6 b6⟩
        · rw [fnX12_dies]
          repeat (first | (conv => (lhs; arg 1; simp (disch := first | assumption | omega) only [tk_gI, tk_gL, tk_gR, tk_pI, tk_pL, rv_aI, rv_aL, rv_aR, rv_uI, rv_uL, rv_uB, rv_uZ, pu_ckI, pu_ckL, pu_lnI, pu_lnL, tk_rI, tk_rL, Option.bind_some, Option.map_some, rv_lt, tk_ix, z0, z1, z2, z3, z4, z5, z6, z7, z8, z9, z10, z11, z12, z13, z15, z16, z17, z18, z20, z21, z23, z24, z25, z31, z32, z39, z40, z41, z46, z48, z50, z57, z59, z60, z61, z62, z63, z64, z97, z98, z99, z100, z101, z102, z103, z104, z105, z106, z107, z108, z109, z110, z111, z112, z113, z114, z115, z116, z117, z118, z119, z120, z121, z122, z128, z132, z200, z240, z255, z372, z390625, z400, z420, z421, z422, z662, z900, z940, z999, z1000, z1024, z2000, z5860, z10000, z12345, z15625, z266240, z1048575, z1064960, z1103515245, z_m1, n_le, n_lt, n_eq, n_bit0, n_bit1, n_sbit0, n_shl, z_ltM, z_Mlt, z_leM, z_Mle, z_eqM, z_Meq, bI0, bI1, bI_01, bI_01t, bI_10, bI_10f, if_true, if_false, eq_self, reduceCtorEq, hC, k_isWho hB hR hk hw, k_isWho hB hR hk hh, cwh])); first | rw [Option.bind_some] | rw [bp_s] | rw [if_true] | rw [if_false] | rw [rv_lt_eq] | rw [if_pos (by omega)] | rw [if_neg (by omega)])
          all_goals rfl
        · rw [fnX13_dies]
          repeat (first | (conv => (lhs; arg 1; simp (disch := first | assumption | omega) only [tk_gI, tk_gL, tk_gR, tk_pI, tk_pL, rv_aI, rv_aL, rv_aR, rv_uI, rv_uL, rv_uB, rv_uZ, pu_ckI, pu_ckL, pu_lnI, pu_lnL, tk_rI, tk_rL, Option.bind_some, Option.map_some, rv_lt, tk_ix, z0, z1, z2, z3, z4, z5, z6, z7, z8, z9, z10, z11, z12, z13, z15, z16, z17, z18, z20, z21, z23, z24, z25, z31, z32, z39, z40, z41, z46, z48, z50, z57, z59, z60, z61, z62, z63, z64, z97, z98, z99, z100, z101, z102, z103, z104, z105, z106, z107, z108, z109, z110, z111, z112, z113, z114, z115, z116, z117, z118, z119, z120, z121, z122, z128, z132, z200, z240, z255, z372, z390625, z400, z420, z421, z422, z662, z900, z940, z999, z1000, z1024, z2000, z5860, z10000, z12345, z15625, z266240, z1048575, z1064960, z1103515245, z_m1, n_le, n_lt, n_eq, n_bit0, n_bit1, n_sbit0, n_shl, z_ltM, z_Mlt, z_leM, z_Mle, z_eqM, z_Meq, bI0, bI1, bI_01, bI_01t, bI_10, bI_10f, if_true, if_false, eq_self, reduceCtorEq, rc_189 hB, e6, rc_189 hB6, m_isWho hB6 hM6 hp hw, m_isWho hB6 hM6 hp hh, cwh])); first | rw [Option.bind_some] | rw [bp_s] | rw [if_true] | rw [if_false] | rw [rv_lt_eq] | rw [if_pos (by omega)] | rw [if_neg (by omega)])
          all_goals rfl
      · have kd := k_isDead (n := n) hFS hF hp hw
        have kh := k_isDead (n := n) hFS hF hp hh
        have md := m_isDead (n := n) hB6 hM6 hp hw
        have mh := m_isDead (n := n) hB6 hM6 hp hh
        by_cases d1 : 0 < de m w
        · rw [decide_eq_true d1] at kd md
          refine same (r := iM) ?_ ⟨S6, ?_, QS.s0 hV f6 hM6 r6 b6⟩
          · rw [fnX12_dies]
            repeat (first | (conv => (lhs; arg 1; simp (disch := first | assumption | omega) only [tk_gI, tk_gL, tk_gR, tk_pI, tk_pL, rv_aI, rv_aL, rv_aR, rv_uI, rv_uL, rv_uB, rv_uZ, pu_ckI, pu_ckL, pu_lnI, pu_lnL, tk_rI, tk_rL, Option.bind_some, Option.map_some, rv_lt, tk_ix, z0, z1, z2, z3, z4, z5, z6, z7, z8, z9, z10, z11, z12, z13, z15, z16, z17, z18, z20, z21, z23, z24, z25, z31, z32, z39, z40, z41, z46, z48, z50, z57, z59, z60, z61, z62, z63, z64, z97, z98, z99, z100, z101, z102, z103, z104, z105, z106, z107, z108, z109, z110, z111, z112, z113, z114, z115, z116, z117, z118, z119, z120, z121, z122, z128, z132, z200, z240, z255, z372, z390625, z400, z420, z421, z422, z662, z900, z940, z999, z1000, z1024, z2000, z5860, z10000, z12345, z15625, z266240, z1048575, z1064960, z1103515245, z_m1, n_le, n_lt, n_eq, n_bit0, n_bit1, n_sbit0, n_shl, z_ltM, z_Mlt, z_leM, z_Mle, z_eqM, z_Meq, bI0, bI1, bI_01, bI_01t, bI_10, bI_10f, if_true, if_false, eq_self, reduceCtorEq, hC, hVS, hFS, k_isWho hB hR hk hw, k_isWho hB hR hk hh, cwh, kd])); first | rw [Option.bind_some] | rw [bp_s] | rw [if_true] | rw [if_false] | rw [rv_lt_eq] | rw [if_pos (by omega)] | rw [if_neg (by omega)])
            all_goals rfl
          · rw [fnX13_dies]
            repeat (first | (conv => (lhs; arg 1; simp (disch := first | assumption | omega) only [tk_gI, tk_gL, tk_gR, tk_pI, tk_pL, rv_aI, rv_aL, rv_aR, rv_uI, rv_uL, rv_uB, rv_uZ, pu_ckI, pu_ckL, pu_lnI, pu_lnL, tk_rI, tk_rL, Option.bind_some, Option.map_some, rv_lt, tk_ix, z0, z1, z2, z3, z4, z5, z6, z7, z8, z9, z10, z11, z12, z13, z15, z16, z17, z18, z20, z21, z23, z24, z25, z31, z32, z39, z40, z41, z46, z48, z50, z57, z59, z60, z61, z62, z63, z64, z97, z98, z99, z100, z101, z102, z103, z104, z105, z106, z107, z108, z109, z110, z111, z112, z113, z114, z115, z116, z117, z118, z119, z120, z121, z122, z128, z132, z200, z240, z255, z372, z390625, z400, z420, z421, z422, z662, z900, z940, z999, z1000, z1024, z2000, z5860, z10000, z12345, z15625, z266240, z1048575, z1064960, z1103515245, z_m1, n_le, n_lt, n_eq, n_bit0, n_bit1, n_sbit0, n_shl, z_ltM, z_Mlt, z_leM, z_Mle, z_eqM, z_Meq, bI0, bI1, bI_01, bI_01t, bI_10, bI_10f, if_true, if_false, eq_self, reduceCtorEq, rc_189 hB, e6, rc_189 hB6, m_isWho hB6 hM6 hp hw, m_isWho hB6 hM6 hp hh, cwh, md])); first | rw [Option.bind_some] | rw [bp_s] | rw [if_true] | rw [if_false] | rw [rv_lt_eq] | rw [if_pos (by omega)] | rw [if_neg (by omega)])
            all_goals rfl
        · rw [decide_eq_false d1] at kd md
          by_cases d2 : 0 < de m h
          · rw [decide_eq_true d2] at kh mh
            refine same (r := iM) ?_ ⟨S6, ?_, QS.s0 hV f6 hM6 r6 b6⟩
            · rw [fnX12_dies]
              repeat (first | (conv => (lhs; arg 1; simp (disch := first | assumption | omega) only [tk_gI, tk_gL, tk_gR, tk_pI, tk_pL, rv_aI, rv_aL, rv_aR, rv_uI, rv_uL, rv_uB, rv_uZ, pu_ckI, pu_ckL, pu_lnI, pu_lnL, tk_rI, tk_rL, Option.bind_some, Option.map_some, rv_lt, tk_ix, z0, z1, z2, z3, z4, z5, z6, z7, z8, z9, z10, z11, z12, z13, z15, z16, z17, z18, z20, z21, z23, z24, z25, z31, z32, z39, z40, z41, z46, z48, z50, z57, z59, z60, z61, z62, z63, z64, z97, z98, z99, z100, z101, z102, z103, z104, z105, z106, z107, z108, z109, z110, z111, z112, z113, z114, z115, z116, z117, z118, z119, z120, z121, z122, z128, z132, z200, z240, z255, z372, z390625, z400, z420, z421, z422, z662, z900, z940, z999, z1000, z1024, z2000, z5860, z10000, z12345, z15625, z266240, z1048575, z1064960, z1103515245, z_m1, n_le, n_lt, n_eq, n_bit0, n_bit1, n_sbit0, n_shl, z_ltM, z_Mlt, z_leM, z_Mle, z_eqM, z_Meq, bI0, bI1, bI_01, bI_01t, bI_10, bI_10f, if_true, if_false, eq_self, reduceCtorEq, hC, hVS, hFS, k_isWho hB hR hk hw, k_isWho hB hR hk hh, cwh, kd, kh])); first | rw [Option.bind_some] | rw [bp_s] | rw [if_true] | rw [if_false] | rw [rv_lt_eq] | rw [if_pos (by omega)] | rw [if_neg (by omega)])
              all_goals rfl
            · rw [fnX13_dies]
              repeat (first | (conv => (lhs; arg 1; simp (disch := first | assumption | omega) only [tk_gI, tk_gL, tk_gR, tk_pI, tk_pL, rv_aI, rv_aL, rv_aR, rv_uI, rv_uL, rv_uB, rv_uZ, pu_ckI, pu_ckL, pu_lnI, pu_lnL, tk_rI, tk_rL, Option.bind_some, Option.map_some, rv_lt, tk_ix, z0, z1, z2, z3, z4, z5, z6, z7, z8, z9, z10, z11, z12, z13, z15, z16, z17, z18, z20, z21, z23, z24, z25, z31, z32, z39, z40, z41, z46, z48, z50, z57, z59, z60, z61, z62, z63, z64, z97, z98, z99, z100, z101, z102, z103, z104, z105, z106, z107, z108, z109, z110, z111, z112, z113, z114, z115, z116, z117, z118, z119, z120, z121, z122, z128, z132, z200, z240, z255, z372, z390625, z400, z420, z421, z422, z662, z900, z940, z999, z1000, z1024, z2000, z5860, z10000, z12345, z15625, z266240, z1048575, z1064960, z1103515245, z_m1, n_le, n_lt, n_eq, n_bit0, n_bit1, n_sbit0, n_shl, z_ltM, z_Mlt, z_leM, z_Mle, z_eqM, z_Meq, bI0, bI1, bI_01, bI_01t, bI_10, bI_10f, if_true, if_false, eq_self, reduceCtorEq, rc_189 hB, e6, rc_189 hB6, m_isWho hB6 hM6 hp hw, m_isWho hB6 hM6 hp hh, cwh, md, mh])); first | rw [Option.bind_some] | rw [bp_s] | rw [if_true] | rw [if_false] | rw [rv_lt_eq] | rw [if_pos (by omega)] | rw [if_neg (by omega)])
              all_goals rfl
          · rw [decide_eq_false d2] at kh
            have h12 := hd.1
            have hL2 := hd.2.2.2.1
            -- the class
            have h64 := bs_64 (fun c => decide (ow m c = w)) h40
            have kco := k_coinsOf (n := n) n50 hPS hP hp hc (w := w) (by omega)
            obtain ⟨Sa, ea, fa, ga⟩ := k_inherit (h := h) n50 hB hv.p hP hp hc hw
            have fa' : rvf [77] S Sa := fa.f rfl
            have hBa := fa.B hB
            have hFa : FR Sa (67 + 1) m := by
              obtain ⟨q1, q2, q3, q4, q5, q6, q7, q8⟩ := hF
              have g := fun (b : Nat) (hb : b ≠ 67 + 8 + 2) (k : Nat) => congrFun (fa.2.2 b hb) k
              exact ⟨(g _ (by decide) _).trans q1, (g _ (by decide) _).trans q2, (g _ (by decide) _).trans q3, fun x hx => (g _ (by decide) x).trans (q4 x hx), fun x hx => (g _ (by decide) x).trans (q5 x hx), fun x hx => (g _ (by decide) x).trans (q6 x hx), fun x hx => (g _ (by decide) x).trans (q7 x hx), fun x hx => (g _ (by decide) x).trans (q8 x hx)⟩
            obtain ⟨Sb, eb, fb', gb⟩ := k_die n50 hBa hv.f hFa hp hw
            have fb' : rvf [68, 74] Sa Sb := fb'
            have hBb := fb'.B hBa
            have b9 : Sb.2.1 67 9 = nI (vL m) := (fb'.row rfl rfl 9).trans ((fa'.row rfl rfl 9).trans hD.2.2.2.1)
            have b75 : Sb.2.1 75 0 = nI (vC m) := (fb'.row rfl rfl 0).trans ((fa'.row rfl rfl 0).trans hP.1)
            have b78 : ∀ c, c < vC m → Sb.2.1 (75 + 3) c = nI (rb (rl m c)) := fun c h => (fb'.row rfl rfl c).trans ((fa'.row rfl rfl c).trans (hP.2.2.2.2 c h))
            have lst : ∃ Sc, fnX9_bury n S 67 (nI w) (nI h) = some (nI (fb_ct (fun c => decide (ow m c = w)) (vC m)), Sc) ∧ rvf [78] Sb Sc ∧ ∀ c, c < vC m → Sc.2.1 (75 + 3) c = nI (rb (dR m w h (rl m c))) := by
              have hVSa := VS_of hBa hv
              have hVSb := VS_of hBb hv
              have hFSa := FS_of hBa hv.f
              have hPSb := PS_of hBb hv.p
              have base : ∀ (r : Option (Int32 × rvS)), (if nI (vL m) = nI 0 then (fnX6_rename n Sb (67 + 8) (nI w) iM).bind fun S46_ => some (nI (fb_ct (fun c => decide (ow m c = w)) (vC m)), S46_) else if nI (vL m) = nI 2 then (fnX6_rename n Sb (67 + 8) (nI w) (nI h)).bind fun S38_ => some (nI (fb_ct (fun c => decide (ow m c = w)) (vC m)), S38_) else some (nI (fb_ct (fun c => decide (ow m c = w)) (vC m)), Sb)) = r → fnX9_bury n S 67 (nI w) (nI h) = r := by
                intro r hr
                rw [← hr, fnX9_bury]
                repeat (first | (conv => (lhs; arg 1; simp (disch := first | assumption | omega) only [tk_gI, tk_gL, tk_gR, tk_pI, tk_pL, rv_aI, rv_aL, rv_aR, rv_uI, rv_uL, rv_uB, rv_uZ, pu_ckI, pu_ckL, pu_lnI, pu_lnL, tk_rI, tk_rL, Option.bind_some, Option.map_some, rv_lt, tk_ix, z0, z1, z2, z3, z4, z5, z6, z7, z8, z9, z10, z11, z12, z13, z15, z16, z17, z18, z20, z21, z23, z24, z25, z31, z32, z39, z40, z41, z46, z48, z50, z57, z59, z60, z61, z62, z63, z64, z97, z98, z99, z100, z101, z102, z103, z104, z105, z106, z107, z108, z109, z110, z111, z112, z113, z114, z115, z116, z117, z118, z119, z120, z121, z122, z128, z132, z200, z240, z255, z372, z390625, z400, z420, z421, z422, z662, z900, z940, z999, z1000, z1024, z2000, z5860, z10000, z12345, z15625, z266240, z1048575, z1064960, z1103515245, z_m1, hVS, hPS, kco, pc_64 n S (show bs (fun c => decide (ow m c = w)) (vC m) < 18446744073709551616 by omega), ct_bs (fun c => decide (ow m c = w)) (show vC m ≤ 64 by omega), ea, hVSa, hFSa, eb, hVSb, b9])); first | rw [Option.bind_some] | rw [bp_s] | rw [if_true] | rw [if_false] | rw [rv_lt_eq] | rw [if_pos (by omega)] | rw [if_neg (by omega)])
                simp (disch := first | assumption | omega) only [tk_gI, tk_gL, tk_gR, tk_pI, tk_pL, rv_aI, rv_aL, rv_aR, rv_uI, rv_uL, rv_uB, rv_uZ, pu_ckI, pu_ckL, pu_lnI, pu_lnL, tk_rI, tk_rL, Option.bind_some, Option.map_some, rv_lt, tk_ix, z0, z1, z2, z3, z4, z5, z6, z7, z8, z9, z10, z11, z12, z13, z15, z16, z17, z18, z20, z21, z23, z24, z25, z31, z32, z39, z40, z41, z46, z48, z50, z57, z59, z60, z61, z62, z63, z64, z97, z98, z99, z100, z101, z102, z103, z104, z105, z106, z107, z108, z109, z110, z111, z112, z113, z114, z115, z116, z117, z118, z119, z120, z121, z122, z128, z132, z200, z240, z255, z372, z390625, z400, z420, z421, z422, z662, z900, z940, z999, z1000, z1024, z2000, z5860, z10000, z12345, z15625, z266240, z1048575, z1064960, z1103515245, z_m1, hVSb, hPSb, b9]
              have l012 : vL m = 0 ∨ vL m = 1 ∨ vL m = 2 := by omega
              rcases l012 with e | e | e
              · obtain ⟨Sc, ec, fc, gc⟩ := k_rename (n := n) (o := none) n50 hBb hv.p b75 b78 hp hc hw (fun h hh => by cases hh)
                refine ⟨Sc, base _ ?_, fc.f rfl, fun c hc' => ?_⟩
                · rw [if_pos (by rw [e])]
                  show (fnX6_rename n Sb (67 + 8) (nI w) (oI none)).bind _ = _
                  rw [ec]; rfl
                · rw [dR, if_neg (by omega), rn_fl, if_pos e]; exact gc c hc'
              · refine ⟨Sb, base _ ?_, rvf.rf _ _, fun c hc' => ?_⟩
                · rw [e, if_neg (by decide), if_neg (by decide)]
                · rw [dR, if_pos e]; exact b78 c hc'
              · obtain ⟨Sc, ec, fc, gc⟩ := k_rename (n := n) (o := some h) n50 hBb hv.p b75 b78 hp hc hw (fun h' hh' => by cases hh'; omega)
                refine ⟨Sc, base _ ?_, fc.f rfl, fun c hc' => ?_⟩
                · rw [e, if_neg (by decide), if_pos rfl]
                  show (fnX6_rename n Sb (67 + 8) (nI w) (oI (some h))).bind _ = _
                  rw [ec]; rfl
                · rw [dR, if_neg (by omega), rn_fl, if_neg (by omega)]; exact gc c hc'
            obtain ⟨Sc, ec, fc, gc⟩ := lst
            have hBc := fc.B hBb
            have f1 : rvf [77, 68, 74, 78] S Sc := (fa'.mono rfl).tr ((fb'.mono rfl).tr (fc.mono rfl))
            -- the reference
            obtain ⟨S2, e2, hB2, f2, hM2, r2, b2⟩ := start_ok hn hBc (hL.f f1 rfl rfl)
            have md2 := m_isDead (n := n) hB2 hM2 hp hw
            have mh2 := m_isDead (n := n) hB2 hM2 hp hh
            rw [decide_eq_false d1] at md2
            rw [decide_eq_false d2] at mh2
            have f3 : rvf [191] S2 (rv_sI S2 191 (10 + 5 * w) (nI 1)) := rvf.sIr S2 _ _ rfl
            have hM3 : MR (rv_sI S2 191 (10 + 5 * w) (nI 1)) (de1 m w) := hM2.u _ _
            have hB3 := f3.B hB2
            have e0 : vW (de1 m w) = vW m := de1_off (by omega)
            have hk1 : okm (de1 m w) := ⟨de1_okp hp hw, hc.c e0 (de1_off (by omega)) (de1_off (by omega)) (fun k h1 h2 => de1_off (by omega)), hd.c2 h24 (fun k hk => de1_off (by omega)) (fun k hk => de1_off (by omega))⟩
            obtain ⟨S4, m', e4, f4, hM4, dd, r4⟩ := m_dies (n := n) n50 hB3 hM3 hk1.1 hk1.2.1 hk1.2.2 (w := w) (h := h) (by rw [e0]; exact hw) (by rw [e0]; exact hh)
            obtain ⟨t1, t2, t3, t4⟩ := dd
            have eC : vC (de1 m w) = vC m := de1_off (by omega)
            have eL : vL (de1 m w) = vL m := de1_off (by omega)
            have eow : ∀ c, ow (de1 m w) c = ow m c := fun c => de1_off (by omega)
            have erl : ∀ c, rl (de1 m w) c = rl m c := fun c => by
              unfold rl
              rw [show mn (de1 m w) c = mn m c from de1_off (by omega), show rm (de1 m w) c 0 = rm m c 0 from de1_off (by omega), show rm (de1 m w) c 1 = rm m c 1 from de1_off (by omega), show rm (de1 m w) c 2 = rm m c 2 from de1_off (by omega)]
            have edR : ∀ l, dR (de1 m w) w h l = dR m w h l := fun l => by unfold dR; rw [eL]
            have efun : (fun c => decide (ow (de1 m w) c = w)) = (fun c => decide (ow m c = w)) := funext fun c => by rw [eow]
            rw [eC] at e4 t3
            rw [efun] at e4
            have lo : ∀ k, k < 132 → m' k = de1 m w k := fun k hk => t1 k (by omega)
            have hi : ∀ k, 372 ≤ k → m' k = de1 m w k := fun k hk => t1 k (by omega)
            have dlen : ∀ c, (dR m w h (rl m c)).length ≤ (rl m c).length := fun c => by
              unfold dR; split
              · exact Nat.le_refl _
              · exact rn_len _ _ _ _
            have hc' : okc m' := by
              obtain ⟨h1, hN, h3⟩ := hc
              have g0 : vW m' = vW m := (lo 0 (by decide)).trans e0
              have g1 : vC m' = vC m := (lo 1 (by decide)).trans eC
              have g3 : vN m' = vN m := (lo 3 (by decide)).trans (de1_off (by omega))
              refine ⟨by rw [g1]; exact h1, by rw [g3]; exact hN, fun c hcc => ?_⟩
              rw [g1] at hcc
              obtain ⟨a1, a2, a3, a4, a5⟩ := h3 c hcc
              obtain ⟨b1, b2', b3⟩ := t3 c hcc
              rw [eow] at b1
              rw [erl, edR] at b2' b3
              have va' : va m' c = va m c := (t2 c).trans (de1_off (by omega))
              have hl3 := rl_len (m := m) (c := c) (by omega)
              have dl := dlen c
              refine ⟨by rw [va']; exact a1, by rw [va']; exact a2, by rw [g0, b1]; split <;> assumption, by rw [g3, b3]; omega, fun i hii => ?_⟩
              have hm3 : mn m' c ≤ 3 := by rw [b3]; omega
              have := rl_get hm3 hii
              rw [b2'] at this
              rw [g0]
              have hmem := List.mem_of_getElem? this
              have hlm : ∀ x ∈ rl m c, x < vW m := (hk.2.1.l hcc).2
              unfold dR at hmem
              split at hmem
              · exact hlm _ hmem
              · exact rn_mem hlm hh _ hmem
            have hk' : okm m' := ⟨hk1.1.c lo, hc', hk1.2.2.c (by rw [e0]; exact h24) lo hi⟩
            have hR1 : CR Sc 67 m' := by
              have hFc : FR Sc (67 + 1) (de1 m w) := by
                obtain ⟨q1, q2, q3, q4, q5, q6, q7, q8⟩ := gb
                have g := fun (b : Nat) (h1 : rwb b = true) (h2 : [78].elem b = false) (k : Nat) => fc.row h1 h2 k
                exact ⟨(g _ rfl rfl _).trans q1, (g _ rfl rfl _).trans q2, (g _ rfl rfl _).trans q3, fun x hx => (g _ rfl rfl x).trans (q4 x hx), fun x hx => (g _ rfl rfl x).trans (q5 x hx), fun x hx => (g _ rfl rfl x).trans (q6 x hx), fun x hx => (g _ rfl rfl x).trans (q7 x hx), fun x hx => (g _ rfl rfl x).trans (q8 x hx)⟩
              have hDc : DR Sc 67 m := by
                obtain ⟨c1, c2, c3, c4, c5, c6, c7⟩ := hD
                exact ⟨(f1.row rfl rfl _).trans c1, (f1.row rfl rfl _).trans c2, (f1.row rfl rfl _).trans c3, (f1.row rfl rfl _).trans c4, fun k hk => (f1.row rfl rfl _).trans (c5 k hk), fun k hk => (f1.row rfl rfl _).trans (c6 k hk), fun k hk => (f1.row rfl rfl _).trans (c7 k hk)⟩
              have g1 : vC m' = vC m := (lo 1 (by decide)).trans eC
              have g3 : vN m' = vN m := (lo 3 (by decide)).trans (de1_off (by omega))
              obtain ⟨p1, p2, p3, p4, p5⟩ := hP
              refine ⟨hFc.c hk1.1 lo, ⟨?_, ?_, fun c hcc => ?_, fun c hcc => ?_, fun c hcc => ?_⟩, hDc.c2 ((lo 2 (by decide)).trans (de1_off (by omega))) ((lo 4 (by decide)).trans (de1_off (by omega))) ((lo 5 (by decide)).trans (de1_off (by omega))) (fun k hk => (hi k hk).trans (de1_off (by omega)))⟩
              · rw [g1]; exact (f1.row rfl rfl _).trans p1
              · rw [g3]; exact (f1.row rfl rfl _).trans p2
              · rw [g1] at hcc
                rw [show va m' c = va m c from (t2 c).trans (de1_off (by omega))]
                exact (f1.row rfl rfl _).trans (p3 c hcc)
              · rw [g1] at hcc
                rw [(t3 c hcc).1, eow]
                exact (fc.row rfl rfl _).trans ((fb'.row rfl rfl _).trans (ga c hcc))
              · rw [g1] at hcc
                rw [(t3 c hcc).2.1, erl, edR]
                exact gc c hcc
            have fz : rvf [189000, 189022, 191] Sc S4 := (f2.mono rfl).tr ((f3.mono rfl).tr (f4.mono rfl))
            have hb4 : ¬ S4.2.1 189 22 = 0 := by rw [f4.at (a := 189) (k := 22) rfl, f3.at (a := 189) (k := 22) rfl]; exact b2
            refine ⟨nI (fb_ct (fun c => decide (ow m c = w)) (vC m)), Sc, S4, m', ?_, ?_, QS.two hV f1 fz rfl rfl rfl rfl hR1 hM4 hb4 hk' ((lo 0 (by decide)).trans e0) ((lo 6 (by decide)).trans (de1_off (by omega))) (r2.tr ((R42.u (fun _ _ => rfl) _ (by omega)).tr r4)), (lo 6 (by decide)).trans (de1_off (by omega))⟩
            · rw [fnX12_dies]
              repeat (first | (conv => (lhs; arg 1; simp (disch := first | assumption | omega) only [tk_gI, tk_gL, tk_gR, tk_pI, tk_pL, rv_aI, rv_aL, rv_aR, rv_uI, rv_uL, rv_uB, rv_uZ, pu_ckI, pu_ckL, pu_lnI, pu_lnL, tk_rI, tk_rL, Option.bind_some, Option.map_some, rv_lt, tk_ix, z0, z1, z2, z3, z4, z5, z6, z7, z8, z9, z10, z11, z12, z13, z15, z16, z17, z18, z20, z21, z23, z24, z25, z31, z32, z39, z40, z41, z46, z48, z50, z57, z59, z60, z61, z62, z63, z64, z97, z98, z99, z100, z101, z102, z103, z104, z105, z106, z107, z108, z109, z110, z111, z112, z113, z114, z115, z116, z117, z118, z119, z120, z121, z122, z128, z132, z200, z240, z255, z372, z390625, z400, z420, z421, z422, z662, z900, z940, z999, z1000, z1024, z2000, z5860, z10000, z12345, z15625, z266240, z1048575, z1064960, z1103515245, z_m1, n_le, n_lt, n_eq, n_bit0, n_bit1, n_sbit0, n_shl, z_ltM, z_Mlt, z_leM, z_Mle, z_eqM, z_Meq, bI0, bI1, bI_01, bI_01t, bI_10, bI_10f, if_true, if_false, eq_self, reduceCtorEq, hC, hVS, hFS, k_isWho hB hR hk hw, k_isWho hB hR hk hh, cwh, kd, kh, ec])); first | rw [Option.bind_some] | rw [bp_s] | rw [if_true] | rw [if_false] | rw [rv_lt_eq] | rw [if_pos (by omega)] | rw [if_neg (by omega)])
              all_goals rfl
            · have e10 : 8 + 5 * w + 2 = 10 + 5 * w := by omega
              rw [fnX13_dies]
              repeat (first | (conv => (lhs; arg 1; simp (disch := first | assumption | omega) only [tk_gI, tk_gL, tk_gR, tk_pI, tk_pL, rv_aI, rv_aL, rv_aR, rv_uI, rv_uL, rv_uB, rv_uZ, pu_ckI, pu_ckL, pu_lnI, pu_lnL, tk_rI, tk_rL, Option.bind_some, Option.map_some, rv_lt, tk_ix, z0, z1, z2, z3, z4, z5, z6, z7, z8, z9, z10, z11, z12, z13, z15, z16, z17, z18, z20, z21, z23, z24, z25, z31, z32, z39, z40, z41, z46, z48, z50, z57, z59, z60, z61, z62, z63, z64, z97, z98, z99, z100, z101, z102, z103, z104, z105, z106, z107, z108, z109, z110, z111, z112, z113, z114, z115, z116, z117, z118, z119, z120, z121, z122, z128, z132, z200, z240, z255, z372, z390625, z400, z420, z421, z422, z662, z900, z940, z999, z1000, z1024, z2000, z5860, z10000, z12345, z15625, z266240, z1048575, z1064960, z1103515245, z_m1, n_le, n_lt, n_eq, n_bit0, n_bit1, n_sbit0, n_shl, z_ltM, z_Mlt, z_leM, z_Mle, z_eqM, z_Meq, bI0, bI1, bI_01, bI_01t, bI_10, bI_10f, if_true, if_false, eq_self, reduceCtorEq, rc_189 hBc, e2, rc_189 hB2, m_isWho hB2 hM2 hp hw, m_isWho hB2 hM2 hp hh, cwh, md2, mh2, rf_of hB2 (show (189, 14, 191) ∈ rv_rf0 by decide), rn_191 hB2, nI_add, z_mul, e10])); first | rw [Option.bind_some] | rw [bp_s] | rw [if_true] | rw [if_false] | rw [rv_lt_eq] | rw [if_pos (by omega)] | rw [if_neg (by omega)])
              exact e4
    · refine same (r := iM) ?_ ⟨S6, ?_, QS.s0 hV f6 hM6 r6 b6⟩
      · rw [fnX12_dies]
        repeat (first | (conv => (lhs; arg 1; simp (disch := first | assumption | omega) only [tk_gI, tk_gL, tk_gR, tk_pI, tk_pL, rv_aI, rv_aL, rv_aR, rv_uI, rv_uL, rv_uB, rv_uZ, pu_ckI, pu_ckL, pu_lnI, pu_lnL, tk_rI, tk_rL, Option.bind_some, Option.map_some, rv_lt, tk_ix, z0, z1, z2, z3, z4, z5, z6, z7, z8, z9, z10, z11, z12, z13, z15, z16, z17, z18, z20, z21, z23, z24, z25, z31, z32, z39, z40, z41, z46, z48, z50, z57, z59, z60, z61, z62, z63, z64, z97, z98, z99, z100, z101, z102, z103, z104, z105, z106, z107, z108, z109, z110, z111, z112, z113, z114, z115, z116, z117, z118, z119, z120, z121, z122, z128, z132, z200, z240, z255, z372, z390625, z400, z420, z421, z422, z662, z900, z940, z999, z1000, z1024, z2000, z5860, z10000, z12345, z15625, z266240, z1048575, z1064960, z1103515245, z_m1, n_le, n_lt, n_eq, n_bit0, n_bit1, n_sbit0, n_shl, z_ltM, z_Mlt, z_leM, z_Mle, z_eqM, z_Meq, bI0, bI1, bI_01, bI_01t, bI_10, bI_10f, if_true, if_false, eq_self, reduceCtorEq, hC, k_isWho hB hR hk hw, k_isWho0 hB hR hy])); first | rw [Option.bind_some] | rw [bp_s] | rw [if_true] | rw [if_false] | rw [rv_lt_eq] | rw [if_pos (by omega)] | rw [if_neg (by omega)])
        all_goals rfl
      · rw [fnX13_dies]
        repeat (first | (conv => (lhs; arg 1; simp (disch := first | assumption | omega) only [tk_gI, tk_gL, tk_gR, tk_pI, tk_pL, rv_aI, rv_aL, rv_aR, rv_uI, rv_uL, rv_uB, rv_uZ, pu_ckI, pu_ckL, pu_lnI, pu_lnL, tk_rI, tk_rL, Option.bind_some, Option.map_some, rv_lt, tk_ix, z0, z1, z2, z3, z4, z5, z6, z7, z8, z9, z10, z11, z12, z13, z15, z16, z17, z18, z20, z21, z23, z24, z25, z31, z32, z39, z40, z41, z46, z48, z50, z57, z59, z60, z61, z62, z63, z64, z97, z98, z99, z100, z101, z102, z103, z104, z105, z106, z107, z108, z109, z110, z111, z112, z113, z114, z115, z116, z117, z118, z119, z120, z121, z122, z128, z132, z200, z240, z255, z372, z390625, z400, z420, z421, z422, z662, z900, z940, z999, z1000, z1024, z2000, z5860, z10000, z12345, z15625, z266240, z1048575, z1064960, z1103515245, z_m1, n_le, n_lt, n_eq, n_bit0, n_bit1, n_sbit0, n_shl, z_ltM, z_Mlt, z_leM, z_Mle, z_eqM, z_Meq, bI0, bI1, bI_01, bI_01t, bI_10, bI_10f, if_true, if_false, eq_self, reduceCtorEq, rc_189 hB, e6, rc_189 hB6, m_isWho hB6 hM6 hp hw, m_isWho0 hB6 hM6 hy])); first | rw [Option.bind_some] | rw [bp_s] | rw [if_true] | rw [if_false] | rw [rv_lt_eq] | rw [if_pos (by omega)] | rw [if_neg (by omega)])
        all_goals rfl
  · refine same (r := iM) ?_ ⟨S6, ?_, QS.s0 hV f6 hM6 r6 b6⟩
    · rw [fnX12_dies]
      repeat (first | (conv => (lhs; arg 1; simp (disch := first | assumption | omega) only [tk_gI, tk_gL, tk_gR, tk_pI, tk_pL, rv_aI, rv_aL, rv_aR, rv_uI, rv_uL, rv_uB, rv_uZ, pu_ckI, pu_ckL, pu_lnI, pu_lnL, tk_rI, tk_rL, Option.bind_some, Option.map_some, rv_lt, tk_ix, z0, z1, z2, z3, z4, z5, z6, z7, z8, z9, z10, z11, z12, z13, z15, z16, z17, z18, z20, z21, z23, z24, z25, z31, z32, z39, z40, z41, z46, z48, z50, z57, z59, z60, z61, z62, z63, z64, z97, z98, z99, z100, z101, z102, z103, z104, z105, z106, z107, z108, z109, z110, z111, z112, z113, z114, z115, z116, z117, z118, z119, z120, z121, z122, z128, z132, z200, z240, z255, z372, z390625, z400, z420, z421, z422, z662, z900, z940, z999, z1000, z1024, z2000, z5860, z10000, z12345, z15625, z266240, z1048575, z1064960, z1103515245, z_m1, n_le, n_lt, n_eq, n_bit0, n_bit1, n_sbit0, n_shl, z_ltM, z_Mlt, z_leM, z_Mle, z_eqM, z_Meq, bI0, bI1, bI_01, bI_01t, bI_10, bI_10f, if_true, if_false, eq_self, reduceCtorEq, hC, k_isWho0 hB hR hx])); first | rw [Option.bind_some] | rw [bp_s] | rw [if_true] | rw [if_false] | rw [rv_lt_eq] | rw [if_pos (by omega)] | rw [if_neg (by omega)])
      all_goals rfl
    · rw [fnX13_dies]
      repeat (first | (conv => (lhs; arg 1; simp (disch := first | assumption | omega) only [tk_gI, tk_gL, tk_gR, tk_pI, tk_pL, rv_aI, rv_aL, rv_aR, rv_uI, rv_uL, rv_uB, rv_uZ, pu_ckI, pu_ckL, pu_lnI, pu_lnL, tk_rI, tk_rL, Option.bind_some, Option.map_some, rv_lt, tk_ix, z0, z1, z2, z3, z4, z5, z6, z7, z8, z9, z10, z11, z12, z13, z15, z16, z17, z18, z20, z21, z23, z24, z25, z31, z32, z39, z40, z41, z46, z48, z50, z57, z59, z60, z61, z62, z63, z64, z97, z98, z99, z100, z101, z102, z103, z104, z105, z106, z107, z108, z109, z110, z111, z112, z113, z114, z115, z116, z117, z118, z119, z120, z121, z122, z128, z132, z200, z240, z255, z372, z390625, z400, z420, z421, z422, z662, z900, z940, z999, z1000, z1024, z2000, z5860, z10000, z12345, z15625, z266240, z1048575, z1064960, z1103515245, z_m1, n_le, n_lt, n_eq, n_bit0, n_bit1, n_sbit0, n_shl, z_ltM, z_Mlt, z_leM, z_Mle, z_eqM, z_Meq, bI0, bI1, bI_01, bI_01t, bI_10, bI_10f, if_true, if_false, eq_self, reduceCtorEq, rc_189 hB, e6, rc_189 hB6, m_isWho0 hB6 hM6 hx])); first | rw [Option.bind_some] | rw [bp_s] | rw [if_true] | rw [if_false] | rw [rv_lt_eq] | rw [if_pos (by omega)] | rw [if_neg (by omega)])
      all_goals rfl
end
section
variable {n : Nat} {S : rvS} {m m' : Nat → Nat} {wd : Nat → List Nat} {B : Nat → Bool} {b : Nat}
theorem op_settle6 (hn : 1100 ≤ n) (hV : VI S m wd) (hG : GV S) (x y z : Int32) : ∃ r S1 S' m', fnX12_settle n S 64 x y z = some (r, S1) ∧ fnX13_settle n S1 189 x y z = some (r, S') ∧ QD DG S S' m' wd ∧ m' 6 = m 6 ∧ GV S' := by
  obtain ⟨hB, hR, hL, hk, -⟩ := id hV
  have hC := CS_of hB
  rcases ok3 (n := n) hB hR hk x y z with ⟨a, b, X, ha, hb, h1, hX, rfl, rfl, rfl⟩ | ⟨u1, u2⟩
  · rcases k_exact hn hB hR hk ha hb h1 hX with ⟨t1, S1, e1, f1⟩ | ⟨t1, S1, e1, f1, g1, g2, g3⟩
    · have hB1 := f1.B hB
      have hL1 := hL.f f1 rfl rfl
      obtain ⟨S2, e2, f2, hM2, r2, b2⟩ := (m_exact hn hB1 hL1 hk ha hb h1 hX).1 t1
      have q := hR.f f1 (Or.inl rfl) (Or.inl rfl) (Or.inr (by decide)) (Or.inr (by decide)) (Or.inr (by decide))
      refine ⟨iM, S1, S2, m, ?_, ?_, QD.two hV f1 f2 rfl rfl rfl rfl q hM2 b2 hk rfl rfl r2, rfl, (hG.f f1 rfl rfl rfl rfl).f f2 rfl rfl rfl rfl⟩
      · rw [fnX12_settle, hC.1, Option.bind_some, e1, bp_s, if_pos (by decide)]
      · rw [fnX13_settle, rc_189 hB1, Option.bind_some, e2, bp_s, if_pos (by decide)]
    · have hB1 := f1.B hB
      have q := hR.f f1 (Or.inl rfl) (Or.inl rfl) (Or.inr (by decide)) (Or.inr (by decide)) (Or.inr (by decide))
      obtain ⟨S2, e2, f2, p2⟩ := k_moveAll (B := Bf (gz m a b) (va m) (vC m) X) hn hB1 q.2.1 hk hb
      have q2 := cr_mvs q hk f2 p2
      have hB2 := f2.B hB1
      have f12 : rvf [108, 109, 64012, 64013, 77, 78] S S2 := (f1.mono rfl).tr (f2.mono rfl)
      have hL2 := hL.f f12 rfl rfl
      obtain ⟨S3, e3, f3, hM3, r3, b3, g4, g5, g6⟩ := (m_exact hn hB2 hL2 hk ha hb h1 hX).2 t1
      have hB3 := f3.B hB2
      obtain ⟨S4, e4, f4, hM4, r4⟩ := m_giveAll hn hB3 hM3 hk hb g6
      have b40 := bs_64 (Bf (gz m a b) (va m) (vC m) X) hk.2.1.1
      have b4 : ¬ S4.2.1 189 22 = 0 := by rw [f4.at (a := 189) (k := 22) rfl]; exact b3
      have fz : rvf [189000, 189022, 191, 199, 200, 202, 201, 189028] S2 S4 := f3.tr (f4.mono rfl)
      refine ⟨nI (tb (gz m a b) (va m) (vC m) (vC m) X), S2, S4, mvs m (Bf (gz m a b) (va m) (vC m) X) b (vC m), ?_, ?_, QD.two hV f12 fz rfl rfl rfl rfl q2 hM4 b4 (mvs_ok hk hb _ (Nat.le_refl _)) (mvs_lo _ 0 (by decide)) (mvs_lo _ 6 (by decide)) (r3.tr r4), mvs_lo _ 6 (by decide), vC m, bs (Bf (gz m a b) (va m) (vC m) X) (vC m), hk.2.1.1, by omega, (fz.atL (a := 64) (k := 12) rfl).trans ((f2.atL (a := 64) (k := 12) rfl).trans g2), (fz.at (a := 64) (k := 13) rfl).trans ((f2.at (a := 64) (k := 13) rfl).trans g3), (f4.at (a := 189) (k := 28) rfl).trans g4, fun j hj => (f4.row rfl rfl j).trans ((g5 j hj).trans ?_)⟩
      · have hC1 := CS_of hB1
        have hVS1 := VS_of hB1 (show vb 67 from Or.inl rfl)
        have r5 := rf_of hB1 (show (64, 5, 108) ∈ rv_rf0 by decide)
        have hPS1 := PS_of hB1 (show pb 75 from Or.inl rfl)
        rw [fnX12_settle, hC.1, Option.bind_some, e1, bp_s]
        simp (disch := first | assumption | omega) only [tk_gI, tk_gL, tk_gR, tk_pI, tk_pL, rv_aI, rv_aL, rv_aR, rv_uI, rv_uL, rv_uB, rv_uZ, pu_ckI, pu_ckL, pu_lnI, pu_lnL, tk_rI, tk_rL, Option.bind_some, Option.map_some, rv_lt, tk_ix, z0, z1, z2, z3, z4, z5, z6, z7, z8, z9, z10, z11, z12, z13, z15, z16, z17, z18, z20, z21, z23, z24, z25, z31, z32, z39, z40, z41, z46, z48, z50, z57, z59, z60, z61, z62, z63, z64, z97, z98, z99, z100, z101, z102, z103, z104, z105, z106, z107, z108, z109, z110, z111, z112, z113, z114, z115, z116, z117, z118, z119, z120, z121, z122, z128, z132, z200, z240, z255, z372, z390625, z400, z420, z421, z422, z662, z900, z940, z999, z1000, z1024, z2000, z5860, z10000, z12345, z15625, z266240, z1048575, z1064960, z1103515245, z_m1, n_le, n_lt, n_eq, n_bit0, n_bit1, n_sbit0, n_shl, z_ltM, z_Mlt, z_leM, z_Mle, z_eqM, z_Meq, bI0, bI1, bI_01, bI_01t, bI_10, bI_10f, if_true, if_false, eq_self, reduceCtorEq, if_pos, if_neg, hC1, hVS1, hPS1, r5, rc_108 hB1, g1, e2, Nat.not_lt_zero]
      · rw [fnX13_settle, rc_189 hB2, Option.bind_some, e3, bp_s]
        simp (disch := first | assumption | omega) only [tk_gI, tk_gL, tk_gR, tk_pI, tk_pL, rv_aI, rv_aL, rv_aR, rv_uI, rv_uL, rv_uB, rv_uZ, pu_ckI, pu_ckL, pu_lnI, pu_lnL, tk_rI, tk_rL, Option.bind_some, Option.map_some, rv_lt, tk_ix, z0, z1, z2, z3, z4, z5, z6, z7, z8, z9, z10, z11, z12, z13, z15, z16, z17, z18, z20, z21, z23, z24, z25, z31, z32, z39, z40, z41, z46, z48, z50, z57, z59, z60, z61, z62, z63, z64, z97, z98, z99, z100, z101, z102, z103, z104, z105, z106, z107, z108, z109, z110, z111, z112, z113, z114, z115, z116, z117, z118, z119, z120, z121, z122, z128, z132, z200, z240, z255, z372, z390625, z400, z420, z421, z422, z662, z900, z940, z999, z1000, z1024, z2000, z5860, z10000, z12345, z15625, z266240, z1048575, z1064960, z1103515245, z_m1, n_le, n_lt, n_eq, n_bit0, n_bit1, n_sbit0, n_shl, z_ltM, z_Mlt, z_leM, z_Mle, z_eqM, z_Meq, bI0, bI1, bI_01, bI_01t, bI_10, bI_10f, if_true, if_false, eq_self, reduceCtorEq, if_pos, if_neg, rc_189 hB3, e4, Nat.not_lt_zero]
      · rw [bs_bit, decide_eq_true hj, Bool.true_and]
  · obtain ⟨S6, e6, hB6, f6, hM6, r6, b6⟩ := start_ok (n := n) (by omega) hB hL
    have q := QS.s0 hV f6 hM6 r6 b6
    refine ⟨-(nI 2), S, S6, m, ?_, ?_, q.dg, rfl, hG.v q⟩
    · rw [fnX12_settle, hC.1, Option.bind_some, u1, bp_s, if_pos (by decide)]
    · rw [fnX13_settle, rc_189 hB, Option.bind_some, u2 S S6 hB e6 hB6 hM6, bp_s, if_pos (by decide)]
end
section
variable {n : Nat} {S : rvS} {m m' : Nat → Nat} {wd : Nat → List Nat}
theorem op_clear6 (hn : 1100 ≤ n) (hV : VI S m wd) (x : Int32) : ∃ r S1 S' m', fnX12_clear n S 64 x = some (r, S1) ∧ fnX13_clear n S1 189 x = some (r, S') ∧ QS S S' m' wd ∧ m' 6 = m 6 := by
  obtain ⟨hB, hR, hL, hk, -⟩ := id hV
  obtain ⟨hp, hc, hd⟩ := id hk
  have h12 := hd.1
  have hC := CS_of hB
  have hv : vb 67 := Or.inl rfl
  have hVS := VS_of hB hv
  have r5 := rf_of hB (show (64, 5, 108) ∈ rv_rf0 by decide)
  have bad : fnX12_clear n S 64 x = some (-(nI 2), S) → (∀ S6, fnX13_lay n (rv_sI S 189 0 (nI 0)) 189 = some S6 → rv_B S6 → MR S6 m → fnX13_clear n S 189 x = some (-(nI 2), S6)) → ∃ r S1 S' m', fnX12_clear n S 64 x = some (r, S1) ∧ fnX13_clear n S1 189 x = some (r, S') ∧ QS S S' m' wd ∧ m' 6 = m 6 := fun h1 h2 => by
    obtain ⟨S6, e6, hB6, f6, hM6, r6, b6⟩ := start_ok (n := n) (by omega) hB hL
    exact ⟨_, S, S6, m, h1, h2 S6 e6 hB6 hM6, QS.s0 hV f6 hM6 r6 b6, rfl⟩
  rcases rng x (N := vD m) (by omega) with ⟨k, h, rfl⟩ | hx
  · have k1 := k_isDebt (n := n) hB hR hk h
    have k2 := k9_isCleared (n := n) hB hv hR hk h
    obtain ⟨q1, q2, q3, q4, q5, q6⟩ := hd.2.2.2.2.2.2 k h
    by_cases c3 : db m k 3 = 0
    · rw [show decide (0 < db m k 3) = false from decide_eq_false (by omega), bI_f] at k2
      rcases k_payDebt hn hB hR hk h with ⟨t1, S1, e1, f1⟩ | ⟨t1, S1, e1, f1, q⟩
      · have hB1 := f1.B hB
        obtain ⟨S6, e6, hB6, f6, hM6, r6, b6⟩ := start_ok (n := n) (by omega) hB1 (hL.f f1 rfl rfl)
        obtain ⟨S2, e2, f2, hM2, r2⟩ := (m_clearNow hn hB6 hM6 hk h).1 t1
        have o3 := m_ofDebt (n := n) hB6 hM6 (k := k) (i := 3) (by omega) (by decide)
        rw [c3] at o3
        have q := hR.f f1 (Or.inl rfl) (Or.inl rfl) (Or.inr (by decide)) (Or.inr (by decide)) (Or.inr (by decide))
        have fz : rvf [189000, 189022, 191, 199, 200, 202] S1 S2 := (f6.mono rfl).tr (f2.mono rfl)
        refine ⟨iM, S1, S2, m, ?_, ?_, QS.two hV f1 fz rfl rfl rfl rfl q hM2 (by rw [f2.at (a := 189) (k := 22) rfl]; exact b6) hk rfl rfl (r6.tr r2), rfl⟩
        · rw [fnX12_clear]
          repeat (first | (conv => (lhs; arg 1; simp (disch := first | assumption | omega) only [tk_gI, tk_gL, tk_gR, tk_pI, tk_pL, rv_aI, rv_aL, rv_aR, rv_uI, rv_uL, rv_uB, rv_uZ, pu_ckI, pu_ckL, pu_lnI, pu_lnL, tk_rI, tk_rL, Option.bind_some, Option.map_some, rv_lt, tk_ix, z0, z1, z2, z3, z4, z5, z6, z7, z8, z9, z10, z11, z12, z13, z15, z16, z17, z18, z20, z21, z23, z24, z25, z31, z32, z39, z40, z41, z46, z48, z50, z57, z59, z60, z61, z62, z63, z64, z97, z98, z99, z100, z101, z102, z103, z104, z105, z106, z107, z108, z109, z110, z111, z112, z113, z114, z115, z116, z117, z118, z119, z120, z121, z122, z128, z132, z200, z240, z255, z372, z390625, z400, z420, z421, z422, z662, z900, z940, z999, z1000, z1024, z2000, z5860, z10000, z12345, z15625, z266240, z1048575, z1064960, z1103515245, z_m1, n_le, n_lt, n_eq, n_bit0, n_bit1, n_sbit0, n_shl, z_ltM, z_Mlt, z_leM, z_Mle, z_eqM, z_Meq, bI0, bI1, bI_01, bI_01t, bI_10, bI_10f, if_true, if_false, eq_self, reduceCtorEq, hC, hVS, k1, k2, r5, rc_108 hB, e1])); first | rw [Option.bind_some] | rw [bp_s] | rw [if_true] | rw [if_false] | rw [rv_lt_eq] | rw [if_pos (by omega)] | rw [if_neg (by omega)])
          all_goals rfl
        · rw [fnX13_clear]
          repeat (first | (conv => (lhs; arg 1; simp (disch := first | assumption | omega) only [tk_gI, tk_gL, tk_gR, tk_pI, tk_pL, rv_aI, rv_aL, rv_aR, rv_uI, rv_uL, rv_uB, rv_uZ, pu_ckI, pu_ckL, pu_lnI, pu_lnL, tk_rI, tk_rL, Option.bind_some, Option.map_some, rv_lt, tk_ix, z0, z1, z2, z3, z4, z5, z6, z7, z8, z9, z10, z11, z12, z13, z15, z16, z17, z18, z20, z21, z23, z24, z25, z31, z32, z39, z40, z41, z46, z48, z50, z57, z59, z60, z61, z62, z63, z64, z97, z98, z99, z100, z101, z102, z103, z104, z105, z106, z107, z108, z109, z110, z111, z112, z113, z114, z115, z116, z117, z118, z119, z120, z121, z122, z128, z132, z200, z240, z255, z372, z390625, z400, z420, z421, z422, z662, z900, z940, z999, z1000, z1024, z2000, z5860, z10000, z12345, z15625, z266240, z1048575, z1064960, z1103515245, z_m1, n_le, n_lt, n_eq, n_bit0, n_bit1, n_sbit0, n_shl, z_ltM, z_Mlt, z_leM, z_Mle, z_eqM, z_Meq, bI0, bI1, bI_01, bI_01t, bI_10, bI_10f, if_true, if_false, eq_self, reduceCtorEq, rc_189 hB1, e6, rc_189 hB6, m_isDebt hB6 hM6 hd h, o3, e2])); first | rw [Option.bind_some] | rw [bp_s] | rw [if_true] | rw [if_false] | rw [rv_lt_eq] | rw [if_pos (by omega)] | rw [if_neg (by omega)])
          all_goals rfl
      · have hB1 := f1.B hB
        have hkM : okm (pM m k) := mvs_ok hk q2 _ (Nat.le_refl _)
        have eD : vD (pM m k) = vD m := mvs_lo _ 2 (by decide)
        have hkD : k < vD (pM m k) := by omega
        have g7 : S1.2.1 67 7 = nI (bs (fun d => decide (0 < db (pM m k) d 3)) (vD (pM m k))) := q.2.2.2.1
        have q2' := cl_CR q hkM hkD
        obtain ⟨S2, eS2⟩ : ∃ S2, S2 = rv_sI S1 67 7 (nI (bs (fun d => decide (0 < db (pM m k) d 3)) (vD (pM m k)) ||| 2 ^ k)) := ⟨_, rfl⟩
        have f2 : rvf [67] S1 S2 := by rw [eS2]; exact (rvf.rf _ _).w rfl rfl
        rw [← eS2] at q2'
        have f12 : rvf [108, 109, 77, 78, 67] S S2 := (f1.mono rfl).tr (f2.mono rfl)
        have hB2 := f2.B hB1
        obtain ⟨S6, e6, hB6, f6, hM6, r6, b6⟩ := start_ok (n := n) (by omega) hB2 (hL.f f12 rfl rfl)
        obtain ⟨S3, e3, f3, hM3, r3⟩ := (m_clearNow hn hB6 hM6 hk h).2 t1
        have o3 := m_ofDebt (n := n) hB6 hM6 (k := k) (i := 3) (by omega) (by decide)
        rw [c3] at o3
        have fz : rvf [189000, 189022, 191, 199, 200, 202] S2 S3 := (f6.mono rfl).tr (f3.mono rfl)
        refine ⟨nI (pT m k), S2, S3, cl (pM m k) k, ?_, ?_, QS.two hV f12 fz rfl rfl rfl rfl q2' hM3 (by rw [f3.at (a := 189) (k := 22) rfl]; exact b6) (cl_ok hkM hkD) ((cl_lo (by decide)).trans (mvs_lo _ 0 (by decide))) ((cl_lo (by decide)).trans (mvs_lo _ 6 (by decide))) (r6.tr r3), (cl_lo (by decide)).trans (mvs_lo _ 6 (by decide))⟩
        · have hC1 := CS_of hB1
          have hVS1 := VS_of hB1 hv
          rw [fnX12_clear]
          repeat (first | (conv => (lhs; arg 1; simp (disch := first | assumption | omega) only [tk_gI, tk_gL, tk_gR, tk_pI, tk_pL, rv_aI, rv_aL, rv_aR, rv_uI, rv_uL, rv_uB, rv_uZ, pu_ckI, pu_ckL, pu_lnI, pu_lnL, tk_rI, tk_rL, Option.bind_some, Option.map_some, rv_lt, tk_ix, z0, z1, z2, z3, z4, z5, z6, z7, z8, z9, z10, z11, z12, z13, z15, z16, z17, z18, z20, z21, z23, z24, z25, z31, z32, z39, z40, z41, z46, z48, z50, z57, z59, z60, z61, z62, z63, z64, z97, z98, z99, z100, z101, z102, z103, z104, z105, z106, z107, z108, z109, z110, z111, z112, z113, z114, z115, z116, z117, z118, z119, z120, z121, z122, z128, z132, z200, z240, z255, z372, z390625, z400, z420, z421, z422, z662, z900, z940, z999, z1000, z1024, z2000, z5860, z10000, z12345, z15625, z266240, z1048575, z1064960, z1103515245, z_m1, n_le, n_lt, n_eq, n_bit0, n_bit1, n_sbit0, n_shl, z_ltM, z_Mlt, z_leM, z_Mle, z_eqM, z_Meq, bI0, bI1, bI_01, bI_01t, bI_10, bI_10f, if_true, if_false, eq_self, reduceCtorEq, hC, hVS, k1, k2, r5, rc_108 hB, e1])); first | rw [Option.bind_some] | rw [bp_s] | rw [if_true] | rw [if_false] | rw [rv_lt_eq] | rw [if_pos (by omega)] | rw [if_neg (by omega)])
          simp (disch := first | assumption | omega) only [tk_gI, tk_gL, tk_gR, tk_pI, tk_pL, rv_aI, rv_aL, rv_aR, rv_uI, rv_uL, rv_uB, rv_uZ, pu_ckI, pu_ckL, pu_lnI, pu_lnL, tk_rI, tk_rL, Option.bind_some, Option.map_some, rv_lt, tk_ix, z0, z1, z2, z3, z4, z5, z6, z7, z8, z9, z10, z11, z12, z13, z15, z16, z17, z18, z20, z21, z23, z24, z25, z31, z32, z39, z40, z41, z46, z48, z50, z57, z59, z60, z61, z62, z63, z64, z97, z98, z99, z100, z101, z102, z103, z104, z105, z106, z107, z108, z109, z110, z111, z112, z113, z114, z115, z116, z117, z118, z119, z120, z121, z122, z128, z132, z200, z240, z255, z372, z390625, z400, z420, z421, z422, z662, z900, z940, z999, z1000, z1024, z2000, z5860, z10000, z12345, z15625, z266240, z1048575, z1064960, z1103515245, z_m1, n_le, n_lt, n_eq, n_bit0, n_bit1, n_sbit0, n_shl, z_ltM, z_Mlt, z_leM, z_Mle, z_eqM, z_Meq, bI0, bI1, bI_01, bI_01t, bI_10, bI_10f, if_true, if_false, eq_self, reduceCtorEq, if_pos, if_neg, hC1, hVS1, g7, fa_or, ← eS2, Nat.not_lt_zero]
        · rw [fnX13_clear]
          repeat (first | (conv => (lhs; arg 1; simp (disch := first | assumption | omega) only [tk_gI, tk_gL, tk_gR, tk_pI, tk_pL, rv_aI, rv_aL, rv_aR, rv_uI, rv_uL, rv_uB, rv_uZ, pu_ckI, pu_ckL, pu_lnI, pu_lnL, tk_rI, tk_rL, Option.bind_some, Option.map_some, rv_lt, tk_ix, z0, z1, z2, z3, z4, z5, z6, z7, z8, z9, z10, z11, z12, z13, z15, z16, z17, z18, z20, z21, z23, z24, z25, z31, z32, z39, z40, z41, z46, z48, z50, z57, z59, z60, z61, z62, z63, z64, z97, z98, z99, z100, z101, z102, z103, z104, z105, z106, z107, z108, z109, z110, z111, z112, z113, z114, z115, z116, z117, z118, z119, z120, z121, z122, z128, z132, z200, z240, z255, z372, z390625, z400, z420, z421, z422, z662, z900, z940, z999, z1000, z1024, z2000, z5860, z10000, z12345, z15625, z266240, z1048575, z1064960, z1103515245, z_m1, n_le, n_lt, n_eq, n_bit0, n_bit1, n_sbit0, n_shl, z_ltM, z_Mlt, z_leM, z_Mle, z_eqM, z_Meq, bI0, bI1, bI_01, bI_01t, bI_10, bI_10f, if_true, if_false, eq_self, reduceCtorEq, rc_189 hB2, e6, rc_189 hB6, m_isDebt hB6 hM6 hd h, o3, e3])); first | rw [Option.bind_some] | rw [bp_s] | rw [if_true] | rw [if_false] | rw [rv_lt_eq] | rw [if_pos (by omega)] | rw [if_neg (by omega)])
          all_goals rfl
    · rw [show decide (0 < db m k 3) = true from decide_eq_true (by omega), bI_t] at k2
      refine bad ?_ fun S6 e6 hB6 hM6 => ?_
      · rw [fnX12_clear]
        repeat (first | (conv => (lhs; arg 1; simp (disch := first | assumption | omega) only [tk_gI, tk_gL, tk_gR, tk_pI, tk_pL, rv_aI, rv_aL, rv_aR, rv_uI, rv_uL, rv_uB, rv_uZ, pu_ckI, pu_ckL, pu_lnI, pu_lnL, tk_rI, tk_rL, Option.bind_some, Option.map_some, rv_lt, tk_ix, z0, z1, z2, z3, z4, z5, z6, z7, z8, z9, z10, z11, z12, z13, z15, z16, z17, z18, z20, z21, z23, z24, z25, z31, z32, z39, z40, z41, z46, z48, z50, z57, z59, z60, z61, z62, z63, z64, z97, z98, z99, z100, z101, z102, z103, z104, z105, z106, z107, z108, z109, z110, z111, z112, z113, z114, z115, z116, z117, z118, z119, z120, z121, z122, z128, z132, z200, z240, z255, z372, z390625, z400, z420, z421, z422, z662, z900, z940, z999, z1000, z1024, z2000, z5860, z10000, z12345, z15625, z266240, z1048575, z1064960, z1103515245, z_m1, n_le, n_lt, n_eq, n_bit0, n_bit1, n_sbit0, n_shl, z_ltM, z_Mlt, z_leM, z_Mle, z_eqM, z_Meq, bI0, bI1, bI_01, bI_01t, bI_10, bI_10f, if_true, if_false, eq_self, reduceCtorEq, hC, hVS, k1, k2])); first | rw [Option.bind_some] | rw [bp_s] | rw [if_true] | rw [if_false] | rw [rv_lt_eq] | rw [if_pos (by omega)] | rw [if_neg (by omega)])
        all_goals rfl
      · have o3 := m_ofDebt (n := n) hB6 hM6 (k := k) (i := 3) (by omega) (by decide)
        have o3' : ¬ nI (db m k 3) = 0 := by rw [z0, n_eq (by omega) (by decide)]; exact c3
        rw [fnX13_clear]
        repeat (first | (conv => (lhs; arg 1; simp (disch := first | assumption | omega) only [tk_gI, tk_gL, tk_gR, tk_pI, tk_pL, rv_aI, rv_aL, rv_aR, rv_uI, rv_uL, rv_uB, rv_uZ, pu_ckI, pu_ckL, pu_lnI, pu_lnL, tk_rI, tk_rL, Option.bind_some, Option.map_some, rv_lt, tk_ix, z0, z1, z2, z3, z4, z5, z6, z7, z8, z9, z10, z11, z12, z13, z15, z16, z17, z18, z20, z21, z23, z24, z25, z31, z32, z39, z40, z41, z46, z48, z50, z57, z59, z60, z61, z62, z63, z64, z97, z98, z99, z100, z101, z102, z103, z104, z105, z106, z107, z108, z109, z110, z111, z112, z113, z114, z115, z116, z117, z118, z119, z120, z121, z122, z128, z132, z200, z240, z255, z372, z390625, z400, z420, z421, z422, z662, z900, z940, z999, z1000, z1024, z2000, z5860, z10000, z12345, z15625, z266240, z1048575, z1064960, z1103515245, z_m1, n_le, n_lt, n_eq, n_bit0, n_bit1, n_sbit0, n_shl, z_ltM, z_Mlt, z_leM, z_Mle, z_eqM, z_Meq, bI0, bI1, bI_01, bI_01t, bI_10, bI_10f, if_true, if_false, eq_self, reduceCtorEq, rc_189 hB, e6, rc_189 hB6, m_isDebt hB6 hM6 hd h, o3])); first | rw [Option.bind_some] | rw [bp_s] | rw [if_true] | rw [if_false] | rw [rv_lt_eq] | rw [if_pos (by omega)] | rw [if_neg (by omega)])
        all_goals first | rfl | (rw [if_neg o3']; rfl)
  · refine bad ?_ fun S6 e6 hB6 hM6 => ?_
    · rw [fnX12_clear]
      repeat (first | (conv => (lhs; arg 1; simp (disch := first | assumption | omega) only [tk_gI, tk_gL, tk_gR, tk_pI, tk_pL, rv_aI, rv_aL, rv_aR, rv_uI, rv_uL, rv_uB, rv_uZ, pu_ckI, pu_ckL, pu_lnI, pu_lnL, tk_rI, tk_rL, Option.bind_some, Option.map_some, rv_lt, tk_ix, z0, z1, z2, z3, z4, z5, z6, z7, z8, z9, z10, z11, z12, z13, z15, z16, z17, z18, z20, z21, z23, z24, z25, z31, z32, z39, z40, z41, z46, z48, z50, z57, z59, z60, z61, z62, z63, z64, z97, z98, z99, z100, z101, z102, z103, z104, z105, z106, z107, z108, z109, z110, z111, z112, z113, z114, z115, z116, z117, z118, z119, z120, z121, z122, z128, z132, z200, z240, z255, z372, z390625, z400, z420, z421, z422, z662, z900, z940, z999, z1000, z1024, z2000, z5860, z10000, z12345, z15625, z266240, z1048575, z1064960, z1103515245, z_m1, n_le, n_lt, n_eq, n_bit0, n_bit1, n_sbit0, n_shl, z_ltM, z_Mlt, z_leM, z_Mle, z_eqM, z_Meq, bI0, bI1, bI_01, bI_01t, bI_10, bI_10f, if_true, if_false, eq_self, reduceCtorEq, hC, k_isDebt0 hB hR hx])); first | rw [Option.bind_some] | rw [bp_s] | rw [if_true] | rw [if_false] | rw [rv_lt_eq] | rw [if_pos (by omega)] | rw [if_neg (by omega)])
      all_goals rfl
    · rw [fnX13_clear]
      repeat (first | (conv => (lhs; arg 1; simp (disch := first | assumption | omega) only [tk_gI, tk_gL, tk_gR, tk_pI, tk_pL, rv_aI, rv_aL, rv_aR, rv_uI, rv_uL, rv_uB, rv_uZ, pu_ckI, pu_ckL, pu_lnI, pu_lnL, tk_rI, tk_rL, Option.bind_some, Option.map_some, rv_lt, tk_ix, z0, z1, z2, z3, z4, z5, z6, z7, z8, z9, z10, z11, z12, z13, z15, z16, z17, z18, z20, z21, z23, z24, z25, z31, z32, z39, z40, z41, z46, z48, z50, z57, z59, z60, z61, z62, z63, z64, z97, z98, z99, z100, z101, z102, z103, z104, z105, z106, z107, z108, z109, z110, z111, z112, z113, z114, z115, z116, z117, z118, z119, z120, z121, z122, z128, z132, z200, z240, z255, z372, z390625, z400, z420, z421, z422, z662, z900, z940, z999, z1000, z1024, z2000, z5860, z10000, z12345, z15625, z266240, z1048575, z1064960, z1103515245, z_m1, n_le, n_lt, n_eq, n_bit0, n_bit1, n_sbit0, n_shl, z_ltM, z_Mlt, z_leM, z_Mle, z_eqM, z_Meq, bI0, bI1, bI_01, bI_01t, bI_10, bI_10f, if_true, if_false, eq_self, reduceCtorEq, rc_189 hB, e6, rc_189 hB6, m_isDebt0 hB6 hM6 hx])); first | rw [Option.bind_some] | rw [bp_s] | rw [if_true] | rw [if_false] | rw [rv_lt_eq] | rw [if_pos (by omega)] | rw [if_neg (by omega)])
      all_goals rfl
end
section
variable {n : Nat} {S : rvS} {m m' : Nat → Nat} {wd : Nat → List Nat}
theorem op_days6 (hn : 500 ≤ n) (hV : VI S m wd) (hD : DW S) (x y : Int32) : ∃ r S1 S' m', fnX12_days n S 64 x y = some (r, S1) ∧ fnX13_days n S1 189 x y = some (r, S') ∧ QD DD S S' m' wd ∧ m' 6 = m 6 ∧ DW S' := by
  obtain ⟨hB, hR, hL, hk, hNC, hNM, hok⟩ := id hV
  obtain ⟨hp, hc, hd⟩ := id hk
  have h24 := hp.1
  have h40 := hc.1
  have hC := CS_of hB
  have hv : vb 67 := Or.inl rfl
  have hVS := VS_of hB hv
  have hFS := FS_of hB hv.f
  have hPS := PS_of hB hv.p
  have hF := hR.1
  have hP := hR.2.1
  have bad : fnX12_days n S 64 x y = some (iM, S) → (∀ S6, fnX13_lay n (rv_sI S 189 0 (nI 0)) 189 = some S6 → rv_B S6 → MR S6 m → fnX13_days n S 189 x y = some (iM, S6)) → ∃ r S1 S' m', fnX12_days n S 64 x y = some (r, S1) ∧ fnX13_days n S1 189 x y = some (r, S') ∧ QD DD S S' m' wd ∧ m' 6 = m 6 ∧ DW S' := fun h1 h2 => by
    obtain ⟨S6, e6, hB6, f6, hM6, r6, b6⟩ := start_ok (n := n) (by omega) hB hL
    have q := QS.s0 hV f6 hM6 r6 b6
    exact ⟨_, S, S6, m, h1, h2 S6 e6 hB6 hM6, q.dd, rfl, hD.v q⟩
  rcases rngd x with ⟨N, h1, h4, rfl⟩ | hx
  · by_cases c1 : 0 < vW m
    · by_cases c2 : 0 < vC m
      · obtain ⟨S1, eS1⟩ : ∃ S1, S1 = rv_sI (rv_sI (rv_sI (rv_sI (rv_sI (rv_sI S 64 10 (nI 1)) 147 0 y) 147 1 (nI 0)) 147 2 (nI 0)) 147 3 (nI 0)) 147 4 (nI 0) := ⟨_, rfl⟩
        have f1 : rvf [64010, 147] S S1 := by
          rw [eS1]
          exact (((((((rvf.sI S 64 10 (nI 1)).mono rfl)).w rfl rfl).w rfl rfl).w rfl rfl).w rfl rfl).w rfl rfl
        have hB1 := f1.B hB
        have t1 : S1.2.1 64 10 = nI 1 := by rw [eS1, rv_sI_a _ _ _ (by decide), rv_sI_a _ _ _ (by decide), rv_sI_a _ _ _ (by decide), rv_sI_a _ _ _ (by decide), rv_sI_a _ _ _ (by decide), rv_sI_eq]
        have R1 := hR.f f1 hv (Or.inl rfl) (Or.inr (by decide)) (Or.inr (by decide)) (Or.inr (by decide))
        have N1 : NC S1 67 m wd := fun w hw => (f1.rowL (a := 67 + 5) rfl rfl w).trans (hNC w hw)
        have X1 : DSC S1 (m, y, 0, 0, 0, 0) := by
          refine ⟨R1, ?_, ?_, ?_, ?_, ?_⟩
          · rw [eS1, rv_sI_k _ _ (by decide), rv_sI_k _ _ (by decide), rv_sI_k _ _ (by decide), rv_sI_k _ _ (by decide), rv_sI_eq]
          · rw [eS1, rv_sI_k _ _ (by decide), rv_sI_k _ _ (by decide), rv_sI_k _ _ (by decide), rv_sI_eq]
          · rw [eS1, rv_sI_k _ _ (by decide), rv_sI_k _ _ (by decide), rv_sI_eq]
          · rw [eS1, rv_sI_k _ _ (by decide), rv_sI_eq]
          · rw [eS1, rv_sI_eq]
        have O1 : DOK m (m, y, 0, 0, 0, 0).1 := ⟨hk, c1, rfl, rfl⟩
        obtain ⟨S2, e2, f2, X2, N2⟩ := k_days hn hB1 X1 O1 c2 N1 h4
        have O2 := dyN_ok O1 c2 N
        obtain ⟨Y, eY⟩ : ∃ Y, Y = dyN (m, y, 0, 0, 0, 0) N := ⟨_, rfl⟩
        rw [← eY] at e2 X2 N2 O2
        have hB2 := f2.B hB1
        have f12 : rvf [64010, 147, 68, 69, 70, 71, 72, 74, 77, 78] S S2 := (f1.mono rfl).tr (f2.mono rfl)
        obtain ⟨S6, e6, hB6, f6, hM6, r6, b6⟩ := start_ok (n := n) (by omega) hB2 (hL.f f12 rfl rfl)
        obtain ⟨S7, eS7⟩ : ∃ S7, S7 = rv_sI (rv_sI (rv_sI (rv_sI (rv_sI S6 189 49 y) 189 50 (nI 0)) 189 51 (nI 0)) 189 52 (nI 0)) 189 53 (nI 0) := ⟨_, rfl⟩
        have f7 : rvf [189049, 189050, 189051, 189052, 189053] S6 S7 := by
          rw [eS7]
          exact (((((rvf.sI S6 189 49 y).mono rfl).tr ((rvf.sI _ 189 50 (nI 0)).mono rfl)).tr ((rvf.sI _ 189 51 (nI 0)).mono rfl)).tr ((rvf.sI _ 189 52 (nI 0)).mono rfl)).tr ((rvf.sI _ 189 53 (nI 0)).mono rfl)
        have hB7 := f7.B hB6
        have X7 : DSM S7 (m, y, 0, 0, 0, 0) := by
          refine ⟨hM6.f f7 rfl, ?_, ?_, ?_, ?_, ?_⟩
          · rw [eS7, rv_sI_k _ _ (by decide), rv_sI_k _ _ (by decide), rv_sI_k _ _ (by decide), rv_sI_k _ _ (by decide), rv_sI_eq]
          · rw [eS7, rv_sI_k _ _ (by decide), rv_sI_k _ _ (by decide), rv_sI_k _ _ (by decide), rv_sI_eq]
          · rw [eS7, rv_sI_k _ _ (by decide), rv_sI_k _ _ (by decide), rv_sI_eq]
          · rw [eS7, rv_sI_k _ _ (by decide), rv_sI_eq]
          · rw [eS7, rv_sI_eq]
        obtain ⟨S8, e8, f8, X8, r8⟩ := m_days hn hB7 X7 O1 c2 h4
        rw [← eY] at X8
        have hB8 := f8.B hB7
        obtain ⟨S9, e9, f9, u0, u1, u2⟩ := m_days62 (n := n) hB8 X8
        have fz : rvf [189000, 189022, 191, 199, 189049, 189050, 189051, 189052, 189053, 215] S2 S9 := (f6.mono rfl).tr ((f7.mono rfl).tr ((f8.mono rfl).tr (f9.mono rfl)))
        have hM9 := X8.1.f f9 rfl
        have b9 : ¬ S9.2.1 189 22 = 0 := by rw [f9.at (a := 189) (k := 22) rfl, f8.at (a := 189) (k := 22) rfl, f7.at (a := 189) (k := 22) rfl]; exact b6
        have r9 : R42 S S9 := (R42.of f12 rfl).tr (r6.tr ((R42.of f7 rfl).tr (r8.tr (R42.of f9 rfl))))
        have R9 := X2.1.f fz hv (Or.inl rfl) (Or.inr (by decide)) (Or.inr (by decide)) (Or.inr (by decide))
        have q147 : ∀ k, S9.2.1 147 k = S2.2.1 147 k := fz.row rfl rfl
        obtain ⟨Ok, OW, OC, O6⟩ := O2
        refine ⟨nI Y.2.2.1, S2, S9, Y.1, ?_, ?_, ⟨⟨fz.B hB2, R9, MRL.of hM9 b9, Ok, fun w hw => ?_, fun w hw => ?_, hok.c O6⟩, (f12.mono (by decide)).tr (fz.mono (by decide)), r9⟩, O6, Or.inr ⟨(fz.at (a := 64) (k := 10) rfl).trans ((f2.at (a := 64) (k := 10) rfl).trans t1), fun j hj => ?_⟩⟩
        · have r8' : ∀ T, rv_B T → T.2.2.2 64 8 = some 147 := fun T hT => rf_of hT (by decide)
          have kw0 : ¬ nI (vW m) = (0 : Int32) := by rw [z0, n_eq (by omega) (by decide)]; omega
          have kc0 : ¬ nI (vC m) = (0 : Int32) := by rw [z0, n_eq (by omega) (by decide)]; omega
          have n1 : ¬ nI N < (1 : Int32) := by rw [z1, n_lt (by omega) (by decide)]; omega
          have n4 : ¬ (400 : Int32) < nI N := by rw [z400, n_lt (by decide) (by omega)]; omega
          have hc64 := rc_64 hB
          have hc147 := rc_147 hB
          have r8 := r8' S hB
          rw [fnX12_days, if_neg n1, if_neg n4]
          repeat (first | (conv => (lhs; arg 1; simp (disch := first | assumption | omega) only [tk_gI, tk_gL, tk_gR, tk_pI, tk_pL, rv_aI, rv_aL, rv_aR, rv_uI, rv_uL, rv_uB, rv_uZ, pu_ckI, pu_ckL, pu_lnI, pu_lnL, tk_rI, tk_rL, Option.bind_some, Option.map_some, rv_lt, tk_ix, hC, hVS, hFS, hF, if_neg kw0])); first | rw [Option.bind_some] | rw [bp_s] | rw [if_true] | rw [if_false] | rw [rv_lt_eq] | rw [if_pos (by omega)] | rw [if_neg (by omega)])
          repeat (first | (conv => (lhs; arg 1; simp (disch := first | assumption | omega) only [tk_gI, tk_gL, tk_gR, tk_pI, tk_pL, rv_aI, rv_aL, rv_aR, rv_uI, rv_uL, rv_uB, rv_uZ, pu_ckI, pu_ckL, pu_lnI, pu_lnL, tk_rI, tk_rL, Option.bind_some, Option.map_some, rv_lt, tk_ix, hC, hVS, hPS, hP, if_neg kc0])); first | rw [Option.bind_some] | rw [bp_s] | rw [if_true] | rw [if_false] | rw [rv_lt_eq] | rw [if_pos (by omega)] | rw [if_neg (by omega)])
          simp (disch := first | assumption | omega) only [fnX3_begin, tk_gI, tk_gL, tk_gR, tk_pI, tk_pL, rv_aI, rv_aL, rv_aR, rv_uI, rv_uL, rv_uB, rv_uZ, pu_ckI, pu_ckL, pu_lnI, pu_lnL, tk_rI, tk_rL, Option.bind_some, Option.map_some, rv_lt, tk_ix, z0, z1, z2, z3, z4, z5, z6, z7, z8, z9, z10, z11, z12, z13, z15, z16, z17, z18, z20, z21, z23, z24, z25, z31, z32, z39, z40, z41, z46, z48, z50, z57, z59, z60, z61, z62, z63, z64, z97, z98, z99, z100, z101, z102, z103, z104, z105, z106, z107, z108, z109, z110, z111, z112, z113, z114, z115, z116, z117, z118, z119, z120, z121, z122, z128, z132, z200, z240, z255, z372, z390625, z400, z420, z421, z422, z662, z900, z940, z999, z1000, z1024, z2000, z5860, z10000, z12345, z15625, z266240, z1048575, z1064960, z1103515245, z_m1, hc64, r8, hc147]
          rw [← eS1]
          exact e2
        · rw [fnX13_days]
          repeat (first | (conv => (lhs; arg 1; simp (disch := first | assumption | omega) only [tk_gI, tk_gL, tk_gR, tk_pI, tk_pL, rv_aI, rv_aL, rv_aR, rv_uI, rv_uL, rv_uB, rv_uZ, pu_ckI, pu_ckL, pu_lnI, pu_lnL, tk_rI, tk_rL, Option.bind_some, Option.map_some, rv_lt, tk_ix, z0, z1, z2, z3, z4, z5, z6, z7, z8, z9, z10, z11, z12, z13, z15, z16, z17, z18, z20, z21, z23, z24, z25, z31, z32, z39, z40, z41, z46, z48, z50, z57, z59, z60, z61, z62, z63, z64, z97, z98, z99, z100, z101, z102, z103, z104, z105, z106, z107, z108, z109, z110, z111, z112, z113, z114, z115, z116, z117, z118, z119, z120, z121, z122, z128, z132, z200, z240, z255, z372, z390625, z400, z420, z421, z422, z662, z900, z940, z999, z1000, z1024, z2000, z5860, z10000, z12345, z15625, z266240, z1048575, z1064960, z1103515245, z_m1, rc_189 hB2, e6, rc_189 hB6, m_hasDays hB6 hM6 hk h1 h4, decide_eq_true c1, decide_eq_true c2])); first | rw [Option.bind_some] | rw [bp_s] | rw [if_true] | rw [if_false] | rw [rv_lt_eq] | rw [if_pos (by omega)] | rw [if_neg (by omega)])
          all_goals first | (rw [if_neg (by decide)]) | skip
          simp (disch := first | assumption | omega) only [tk_gI, tk_gL, tk_gR, tk_pI, tk_pL, rv_aI, rv_aL, rv_aR, rv_uI, rv_uL, rv_uB, rv_uZ, pu_ckI, pu_ckL, pu_lnI, pu_lnL, tk_rI, tk_rL, Option.bind_some, Option.map_some, rv_lt, tk_ix, z0, z1, z2, z3, z4, z5, z6, z7, z8, z9, z10, z11, z12, z13, z15, z16, z17, z18, z20, z21, z23, z24, z25, z31, z32, z39, z40, z41, z46, z48, z50, z57, z59, z60, z61, z62, z63, z64, z97, z98, z99, z100, z101, z102, z103, z104, z105, z106, z107, z108, z109, z110, z111, z112, z113, z114, z115, z116, z117, z118, z119, z120, z121, z122, z128, z132, z200, z240, z255, z372, z390625, z400, z420, z421, z422, z662, z900, z940, z999, z1000, z1024, z2000, z5860, z10000, z12345, z15625, z266240, z1048575, z1064960, z1103515245, z_m1, rc_189 hB6]
          rw [← eS7, e8, e9]
        · rw [fz.rowL (a := 67 + 5) rfl rfl]; exact N2 w hw
        · rw [O6] at hw
          rw [fz.rowL (a := 195) rfl rfl, f12.rowL (a := 195) rfl rfl]
          exact hNM w hw
        · rw [q147]
          have h3 : j = 0 ∨ j = 1 ∨ j = 2 := by omega
          rcases h3 with rfl | rfl | rfl
          · rw [u0]; exact X2.2.2.2.1
          · rw [u1]; exact X2.2.2.2.2.1
          · rw [u2]; exact X2.2.2.2.2.2
      · have c2' : vC m = 0 := by omega
        refine bad ?_ fun S6 e6 hB6 hM6 => ?_
        · have kc0 : nI (vC m) = (0 : Int32) := by rw [c2']; rfl
          have kw0 : ¬ nI (vW m) = (0 : Int32) := by rw [z0, n_eq (by omega) (by decide)]; omega
          have n1 : ¬ nI N < (1 : Int32) := by rw [z1, n_lt (by omega) (by decide)]; omega
          have n4 : ¬ (400 : Int32) < nI N := by rw [z400, n_lt (by decide) (by omega)]; omega
          rw [fnX12_days, if_neg n1, if_neg n4]
          repeat (first | (conv => (lhs; arg 1; simp (disch := first | assumption | omega) only [tk_gI, tk_gL, tk_gR, tk_pI, tk_pL, rv_aI, rv_aL, rv_aR, rv_uI, rv_uL, rv_uB, rv_uZ, pu_ckI, pu_ckL, pu_lnI, pu_lnL, tk_rI, tk_rL, Option.bind_some, Option.map_some, rv_lt, tk_ix, hC, hVS, hFS, hF, if_neg kw0])); first | rw [Option.bind_some] | rw [bp_s] | rw [if_true] | rw [if_false] | rw [rv_lt_eq] | rw [if_pos (by omega)] | rw [if_neg (by omega)])
          repeat (first | (conv => (lhs; arg 1; simp (disch := first | assumption | omega) only [tk_gI, tk_gL, tk_gR, tk_pI, tk_pL, rv_aI, rv_aL, rv_aR, rv_uI, rv_uL, rv_uB, rv_uZ, pu_ckI, pu_ckL, pu_lnI, pu_lnL, tk_rI, tk_rL, Option.bind_some, Option.map_some, rv_lt, tk_ix, hC, hVS, hPS, hP, if_pos kc0])); first | rw [Option.bind_some] | rw [bp_s] | rw [if_true] | rw [if_false] | rw [rv_lt_eq] | rw [if_pos (by omega)] | rw [if_neg (by omega)])
          all_goals rfl
        · rw [fnX13_days]
          repeat (first | (conv => (lhs; arg 1; simp (disch := first | assumption | omega) only [tk_gI, tk_gL, tk_gR, tk_pI, tk_pL, rv_aI, rv_aL, rv_aR, rv_uI, rv_uL, rv_uB, rv_uZ, pu_ckI, pu_ckL, pu_lnI, pu_lnL, tk_rI, tk_rL, Option.bind_some, Option.map_some, rv_lt, tk_ix, z0, z1, z2, z3, z4, z5, z6, z7, z8, z9, z10, z11, z12, z13, z15, z16, z17, z18, z20, z21, z23, z24, z25, z31, z32, z39, z40, z41, z46, z48, z50, z57, z59, z60, z61, z62, z63, z64, z97, z98, z99, z100, z101, z102, z103, z104, z105, z106, z107, z108, z109, z110, z111, z112, z113, z114, z115, z116, z117, z118, z119, z120, z121, z122, z128, z132, z200, z240, z255, z372, z390625, z400, z420, z421, z422, z662, z900, z940, z999, z1000, z1024, z2000, z5860, z10000, z12345, z15625, z266240, z1048575, z1064960, z1103515245, z_m1, rc_189 hB, e6, rc_189 hB6, m_hasDays hB6 hM6 hk h1 h4, decide_eq_true c1, decide_eq_false c2])); first | rw [Option.bind_some] | rw [bp_s] | rw [if_true] | rw [if_false] | rw [rv_lt_eq] | rw [if_pos (by omega)] | rw [if_neg (by omega)])
          all_goals rfl
    · refine bad ?_ fun S6 e6 hB6 hM6 => ?_
      · have c1' : vW m = 0 := by omega
        have kw0 : nI (vW m) = (0 : Int32) := by rw [c1']; rfl
        have n1 : ¬ nI N < (1 : Int32) := by rw [z1, n_lt (by omega) (by decide)]; omega
        have n4 : ¬ (400 : Int32) < nI N := by rw [z400, n_lt (by decide) (by omega)]; omega
        rw [fnX12_days, if_neg n1, if_neg n4]
        repeat (first | (conv => (lhs; arg 1; simp (disch := first | assumption | omega) only [tk_gI, tk_gL, tk_gR, tk_pI, tk_pL, rv_aI, rv_aL, rv_aR, rv_uI, rv_uL, rv_uB, rv_uZ, pu_ckI, pu_ckL, pu_lnI, pu_lnL, tk_rI, tk_rL, Option.bind_some, Option.map_some, rv_lt, tk_ix, hC, hVS, hFS, hF, if_pos kw0])); first | rw [Option.bind_some] | rw [bp_s] | rw [if_true] | rw [if_false] | rw [rv_lt_eq] | rw [if_pos (by omega)] | rw [if_neg (by omega)])
        all_goals rfl
      · rw [fnX13_days]
        repeat (first | (conv => (lhs; arg 1; simp (disch := first | assumption | omega) only [tk_gI, tk_gL, tk_gR, tk_pI, tk_pL, rv_aI, rv_aL, rv_aR, rv_uI, rv_uL, rv_uB, rv_uZ, pu_ckI, pu_ckL, pu_lnI, pu_lnL, tk_rI, tk_rL, Option.bind_some, Option.map_some, rv_lt, tk_ix, z0, z1, z2, z3, z4, z5, z6, z7, z8, z9, z10, z11, z12, z13, z15, z16, z17, z18, z20, z21, z23, z24, z25, z31, z32, z39, z40, z41, z46, z48, z50, z57, z59, z60, z61, z62, z63, z64, z97, z98, z99, z100, z101, z102, z103, z104, z105, z106, z107, z108, z109, z110, z111, z112, z113, z114, z115, z116, z117, z118, z119, z120, z121, z122, z128, z132, z200, z240, z255, z372, z390625, z400, z420, z421, z422, z662, z900, z940, z999, z1000, z1024, z2000, z5860, z10000, z12345, z15625, z266240, z1048575, z1064960, z1103515245, z_m1, rc_189 hB, e6, rc_189 hB6, m_hasDays hB6 hM6 hk h1 h4, decide_eq_false c1])); first | rw [Option.bind_some] | rw [bp_s] | rw [if_true] | rw [if_false] | rw [rv_lt_eq] | rw [if_pos (by omega)] | rw [if_neg (by omega)])
        all_goals rfl
  · refine bad ?_ fun S6 e6 hB6 hM6 => ?_
    · rw [fnX12_days]
      rcases hx with h | ⟨h, h2⟩
      · rw [if_pos (show x < (1 : Int32) from h)]; rfl
      · rw [if_neg (show ¬ x < (1 : Int32) from h), if_pos (show (400 : Int32) < x from h2)]; rfl
    · rw [fnX13_days]
      repeat (first | (conv => (lhs; arg 1; simp (disch := first | assumption | omega) only [tk_gI, tk_gL, tk_gR, tk_pI, tk_pL, rv_aI, rv_aL, rv_aR, rv_uI, rv_uL, rv_uB, rv_uZ, pu_ckI, pu_ckL, pu_lnI, pu_lnL, tk_rI, tk_rL, Option.bind_some, Option.map_some, rv_lt, tk_ix, z0, z1, z2, z3, z4, z5, z6, z7, z8, z9, z10, z11, z12, z13, z15, z16, z17, z18, z20, z21, z23, z24, z25, z31, z32, z39, z40, z41, z46, z48, z50, z57, z59, z60, z61, z62, z63, z64, z97, z98, z99, z100, z101, z102, z103, z104, z105, z106, z107, z108, z109, z110, z111, z112, z113, z114, z115, z116, z117, z118, z119, z120, z121, z122, z128, z132, z200, z240, z255, z372, z390625, z400, z420, z421, z422, z662, z900, z940, z999, z1000, z1024, z2000, z5860, z10000, z12345, z15625, z266240, z1048575, z1064960, z1103515245, z_m1, rc_189 hB, e6, rc_189 hB6, m_hasDays0 hx])); first | rw [Option.bind_some] | rw [bp_s] | rw [if_true] | rw [if_false] | rw [rv_lt_eq] | rw [if_pos (by omega)] | rw [if_neg (by omega)])
      all_goals rfl
end
