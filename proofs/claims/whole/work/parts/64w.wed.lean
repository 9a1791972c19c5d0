/-! WED -/
theorem rv_lt_eq {α β : Type} (e : α) (f : α → β) : rv_lt e f = f e := rfl
section
variable {n : Nat} {S : rvS} {m m' : Nat → Nat} {wd : Nat → List Nat}
theorem op_wed (hn : 500 ≤ n) (hV : VI S m wd) (x y : Int32) : ∃ r S1 S' m', fnX12_wed n S 64 x y = some (r, S1) ∧ fnX13_wed n S1 189 x y = some (r, S') ∧ QS S S' m' wd := by
  obtain ⟨hB, hR, hL, hk, -⟩ := id hV; have hp := hk.1; have hc := hk.2.1; have hd := hk.2.2; obtain ⟨S6, e6, hB6, f6, hM6, r6, b6⟩ := start_ok hn hB hL; have hC := CS_of hB; have hv : vb 67 := Or.inl rfl; have hVS := VS_of hB hv; have hFS := FS_of hB hv.f; have hPS := PS_of hB hv.p; have h24 := hp.1; have h40 := hc.1; have n10 : 10 ≤ n := (by omega); have n50 : 50 ≤ n := (by omega)
  obtain ⟨hF, hP, hD⟩ := id hR
  have same : ∀ {r : Int32}, fnX12_wed n S 64 x y = some (r, S) → (∃ S', fnX13_wed n S 189 x y = some (r, S') ∧ QS S S' m wd) → ∃ r S1 S' m', fnX12_wed n S 64 x y = some (r, S1) ∧ fnX13_wed n S1 189 x y = some (r, S') ∧ QS S S' m' wd := fun h1 ⟨S', h2, h3⟩ => ⟨_, S, S', m, h1, h2, h3⟩
  rcases rng x (N := vW m) (by omega) with ⟨a, ha, rfl⟩ | hx
  · rcases rng y (N := vW m) (by omega) with ⟨b, hb, rfl⟩ | hy
    · have ka := k_isFree (n := n) hB hv.f hF hp ha
      have kb := k_isFree (n := n) hB hv.f hF hp hb
      have ta := (hp.2.2.1 a ha).1
      have tb := (hp.2.2.1 b hb).1
      by_cases cab : a = b
      · refine same (r := nI 0) ?_ ⟨S6, ?_, QS.s0 hV f6 hM6 r6 b6⟩
        · simp (disch := first | assumption | omega) only [fnX12_wed, tk_gI, tk_gL, tk_gR, tk_pI, tk_pL, rv_aI, rv_aL, rv_aR, rv_uI, rv_uL, rv_uB, rv_uZ, pu_ckI, pu_ckL, pu_lnI, pu_lnL, tk_rI, tk_rL, Option.bind_some, Option.map_some, rv_lt, tk_ix, z0, z1, z2, z3, z4, z5, z6, z7, z8, z9, z10, z11, z12, z13, z15, z16, z17, z18, z20, z21, z23, z24, z25, z31, z32, z39, z40, z41, z46, z48, z50, z57, z59, z60, z61, z62, z63, z64, z97, z98, z99, z100, z101, z102, z103, z104, z105, z106, z107, z108, z109, z110, z111, z112, z113, z114, z115, z116, z117, z118, z119, z120, z121, z122, z128, z132, z200, z240, z255, z372, z390625, z400, z420, z421, z422, z662, z900, z940, z999, z1000, z1024, z2000, z5860, z10000, z12345, z15625, z266240, z1048575, z1064960, z1103515245, z_m1, n_le, n_lt, n_eq, n_bit0, n_bit1, n_sbit0, n_shl, z_ltM, z_Mlt, z_leM, z_Mle, z_eqM, z_Meq, bI0, bI1, bI_01, bI_01t, bI_10, bI_10f, if_true, if_false, eq_self, reduceCtorEq, if_pos, if_neg, hC, k_isWho hB hR hk ha, k_isWho hB hR hk hb]
        · simp (disch := first | assumption | omega) only [fnX13_wed, tk_gI, tk_gL, tk_gR, tk_pI, tk_pL, rv_aI, rv_aL, rv_aR, rv_uI, rv_uL, rv_uB, rv_uZ, pu_ckI, pu_ckL, pu_lnI, pu_lnL, tk_rI, tk_rL, Option.bind_some, Option.map_some, rv_lt, tk_ix, z0, z1, z2, z3, z4, z5, z6, z7, z8, z9, z10, z11, z12, z13, z15, z16, z17, z18, z20, z21, z23, z24, z25, z31, z32, z39, z40, z41, z46, z48, z50, z57, z59, z60, z61, z62, z63, z64, z97, z98, z99, z100, z101, z102, z103, z104, z105, z106, z107, z108, z109, z110, z111, z112, z113, z114, z115, z116, z117, z118, z119, z120, z121, z122, z128, z132, z200, z240, z255, z372, z390625, z400, z420, z421, z422, z662, z900, z940, z999, z1000, z1024, z2000, z5860, z10000, z12345, z15625, z266240, z1048575, z1064960, z1103515245, z_m1, n_le, n_lt, n_eq, n_bit0, n_bit1, n_sbit0, n_shl, z_ltM, z_Mlt, z_leM, z_Mle, z_eqM, z_Meq, bI0, bI1, bI_01, bI_01t, bI_10, bI_10f, if_true, if_false, eq_self, reduceCtorEq, if_pos, if_neg, rc_189 hB, e6, rc_189 hB6, m_isWho hB6 hM6 hp ha, m_isWho hB6 hM6 hp hb]
      · by_cases ok : (¬ 0 < de m a ∧ mt m a = 0) ∧ ¬ 0 < de m b ∧ mt m b = 0
        · obtain ⟨⟨a1, a2⟩, b1, b2⟩ := ok
          rw [decide_eq_false a1, decide_eq_true a2] at ka
          rw [decide_eq_false b1, decide_eq_true b2] at kb
          obtain ⟨S1, eS1⟩ : ∃ S1, S1 = rv_sI (rv_sI S (67 + 1 + 2) a (nI (hs m a ||| 2 ^ b))) (67 + 1 + 2) b (nI (hs m b ||| 2 ^ a)) := ⟨_, rfl⟩
          have f1 : rvf [70] S S1 := by
            rw [eS1]
            exact ((rvf.rf _ _).w rfl rfl).w rfl rfl
          have hB1 := f1.B hB
          have lo : ∀ k, k < 8 → wdd m a b k = m k := fun k hk => wdd_off (by omega) (by omega)
          have hi : ∀ k, 128 ≤ k → wdd m a b k = m k := fun k hk => wdd_off (by omega) (by omega)
          have e0 : vW (wdd m a b) = vW m := lo 0 (by decide)
          have hR1 : CR S1 67 (wdd m a b) := by
            rw [eS1]
            obtain ⟨q1, q2, q3, q4, q5, q6, q7, q8⟩ := hF
            have hP1 : PR (rv_sI (rv_sI S (67 + 1 + 2) a (nI (hs m a ||| 2 ^ b))) (67 + 1 + 2) b (nI (hs m b ||| 2 ^ a))) (67 + 8) m := hP
            have hD1 : DR (rv_sI (rv_sI S (67 + 1 + 2) a (nI (hs m a ||| 2 ^ b))) (67 + 1 + 2) b (nI (hs m b ||| 2 ^ a))) 67 m := hD
            refine ⟨⟨?_, ?_, ?_, fun w hw => ?_, fun w hw => ?_, fun w hw => ?_, fun j hj => ?_, fun j hj => ?_⟩, hP1.c h40 (lo 1 (by decide)) (lo 3 (by decide)) (fun k h1 h2 => hi k (by omega)), hD1.c2 (lo 2 (by decide)) (lo 4 (by decide)) (lo 5 (by decide)) (fun k h => hi k (by omega))⟩
            · rw [e0]; exact q1
            · rw [e0]
              exact q2.trans (congrArg nI (bs_cong fun w hw => by rw [show de (wdd m a b) w = de m w from wdd_off (by omega) (by omega)]))
            · rw [e0]
              exact q3.trans (congrArg nI (bs_cong fun w hw => by rw [show sg (wdd m a b) w = sg m w from wdd_off (by omega) (by omega)]))
            · rw [e0] at hw; rw [show at_ (wdd m a b) w = at_ m w from wdd_off (by omega) (by omega)]; exact q4 w hw
            · rw [e0] at hw
              rw [wdd_hs cab a2 b2]
              by_cases c1 : w = b
              · subst c1; rw [rv_sI_eq, if_pos rfl]
              · rw [rv_sI_k _ _ c1, if_neg c1]
                by_cases c2 : w = a
                · subst c2; rw [rv_sI_eq, if_pos rfl]
                · rw [rv_sI_k _ _ c2, if_neg c2]; exact q5 w hw
            · rw [e0] at hw; rw [show ea (wdd m a b) w = ea m w from wdd_off (by omega) (by omega)]; exact q6 w hw
            · rw [show rd (wdd m a b) j = rd m j from hi _ (by omega)]; exact q7 j hj
            · refine (q8 j hj).trans ?_
              unfold rc
              rw [e0]
              exact congrArg nI (bs_cong fun w hw => by
                unfold nr
                rw [show at_ (wdd m a b) w = at_ m w from wdd_off (by omega) (by omega), show de (wdd m a b) w = de m w from wdd_off (by omega) (by omega), show rd (wdd m a b) j = rd m j from hi _ (by omega)])
          obtain ⟨S2, e2, hB2, f2, hM2, r2, bb2⟩ := start_ok hn hB1 (hL.f f1 rfl rfl)
          have fz : rvf [189000, 189022, 191] S1 (rv_sI (rv_sI S2 191 (9 + 5 * a) (nI (b + 1))) 191 (9 + 5 * b) (nI (a + 1))) := (f2.w rfl rfl).w rfl rfl
          have ea9 : 8 + 5 * a + 1 = 9 + 5 * a := by omega
          have eb9 : 8 + 5 * b + 1 = 9 + 5 * b := by omega
          have rb : (rv_sI S (67 + 1 + 2) a (nI (hs m a ||| 2 ^ b))).2.1 (67 + 1 + 2) b = nI (hs m b) := by
            rw [rv_sI_k _ _ (fun z => cab z.symm)]
            exact hF.2.2.2.2.1 b hb
          refine ⟨nI 1, S1, _, wdd m a b, ?_, ?_, QS.two hV f1 fz rfl rfl rfl rfl hR1 ((hM2.u _ _).u _ _) bb2 (wdd_okm hk ha hb cab a2 b2) (lo 0 (by decide)) (lo 6 (by decide)) ((r2.u _ (by omega)).u _ (by omega))⟩
          · simp (disch := first | assumption | omega) only [fnX12_wed, fnX1_marry, tk_gI, tk_gL, tk_gR, tk_pI, tk_pL, rv_aI, rv_aL, rv_aR, rv_uI, rv_uL, rv_uB, rv_uZ, pu_ckI, pu_ckL, pu_lnI, pu_lnL, tk_rI, tk_rL, Option.bind_some, Option.map_some, rv_lt, tk_ix, z0, z1, z2, z3, z4, z5, z6, z7, z8, z9, z10, z11, z12, z13, z15, z16, z17, z18, z20, z21, z23, z24, z25, z31, z32, z39, z40, z41, z46, z48, z50, z57, z59, z60, z61, z62, z63, z64, z97, z98, z99, z100, z101, z102, z103, z104, z105, z106, z107, z108, z109, z110, z111, z112, z113, z114, z115, z116, z117, z118, z119, z120, z121, z122, z128, z132, z200, z240, z255, z372, z390625, z400, z420, z421, z422, z662, z900, z940, z999, z1000, z1024, z2000, z5860, z10000, z12345, z15625, z266240, z1048575, z1064960, z1103515245, z_m1, n_le, n_lt, n_eq, n_bit0, n_bit1, n_sbit0, n_shl, z_ltM, z_Mlt, z_leM, z_Mle, z_eqM, z_Meq, bI0, bI1, bI_01, bI_01t, bI_10, bI_10f, if_true, if_false, eq_self, reduceCtorEq, if_pos, if_neg, hC, hVS, hFS, k_isWho hB hR hk ha, k_isWho hB hR hk hb, ka, kb, k_has hFS hF hp ha, k_has hFS hF hp hb, hF, Bool.not_false, Bool.and_true, n_shl, fa_or, rb]
            rw [eS1]
          · rw [fnX13_wed]
            repeat (first | (conv => (lhs; arg 1; simp (disch := first | assumption | omega) only [tk_gI, tk_gL, tk_gR, tk_pI, tk_pL, rv_aI, rv_aL, rv_aR, rv_uI, rv_uL, rv_uB, rv_uZ, pu_ckI, pu_ckL, pu_lnI, pu_lnL, tk_rI, tk_rL, Option.bind_some, Option.map_some, rv_lt, tk_ix, z0, z1, z2, z3, z4, z5, z6, z7, z8, z9, z10, z11, z12, z13, z15, z16, z17, z18, z20, z21, z23, z24, z25, z31, z32, z39, z40, z41, z46, z48, z50, z57, z59, z60, z61, z62, z63, z64, z97, z98, z99, z100, z101, z102, z103, z104, z105, z106, z107, z108, z109, z110, z111, z112, z113, z114, z115, z116, z117, z118, z119, z120, z121, z122, z128, z132, z200, z240, z255, z372, z390625, z400, z420, z421, z422, z662, z900, z940, z999, z1000, z1024, z2000, z5860, z10000, z12345, z15625, z266240, z1048575, z1064960, z1103515245, z_m1, n_le, n_lt, n_eq, n_bit0, n_bit1, n_sbit0, n_shl, z_ltM, z_Mlt, z_leM, z_Mle, z_eqM, z_Meq, bI0, bI1, bI_01, bI_01t, bI_10, bI_10f, if_true, if_false, eq_self, reduceCtorEq, if_pos, if_neg, rc_189 hB1, e2, rc_189 hB2, m_isWho hB2 hM2 hp ha, m_isWho hB2 hM2 hp hb, m_isDead hB2 hM2 hp ha, m_isDead hB2 hM2 hp hb, decide_eq_false a1, decide_eq_false b1, cab, m_mt hB2 hM2, a2, b2, Nat.lt_irrefl, Nat.le_refl, rf_of hB2 (show (189, 14, 191) ∈ rv_rf0 by decide), rn_191 hB2, nI_add, z_mul, ea9, eb9])); first | rw [Option.bind_some] | rw [bp_s] | rw [if_true] | rw [if_false] | rw [rv_lt_eq] | rw [if_pos (by omega)] | rw [if_neg (by omega)])
            rw [z1]
        · refine same (r := nI 0) ?_ ⟨S6, ?_, QS.s0 hV f6 hM6 r6 b6⟩
          · simp (disch := first | assumption | omega) only [fnX12_wed, tk_gI, tk_gL, tk_gR, tk_pI, tk_pL, rv_aI, rv_aL, rv_aR, rv_uI, rv_uL, rv_uB, rv_uZ, pu_ckI, pu_ckL, pu_lnI, pu_lnL, tk_rI, tk_rL, Option.bind_some, Option.map_some, rv_lt, tk_ix, z0, z1, z2, z3, z4, z5, z6, z7, z8, z9, z10, z11, z12, z13, z15, z16, z17, z18, z20, z21, z23, z24, z25, z31, z32, z39, z40, z41, z46, z48, z50, z57, z59, z60, z61, z62, z63, z64, z97, z98, z99, z100, z101, z102, z103, z104, z105, z106, z107, z108, z109, z110, z111, z112, z113, z114, z115, z116, z117, z118, z119, z120, z121, z122, z128, z132, z200, z240, z255, z372, z390625, z400, z420, z421, z422, z662, z900, z940, z999, z1000, z1024, z2000, z5860, z10000, z12345, z15625, z266240, z1048575, z1064960, z1103515245, z_m1, n_le, n_lt, n_eq, n_bit0, n_bit1, n_sbit0, n_shl, z_ltM, z_Mlt, z_leM, z_Mle, z_eqM, z_Meq, bI0, bI1, bI_01, bI_01t, bI_10, bI_10f, if_true, if_false, eq_self, reduceCtorEq, hC, hVS, hFS, k_isWho hB hR hk ha, k_isWho hB hR hk hb, ka, kb, if_neg cab]
            by_cases g1 : 0 < de m a
            · simp [g1]
            · by_cases g2 : mt m a = 0
              · by_cases g3 : 0 < de m b
                · simp [g1, g2, g3]
                · have g4 : ¬ mt m b = 0 := fun z => ok ⟨⟨g1, g2⟩, g3, z⟩
                  simp [g1, g2, g3, g4]
              · simp [g1, g2]
          · rw [fnX13_wed]
            by_cases g1 : 0 < de m a
            · repeat (first | (conv => (lhs; arg 1; simp (disch := first | assumption | omega) only [tk_gI, tk_gL, tk_gR, tk_pI, tk_pL, rv_aI, rv_aL, rv_aR, rv_uI, rv_uL, rv_uB, rv_uZ, pu_ckI, pu_ckL, pu_lnI, pu_lnL, tk_rI, tk_rL, Option.bind_some, Option.map_some, rv_lt, tk_ix, z0, z1, z2, z3, z4, z5, z6, z7, z8, z9, z10, z11, z12, z13, z15, z16, z17, z18, z20, z21, z23, z24, z25, z31, z32, z39, z40, z41, z46, z48, z50, z57, z59, z60, z61, z62, z63, z64, z97, z98, z99, z100, z101, z102, z103, z104, z105, z106, z107, z108, z109, z110, z111, z112, z113, z114, z115, z116, z117, z118, z119, z120, z121, z122, z128, z132, z200, z240, z255, z372, z390625, z400, z420, z421, z422, z662, z900, z940, z999, z1000, z1024, z2000, z5860, z10000, z12345, z15625, z266240, z1048575, z1064960, z1103515245, z_m1, n_le, n_lt, n_eq, n_bit0, n_bit1, n_sbit0, n_shl, z_ltM, z_Mlt, z_leM, z_Mle, z_eqM, z_Meq, bI0, bI1, bI_01, bI_01t, bI_10, bI_10f, if_true, if_false, eq_self, reduceCtorEq, rc_189 hB, e6, rc_189 hB6, m_isWho hB6 hM6 hp ha, m_isWho hB6 hM6 hp hb, m_isDead hB6 hM6 hp ha, m_isDead hB6 hM6 hp hb, m_mt hB6 hM6, cab, decide_eq_true g1])); first | rw [Option.bind_some] | rw [bp_s] | rw [if_true] | rw [if_false] | rw [rv_lt_eq] | rw [if_pos (by omega)] | rw [if_neg (by omega)])
              rfl
            · by_cases g3 : 0 < de m b
              · repeat (first | (conv => (lhs; arg 1; simp (disch := first | assumption | omega) only [tk_gI, tk_gL, tk_gR, tk_pI, tk_pL, rv_aI, rv_aL, rv_aR, rv_uI, rv_uL, rv_uB, rv_uZ, pu_ckI, pu_ckL, pu_lnI, pu_lnL, tk_rI, tk_rL, Option.bind_some, Option.map_some, rv_lt, tk_ix, z0, z1, z2, z3, z4, z5, z6, z7, z8, z9, z10, z11, z12, z13, z15, z16, z17, z18, z20, z21, z23, z24, z25, z31, z32, z39, z40, z41, z46, z48, z50, z57, z59, z60, z61, z62, z63, z64, z97, z98, z99, z100, z101, z102, z103, z104, z105, z106, z107, z108, z109, z110, z111, z112, z113, z114, z115, z116, z117, z118, z119, z120, z121, z122, z128, z132, z200, z240, z255, z372, z390625, z400, z420, z421, z422, z662, z900, z940, z999, z1000, z1024, z2000, z5860, z10000, z12345, z15625, z266240, z1048575, z1064960, z1103515245, z_m1, n_le, n_lt, n_eq, n_bit0, n_bit1, n_sbit0, n_shl, z_ltM, z_Mlt, z_leM, z_Mle, z_eqM, z_Meq, bI0, bI1, bI_01, bI_01t, bI_10, bI_10f, if_true, if_false, eq_self, reduceCtorEq, rc_189 hB, e6, rc_189 hB6, m_isWho hB6 hM6 hp ha, m_isWho hB6 hM6 hp hb, m_isDead hB6 hM6 hp ha, m_isDead hB6 hM6 hp hb, m_mt hB6 hM6, cab, decide_eq_false g1, decide_eq_true g3])); first | rw [Option.bind_some] | rw [bp_s] | rw [if_true] | rw [if_false] | rw [rv_lt_eq] | rw [if_pos (by omega)] | rw [if_neg (by omega)])
                rfl
              · by_cases g2 : mt m a = 0
                · have g4 : ¬ mt m b = 0 := fun z => ok ⟨⟨g1, g2⟩, g3, z⟩
                  have g5 : ¬ mt m b ≤ 0 := by omega
                  repeat (first | (conv => (lhs; arg 1; simp (disch := first | assumption | omega) only [tk_gI, tk_gL, tk_gR, tk_pI, tk_pL, rv_aI, rv_aL, rv_aR, rv_uI, rv_uL, rv_uB, rv_uZ, pu_ckI, pu_ckL, pu_lnI, pu_lnL, tk_rI, tk_rL, Option.bind_some, Option.map_some, rv_lt, tk_ix, z0, z1, z2, z3, z4, z5, z6, z7, z8, z9, z10, z11, z12, z13, z15, z16, z17, z18, z20, z21, z23, z24, z25, z31, z32, z39, z40, z41, z46, z48, z50, z57, z59, z60, z61, z62, z63, z64, z97, z98, z99, z100, z101, z102, z103, z104, z105, z106, z107, z108, z109, z110, z111, z112, z113, z114, z115, z116, z117, z118, z119, z120, z121, z122, z128, z132, z200, z240, z255, z372, z390625, z400, z420, z421, z422, z662, z900, z940, z999, z1000, z1024, z2000, z5860, z10000, z12345, z15625, z266240, z1048575, z1064960, z1103515245, z_m1, n_le, n_lt, n_eq, n_bit0, n_bit1, n_sbit0, n_shl, z_ltM, z_Mlt, z_leM, z_Mle, z_eqM, z_Meq, bI0, bI1, bI_01, bI_01t, bI_10, bI_10f, if_true, if_false, eq_self, reduceCtorEq, rc_189 hB, e6, rc_189 hB6, m_isWho hB6 hM6 hp ha, m_isWho hB6 hM6 hp hb, m_isDead hB6 hM6 hp ha, m_isDead hB6 hM6 hp hb, m_mt hB6 hM6, cab, decide_eq_false g1, decide_eq_false g3, g2, g5, Nat.lt_irrefl])); first | rw [Option.bind_some] | rw [bp_s] | rw [if_true] | rw [if_false] | rw [rv_lt_eq] | rw [if_pos (by omega)] | rw [if_neg (by omega)])
                  rfl
                · have g4 : 0 < mt m a := by omega
                  repeat (first | (conv => (lhs; arg 1; simp (disch := first | assumption | omega) only [tk_gI, tk_gL, tk_gR, tk_pI, tk_pL, rv_aI, rv_aL, rv_aR, rv_uI, rv_uL, rv_uB, rv_uZ, pu_ckI, pu_ckL, pu_lnI, pu_lnL, tk_rI, tk_rL, Option.bind_some, Option.map_some, rv_lt, tk_ix, z0, z1, z2, z3, z4, z5, z6, z7, z8, z9, z10, z11, z12, z13, z15, z16, z17, z18, z20, z21, z23, z24, z25, z31, z32, z39, z40, z41, z46, z48, z50, z57, z59, z60, z61, z62, z63, z64, z97, z98, z99, z100, z101, z102, z103, z104, z105, z106, z107, z108, z109, z110, z111, z112, z113, z114, z115, z116, z117, z118, z119, z120, z121, z122, z128, z132, z200, z240, z255, z372, z390625, z400, z420, z421, z422, z662, z900, z940, z999, z1000, z1024, z2000, z5860, z10000, z12345, z15625, z266240, z1048575, z1064960, z1103515245, z_m1, n_le, n_lt, n_eq, n_bit0, n_bit1, n_sbit0, n_shl, z_ltM, z_Mlt, z_leM, z_Mle, z_eqM, z_Meq, bI0, bI1, bI_01, bI_01t, bI_10, bI_10f, if_true, if_false, eq_self, reduceCtorEq, rc_189 hB, e6, rc_189 hB6, m_isWho hB6 hM6 hp ha, m_isWho hB6 hM6 hp hb, m_isDead hB6 hM6 hp ha, m_isDead hB6 hM6 hp hb, m_mt hB6 hM6, cab, decide_eq_false g1, decide_eq_false g3, g4])); first | rw [Option.bind_some] | rw [bp_s] | rw [if_true] | rw [if_false] | rw [rv_lt_eq] | rw [if_pos (by omega)] | rw [if_neg (by omega)])
                  rfl
    · refine same (r := nI 0) ?_ ⟨S6, ?_, QS.s0 hV f6 hM6 r6 b6⟩
      · simp (disch := first | assumption | omega) only [fnX12_wed, tk_gI, tk_gL, tk_gR, tk_pI, tk_pL, rv_aI, rv_aL, rv_aR, rv_uI, rv_uL, rv_uB, rv_uZ, pu_ckI, pu_ckL, pu_lnI, pu_lnL, tk_rI, tk_rL, Option.bind_some, Option.map_some, rv_lt, tk_ix, z0, z1, z2, z3, z4, z5, z6, z7, z8, z9, z10, z11, z12, z13, z15, z16, z17, z18, z20, z21, z23, z24, z25, z31, z32, z39, z40, z41, z46, z48, z50, z57, z59, z60, z61, z62, z63, z64, z97, z98, z99, z100, z101, z102, z103, z104, z105, z106, z107, z108, z109, z110, z111, z112, z113, z114, z115, z116, z117, z118, z119, z120, z121, z122, z128, z132, z200, z240, z255, z372, z390625, z400, z420, z421, z422, z662, z900, z940, z999, z1000, z1024, z2000, z5860, z10000, z12345, z15625, z266240, z1048575, z1064960, z1103515245, z_m1, n_le, n_lt, n_eq, n_bit0, n_bit1, n_sbit0, n_shl, z_ltM, z_Mlt, z_leM, z_Mle, z_eqM, z_Meq, bI0, bI1, bI_01, bI_01t, bI_10, bI_10f, if_true, if_false, eq_self, reduceCtorEq, hC, k_isWho hB hR hk ha, k_isWho0 hB hR hy]
      · rw [fnX13_wed]
        repeat (first | (conv => (lhs; arg 1; simp (disch := first | assumption | omega) only [tk_gI, tk_gL, tk_gR, tk_pI, tk_pL, rv_aI, rv_aL, rv_aR, rv_uI, rv_uL, rv_uB, rv_uZ, pu_ckI, pu_ckL, pu_lnI, pu_lnL, tk_rI, tk_rL, Option.bind_some, Option.map_some, rv_lt, tk_ix, z0, z1, z2, z3, z4, z5, z6, z7, z8, z9, z10, z11, z12, z13, z15, z16, z17, z18, z20, z21, z23, z24, z25, z31, z32, z39, z40, z41, z46, z48, z50, z57, z59, z60, z61, z62, z63, z64, z97, z98, z99, z100, z101, z102, z103, z104, z105, z106, z107, z108, z109, z110, z111, z112, z113, z114, z115, z116, z117, z118, z119, z120, z121, z122, z128, z132, z200, z240, z255, z372, z390625, z400, z420, z421, z422, z662, z900, z940, z999, z1000, z1024, z2000, z5860, z10000, z12345, z15625, z266240, z1048575, z1064960, z1103515245, z_m1, n_le, n_lt, n_eq, n_bit0, n_bit1, n_sbit0, n_shl, z_ltM, z_Mlt, z_leM, z_Mle, z_eqM, z_Meq, bI0, bI1, bI_01, bI_01t, bI_10, bI_10f, if_true, if_false, eq_self, reduceCtorEq, rc_189 hB, e6, rc_189 hB6, m_isWho hB6 hM6 hp ha, m_isWho0 hB6 hM6 hy])); first | rw [Option.bind_some] | rw [bp_s] | rw [if_true] | rw [if_false] | rw [rv_lt_eq] | rw [if_pos (by omega)] | rw [if_neg (by omega)])
        rfl
  · refine same (r := nI 0) ?_ ⟨S6, ?_, QS.s0 hV f6 hM6 r6 b6⟩
    · simp (disch := first | assumption | omega) only [fnX12_wed, tk_gI, tk_gL, tk_gR, tk_pI, tk_pL, rv_aI, rv_aL, rv_aR, rv_uI, rv_uL, rv_uB, rv_uZ, pu_ckI, pu_ckL, pu_lnI, pu_lnL, tk_rI, tk_rL, Option.bind_some, Option.map_some, rv_lt, tk_ix, z0, z1, z2, z3, z4, z5, z6, z7, z8, z9, z10, z11, z12, z13, z15, z16, z17, z18, z20, z21, z23, z24, z25, z31, z32, z39, z40, z41, z46, z48, z50, z57, z59, z60, z61, z62, z63, z64, z97, z98, z99, z100, z101, z102, z103, z104, z105, z106, z107, z108, z109, z110, z111, z112, z113, z114, z115, z116, z117, z118, z119, z120, z121, z122, z128, z132, z200, z240, z255, z372, z390625, z400, z420, z421, z422, z662, z900, z940, z999, z1000, z1024, z2000, z5860, z10000, z12345, z15625, z266240, z1048575, z1064960, z1103515245, z_m1, n_le, n_lt, n_eq, n_bit0, n_bit1, n_sbit0, n_shl, z_ltM, z_Mlt, z_leM, z_Mle, z_eqM, z_Meq, bI0, bI1, bI_01, bI_01t, bI_10, bI_10f, if_true, if_false, eq_self, reduceCtorEq, hC, k_isWho0 hB hR hx]
    · rw [fnX13_wed]
      repeat (first | (conv => (lhs; arg 1; simp (disch := first | assumption | omega) only [tk_gI, tk_gL, tk_gR, tk_pI, tk_pL, rv_aI, rv_aL, rv_aR, rv_uI, rv_uL, rv_uB, rv_uZ, pu_ckI, pu_ckL, pu_lnI, pu_lnL, tk_rI, tk_rL, Option.bind_some, Option.map_some, rv_lt, tk_ix, z0, z1, z2, z3, z4, z5, z6, z7, z8, z9, z10, z11, z12, z13, z15, z16, z17, z18, z20, z21, z23, z24, z25, z31, z32, z39, z40, z41, z46, z48, z50, z57, z59, z60, z61, z62, z63, z64, z97, z98, z99, z100, z101, z102, z103, z104, z105, z106, z107, z108, z109, z110, z111, z112, z113, z114, z115, z116, z117, z118, z119, z120, z121, z122, z128, z132, z200, z240, z255, z372, z390625, z400, z420, z421, z422, z662, z900, z940, z999, z1000, z1024, z2000, z5860, z10000, z12345, z15625, z266240, z1048575, z1064960, z1103515245, z_m1, n_le, n_lt, n_eq, n_bit0, n_bit1, n_sbit0, n_shl, z_ltM, z_Mlt, z_leM, z_Mle, z_eqM, z_Meq, bI0, bI1, bI_01, bI_01t, bI_10, bI_10f, if_true, if_false, eq_self, reduceCtorEq, rc_189 hB, e6, rc_189 hB6, m_isWho0 hB6 hM6 hx])); first | rw [Option.bind_some] | rw [bp_s] | rw [if_true] | rw [if_false] | rw [rv_lt_eq] | rw [if_pos (by omega)] | rw [if_neg (by omega)])
      rfl
end
