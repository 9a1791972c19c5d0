/-! WHAT WAS GIVEN, also before anything was -/
section
variable {n : Nat} {S : rvS} {m m' : Nat → Nat} {wd : Nat → List Nat} {B : Nat → Bool} {b : Nat}
def G0 (S : rvS) : Prop := S.2.1 64 13 = nI 0 ∧ S.2.1 189 28 = iM
def GW (S : rvS) : Prop := GV S ∨ G0 S
theorem GW.f {D : List Nat} {S' : rvS} (h : GW S) (f : rvf D S S') (h1 : D.elem 64012 = false) (h2 : D.elem 64013 = false) (h3 : D.elem 189028 = false) (h4 : D.elem 201 = false) : GW S' := by
  rcases h with h | ⟨g1, g2⟩
  · exact Or.inl (h.f f h1 h2 h3 h4)
  · exact Or.inr ⟨(f.at (a := 64) (k := 13) h2).trans g1, (f.at (a := 189) (k := 28) h3).trans g2⟩
theorem GW.v {S' : rvS} (h : GW S) (q : QS S S' m wd) : GW S' := h.f q.2.1 rfl rfl rfl rfl
theorem op_givenW (hn : 500 ≤ n) (hV : VI S m wd) (hG : GW S) (x : Int32) : ∃ r S', fnX12_given n S 64 x = some r ∧ fnX13_given n S 189 x = some (r, S') ∧ QS S S' m wd := by
  rcases hG with hG | ⟨g1, g2⟩
  · exact op_given hn hV hG x
  · obtain ⟨hB, -⟩ := id hV
    obtain ⟨S0, e0, f0, hB0, q0⟩ := QS.m0 hV
    have hC := CS_of hB
    have g28 : S0.2.1 189 28 = iM := (f0.at (a := 189) (k := 28) rfl).trans g2
    refine ⟨iM, S0, ?_, ?_, q0⟩
    · rw [fnX12_given, z0]
      by_cases c : x < nI 0
      · rw [if_pos c]; rfl
      · rw [if_neg c, tk_gI, rc_64 hB, Option.map_some, Option.bind_some, g1, if_neg c]; rfl
    · rw [fnX13_given, z0, e0, Option.bind_some]
      by_cases c : x < nI 0
      · rw [if_pos c]; rfl
      · have h0 : nI 0 ≤ x := Int32.not_lt.mp c
        have h1 : iM ≤ x := Int32.le_trans (by decide +kernel) h0
        rw [if_neg c, tk_gI, rc_189 hB0, Option.map_some, Option.bind_some, g28, if_pos h1]
        rfl
theorem op_exactW (hn : 1100 ≤ n) (hV : VI S m wd) (hG : GW S) (x y z : Int32) : ∃ r S1 S', fnX12_exact n S 64 x y z = some (r, S1) ∧ fnX13_exact n S1 189 x y z = some (r, S') ∧ QD DG S S' m wd ∧ GW S' := by
  obtain ⟨hB, hR, hL, hk, -⟩ := id hV
  rcases ok3 (n := n) hB hR hk x y z with ⟨a, b, X, ha, hb, h1, hX, rfl, rfl, rfl⟩ | ⟨u1, u2⟩
  · rcases k_exact hn hB hR hk ha hb h1 hX with ⟨t1, S1, e1, f1⟩ | ⟨t1, S1, e1, f1, g1, g2, g3⟩
    · have hB1 := f1.B hB
      have hL1 := hL.f f1 rfl rfl
      obtain ⟨S2, e2, f2, hM2, r2, b2⟩ := (m_exact hn hB1 hL1 hk ha hb h1 hX).1 t1
      have q := hR.f f1 (Or.inl rfl) (Or.inl rfl) (Or.inr (by decide)) (Or.inr (by decide)) (Or.inr (by decide))
      exact ⟨_, S1, S2, e1, e2, QD.two hV f1 f2 rfl rfl rfl rfl q hM2 b2 hk rfl rfl r2, (hG.f f1 rfl rfl rfl rfl).f f2 rfl rfl rfl rfl⟩
    · have hB1 := f1.B hB
      have hL1 := hL.f f1 rfl rfl
      obtain ⟨S2, e2, f2, hM2, r2, b2, g4, g5, -⟩ := (m_exact hn hB1 hL1 hk ha hb h1 hX).2 t1
      have q := hR.f f1 (Or.inl rfl) (Or.inl rfl) (Or.inr (by decide)) (Or.inr (by decide)) (Or.inr (by decide))
      have b40 := bs_64 (Bf (gz m a b) (va m) (vC m) X) hk.2.1.1
      refine ⟨_, S1, S2, e1, e2, QD.two hV f1 f2 rfl rfl rfl rfl q hM2 b2 hk rfl rfl r2, Or.inl ⟨vC m, bs (Bf (gz m a b) (va m) (vC m) X) (vC m), hk.2.1.1, by omega, (f2.atL (a := 64) (k := 12) rfl).trans g2, (f2.at (a := 64) (k := 13) rfl).trans g3, g4, fun j hj => (g5 j hj).trans ?_⟩⟩
      rw [bs_bit, decide_eq_true hj, Bool.true_and]
  · obtain ⟨S6, e6, hB6, f6, hM6, r6, b6⟩ := start_ok (n := n) (by omega) hB hL
    have q := QS.s0 hV f6 hM6 r6 b6
    exact ⟨_, S, S6, u1, u2 S S6 hB e6 hB6 hM6, q.dg, hG.v q⟩
theorem op_settleW (hn : 1100 ≤ n) (hV : VI S m wd) (hG : GW S) (x y z : Int32) : ∃ r S1 S' m', fnX12_settle n S 64 x y z = some (r, S1) ∧ fnX13_settle n S1 189 x y z = some (r, S') ∧ QD DG S S' m' wd ∧ m' 6 = m 6 ∧ GW S' := by
  obtain ⟨hB, hR, hL, hk, -⟩ := id hV
  have hC := CS_of hB
  rcases ok3 (n := n) hB hR hk x y z with ⟨a, b, X, ha, hb, h1, hX, rfl, rfl, rfl⟩ | ⟨u1, u2⟩
  · rcases k_exact hn hB hR hk ha hb h1 hX with ⟨t1, S1, e1, f1⟩ | ⟨t1, S1, e1, f1, g1, g2, g3⟩
    · have hB1 := f1.B hB
      have hL1 := hL.f f1 rfl rfl
      obtain ⟨S2, e2, f2, hM2, r2, b2⟩ := (m_exact hn hB1 hL1 hk ha hb h1 hX).1 t1
      have q := hR.f f1 (Or.inl rfl) (Or.inl rfl) (Or.inr (by decide)) (Or.inr (by decide)) (Or.inr (by decide))
      refine ⟨iM, S1, S2, m, ?_, ?_, QD.two hV f1 f2 rfl rfl rfl rfl q hM2 b2 hk rfl rfl r2, rfl, (hG.f f1 rfl rfl rfl rfl).f f2 rfl rfl rfl rfl⟩
      · rw [fnX12_settle, hC.1, Option.bind_some, e1, bp_s, if_pos (by decide)]
      · rw [fnX13_settle, rc_189 hB1, Option.bind_some, e2, bp_s, if_pos (by decide)]
    · have hB1 := f1.B hB
      have q := hR.f f1 (Or.inl rfl) (Or.inl rfl) (Or.inr (by decide)) (Or.inr (by decide)) (Or.inr (by decide))
      obtain ⟨S2, e2, f2, p2⟩ := k_moveAll (B := Bf (gz m a b) (va m) (vC m) X) hn hB1 q.2.1 hk hb
      have q2 := cr_mvs q hk f2 p2
      have hB2 := f2.B hB1
      have f12 : rvf [108, 109, 64012, 64013, 77, 78] S S2 := (f1.mono rfl).tr (f2.mono rfl)
      have hL2 := hL.f f12 rfl rfl
      obtain ⟨S3, e3, f3, hM3, r3, b3, g4, g5, g6⟩ := (m_exact hn hB2 hL2 hk ha hb h1 hX).2 t1
      have hB3 := f3.B hB2
      obtain ⟨S4, e4, f4, hM4, r4⟩ := m_giveAll hn hB3 hM3 hk hb g6
      have b40 := bs_64 (Bf (gz m a b) (va m) (vC m) X) hk.2.1.1
      have b4 : ¬ S4.2.1 189 22 = 0 := by rw [f4.at (a := 189) (k := 22) rfl]; exact b3
      have fz : rvf [189000, 189022, 191, 199, 200, 202, 201, 189028] S2 S4 := f3.tr (f4.mono rfl)
      refine ⟨nI (tb (gz m a b) (va m) (vC m) (vC m) X), S2, S4, mvs m (Bf (gz m a b) (va m) (vC m) X) b (vC m), ?_, ?_, QD.two hV f12 fz rfl rfl rfl rfl q2 hM4 b4 (mvs_ok hk hb _ (Nat.le_refl _)) (mvs_lo _ 0 (by decide)) (mvs_lo _ 6 (by decide)) (r3.tr r4), mvs_lo _ 6 (by decide), Or.inl ⟨vC m, bs (Bf (gz m a b) (va m) (vC m) X) (vC m), hk.2.1.1, by omega, (fz.atL (a := 64) (k := 12) rfl).trans ((f2.atL (a := 64) (k := 12) rfl).trans g2), (fz.at (a := 64) (k := 13) rfl).trans ((f2.at (a := 64) (k := 13) rfl).trans g3), (f4.at (a := 189) (k := 28) rfl).trans g4, fun j hj => (f4.row rfl rfl j).trans ((g5 j hj).trans ?_)⟩⟩
      · have hC1 := CS_of hB1
        have hVS1 := VS_of hB1 (show vb 67 from Or.inl rfl)
        have r5 := rf_of hB1 (show (64, 5, 108) ∈ rv_rf0 by decide)
        have hPS1 := PS_of hB1 (show pb 75 from Or.inl rfl)
        rw [fnX12_settle, hC.1, Option.bind_some, e1, bp_s]
        simp (disch := first | assumption | omega) only [tk_gI, tk_gL, tk_gR, tk_pI, tk_pL, rv_aI, rv_aL, rv_aR, rv_uI, rv_uL, rv_uB, rv_uZ, pu_ckI, pu_ckL, pu_lnI, pu_lnL, tk_rI, tk_rL, Option.bind_some, Option.map_some, rv_lt, tk_ix, z0, z1, z2, z3, z4, z5, z6, z7, z8, z9, z10, z11, z12, z13, z15, z16, z17, z18, z20, z21, z23, z24, z25, z31, z32, z39, z40, z41, z46, z48, z50, z57, z59, z60, z61, z62, z63, z64, z97, z98, z99, z100, z101, z102, z103, z104, z105, z106, z107, z108, z109, z110, z111, z112, z113, z114, z115, z116, z117, z118, z119, z120, z121, z122, z128, z132, z200, z240, z255, z372, z390625, z400, z420, z421, z422, z662, z900, z940, z999, z1000, z1024, z2000, z5860, z10000, z12345, z15625, z266240, z1048575, z1064960, z1103515245, z_m1, n_le, n_lt, n_eq, n_bit0, n_bit1, n_sbit0, n_shl, z_ltM, z_Mlt, z_leM, z_Mle, z_eqM, z_Meq, bI0, bI1, bI_01, bI_01t, bI_10, bI_10f, if_true, if_false, eq_self, reduceCtorEq, if_pos, if_neg, hC1, hVS1, hPS1, r5, rc_108 hB1, g1, e2, Nat.not_lt_zero]
      · rw [fnX13_settle, rc_189 hB2, Option.bind_some, e3, bp_s]
        simp (disch := first | assumption | omega) only [tk_gI, tk_gL, tk_gR, tk_pI, tk_pL, rv_aI, rv_aL, rv_aR, rv_uI, rv_uL, rv_uB, rv_uZ, pu_ckI, pu_ckL, pu_lnI, pu_lnL, tk_rI, tk_rL, Option.bind_some, Option.map_some, rv_lt, tk_ix, z0, z1, z2, z3, z4, z5, z6, z7, z8, z9, z10, z11, z12, z13, z15, z16, z17, z18, z20, z21, z23, z24, z25, z31, z32, z39, z40, z41, z46, z48, z50, z57, z59, z60, z61, z62, z63, z64, z97, z98, z99, z100, z101, z102, z103, z104, z105, z106, z107, z108, z109, z110, z111, z112, z113, z114, z115, z116, z117, z118, z119, z120, z121, z122, z128, z132, z200, z240, z255, z372, z390625, z400, z420, z421, z422, z662, z900, z940, z999, z1000, z1024, z2000, z5860, z10000, z12345, z15625, z266240, z1048575, z1064960, z1103515245, z_m1, n_le, n_lt, n_eq, n_bit0, n_bit1, n_sbit0, n_shl, z_ltM, z_Mlt, z_leM, z_Mle, z_eqM, z_Meq, bI0, bI1, bI_01, bI_01t, bI_10, bI_10f, if_true, if_false, eq_self, reduceCtorEq, if_pos, if_neg, rc_189 hB3, e4, Nat.not_lt_zero]
      · rw [bs_bit, decide_eq_true hj, Bool.true_and]
  · obtain ⟨S6, e6, hB6, f6, hM6, r6, b6⟩ := start_ok (n := n) (by omega) hB hL
    have q := QS.s0 hV f6 hM6 r6 b6
    refine ⟨-(nI 2), S, S6, m, ?_, ?_, q.dg, rfl, hG.v q⟩
    · rw [fnX12_settle, hC.1, Option.bind_some, u1, bp_s, if_pos (by decide)]
    · rw [fnX13_settle, rc_189 hB, Option.bind_some, u2 S S6 hB e6 hB6 hM6, bp_s, if_pos (by decide)]
theorem op_keepW (hn : 10100 ≤ n) (hV : VI S m wd) (hG : GW S) (x y z u v : Int32) : ∃ r S1 S', fnX12_keep n S 64 x y z u v = some (r, S1) ∧ fnX13_keep n S1 189 x y z u v = some (r, S') ∧ QD DG S S' m wd ∧ GW S' := by
  obtain ⟨hB, hR, hL, hk, -⟩ := id hV
  obtain ⟨hp, hc, hd⟩ := id hk
  have h40 := hc.1
  rcases ok5 (n := n) hB hR hk x y z u v with ⟨a, b, c, X, Y, ha, hb, hcc, h1, hX, h1', hY, rfl, rfl, rfl, rfl, rfl⟩ | ⟨u1, u2⟩
  · have hC := CS_of hB
    have hv : vb 67 := Or.inl rfl
    have hVS := VS_of hB hv
    have hFS := FS_of hB hv.f
    have hPS := PS_of hB hv.p
    have r5 := rf_of hB (show (64, 5, 108) ∈ rv_rf0 by decide)
    have k1 := k_isWho (n := n) hB hR hk ha
    have k2 := k_isWho (n := n) hB hR hk hb
    have k3 := k_isWho (n := n) hB hR hk hcc
    have k4 := k_ds (n := n) (S := S) h1 hX
    have k5 := k_ds (n := n) (S := S) h1' hY
    have w1 := k_goingTo (n := n) (by omega) hFS hR.1 hPS hR.2.1 hp hc ha hb
    have w2 := k_goingTo (n := n) (by omega) hFS hR.1 hPS hR.2.1 hp hc ha hcc
    obtain ⟨e1, ee1⟩ : ∃ e1, e1 = gz m a b := ⟨_, rfl⟩
    obtain ⟨e2, ee2⟩ : ∃ e2, e2 = gz m a c := ⟨_, rfl⟩
    have w1 : fnX6_goingTo n S (67 + 8) (67 + 1) (nI a) (nI b) = some (lN (bs e1 (vC m))) := by rw [ee1]; exact w1
    have w2 : fnX6_goingTo n S (67 + 8) (67 + 1) (nI a) (nI c) = some (lN (bs e2 (vC m))) := by rw [ee2]; exact w2
    have kt := k_two (n := n) (e1 := e1) (e2 := e2) hn hB hR.2.1 hc h1 hX h1' hY
    rcases kt with ⟨t1, S1, e1', f1⟩ | ⟨t1, S1, e1', f1, g1⟩
    · have hB1 := f1.B hB
      have hL1 := hL.f f1 rfl rfl
      have q := hR.f f1 hv (Or.inl rfl) (Or.inr (by decide)) (Or.inr (by decide)) (Or.inr (by decide))
      obtain ⟨S6, e6, hB6, f6, hM6, r6, b6⟩ := start_ok (n := n) (by omega) hB1 hL1
      obtain ⟨S7, e7, f7, g7⟩ := m_layTwo (n := n) (by omega) hB6 hM6 hp hc ha hb hcc hX hY
      have hB7 := f7.B hB6
      have hM7 := hM6.f f7 rfl
      have fz : rvf [189000, 189022, 191, 199, 200] S1 S7 := (f6.mono rfl).tr (f7.mono rfl)
      have rr := rf_of hB7 (show (189, 25, 200) ∈ rv_rf0 by decide)
      have g8 := g7 0 (Nat.zero_le _) (Nat.zero_le _) X Y (Nat.le_refl _) (Nat.le_refl _)
      rw [Nat.sub_zero, ← ee1, ← ee2] at g8
      have cap := tg_cap (e1 := e1) (e2 := e2) (d := va m) (N := vC m) (vC m) X Y
      refine ⟨iM, S1, S7, ?_, ?_, QD.two hV f1 fz rfl rfl rfl rfl q hM7 (by rw [f7.at (a := 189) (k := 22) rfl]; exact b6) hk rfl rfl (r6.tr (R42.of f7 rfl)), (hG.f f1 rfl rfl rfl rfl).f fz rfl rfl rfl rfl⟩
      · have e2t : fnX12_told n S1 64 iM = some (iM, S1) := by rw [fnX12_told, if_pos (by decide)]
        rw [fnX12_keep]
        repeat (first | (conv => (lhs; arg 1; simp (disch := first | assumption | omega) only [tk_gI, tk_gL, tk_gR, tk_pI, tk_pL, rv_aI, rv_aL, rv_aR, rv_uI, rv_uL, rv_uB, rv_uZ, pu_ckI, pu_ckL, pu_lnI, pu_lnL, tk_rI, tk_rL, Option.bind_some, Option.map_some, rv_lt, tk_ix, z0, z1, z2, z3, z4, z5, z6, z7, z8, z9, z10, z11, z12, z13, z15, z16, z17, z18, z20, z21, z23, z24, z25, z31, z32, z39, z40, z41, z46, z48, z50, z57, z59, z60, z61, z62, z63, z64, z97, z98, z99, z100, z101, z102, z103, z104, z105, z106, z107, z108, z109, z110, z111, z112, z113, z114, z115, z116, z117, z118, z119, z120, z121, z122, z128, z132, z200, z240, z255, z372, z390625, z400, z420, z421, z422, z662, z900, z940, z999, z1000, z1024, z2000, z5860, z10000, z12345, z15625, z266240, z1048575, z1064960, z1103515245, z_m1, n_le, n_lt, n_eq, n_bit0, n_bit1, n_sbit0, n_shl, z_ltM, z_Mlt, z_leM, z_Mle, z_eqM, z_Meq, bI0, bI1, bI_01, bI_01t, bI_10, bI_10f, if_true, if_false, eq_self, reduceCtorEq, hC, k1, k2, k3, k4, k5])); first | rw [Option.bind_some] | rw [bp_s] | rw [if_true] | rw [if_false] | rw [rv_lt_eq] | rw [if_pos (by omega)] | rw [if_neg (by omega)])
        rw [cX12_keep_45, if_neg (by decide)]
        repeat (first | (conv => (lhs; arg 1; simp (disch := first | assumption | omega) only [tk_gI, tk_gL, tk_gR, tk_pI, tk_pL, rv_aI, rv_aL, rv_aR, rv_uI, rv_uL, rv_uB, rv_uZ, pu_ckI, pu_ckL, pu_lnI, pu_lnL, tk_rI, tk_rL, Option.bind_some, Option.map_some, rv_lt, tk_ix, hC, hVS, hPS, hFS, w1, w2, r5, rc_108 hB, e1', rc_64 hB1, e2t])); first | rw [Option.bind_some] | rw [bp_s] | rw [if_true] | rw [if_false] | rw [rv_lt_eq] | rw [if_pos (by omega)] | rw [if_neg (by omega)])
      · rw [fnX13_keep]
        repeat (first | (conv => (lhs; arg 1; simp (disch := first | assumption | omega) only [tk_gI, tk_gL, tk_gR, tk_pI, tk_pL, rv_aI, rv_aL, rv_aR, rv_uI, rv_uL, rv_uB, rv_uZ, pu_ckI, pu_ckL, pu_lnI, pu_lnL, tk_rI, tk_rL, Option.bind_some, Option.map_some, rv_lt, tk_ix, z0, z1, z2, z3, z4, z5, z6, z7, z8, z9, z10, z11, z12, z13, z15, z16, z17, z18, z20, z21, z23, z24, z25, z31, z32, z39, z40, z41, z46, z48, z50, z57, z59, z60, z61, z62, z63, z64, z97, z98, z99, z100, z101, z102, z103, z104, z105, z106, z107, z108, z109, z110, z111, z112, z113, z114, z115, z116, z117, z118, z119, z120, z121, z122, z128, z132, z200, z240, z255, z372, z390625, z400, z420, z421, z422, z662, z900, z940, z999, z1000, z1024, z2000, z5860, z10000, z12345, z15625, z266240, z1048575, z1064960, z1103515245, z_m1, n_le, n_lt, n_eq, n_bit0, n_bit1, n_sbit0, n_shl, z_ltM, z_Mlt, z_leM, z_Mle, z_eqM, z_Meq, bI0, bI1, bI_01, bI_01t, bI_10, bI_10f, if_true, if_false, eq_self, reduceCtorEq, rc_189 hB1, e6, rc_189 hB6, m_isWho hB6 hM6 hp ha, m_isWho hB6 hM6 hp hb, m_isWho hB6 hM6 hp hcc, m_ds' (n := n) (S := S6) h1 hX, m_ds' (n := n) (S := S6) h1' hY, e7, rc_189 hB7, rr, rn_200 hB7, m_two0, g8])); first | rw [Option.bind_some] | rw [bp_s] | rw [if_true] | rw [if_false] | rw [rv_lt_eq] | rw [if_pos (by omega)] | rw [if_neg (by omega)])
        all_goals rfl
    · have hB1 := f1.B hB
      have hR1 := hR.f f1 hv (Or.inl rfl) (Or.inr (by decide)) (Or.inr (by decide)) (Or.inr (by decide))
      obtain ⟨S2, e2', f2, g2, g3⟩ := k_told (n := n) (by omega) hB1 hR1.2.1 g1 (rfl : tg e1 e2 (va m) (vC m) (vC m) X Y = _)
      have hB2 := f2.B hB1
      have f12 : rvf [108, 110, 64012, 64013] S S2 := (f1.mono rfl).tr (f2.mono rfl)
      have hL2 := hL.f f12 rfl rfl
      have q := hR.f f12 hv (Or.inl rfl) (Or.inr (by decide)) (Or.inr (by decide)) (Or.inr (by decide))
      obtain ⟨S6, e6, hB6, f6, hM6, r6, b6⟩ := start_ok (n := n) (by omega) hB2 hL2
      obtain ⟨S7, e7, f7, g7⟩ := m_layTwo (n := n) (by omega) hB6 hM6 hp hc ha hb hcc hX hY
      have hB7 := f7.B hB6
      have hM7 := hM6.f f7 rfl
      have rr := rf_of hB7 (show (189, 25, 200) ∈ rv_rf0 by decide)
      have g8 := g7 0 (Nat.zero_le _) (Nat.zero_le _) X Y (Nat.le_refl _) (Nat.le_refl _)
      rw [Nat.sub_zero, ← ee1, ← ee2] at g8
      obtain ⟨F, eF⟩ : ∃ F, F = tg e1 e2 (va m) (vC m) (vC m) X Y := ⟨_, rfl⟩
      obtain ⟨S8, e8, f8, g9⟩ := m_lefts (n := n) (by omega) hB7 hY (nI a) (nI b) (nI X) (nI c) (nI F) (nI F)
      have hB8 := f8.B hB7
      have hM8 := hM7.f f8 rfl
      obtain ⟨S9, e9, f9, g10⟩ := m_kwalk (n := n) (by omega) hB8 hM8 hp hc ha hb hcc hX hY (g7.f f8 rfl) g9 (nI F)
      rw [← ee1, ← ee2] at g10
      rw [← ee1, ← ee2, ← eF] at e9
      have hB9 := f9.B hB8
      have hM9 := hM8.f f9 rfl
      obtain ⟨S10, e10, f10, g11, g12⟩ := m_tell (n := n) (by omega) hB9 hM9 hc
      have fz : rvf [189000, 189022, 191, 199, 200, 202, 203, 204, 201, 189028] S2 S10 := (f6.mono rfl).tr ((f7.mono rfl).tr ((f8.mono rfl).tr ((f9.mono rfl).tr (f10.mono rfl))))
      have b40 := bs_64 (Bk e1 e2 (va m) (vC m) X Y) h40
      rw [← eF] at t1 e1' e2' g8
      refine ⟨nI F, S2, S10, ?_, ?_, QD.two hV f12 fz rfl rfl rfl rfl q (hM9.f f10 rfl) (by rw [f10.at (a := 189) (k := 22) rfl, f9.at (a := 189) (k := 22) rfl, f8.at (a := 189) (k := 22) rfl, f7.at (a := 189) (k := 22) rfl]; exact b6) hk rfl rfl (r6.tr ((R42.of f7 rfl).tr ((R42.of f8 rfl).tr ((R42.of f9 rfl).tr (R42.of f10 rfl))))), Or.inl ⟨vC m, bs (Bk e1 e2 (va m) (vC m) X Y) (vC m), h40, by omega, (fz.atL (a := 64) (k := 12) rfl).trans g2, (fz.at (a := 64) (k := 13) rfl).trans g3, g11, fun j hj => (g12 j hj).trans ((g10 j hj).trans ?_)⟩⟩
      · rw [fnX12_keep]
        repeat (first | (conv => (lhs; arg 1; simp (disch := first | assumption | omega) only [tk_gI, tk_gL, tk_gR, tk_pI, tk_pL, rv_aI, rv_aL, rv_aR, rv_uI, rv_uL, rv_uB, rv_uZ, pu_ckI, pu_ckL, pu_lnI, pu_lnL, tk_rI, tk_rL, Option.bind_some, Option.map_some, rv_lt, tk_ix, z0, z1, z2, z3, z4, z5, z6, z7, z8, z9, z10, z11, z12, z13, z15, z16, z17, z18, z20, z21, z23, z24, z25, z31, z32, z39, z40, z41, z46, z48, z50, z57, z59, z60, z61, z62, z63, z64, z97, z98, z99, z100, z101, z102, z103, z104, z105, z106, z107, z108, z109, z110, z111, z112, z113, z114, z115, z116, z117, z118, z119, z120, z121, z122, z128, z132, z200, z240, z255, z372, z390625, z400, z420, z421, z422, z662, z900, z940, z999, z1000, z1024, z2000, z5860, z10000, z12345, z15625, z266240, z1048575, z1064960, z1103515245, z_m1, n_le, n_lt, n_eq, n_bit0, n_bit1, n_sbit0, n_shl, z_ltM, z_Mlt, z_leM, z_Mle, z_eqM, z_Meq, bI0, bI1, bI_01, bI_01t, bI_10, bI_10f, if_true, if_false, eq_self, reduceCtorEq, hC, k1, k2, k3, k4, k5])); first | rw [Option.bind_some] | rw [bp_s] | rw [if_true] | rw [if_false] | rw [rv_lt_eq] | rw [if_pos (by omega)] | rw [if_neg (by omega)])
        rw [cX12_keep_45, if_neg (by decide)]
        repeat (first | (conv => (lhs; arg 1; simp (disch := first | assumption | omega) only [tk_gI, tk_gL, tk_gR, tk_pI, tk_pL, rv_aI, rv_aL, rv_aR, rv_uI, rv_uL, rv_uB, rv_uZ, pu_ckI, pu_ckL, pu_lnI, pu_lnL, tk_rI, tk_rL, Option.bind_some, Option.map_some, rv_lt, tk_ix, hC, hVS, hPS, hFS, w1, w2, r5, rc_108 hB, e1', rc_64 hB1, e2'])); first | rw [Option.bind_some] | rw [bp_s] | rw [if_true] | rw [if_false] | rw [rv_lt_eq] | rw [if_pos (by omega)] | rw [if_neg (by omega)])
      · rw [fnX13_keep]
        repeat (first | (conv => (lhs; arg 1; simp (disch := first | assumption | omega) only [tk_gI, tk_gL, tk_gR, tk_pI, tk_pL, rv_aI, rv_aL, rv_aR, rv_uI, rv_uL, rv_uB, rv_uZ, pu_ckI, pu_ckL, pu_lnI, pu_lnL, tk_rI, tk_rL, Option.bind_some, Option.map_some, rv_lt, tk_ix, z0, z1, z2, z3, z4, z5, z6, z7, z8, z9, z10, z11, z12, z13, z15, z16, z17, z18, z20, z21, z23, z24, z25, z31, z32, z39, z40, z41, z46, z48, z50, z57, z59, z60, z61, z62, z63, z64, z97, z98, z99, z100, z101, z102, z103, z104, z105, z106, z107, z108, z109, z110, z111, z112, z113, z114, z115, z116, z117, z118, z119, z120, z121, z122, z128, z132, z200, z240, z255, z372, z390625, z400, z420, z421, z422, z662, z900, z940, z999, z1000, z1024, z2000, z5860, z10000, z12345, z15625, z266240, z1048575, z1064960, z1103515245, z_m1, n_le, n_lt, n_eq, n_bit0, n_bit1, n_sbit0, n_shl, z_ltM, z_Mlt, z_leM, z_Mle, z_eqM, z_Meq, bI0, bI1, bI_01, bI_01t, bI_10, bI_10f, if_true, if_false, eq_self, reduceCtorEq, rc_189 hB2, e6, rc_189 hB6, m_isWho hB6 hM6 hp ha, m_isWho hB6 hM6 hp hb, m_isWho hB6 hM6 hp hcc, m_ds' (n := n) (S := S6) h1 hX, m_ds' (n := n) (S := S6) h1' hY, e7, rc_189 hB7, rr, rn_200 hB7, m_two0, g8])); first | rw [Option.bind_some] | rw [bp_s] | rw [if_true] | rw [if_false] | rw [rv_lt_eq] | rw [if_pos (by omega)] | rw [if_neg (by omega)])
        rw [z0, e8, e9, cX13_keep_295]
        repeat (first | (conv => (lhs; arg 1; simp (disch := first | assumption | omega) only [tk_gI, tk_gL, tk_gR, tk_pI, tk_pL, rv_aI, rv_aL, rv_aR, rv_uI, rv_uL, rv_uB, rv_uZ, pu_ckI, pu_ckL, pu_lnI, pu_lnL, tk_rI, tk_rL, Option.bind_some, Option.map_some, rv_lt, tk_ix, rc_189 hB9, e10])); first | rw [Option.bind_some] | rw [bp_s] | rw [if_true] | rw [if_false] | rw [rv_lt_eq] | rw [if_pos (by omega)] | rw [if_neg (by omega)])
      · rw [bs_bit, decide_eq_true hj, Bool.true_and]
  · obtain ⟨S6, e6, hB6, f6, hM6, r6, b6⟩ := start_ok (n := n) (by omega) hB hL
    have q := QS.s0 hV f6 hM6 r6 b6
    exact ⟨_, S, S6, u1, u2 S S6 hB e6 hB6 hM6, q.dg, hG.v q⟩
end
