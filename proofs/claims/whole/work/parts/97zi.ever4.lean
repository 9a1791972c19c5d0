/-! EVER: both sides -/
section
variable {n : Nat} {S : rvS} {m : Nat → Nat} {s0 : St} {wd : Nat → List Nat}
theorem NR_e (hk : okm m) {c : Cf} {h J : Nat} (ho : okS m (c.2.1 h)) (hJ : J ≤ vW m) : NR m iM iM c h J := fun j hj => by
  obtain ⟨hp, hc, hd⟩ := id hk
  have h24 := hp.1
  have l1 := cd_lt hp (o := j) (by omega) (ps_ok hc ho.1 ho.2)
  refine ⟨fun _ e => ?_, fun _ _ e => ?_⟩
  · rw [z_eqM (by omega)] at e
    exact e
  · rw [z_eqM (by omega)] at e
    exact e
theorem op_ever (hn : 520000 ≤ n) (hV : VI S m wd) (x : Int32) : ∃ r S1 S', fnX12_ever n S 64 x = some (r, S1) ∧ fnX13_ever n S1 189 x = some (r, S') ∧ QS S S' m wd := by
  obtain ⟨hB, hR, hL, hk, -⟩ := id hV
  obtain ⟨hp, hc, hd⟩ := id hk
  have h24 := hp.1
  have h40 := hc.1
  have hC := CS_of hB
  have r6 := rf_of hB (show (64, 6, 111) ∈ rv_rf0 by decide)
  rcases rng x (N := vC m) (by omega) with ⟨c, hcc, rfl⟩ | hx
  · have k1 := k_isCoin (n := n) hB hR hk hcc
    have ho := (hc.2.2 c hcc).2.2.1
    have hl := hc.l hcc
    have ln : (rl m c).length ≤ vN m := by rw [rl_len (by have := (hc.2.2 c hcc).2.2.2.1; have := hc.2.1; omega)]; exact (hc.2.2 c hcc).2.2.2.1
    obtain ⟨s0, es0⟩ : ∃ s0 : St, s0 = (ow m c, rl m c) := ⟨_, rfl⟩
    have hs0 : okS m s0 := by rw [es0]; exact ⟨ho, hl⟩
    have hl0 : s0.2.length ≤ vN m := by rw [es0]; exact ln
    obtain ⟨b, S1, e1, f1, hb1⟩ := k_goesForEver (n := n) hn hB hR hk hcc
    rw [← es0] at hb1
    have hB1 := f1.B hB
    have R1 := CR_K hR f1 rfl
    obtain ⟨S6, e6, hB6, f6, hM6, r6', b6⟩ := start_ok (n := n) (by omega) hB1 (hL.f f1 rfl rfl)
    obtain ⟨S7, e7, f7, Q7⟩ := m_rbegin (n := n) (by omega) hB6 hM6 hk hcc iM iM
    rw [← es0] at Q7
    have hB7 := f7.B hB6
    have hM7 := hM6.f f7 rfl
    have fin : ∃ T, (bfs m s0 T).1 = T ∧ BS m s0 T ∧ ∀ i, i < T → i < (bfs m s0 i).1 := by
      rcases bfs_end hk hs0 hl0 (fun _ => False) with ⟨h, -, hf, -⟩ | ⟨T, hT, hb, hno⟩
      · exact hf.elim
      · exact ⟨T, hT, hb, fun i hi => (hno i hi).2⟩
    obtain ⟨T, hT, hb, hno⟩ := fin
    have bss : ∀ i, i ≤ T → BS m s0 i := by
      intro i
      induction i with
      | zero => intro _; exact BS_0 hs0
      | succ i ih => intro hi; exact BS_s hk (ih (by omega)) (hno i (by omega))
    have cap := BI_cap hk hb.1 hl0
    obtain ⟨S8, e8, f8, Q8⟩ := m_none (n := n) (by omega) hB7 hM7 hk hs0 hl0 Q7 iM iM hT hb fun i hi => ⟨hno i hi, NR_e hk ((bss i (by omega)).1.2.2.2.1 i (hno i hi)).1 (Nat.le_refl _)⟩
    have hB8 := f8.B hB7
    have hM8 := hM7.f f8 rfl
    obtain ⟨S9, e9, f9, g9⟩ := m_e37 (n := n) (by omega) hk hb.1 cap (bfs m s0 T).1 0 (n - (bfs m s0 T).1 - 1) S8 (by omega) hB8 hM8 Q8 (fun j hj => absurd hj (Nat.not_lt_zero j))
    rw [show n - (bfs m s0 T).1 - 1 + (bfs m s0 T).1 + 1 = n by omega] at e9
    have hB9 := f9.B hB8
    have Q9 := Q8.f f9 rfl rfl rfl
    obtain ⟨S10, e10, f10, g10⟩ := m_e110 (n := n) (by omega) hk hb.1 cap (bfs m s0 T).1 0 (n - (bfs m s0 T).1 - 1) S9 (by omega) hB9 Q9 g9 (fun j p hj => by simp [ends0] at hj)
    rw [show n - (bfs m s0 T).1 - 1 + (bfs m s0 T).1 + 1 = n by omega] at e10
    have e10 : cX13_ever_110 n n S9 189 (nI (bfs m s0 T).1) (nI 0) (nI 0) = _ := e10
    have hB10 := f10.B hB9
    have f910 : rvf [199, 207, 200] S8 S10 := (f9.mono rfl).tr (f10.mono rfl)
    have E10 : EWR S10 (bfs m s0 T) (nfo m [], ends0 m (bfs m s0 T) (bfs m s0 T).1) := ⟨fun p hp' => by
      obtain ⟨i, hi, e⟩ := inC_iff.mp hp'
      have := g9 i hi
      rw [cQ, e] at this
      rw [f10.row rfl rfl]; exact this, g10⟩
    obtain ⟨x', S11, e11, f11, h11⟩ := m_e153 (n := n) (by omega) hk hl0 hb.1 cap (bfs m s0 T).1 0 (n - (bfs m s0 T).1 - 1) (nfo m [], ends0 m (bfs m s0 T) (bfs m s0 T).1) S10 (by omega) (Nat.zero_le _) hB10 (hM8.f f910 rfl) (Q8.f f910 rfl rfl rfl) E10 (KI_0 hb.1)
    rw [show n - (bfs m s0 T).1 - 1 + (bfs m s0 T).1 + 1 = n by omega] at e11
    have ans : b = decide (x'.2.length < (bfs m s0 T).1) := by
      have h := KI_end hT hb h11
      rw [hT]
      refine Bool.eq_iff_iff.mpr ?_
      rw [hb1, decide_eq_true_eq, h]
    have fz : rvf ([189000, 189022, 191] ++ RD ++ [207, 200]) S1 S11 := (f6.mono rfl).tr ((f7.mono rfl).tr ((f8.mono rfl).tr ((f910.mono rfl).tr (f11.mono rfl))))
    have f811 : rvf [199, 207, 200] S8 S11 := f910.tr (f11.mono rfl)
    refine ⟨bI b, S1, S11, ?_, ?_, QS.two hV f1 fz rfl rfl (by decide) (by decide) R1 (hM8.f f811 rfl) (by rw [f811.at (a := 189) (k := 22) rfl, f8.at (a := 189) (k := 22) rfl, f7.at (a := 189) (k := 22) rfl]; exact b6) hk rfl rfl (r6'.tr ((R42.of f7 rfl).tr ((R42.of f8 rfl).tr (R42.of f811 rfl))))⟩
    · rw [fnX12_ever]
      repeat (first | (conv => (lhs; arg 1; simp (disch := first | assumption | omega) only [tk_gI, tk_gL, tk_gR, tk_pI, tk_pL, rv_aI, rv_aL, rv_aR, rv_uI, rv_uL, rv_uB, rv_uZ, pu_ckI, pu_ckL, pu_lnI, pu_lnL, tk_rI, tk_rL, Option.bind_some, Option.map_some, rv_lt, tk_ix, z0, z1, z2, z3, z4, z5, z6, z7, z8, z9, z10, z11, z12, z13, z15, z16, z17, z18, z20, z21, z23, z24, z25, z31, z32, z39, z40, z41, z46, z48, z50, z57, z59, z60, z61, z62, z63, z64, z97, z98, z99, z100, z101, z102, z103, z104, z105, z106, z107, z108, z109, z110, z111, z112, z113, z114, z115, z116, z117, z118, z119, z120, z121, z122, z128, z132, z200, z240, z255, z372, z390625, z400, z420, z421, z422, z662, z900, z940, z999, z1000, z1024, z2000, z5860, z10000, z12345, z15625, z266240, z1048575, z1064960, z1103515245, z_m1, n_le, n_lt, n_eq, n_bit0, n_bit1, n_sbit0, n_shl, z_ltM, z_Mlt, z_leM, z_Mle, z_eqM, z_Meq, bI0, bI1, bI_01, bI_01t, bI_10, bI_10f, if_true, if_false, eq_self, reduceCtorEq, hC, k1])); first | rw [Option.bind_some] | rw [bp_s] | rw [if_true] | rw [if_false] | rw [rv_lt_eq] | rw [if_pos (by omega)] | rw [if_neg (by omega)])
      repeat (first | (conv => (lhs; arg 1; simp (disch := first | assumption | omega) only [tk_gI, tk_gL, tk_gR, tk_pI, tk_pL, rv_aI, rv_aL, rv_aR, rv_uI, rv_uL, rv_uB, rv_uZ, pu_ckI, pu_ckL, pu_lnI, pu_lnL, tk_rI, tk_rL, Option.bind_some, Option.map_some, rv_lt, tk_ix, hC, r6, rc_111 hB, e1])); first | rw [Option.bind_some] | rw [bp_s] | rw [if_true] | rw [if_false] | rw [rv_lt_eq] | rw [if_pos (by omega)] | rw [if_neg (by omega)])
      cases b <;> rfl
    · have q35 := Q8.1
      rw [fnX13_ever]
      repeat (first | (conv => (lhs; arg 1; simp (disch := first | assumption | omega) only [tk_gI, tk_gL, tk_gR, tk_pI, tk_pL, rv_aI, rv_aL, rv_aR, rv_uI, rv_uL, rv_uB, rv_uZ, pu_ckI, pu_ckL, pu_lnI, pu_lnL, tk_rI, tk_rL, Option.bind_some, Option.map_some, rv_lt, tk_ix, z0, z1, z2, z3, z4, z5, z6, z7, z8, z9, z10, z11, z12, z13, z15, z16, z17, z18, z20, z21, z23, z24, z25, z31, z32, z39, z40, z41, z46, z48, z50, z57, z59, z60, z61, z62, z63, z64, z97, z98, z99, z100, z101, z102, z103, z104, z105, z106, z107, z108, z109, z110, z111, z112, z113, z114, z115, z116, z117, z118, z119, z120, z121, z122, z128, z132, z200, z240, z255, z372, z390625, z400, z420, z421, z422, z662, z900, z940, z999, z1000, z1024, z2000, z5860, z10000, z12345, z15625, z266240, z1048575, z1064960, z1103515245, z_m1, n_le, n_lt, n_eq, n_bit0, n_bit1, n_sbit0, n_shl, z_ltM, z_Mlt, z_leM, z_Mle, z_eqM, z_Meq, bI0, bI1, bI_01, bI_01t, bI_10, bI_10f, if_true, if_false, eq_self, reduceCtorEq, rc_189 hB1, e6, rc_189 hB6, m_isCoin hB6 hM6 hc hcc])); first | rw [Option.bind_some] | rw [bp_s] | rw [if_true] | rw [if_false] | rw [rv_lt_eq] | rw [if_pos (by omega)] | rw [if_neg (by omega)])
      have e8' : fnX13_reach n S6 189 (nI c) iM iM = some (iM, S8) := e7.trans e8
      have e8m : fnX13_reach n S6 189 (nI c) (-1) (-1) = some (iM, S8) := e8'
      rw [e8m, bp_s]
      repeat (first | (conv => (lhs; arg 1; simp (disch := first | assumption | omega) only [tk_gI, tk_gL, tk_gR, tk_pI, tk_pL, rv_aI, rv_aL, rv_aR, rv_uI, rv_uL, rv_uB, rv_uZ, pu_ckI, pu_ckL, pu_lnI, pu_lnL, tk_rI, tk_rL, Option.bind_some, Option.map_some, rv_lt, tk_ix, rc_189 hB8, q35])); first | rw [Option.bind_some] | rw [bp_s] | rw [if_true] | rw [if_false] | rw [rv_lt_eq] | rw [if_pos (by omega)] | rw [if_neg (by omega)])
      rw [z0, e9, e10, ans]
      exact e11
  · obtain ⟨S6, e6, hB6, f6, hM6, r6', b6⟩ := start_ok (n := n) (by omega) hB hL
    refine ⟨iM, S, S6, ?_, ?_, QS.s0 hV f6 hM6 r6' b6⟩
    · rw [fnX12_ever]
      repeat (first | (conv => (lhs; arg 1; simp (disch := first | assumption | omega) only [tk_gI, tk_gL, tk_gR, tk_pI, tk_pL, rv_aI, rv_aL, rv_aR, rv_uI, rv_uL, rv_uB, rv_uZ, pu_ckI, pu_ckL, pu_lnI, pu_lnL, tk_rI, tk_rL, Option.bind_some, Option.map_some, rv_lt, tk_ix, z0, z1, z2, z3, z4, z5, z6, z7, z8, z9, z10, z11, z12, z13, z15, z16, z17, z18, z20, z21, z23, z24, z25, z31, z32, z39, z40, z41, z46, z48, z50, z57, z59, z60, z61, z62, z63, z64, z97, z98, z99, z100, z101, z102, z103, z104, z105, z106, z107, z108, z109, z110, z111, z112, z113, z114, z115, z116, z117, z118, z119, z120, z121, z122, z128, z132, z200, z240, z255, z372, z390625, z400, z420, z421, z422, z662, z900, z940, z999, z1000, z1024, z2000, z5860, z10000, z12345, z15625, z266240, z1048575, z1064960, z1103515245, z_m1, n_le, n_lt, n_eq, n_bit0, n_bit1, n_sbit0, n_shl, z_ltM, z_Mlt, z_leM, z_Mle, z_eqM, z_Meq, bI0, bI1, bI_01, bI_01t, bI_10, bI_10f, if_true, if_false, eq_self, reduceCtorEq, hC, k_isCoin0 hB hR hx])); first | rw [Option.bind_some] | rw [bp_s] | rw [if_true] | rw [if_false] | rw [rv_lt_eq] | rw [if_pos (by omega)] | rw [if_neg (by omega)])
      all_goals rfl
    · rw [fnX13_ever]
      repeat (first | (conv => (lhs; arg 1; simp (disch := first | assumption | omega) only [tk_gI, tk_gL, tk_gR, tk_pI, tk_pL, rv_aI, rv_aL, rv_aR, rv_uI, rv_uL, rv_uB, rv_uZ, pu_ckI, pu_ckL, pu_lnI, pu_lnL, tk_rI, tk_rL, Option.bind_some, Option.map_some, rv_lt, tk_ix, z0, z1, z2, z3, z4, z5, z6, z7, z8, z9, z10, z11, z12, z13, z15, z16, z17, z18, z20, z21, z23, z24, z25, z31, z32, z39, z40, z41, z46, z48, z50, z57, z59, z60, z61, z62, z63, z64, z97, z98, z99, z100, z101, z102, z103, z104, z105, z106, z107, z108, z109, z110, z111, z112, z113, z114, z115, z116, z117, z118, z119, z120, z121, z122, z128, z132, z200, z240, z255, z372, z390625, z400, z420, z421, z422, z662, z900, z940, z999, z1000, z1024, z2000, z5860, z10000, z12345, z15625, z266240, z1048575, z1064960, z1103515245, z_m1, n_le, n_lt, n_eq, n_bit0, n_bit1, n_sbit0, n_shl, z_ltM, z_Mlt, z_leM, z_Mle, z_eqM, z_Meq, bI0, bI1, bI_01, bI_01t, bI_10, bI_10f, if_true, if_false, eq_self, reduceCtorEq, rc_189 hB, e6, rc_189 hB6, m_isCoin0 hB6 hM6 hx])); first | rw [Option.bind_some] | rw [bp_s] | rw [if_true] | rw [if_false] | rw [rv_lt_eq] | rw [if_pos (by omega)] | rw [if_neg (by omega)])
      all_goals rfl
end
