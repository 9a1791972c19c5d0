/-! SAID: the class asks one step of one coin -/
section
variable {n : Nat} {S : rvS} {m : Nat → Nat} {wd : Nat → List Nat}
theorem ix_23 {w : Nat} (h : w < 23) : rv_ix 23 (Int32.ofNat w) = some w := tk_ix h (by decide)
theorem wd_23 {w : Nat} (h : w < 23) : rv_wd w = some () := if_pos h
/-- what a step may be that says something by itself -/
def okSy (q : Nat) (t : SayT) : Prop := (14 ≤ t.1 ∧ t.1 ≤ 16 ∧ t.2.2 < q) ∨ (t.1 = 17 ∨ t.1 = 18) ∨ (19 ≤ t.1 ∧ t.1 ≤ 21 ∧ t.2.2 < 1000 ∧ (t.2.1 = 60 ∨ t.2.1 = 61 ∨ t.2.1 = 62))
theorem k_isTrue (hn : 50 ≤ n) (hB : rv_B S) (hR : CR S 67 m) (hk : okm m) {c j w s a : Nat} (hcc : c < vC m) (hj : j < 40) (hr : S.2.2.2 80 j = some w) (h1 : S.2.1 81 j = nI s) (h2 : S.2.1 82 j = nI a) (h : okSy (m 6) (w, s, a)) : fnX7_isTrue n S 79 67 (nI j) (nI c) = some (bI (b1s m c (w, s, a))) := by
  have hv : vb 67 := Or.inl rfl
  have kg := k9_goers (n := n) (by omega) hB hv hR hk hcc
  have kf := k_forgery (n := n) (by omega) hB hv hR hk hcc
  have kc := fun v hv ha hs => k_compares (n := n) hB (j := j) (s := s) (a := a) (v := v) hj hs ha hv h1 h2
  have hVS := VS_of hB hv; have hFS := FS_of hB hv.f; have hPS := PS_of hB hv.p; obtain ⟨hF, hP, hD⟩ := hR; obtain ⟨hp, hc, hd⟩ := hk
  have h24 := hp.1
  have h40 := hc.1
  have hq : m 6 ≤ vW m := hd.2.2.2.2.2.1
  obtain ⟨q1, q2, q3, q4, q5⟩ := hc.2.2 c hcc
  have hN := hc.2.1
  have kn := k_names (n := n) (by omega) hPS hP hp hc hcc
  have kb : ∀ a, a < 24 → fnX6_bears n S 75 (nI c) (nI a) = _ := fun a ha => k_bears (n := n) (by omega) hPS hP hp hc hcc (w := a) (by omega)
  rw [rl_len (by omega)] at kn
  have kn : fnX6_names n S 75 (nI c) = _ := kn
  have fgl : fg m (ow m c) (rl m c) < 8 := by
    unfold fg b3
    split <;> split <;> split <;> omega
  have r0 := rf_of hB (show (79, 0, 80) ∈ rv_rf0 by decide)
  have r2 := rf_of hB (show (79, 2, 82) ∈ rv_rf0 by decide)
  have c75 : rv_ck S 5 75 = some () := hPS.1
  have hw : w < 23 := by
    rcases h with h | h | h
    · have := h.2.1; show w < 23; exact Nat.lt_of_le_of_lt this (by decide)
    · rcases h with h | h <;> (have h : w = _ := h; omega)
    · have := h.2.1; exact Nat.lt_of_le_of_lt this (by decide)
  have ix := ix_23 hw
  have wd1 := wd_23 hw
  obtain ⟨G, eG⟩ : ∃ G, G = bI (b1s m c (w, s, a)) := ⟨_, rfl⟩
  rw [← eG, fnX7_isTrue]
  repeat (first | (conv => (lhs; arg 1; simp (disch := first | assumption | omega) only [tk_gI, tk_gL, tk_gR, tk_pI, tk_pL, rv_aI, rv_aL, rv_aR, rv_uI, rv_uL, rv_uB, rv_uZ, pu_ckI, pu_ckL, pu_lnI, pu_lnL, tk_rI, tk_rL, Option.bind_some, Option.map_some, rv_lt, tk_ix, hVS, rc_79 hB, r0, rn_80 hB, hr, wd1, ix])); first | rw [Option.bind_some] | rw [bp_s] | rw [if_true] | rw [if_false] | rw [rv_lt_eq] | rw [if_pos (by omega)] | rw [if_neg (by omega)])
  have swn : ∀ {u v : Nat} {x : Int32}, rv_sw u = nI v → v < 100 → ∀ k, k < 100 → k ≠ v → ¬ rv_sw u = nI k := fun e hv k hk hne z => by
    rw [e, n_eq (by omega) (by omega)] at z
    exact hne z.symm
  rcases h with ⟨w1, w2, ha⟩ | h | ⟨w1, w2, ha, hs⟩
  · have w1 : 14 ≤ w := w1
    have w2 : w ≤ 16 := w2
    have ha : a < m 6 := ha
    have haw : a < vW m := by omega
    have : w = 14 ∨ w = 15 ∨ w = 16 := by omega
    rcases this with rfl | rfl | rfl
    · rw [if_pos (show rv_sw 14 = 10 by rfl)]
      repeat (first | (conv => (lhs; arg 1; simp (disch := first | assumption | omega) only [tk_gI, tk_gL, tk_gR, tk_pI, tk_pL, rv_aI, rv_aL, rv_aR, rv_uI, rv_uL, rv_uB, rv_uZ, pu_ckI, pu_ckL, pu_lnI, pu_lnL, tk_rI, tk_rL, Option.bind_some, Option.map_some, rv_lt, tk_ix, hPS, hP, rc_79 hB, r2, rn_82 hB, h2])); first | rw [Option.bind_some] | rw [bp_s] | rw [if_true] | rw [if_false] | rw [rv_lt_eq] | rw [if_pos (by omega)] | rw [if_neg (by omega)])
      rw [eG]
      show _ = some (bI (decide (ow m c = a)))
      by_cases e : ow m c = a
      · rw [decide_eq_true e, if_pos (by rw [e])]; rfl
      · rw [decide_eq_false e, if_neg (by rw [n_eq (by omega) (by omega)]; exact e)]; rfl
    · rw [if_neg (show ¬ rv_sw 15 = 10 by decide), if_pos (show rv_sw 15 = 11 by rfl)]
      repeat (first | (conv => (lhs; arg 1; simp (disch := first | assumption | omega) only [tk_gI, tk_gL, tk_gR, tk_pI, tk_pL, rv_aI, rv_aL, rv_aR, rv_uI, rv_uL, rv_uB, rv_uZ, pu_ckI, pu_ckL, pu_lnI, pu_lnL, tk_rI, tk_rL, Option.bind_some, Option.map_some, rv_lt, tk_ix, c75, rc_79 hB, r2, rn_82 hB, h2, kb a (by omega), bo_b])); first | rw [Option.bind_some] | rw [bp_s] | rw [if_true] | rw [if_false] | rw [rv_lt_eq] | rw [if_pos (by omega)] | rw [if_neg (by omega)])
      rw [eG]; rfl
    · rw [if_neg (show ¬ rv_sw 16 = 10 by decide), if_neg (show ¬ rv_sw 16 = 11 by decide), if_pos (show rv_sw 16 = 12 by rfl)]
      have gl := gs_lt hp (ow m c) (rl m c)
      repeat (first | (conv => (lhs; arg 1; simp (disch := first | assumption | omega) only [tk_gI, tk_gL, tk_gR, tk_pI, tk_pL, rv_aI, rv_aL, rv_aR, rv_uI, rv_uL, rv_uB, rv_uZ, pu_ckI, pu_ckL, pu_lnI, pu_lnL, tk_rI, tk_rL, Option.bind_some, Option.map_some, rv_lt, tk_ix, z0, z1, z2, z3, z4, z5, z6, z7, z8, z9, z10, z11, z12, z13, z15, z16, z17, z18, z20, z21, z23, z24, z25, z31, z32, z39, z40, z41, z46, z48, z50, z57, z59, z60, z61, z62, z63, z64, z97, z98, z99, z100, z101, z102, z103, z104, z105, z106, z107, z108, z109, z110, z111, z112, z113, z114, z115, z116, z117, z118, z119, z120, z121, z122, z128, z132, z200, z240, z255, z372, z390625, z400, z420, z421, z422, z662, z900, z940, z999, z1000, z1024, z2000, z5860, z10000, z12345, z15625, z266240, z1048575, z1064960, z1103515245, z_m1, n_le, n_lt, n_eq, n_bit0, n_bit1, n_sbit0, n_shl, z_ltM, z_Mlt, z_leM, z_Mle, z_eqM, z_Meq, bI0, bI1, bI_01, bI_01t, bI_10, bI_10f, if_true, if_false, eq_self, reduceCtorEq, hVS, kg, rc_79 hB, r2, rn_82 hB, h2])); first | rw [Option.bind_some] | rw [bp_s] | rw [if_true] | rw [if_false] | rw [rv_lt_eq] | rw [if_pos (by omega)] | rw [if_neg (by omega)])
      simp (disch := first | assumption | omega) only [z0, z1, z2, z3, z4, z5, z6, z7, z8, z9, z10, z11, z12, z13, z15, z16, z17, z18, z20, z21, z23, z24, z25, z31, z32, z39, z40, z41, z46, z48, z50, z57, z59, z60, z61, z62, z63, z64, z97, z98, z99, z100, z101, z102, z103, z104, z105, z106, z107, z108, z109, z110, z111, z112, z113, z114, z115, z116, z117, z118, z119, z120, z121, z122, z128, z132, z200, z240, z255, z372, z390625, z400, z420, z421, z422, z662, z900, z940, z999, z1000, z1024, z2000, z5860, z10000, z12345, z15625, z266240, z1048575, z1064960, z1103515245, z_m1, n_le, n_lt, n_eq, n_bit0, n_bit1, n_sbit0, n_shl, z_ltM, z_Mlt, z_leM, z_Mle, z_eqM, z_Meq, bI0, bI1, bI_01, bI_01t, bI_10, bI_10f, if_true, if_false, eq_self, reduceCtorEq]
      rw [gs_bit haw, eG]
      show _ = some (bI (decide (wy m (ow m c) (rl m c) a = 0)))
      cases decide (wy m (ow m c) (rl m c) a = 0) <;> rfl
  · rcases h with rfl | rfl
    · rw [if_neg (show ¬ rv_sw 17 = 10 by decide), if_neg (show ¬ rv_sw 17 = 11 by decide), if_neg (show ¬ rv_sw 17 = 12 by decide), if_neg (show ¬ rv_sw 17 = 13 by decide), if_neg (show ¬ rv_sw 17 = 14 by decide), if_neg (show ¬ rv_sw 17 = 15 by decide), if_pos (show rv_sw 17 = 16 by rfl)]
      have gl := gs_lt hp (ow m c) (rl m c)
      repeat (first | (conv => (lhs; arg 1; simp (disch := first | assumption | omega) only [tk_gI, tk_gL, tk_gR, tk_pI, tk_pL, rv_aI, rv_aL, rv_aR, rv_uI, rv_uL, rv_uB, rv_uZ, pu_ckI, pu_ckL, pu_lnI, pu_lnL, tk_rI, tk_rL, Option.bind_some, Option.map_some, rv_lt, tk_ix, hVS, kg])); first | rw [Option.bind_some] | rw [bp_s] | rw [if_true] | rw [if_false] | rw [rv_lt_eq] | rw [if_pos (by omega)] | rw [if_neg (by omega)])
      rw [z0]
      simp (disch := first | assumption | omega) only [n_eq]
      rw [eG]
      show _ = some (bI (decide (gs m (ow m c) (rl m c) = 0)))
      by_cases e : gs m (ow m c) (rl m c) = 0
      · rw [if_pos e, decide_eq_true e]; rfl
      · rw [if_neg e, decide_eq_false e]; rfl
    · rw [if_neg (show ¬ rv_sw 18 = 10 by decide), if_neg (show ¬ rv_sw 18 = 11 by decide), if_neg (show ¬ rv_sw 18 = 12 by decide), if_neg (show ¬ rv_sw 18 = 13 by decide), if_neg (show ¬ rv_sw 18 = 14 by decide), if_neg (show ¬ rv_sw 18 = 15 by decide), if_neg (show ¬ rv_sw 18 = 16 by decide), if_pos (show rv_sw 18 = 17 by rfl)]
      repeat (first | (conv => (lhs; arg 1; simp (disch := first | assumption | omega) only [tk_gI, tk_gL, tk_gR, tk_pI, tk_pL, rv_aI, rv_aL, rv_aR, rv_uI, rv_uL, rv_uB, rv_uZ, pu_ckI, pu_ckL, pu_lnI, pu_lnL, tk_rI, tk_rL, Option.bind_some, Option.map_some, rv_lt, tk_ix, hVS, kf])); first | rw [Option.bind_some] | rw [bp_s] | rw [if_true] | rw [if_false] | rw [rv_lt_eq] | rw [if_pos (by omega)] | rw [if_neg (by omega)])
      rw [z0]
      simp (disch := first | assumption | omega) only [n_eq]
      rw [eG]
      show _ = some (bI (decide (0 < fg m (ow m c) (rl m c))))
      by_cases e : 0 < fg m (ow m c) (rl m c)
      · rw [if_neg (by omega), decide_eq_true e]; rfl
      · rw [if_pos (by omega), decide_eq_false e]; rfl
  · have w1 : 19 ≤ w := w1
    have w2 : w ≤ 21 := w2
    have ha : a < 1000 := ha
    have va4 := hp.2.1 (ow m c) q3
    have : w = 19 ∨ w = 20 ∨ w = 21 := by omega
    rcases this with rfl | rfl | rfl
    · rw [if_neg (show ¬ rv_sw 19 = 10 by decide), if_neg (show ¬ rv_sw 19 = 11 by decide), if_neg (show ¬ rv_sw 19 = 12 by decide), if_pos (show rv_sw 19 = 13 by rfl)]
      repeat (first | (conv => (lhs; arg 1; simp (disch := first | assumption | omega) only [tk_gI, tk_gL, tk_gR, tk_pI, tk_pL, rv_aI, rv_aL, rv_aR, rv_uI, rv_uL, rv_uB, rv_uZ, pu_ckI, pu_ckL, pu_lnI, pu_lnL, tk_rI, tk_rL, Option.bind_some, Option.map_some, rv_lt, tk_ix, hPS, hP, rc_79 hB, kc (va m c) (by omega) ha hs, bo_b])); first | rw [Option.bind_some] | rw [bp_s] | rw [if_true] | rw [if_false] | rw [rv_lt_eq] | rw [if_pos (by omega)] | rw [if_neg (by omega)])
      rw [eG]; rfl
    · rw [if_neg (show ¬ rv_sw 20 = 10 by decide), if_neg (show ¬ rv_sw 20 = 11 by decide), if_neg (show ¬ rv_sw 20 = 12 by decide), if_neg (show ¬ rv_sw 20 = 13 by decide), if_pos (show rv_sw 20 = 14 by rfl)]
      repeat (first | (conv => (lhs; arg 1; simp (disch := first | assumption | omega) only [tk_gI, tk_gL, tk_gR, tk_pI, tk_pL, rv_aI, rv_aL, rv_aR, rv_uI, rv_uL, rv_uB, rv_uZ, pu_ckI, pu_ckL, pu_lnI, pu_lnL, tk_rI, tk_rL, Option.bind_some, Option.map_some, rv_lt, tk_ix, c75, kn, rc_79 hB, kc (mn m c) (by omega) ha hs, bo_b])); first | rw [Option.bind_some] | rw [bp_s] | rw [if_true] | rw [if_false] | rw [rv_lt_eq] | rw [if_pos (by omega)] | rw [if_neg (by omega)])
      rw [eG]; rfl
    · rw [if_neg (show ¬ rv_sw 21 = 10 by decide), if_neg (show ¬ rv_sw 21 = 11 by decide), if_neg (show ¬ rv_sw 21 = 12 by decide), if_neg (show ¬ rv_sw 21 = 13 by decide), if_neg (show ¬ rv_sw 21 = 14 by decide), if_pos (show rv_sw 21 = 15 by rfl)]
      repeat (first | (conv => (lhs; arg 1; simp (disch := first | assumption | omega) only [tk_gI, tk_gL, tk_gR, tk_pI, tk_pL, rv_aI, rv_aL, rv_aR, rv_uI, rv_uL, rv_uB, rv_uZ, pu_ckI, pu_ckL, pu_lnI, pu_lnL, tk_rI, tk_rL, Option.bind_some, Option.map_some, rv_lt, tk_ix, hVS, hPS, hFS, hP, k_villageOf hFS hF hp q3, rc_79 hB, kc (at_ m (ow m c)) (by omega) ha hs, bo_b])); first | rw [Option.bind_some] | rw [bp_s] | rw [if_true] | rw [if_false] | rw [rv_lt_eq] | rw [if_pos (by omega)] | rw [if_neg (by omega)])
      rw [eG]; rfl
end
