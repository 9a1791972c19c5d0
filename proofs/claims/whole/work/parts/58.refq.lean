/-! THE REFERENCE, what is asked of it -/
section
variable {n : Nat} {S : rvS} {m : Nat → Nat}
theorem m_whomOf (hn : 50 ≤ n) (hB : rv_B S) (hM : MR S m) (hp : okp m) (hc : okc m) {c : Nat} (h : c < vC m) : ∃ S', fnX13_whomOf n S 189 (nI c) = some (nI (gs m (ow m c) (rl m c)), S') ∧ rvf [199] S S' := by
  have h1 := hp.1
  rw [fnX13_whomOf]
  refine lp (F := fun q (x : rvS × Int32 × Int32) => cX13_whomOf_4 n q x.1 189 (nI c) x.2.1 x.2.2) (fun i x => x.2 = (nI (bs (fun w => decide (wy m (ow m c) (rl m c) w = 0)) i), nI i) ∧ rvf [199] S x.1) (fun o => ∃ S', o = some (nI (gs m (ow m c) (rl m c)), S') ∧ rvf [199] S S') (vW m) (fun i x q hi hx => Or.inr ?_) (fun x q hx => ?_) (i := 0) (x := (S, 0, 0)) (q := n) (Nat.zero_le _) ⟨rfl, rvf.rf _ _⟩ (by omega)
  · obtain ⟨S1, x1, x2⟩ := x
    obtain ⟨hx, f1⟩ := hx
    obtain ⟨rfl, rfl⟩ := Prod.mk.inj hx
    have f1 : rvf [199] S S1 := f1
    have hB1 := f1.B hB
    have hM1 := hM.f f1 rfl
    obtain ⟨S2, e2, f2, -⟩ := m_why (n := n) (by omega) hB1 hM1 hp hc h hi
    have g1 := wy_le m (ow m c) (rl m c) i
    refine ⟨(S2, nI (bs (fun w => decide (wy m (ow m c) (rl m c) w = 0)) (i + 1)), nI (i + 1)), ?_, rfl, f1.tr f2⟩
    show cX13_whomOf_4 n (q + 1) S1 189 (nI c) (nI (bs _ i)) (nI i) = cX13_whomOf_4 n q S2 189 (nI c) (nI (bs _ (i + 1))) (nI (i + 1))
    rw [cX13_whomOf_4, bs_s]
    simp (disch := first | assumption | omega) only [tk_gI, tk_gL, tk_gR, tk_pI, tk_pL, rv_aI, rv_aL, rv_aR, rv_uI, rv_uL, rv_uB, rv_uZ, pu_ckI, pu_ckL, pu_lnI, pu_lnL, tk_rI, tk_rL, Option.bind_some, Option.map_some, rv_lt, tk_ix, z0, z1, z2, z3, z4, z5, z6, z7, z8, z9, z10, z11, z12, z13, z15, z16, z17, z18, z20, z21, z23, z24, z25, z31, z32, z39, z40, z41, z46, z48, z50, z57, z59, z60, z61, z62, z63, z64, z97, z98, z99, z100, z101, z102, z103, z104, z105, z106, z107, z108, z109, z110, z111, z112, z113, z114, z115, z116, z117, z118, z119, z120, z121, z122, z128, z132, z200, z240, z255, z372, z390625, z400, z420, z421, z422, z662, z900, z940, z999, z1000, z1024, z2000, z5860, z10000, z12345, z15625, z266240, z1048575, z1064960, z1103515245, z_m1, n_le, n_lt, n_eq, n_bit0, n_bit1, n_sbit0, n_shl, z_ltM, z_Mlt, z_leM, z_Mle, z_eqM, z_Meq, bI0, bI1, bI_01, bI_01t, bI_10, bI_10f, if_true, if_false, eq_self, reduceCtorEq, if_pos, if_neg, rc_189 hB1, m_whos hB1 hM1, e2, bp_s, fa_or, nI_add, decide_eq_true_eq]
    by_cases c1 : wy m (ow m c) (rl m c) i = 0
    · rw [if_pos c1, if_pos c1]
    · rw [if_neg c1, if_neg c1]
  · obtain ⟨S1, x1, x2⟩ := x
    obtain ⟨hx, f1⟩ := hx
    obtain ⟨rfl, rfl⟩ := Prod.mk.inj hx
    have f1 : rvf [199] S S1 := f1
    have hB1 := f1.B hB
    have hM1 := hM.f f1 rfl
    refine ⟨S1, ?_, f1⟩
    show cX13_whomOf_4 n (q + 1) S1 189 (nI c) (nI (bs _ (vW m))) (nI (vW m)) = _
    rw [cX13_whomOf_4]
    simp (disch := first | assumption | omega) only [tk_gI, tk_gL, tk_gR, tk_pI, tk_pL, rv_aI, rv_aL, rv_aR, rv_uI, rv_uL, rv_uB, rv_uZ, pu_ckI, pu_ckL, pu_lnI, pu_lnL, tk_rI, tk_rL, Option.bind_some, Option.map_some, rv_lt, tk_ix, z0, z1, z2, z3, z4, z5, z6, z7, z8, z9, z10, z11, z12, z13, z15, z16, z17, z18, z20, z21, z23, z24, z25, z31, z32, z39, z40, z41, z46, z48, z50, z57, z59, z60, z61, z62, z63, z64, z97, z98, z99, z100, z101, z102, z103, z104, z105, z106, z107, z108, z109, z110, z111, z112, z113, z114, z115, z116, z117, z118, z119, z120, z121, z122, z128, z132, z200, z240, z255, z372, z390625, z400, z420, z421, z422, z662, z900, z940, z999, z1000, z1024, z2000, z5860, z10000, z12345, z15625, z266240, z1048575, z1064960, z1103515245, z_m1, n_le, n_lt, n_eq, n_bit0, n_bit1, n_sbit0, n_shl, z_ltM, z_Mlt, z_leM, z_Mle, z_eqM, z_Meq, bI0, bI1, bI_01, bI_01t, bI_10, bI_10f, if_true, if_false, eq_self, reduceCtorEq, if_pos, if_neg, rc_189 hB1, m_whos hB1 hM1]
    rfl
theorem m_isStuck (hn : 50 ≤ n) (hB : rv_B S) (hM : MR S m) (hp : okp m) (hc : okc m) {c : Nat} (h : c < vC m) : ∃ S', fnX13_isStuck n S 189 (nI c) = some (bI (stk m c), S') ∧ rvf [199] S S' := by
  obtain ⟨S', e, f⟩ := m_whomOf hn hB hM hp hc h
  have g := gs_lt hp (ow m c) (rl m c)
  refine ⟨S', ?_, f⟩
  simp (disch := first | assumption | omega) only [fnX13_isStuck, tk_gI, tk_gL, tk_gR, tk_pI, tk_pL, rv_aI, rv_aL, rv_aR, rv_uI, rv_uL, rv_uB, rv_uZ, pu_ckI, pu_ckL, pu_lnI, pu_lnL, tk_rI, tk_rL, Option.bind_some, Option.map_some, rv_lt, tk_ix, z0, z1, z2, z3, z4, z5, z6, z7, z8, z9, z10, z11, z12, z13, z15, z16, z17, z18, z20, z21, z23, z24, z25, z31, z32, z39, z40, z41, z46, z48, z50, z57, z59, z60, z61, z62, z63, z64, z97, z98, z99, z100, z101, z102, z103, z104, z105, z106, z107, z108, z109, z110, z111, z112, z113, z114, z115, z116, z117, z118, z119, z120, z121, z122, z128, z132, z200, z240, z255, z372, z390625, z400, z420, z421, z422, z662, z900, z940, z999, z1000, z1024, z2000, z5860, z10000, z12345, z15625, z266240, z1048575, z1064960, z1103515245, z_m1, n_le, n_lt, n_eq, n_bit0, n_bit1, n_sbit0, n_shl, z_ltM, z_Mlt, z_leM, z_Mle, z_eqM, z_Meq, bI0, bI1, bI_01, bI_01t, bI_10, bI_10f, if_true, if_false, eq_self, reduceCtorEq, rc_189 hB, e, bp_s]
  by_cases c1 : gs m (ow m c) (rl m c) = 0
  · rw [if_pos c1, stk, decide_eq_true c1]; rfl
  · rw [if_neg c1, stk, decide_eq_false c1]; rfl
theorem m_isFor (hn : 50 ≤ n) (hB : rv_B S) (hM : MR S m) (hp : okp m) (hc : okc m) {c a b : Nat} (h : c < vC m) (ha : a < 2147483648) (hb : b < vW m) : ∃ S', fnX13_isFor n S 189 (nI c) (nI a) (nI b) = some (bI (decide (ow m c = a) && decide (wy m a (rl m c) b = 0)), S') ∧ rvf [199] S S' := by
  have h1 := hp.1
  have h40 := hc.1
  have h2 := (hc.2.2 c h).2.2.1
  by_cases c1 : ow m c = a
  · obtain ⟨S', e, f, -⟩ := m_why (n := n) (by omega) hB hM hp hc h hb
    have g1 := wy_le m (ow m c) (rl m c) b
    refine ⟨S', ?_, f⟩
    simp (disch := first | assumption | omega) only [fnX13_isFor, tk_gI, tk_gL, tk_gR, tk_pI, tk_pL, rv_aI, rv_aL, rv_aR, rv_uI, rv_uL, rv_uB, rv_uZ, pu_ckI, pu_ckL, pu_lnI, pu_lnL, tk_rI, tk_rL, Option.bind_some, Option.map_some, rv_lt, tk_ix, z0, z1, z2, z3, z4, z5, z6, z7, z8, z9, z10, z11, z12, z13, z15, z16, z17, z18, z20, z21, z23, z24, z25, z31, z32, z39, z40, z41, z46, z48, z50, z57, z59, z60, z61, z62, z63, z64, z97, z98, z99, z100, z101, z102, z103, z104, z105, z106, z107, z108, z109, z110, z111, z112, z113, z114, z115, z116, z117, z118, z119, z120, z121, z122, z128, z132, z200, z240, z255, z372, z390625, z400, z420, z421, z422, z662, z900, z940, z999, z1000, z1024, z2000, z5860, z10000, z12345, z15625, z266240, z1048575, z1064960, z1103515245, z_m1, n_le, n_lt, n_eq, n_bit0, n_bit1, n_sbit0, n_shl, z_ltM, z_Mlt, z_leM, z_Mle, z_eqM, z_Meq, bI0, bI1, bI_01, bI_01t, bI_10, bI_10f, if_true, if_false, eq_self, reduceCtorEq, if_pos, if_neg, rc_189 hB, m_ow hB hM, e, bp_s]
    rw [← c1]
    by_cases c2 : wy m (ow m c) (rl m c) b = 0 <;> simp [c2, bI]
  · refine ⟨S, ?_, rvf.rf _ _⟩
    simp (disch := first | assumption | omega) only [fnX13_isFor, tk_gI, tk_gL, tk_gR, tk_pI, tk_pL, rv_aI, rv_aL, rv_aR, rv_uI, rv_uL, rv_uB, rv_uZ, pu_ckI, pu_ckL, pu_lnI, pu_lnL, tk_rI, tk_rL, Option.bind_some, Option.map_some, rv_lt, tk_ix, z0, z1, z2, z3, z4, z5, z6, z7, z8, z9, z10, z11, z12, z13, z15, z16, z17, z18, z20, z21, z23, z24, z25, z31, z32, z39, z40, z41, z46, z48, z50, z57, z59, z60, z61, z62, z63, z64, z97, z98, z99, z100, z101, z102, z103, z104, z105, z106, z107, z108, z109, z110, z111, z112, z113, z114, z115, z116, z117, z118, z119, z120, z121, z122, z128, z132, z200, z240, z255, z372, z390625, z400, z420, z421, z422, z662, z900, z940, z999, z1000, z1024, z2000, z5860, z10000, z12345, z15625, z266240, z1048575, z1064960, z1103515245, z_m1, n_le, n_lt, n_eq, n_bit0, n_bit1, n_sbit0, n_shl, z_ltM, z_Mlt, z_leM, z_Mle, z_eqM, z_Meq, bI0, bI1, bI_01, bI_01t, bI_10, bI_10f, if_true, if_false, eq_self, reduceCtorEq, if_pos, if_neg, rc_189 hB, m_ow hB hM]
    simp [c1, bI]
theorem m_freesIn (hn : 50 ≤ n) (hB : rv_B S) (hM : MR S m) (hp : okp m) (hc : okc m) {u : Nat} (hu : u < 4) : ∃ S', fnX13_freesIn n S 189 (nI u) = some (nI (fb_ct (fun c => stk m c && nr m u (at_ m (ow m c))) (vC m)), S') ∧ rvf [199] S S' := by
  have h24 := hp.1
  have h1 := hc.1
  rw [fnX13_freesIn]
  refine lp (F := fun q (x : rvS × Int32 × Int32) => cX13_freesIn_4 n q x.1 189 (nI u) x.2.1 x.2.2) (fun i x => x.2 = (nI (fb_ct (fun c => stk m c && nr m u (at_ m (ow m c))) i), nI i) ∧ rvf [199] S x.1) (fun o => ∃ S', o = some (nI (fb_ct (fun c => stk m c && nr m u (at_ m (ow m c))) (vC m)), S') ∧ rvf [199] S S') (vC m) (fun i x q hi hx => Or.inr ?_) (fun x q hx => ?_) (i := 0) (x := (S, 0, 0)) (q := n) (Nat.zero_le _) ⟨rfl, rvf.rf _ _⟩ (by omega)
  · obtain ⟨S1, x1, x2⟩ := x
    obtain ⟨hx, f1⟩ := hx
    obtain ⟨rfl, rfl⟩ := Prod.mk.inj hx
    have f1 : rvf [199] S S1 := f1
    have hB1 := f1.B hB
    have hM1 := hM.f f1 rfl
    have h2 := (hc.2.2 i hi).2.2.1
    have h3 := hp.2.1 _ h2
    have hsym := hp.2.2.2.2.2 (at_ m (ow m i)) u h3 hu
    obtain ⟨S2, e2, f2⟩ := m_isStuck (n := n) hn hB1 hM1 hp hc hi
    have hB2 := f2.B hB1
    have hM2 := hM1.f f2 rfl
    refine ⟨(S2, nI (fb_ct (fun c => stk m c && nr m u (at_ m (ow m c))) (i + 1)), nI (i + 1)), ?_, rfl, f1.tr f2⟩
    show cX13_freesIn_4 n (q + 1) S1 189 (nI u) (nI (fb_ct _ i)) (nI i) = cX13_freesIn_4 n q S2 189 (nI u) (nI (fb_ct _ (i + 1))) (nI (i + 1))
    rw [cX13_freesIn_4, ct_s]
    simp (disch := first | assumption | omega) only [tk_gI, tk_gL, tk_gR, tk_pI, tk_pL, rv_aI, rv_aL, rv_aR, rv_uI, rv_uL, rv_uB, rv_uZ, pu_ckI, pu_ckL, pu_lnI, pu_lnL, tk_rI, tk_rL, Option.bind_some, Option.map_some, rv_lt, tk_ix, z0, z1, z2, z3, z4, z5, z6, z7, z8, z9, z10, z11, z12, z13, z15, z16, z17, z18, z20, z21, z23, z24, z25, z31, z32, z39, z40, z41, z46, z48, z50, z57, z59, z60, z61, z62, z63, z64, z97, z98, z99, z100, z101, z102, z103, z104, z105, z106, z107, z108, z109, z110, z111, z112, z113, z114, z115, z116, z117, z118, z119, z120, z121, z122, z128, z132, z200, z240, z255, z372, z390625, z400, z420, z421, z422, z662, z900, z940, z999, z1000, z1024, z2000, z5860, z10000, z12345, z15625, z266240, z1048575, z1064960, z1103515245, z_m1, n_le, n_lt, n_eq, n_bit0, n_bit1, n_sbit0, n_shl, z_ltM, z_Mlt, z_leM, z_Mle, z_eqM, z_Meq, bI0, bI1, bI_01, bI_01t, bI_10, bI_10f, if_true, if_false, eq_self, reduceCtorEq, if_pos, if_neg, rc_189 hB1, rc_189 hB2, m_coins hB1 hM1, e2, bp_s, m_ow hB2 hM2, m_at hB2 hM2, m_near hB2 hM2 hp h3 hu, hsym, nI_add]
    cases stk m i <;> cases nr m u (at_ m (ow m i)) <;> simp
  · obtain ⟨S1, x1, x2⟩ := x
    obtain ⟨hx, f1⟩ := hx
    obtain ⟨rfl, rfl⟩ := Prod.mk.inj hx
    have f1 : rvf [199] S S1 := f1
    have hB1 := f1.B hB
    have hM1 := hM.f f1 rfl
    refine ⟨S1, ?_, f1⟩
    show cX13_freesIn_4 n (q + 1) S1 189 (nI u) (nI (fb_ct _ (vC m))) (nI (vC m)) = _
    rw [cX13_freesIn_4]
    simp (disch := first | assumption | omega) only [tk_gI, tk_gL, tk_gR, tk_pI, tk_pL, rv_aI, rv_aL, rv_aR, rv_uI, rv_uL, rv_uB, rv_uZ, pu_ckI, pu_ckL, pu_lnI, pu_lnL, tk_rI, tk_rL, Option.bind_some, Option.map_some, rv_lt, tk_ix, z0, z1, z2, z3, z4, z5, z6, z7, z8, z9, z10, z11, z12, z13, z15, z16, z17, z18, z20, z21, z23, z24, z25, z31, z32, z39, z40, z41, z46, z48, z50, z57, z59, z60, z61, z62, z63, z64, z97, z98, z99, z100, z101, z102, z103, z104, z105, z106, z107, z108, z109, z110, z111, z112, z113, z114, z115, z116, z117, z118, z119, z120, z121, z122, z128, z132, z200, z240, z255, z372, z390625, z400, z420, z421, z422, z662, z900, z940, z999, z1000, z1024, z2000, z5860, z10000, z12345, z15625, z266240, z1048575, z1064960, z1103515245, z_m1, n_le, n_lt, n_eq, n_bit0, n_bit1, n_sbit0, n_shl, z_ltM, z_Mlt, z_leM, z_Mle, z_eqM, z_Meq, bI0, bI1, bI_01, bI_01t, bI_10, bI_10f, if_true, if_false, eq_self, reduceCtorEq, if_pos, if_neg, rc_189 hB1, m_coins hB1 hM1]
/-- the reference counts bits one by one -/
theorem m_bits1 : ∀ (r q k i : Nat) {x : Nat}, x < 2 ^ (k + r) → k + r ≤ 31 → fb_ct (fun j => x.testBit (k + j)) r < q → cX13_bits_4 n S q (nI i) (nI (lb x k)) = some (nI (i + fb_ct (fun j => x.testBit (k + j)) r)) := by
  intro r
  induction r with
  | zero =>
    intro q k i x hx hk hq
    obtain ⟨q, rfl⟩ : ∃ q', q = q' + 1 := ⟨q - 1, by omega⟩
    rw [Nat.add_zero] at hx
    rw [lb_end hx, cX13_bits_4, if_pos (show nI 0 = 0 from rfl)]
    rfl
  | succ r ih =>
    intro q k i x hx hk hq
    have e : fb_ct (fun j => x.testBit (k + j)) (r + 1) = (if x.testBit k then 1 else 0) + fb_ct (fun j => x.testBit (k + 1 + j)) r := by
      rw [Nat.add_comm r 1, fb_ct_split]
      congr 1
      · rw [fb_ct_succ]; simp [fb_ct]
      · exact fb_ct_cong (fun j _ => by rw [Nat.add_assoc])
    rw [e] at hq ⊢
    cases c : x.testBit k
    · rw [c] at hq
      rw [lb_no c, ih q (k + 1) i (by rw [show k + 1 + r = k + (r + 1) by omega]; exact hx) (by omega) (by simpa using hq)]
      simp
    · rw [c] at hq
      simp only [if_true] at hq
      obtain ⟨q, rfl⟩ : ∃ q', q = q' + 1 := ⟨q - 1, by omega⟩
      have hx31 : x < 2147483648 := Nat.lt_of_lt_of_le hx (Nat.pow_le_pow_right (n := 2) (by decide) hk)
      obtain ⟨g1, g2⟩ := lb_I c hx31
      rw [cX13_bits_4, if_neg g2]
      simp only [rv_lt, g1]
      rw [show nI i + 1 = nI (i + 1) from nI_1 i, ih q (k + 1) (i + 1) (by rw [show k + 1 + r = k + (r + 1) by omega]; exact hx) (by omega) (by omega)]
      simp only [if_true]
      congr 2
      omega
theorem m_bits (hn : 50 ≤ n) {x k : Nat} (hx : x < 2 ^ k) (hk : k ≤ 31) : fnX13_bits n S (nI x) = some (nI (fb_ct (fun i => x.testBit i) k)) := by
  have h := m_bits1 (n := n) (S := S) k n 0 0 (x := x) (by rw [Nat.zero_add]; exact hx) (by omega) (by have := fb_ct_le (fun j => x.testBit (0 + j)) k; omega)
  rw [fnX13_bits, show (0 : Int32) = nI 0 from rfl]
  rw [lb_0] at h
  rw [h, Nat.zero_add]
  congr 2
  exact fb_ct_cong (fun j _ => by rw [Nat.zero_add])
theorem m_fee (hB : rv_B S) (hM : MR S m) (hd : okd m) {a : Nat} (ha : a ≤ 99) (ha1 : 1 ≤ a) : fnX13_lessFee n S 189 (nI a) = some (nI (a - (a + vF m - 1) / vF m)) := by
  have h1 := hd.2.1
  have h2 := hd.2.2.1
  have h4 : S.2.1 191 4 = nI (vF m) := hM 4 (by decide)
  have g3 := fee_le ha1 h1
  have e := z_sub g3
  simp (disch := first | assumption | omega) only [fnX13_lessFee, tk_gI, tk_gL, tk_gR, tk_pI, tk_pL, rv_aI, rv_aL, rv_aR, rv_uI, rv_uL, rv_uB, rv_uZ, pu_ckI, pu_ckL, pu_lnI, pu_lnL, tk_rI, tk_rL, Option.bind_some, Option.map_some, rv_lt, tk_ix, z0, z1, z2, z3, z4, z5, z6, z7, z8, z9, z10, z11, z12, z13, z15, z16, z17, z18, z20, z21, z23, z24, z25, z31, z32, z39, z40, z41, z46, z48, z50, z57, z59, z60, z61, z62, z63, z64, z97, z98, z99, z100, z101, z102, z103, z104, z105, z106, z107, z108, z109, z110, z111, z112, z113, z114, z115, z116, z117, z118, z119, z120, z121, z122, z128, z132, z200, z240, z255, z372, z390625, z400, z420, z421, z422, z662, z900, z940, z999, z1000, z1024, z2000, z5860, z10000, z12345, z15625, z266240, z1048575, z1064960, z1103515245, z_m1, n_le, n_lt, n_eq, n_bit0, n_bit1, n_sbit0, n_shl, z_ltM, z_Mlt, z_leM, z_Mle, z_eqM, z_Meq, bI0, bI1, bI_01, bI_01t, bI_10, bI_10f, if_true, if_false, eq_self, reduceCtorEq, if_pos, if_neg, rc_189 hB, rf_of hB (show (189, 14, 191) ∈ rv_rf0 by decide), rn_191 hB, h4, nz_ok, nI_add, z_sub, pk_div, Nat.reducePow, e]
theorem m_wnc (hn : 50 ≤ n) (hB : rv_B S) (hM : MR S m) (hk : okm m) {c d : Nat} (h : c < vC m) (h' : d < vC m) : ∃ S', fnX13_whyNoChange n S 189 (nI c) (nI d) = some (nI (wnc m c d), S') ∧ rvf [199] S S' := by
  obtain ⟨hp, hc, hd⟩ := hk
  have h1 := hc.1
  have h24 := hp.1
  obtain ⟨v1, v2, v3, -⟩ := hc.2.2 c h
  obtain ⟨w1, w2, w3, -⟩ := hc.2.2 d h'
  have h5 := hp.2.2.1 _ w3
  have g1 := wy_le m (ow m c) (rl m c) (ow m d)
  have g2 := wy_le m (ow m d) (rl m d) (ow m c)
  have g3 := fee_le v1 hd.2.1
  have g4 : va m c - (va m c + vF m - 1) / vF m < 2147483648 := Nat.lt_of_le_of_lt (Nat.sub_le _ _) (by omega)
  obtain ⟨S1, e1, f1, -⟩ := m_why (n := n) (by omega) hB hM hp hc h w3
  have hB1 := f1.B hB
  have hM1 := hM.f f1 rfl
  obtain ⟨S2, e2, f2, -⟩ := m_why (n := n) (by omega) hB1 hM1 hp hc h' v3
  have hB2 := f2.B hB1
  have hM2 := hM1.f f2 rfl
  unfold wnc
  by_cases c1 : sg m (ow m d) = 0
  · refine ⟨S, ?_, rvf.rf _ _⟩
    simp (disch := first | assumption | omega) only [fnX13_whyNoChange, tk_gI, tk_gL, tk_gR, tk_pI, tk_pL, rv_aI, rv_aL, rv_aR, rv_uI, rv_uL, rv_uB, rv_uZ, pu_ckI, pu_ckL, pu_lnI, pu_lnL, tk_rI, tk_rL, Option.bind_some, Option.map_some, rv_lt, tk_ix, z0, z1, z2, z3, z4, z5, z6, z7, z8, z9, z10, z11, z12, z13, z15, z16, z17, z18, z20, z21, z23, z24, z25, z31, z32, z39, z40, z41, z46, z48, z50, z57, z59, z60, z61, z62, z63, z64, z97, z98, z99, z100, z101, z102, z103, z104, z105, z106, z107, z108, z109, z110, z111, z112, z113, z114, z115, z116, z117, z118, z119, z120, z121, z122, z128, z132, z200, z240, z255, z372, z390625, z400, z420, z421, z422, z662, z900, z940, z999, z1000, z1024, z2000, z5860, z10000, z12345, z15625, z266240, z1048575, z1064960, z1103515245, z_m1, n_le, n_lt, n_eq, n_bit0, n_bit1, n_sbit0, n_shl, z_ltM, z_Mlt, z_leM, z_Mle, z_eqM, z_Meq, bI0, bI1, bI_01, bI_01t, bI_10, bI_10f, if_true, if_false, eq_self, reduceCtorEq, if_pos, if_neg, rc_189 hB, m_ow hB hM, m_sg hB hM]
  · by_cases c2 : wy m (ow m c) (rl m c) (ow m d) = 0
    · by_cases c3 : wy m (ow m d) (rl m d) (ow m c) = 0
      · refine ⟨S2, ?_, f1.tr f2⟩
        simp (disch := first | assumption | omega) only [fnX13_whyNoChange, tk_gI, tk_gL, tk_gR, tk_pI, tk_pL, rv_aI, rv_aL, rv_aR, rv_uI, rv_uL, rv_uB, rv_uZ, pu_ckI, pu_ckL, pu_lnI, pu_lnL, tk_rI, tk_rL, Option.bind_some, Option.map_some, rv_lt, tk_ix, z0, z1, z2, z3, z4, z5, z6, z7, z8, z9, z10, z11, z12, z13, z15, z16, z17, z18, z20, z21, z23, z24, z25, z31, z32, z39, z40, z41, z46, z48, z50, z57, z59, z60, z61, z62, z63, z64, z97, z98, z99, z100, z101, z102, z103, z104, z105, z106, z107, z108, z109, z110, z111, z112, z113, z114, z115, z116, z117, z118, z119, z120, z121, z122, z128, z132, z200, z240, z255, z372, z390625, z400, z420, z421, z422, z662, z900, z940, z999, z1000, z1024, z2000, z5860, z10000, z12345, z15625, z266240, z1048575, z1064960, z1103515245, z_m1, n_le, n_lt, n_eq, n_bit0, n_bit1, n_sbit0, n_shl, z_ltM, z_Mlt, z_leM, z_Mle, z_eqM, z_Meq, bI0, bI1, bI_01, bI_01t, bI_10, bI_10f, if_true, if_false, eq_self, reduceCtorEq, if_pos, if_neg, rc_189 hB, rc_189 hB1, rc_189 hB2, m_ow hB hM, m_sg hB hM, e1, e2, bp_s, m_ow hB1 hM1, m_va hB2 hM2, m_fee hB2 hM2 hd v2 v1]
        by_cases c4 : va m d ≤ va m c - (va m c + vF m - 1) / vF m
        · simp [c2, c3, c4]
        · simp [c2, c3, c4]
      · refine ⟨S2, ?_, f1.tr f2⟩
        simp (disch := first | assumption | omega) only [fnX13_whyNoChange, tk_gI, tk_gL, tk_gR, tk_pI, tk_pL, rv_aI, rv_aL, rv_aR, rv_uI, rv_uL, rv_uB, rv_uZ, pu_ckI, pu_ckL, pu_lnI, pu_lnL, tk_rI, tk_rL, Option.bind_some, Option.map_some, rv_lt, tk_ix, z0, z1, z2, z3, z4, z5, z6, z7, z8, z9, z10, z11, z12, z13, z15, z16, z17, z18, z20, z21, z23, z24, z25, z31, z32, z39, z40, z41, z46, z48, z50, z57, z59, z60, z61, z62, z63, z64, z97, z98, z99, z100, z101, z102, z103, z104, z105, z106, z107, z108, z109, z110, z111, z112, z113, z114, z115, z116, z117, z118, z119, z120, z121, z122, z128, z132, z200, z240, z255, z372, z390625, z400, z420, z421, z422, z662, z900, z940, z999, z1000, z1024, z2000, z5860, z10000, z12345, z15625, z266240, z1048575, z1064960, z1103515245, z_m1, n_le, n_lt, n_eq, n_bit0, n_bit1, n_sbit0, n_shl, z_ltM, z_Mlt, z_leM, z_Mle, z_eqM, z_Meq, bI0, bI1, bI_01, bI_01t, bI_10, bI_10f, if_true, if_false, eq_self, reduceCtorEq, if_pos, if_neg, rc_189 hB, rc_189 hB1, rc_189 hB2, m_ow hB hM, m_sg hB hM, e1, e2, bp_s, m_ow hB1 hM1]
    · refine ⟨S1, ?_, f1⟩
      simp (disch := first | assumption | omega) only [fnX13_whyNoChange, tk_gI, tk_gL, tk_gR, tk_pI, tk_pL, rv_aI, rv_aL, rv_aR, rv_uI, rv_uL, rv_uB, rv_uZ, pu_ckI, pu_ckL, pu_lnI, pu_lnL, tk_rI, tk_rL, Option.bind_some, Option.map_some, rv_lt, tk_ix, z0, z1, z2, z3, z4, z5, z6, z7, z8, z9, z10, z11, z12, z13, z15, z16, z17, z18, z20, z21, z23, z24, z25, z31, z32, z39, z40, z41, z46, z48, z50, z57, z59, z60, z61, z62, z63, z64, z97, z98, z99, z100, z101, z102, z103, z104, z105, z106, z107, z108, z109, z110, z111, z112, z113, z114, z115, z116, z117, z118, z119, z120, z121, z122, z128, z132, z200, z240, z255, z372, z390625, z400, z420, z421, z422, z662, z900, z940, z999, z1000, z1024, z2000, z5860, z10000, z12345, z15625, z266240, z1048575, z1064960, z1103515245, z_m1, n_le, n_lt, n_eq, n_bit0, n_bit1, n_sbit0, n_shl, z_ltM, z_Mlt, z_leM, z_Mle, z_eqM, z_Meq, bI0, bI1, bI_01, bI_01t, bI_10, bI_10f, if_true, if_false, eq_self, reduceCtorEq, if_pos, if_neg, rc_189 hB, m_ow hB hM, m_sg hB hM, e1, bp_s]
end
