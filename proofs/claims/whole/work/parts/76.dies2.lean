/-! DIES, the class and both -/
section
variable {n : Nat} {S : rvS} {m m' : Nat → Nat} {wd : Nat → List Nat}
/-- what a death makes of the coins: owner and rim of each -/
def dR (m : Nat → Nat) (w h : Nat) (l : List Nat) : List Nat := if vL m = 1 then l else rn (vL m) w h l
/-- m' is m after the death of w with the heir h -/
def dth (m m' : Nat → Nat) (w h : Nat) (N : Nat) : Prop := (∀ k, k < 132 ∨ 372 ≤ k → m' k = m k) ∧ (∀ c, va m' c = va m c) ∧ (∀ c, c < N → ow m' c = (if ow m c = w then h else ow m c) ∧ rl m' c = dR m w h (rl m c) ∧ mn m' c = (dR m w h (rl m c)).length) ∧ ∀ c, N ≤ c → ow m' c = ow m c ∧ rl m' c = rl m c ∧ mn m' c = mn m c
theorem m_dies (hn : 50 ≤ n) (hB : rv_B S) (hM : MR S m) (hp : okp m) (hc : okc m) (hd : okd m) {w h : Nat} (hw : w < vW m) (hh : h < vW m) : ∃ S' m', cX13_dies_67 n n S 189 (nI w) (nI h) (nI 0) (nI 0) = some (nI (fb_ct (fun c => decide (ow m c = w)) (vC m)), S') ∧ rvf [191] S S' ∧ MR S' m' ∧ dth m m' w h (vC m) ∧ R42 S S' := by
  have h24 := hp.1
  have h40 := hc.1
  have hN := hc.2.1
  have hL := hd.2.2.2.1
  have key : ∃ S', cX13_dies_67 n n S 189 (nI w) (nI h) (nI 0) (nI 0) = some (nI (fb_ct (fun c => decide (ow m c = w)) (vC m)), S') ∧ rvf [191] S S' ∧ R42 S S' ∧ ∃ m', MR S' m' ∧ dth m m' w h (vC m) := by
    refine lp (F := fun q (x : rvS × Int32 × Int32) => cX13_dies_67 n q x.1 189 (nI w) (nI h) x.2.1 x.2.2) (fun i x => x.2 = (nI (fb_ct (fun c => decide (ow m c = w)) i), nI i) ∧ rvf [191] S x.1 ∧ R42 S x.1 ∧ ∃ m', MR x.1 m' ∧ dth m m' w h i) (fun r => ∃ S', r = some (nI (fb_ct (fun c => decide (ow m c = w)) (vC m)), S') ∧ rvf [191] S S' ∧ R42 S S' ∧ ∃ m', MR S' m' ∧ dth m m' w h (vC m)) (vC m) (fun i x q hi hx => Or.inr ?_) (fun x q hx => ?_) (i := 0) (x := (S, nI 0, nI 0)) (q := n) (Nat.zero_le _) ⟨rfl, rvf.rf _ _, fun _ _ => rfl, m, hM, fun _ _ => rfl, fun _ => rfl, fun c hc => absurd hc (Nat.not_lt_zero c), fun c _ => ⟨rfl, rfl, rfl⟩⟩ (by omega)
    · obtain ⟨S1, x1, x2⟩ := x
      obtain ⟨hx, f1, r1, m1, hM1, d1, d2, d3, d4⟩ := hx
      obtain ⟨rfl, rfl⟩ := Prod.mk.inj hx
      have f1 : rvf [191] S S1 := f1
      have r1 : R42 S S1 := r1
      have hM1 : MR S1 m1 := hM1
      have hB1 := f1.B hB
      obtain ⟨-, -, ho, h4, h5⟩ := hc.2.2 i hi
      obtain ⟨o1, l1, n1⟩ := d4 i (Nat.le_refl i)
      have hlx := (hc.l hi).2
      have e5 : vL m1 = vL m := d1 5 (by omega)
      have ec : vC m1 = vC m := d1 1 (by omega)
      have kc := m_coins (n := n) hB1 hM1
      rw [ec] at kc
      -- the owner
      have ownS : ∃ S2 m2, (cX13_dies_67 n (q + 1) S1 189 (nI w) (nI h) (nI (fb_ct (fun c => decide (ow m c = w)) i)) (nI i) = cX13_dies_107 n (fun a0 x1 x2 x3 x4 S => cX13_dies_67 n q S a0 x1 x2 x3 x4) S2 189 (nI w) (nI h) (nI (fb_ct (fun c => decide (ow m c = w)) (i + 1))) (nI i)) ∧ rvf [191] S1 S2 ∧ R42 S1 S2 ∧ MR S2 m2 ∧ (∀ k, k ≠ 133 + 6 * i → m2 k = m1 k) ∧ ow m2 i = (if ow m i = w then h else ow m i) := by
        have km := m_ow (n := n) hB1 hM1 (show i < 40 by omega)
        rw [o1] at km
        by_cases cw : ow m i = w
        · refine ⟨rv_sI S1 191 (133 + 6 * i) (nI h), u1 m1 (133 + 6 * i) h, ?_, rvf.sIr S1 _ _ rfl, R42.u (fun _ _ => rfl) _ (by omega), hM1.u _ _, fun k hk => u1_ne _ _ hk, by rw [if_pos cw]; exact u1_eq _ _ _⟩
          have e133 : 132 + 6 * i + 1 = 133 + 6 * i := by omega
          rw [cX13_dies_67, ct_s, if_pos (decide_eq_true cw)]
          simp (disch := first | assumption | omega) only [tk_gI, tk_gL, tk_gR, tk_pI, tk_pL, rv_aI, rv_aL, rv_aR, rv_uI, rv_uL, rv_uB, rv_uZ, pu_ckI, pu_ckL, pu_lnI, pu_lnL, tk_rI, tk_rL, Option.bind_some, Option.map_some, rv_lt, tk_ix, z0, z1, z2, z3, z4, z5, z6, z7, z8, z9, z10, z11, z12, z13, z15, z16, z17, z18, z20, z21, z23, z24, z25, z31, z32, z39, z40, z41, z46, z48, z50, z57, z59, z60, z61, z62, z63, z64, z97, z98, z99, z100, z101, z102, z103, z104, z105, z106, z107, z108, z109, z110, z111, z112, z113, z114, z115, z116, z117, z118, z119, z120, z121, z122, z128, z132, z200, z240, z255, z372, z390625, z400, z420, z421, z422, z662, z900, z940, z999, z1000, z1024, z2000, z5860, z10000, z12345, z15625, z266240, z1048575, z1064960, z1103515245, z_m1, n_le, n_lt, n_eq, n_bit0, n_bit1, n_sbit0, n_shl, z_ltM, z_Mlt, z_leM, z_Mle, z_eqM, z_Meq, bI0, bI1, bI_01, bI_01t, bI_10, bI_10f, if_true, if_false, eq_self, reduceCtorEq, if_pos, if_neg, rc_189 hB1, kc, km, cw, rf_of hB1 (show (189, 14, 191) ∈ rv_rf0 by decide), rn_191 hB1, nI_add, z_mul, e133]
        · refine ⟨S1, m1, ?_, rvf.rf _ _, fun _ _ => rfl, hM1, fun _ _ => rfl, by rw [if_neg cw]; exact o1⟩
          rw [cX13_dies_67, ct_s, if_neg (by rw [decide_eq_false cw]; decide)]
          simp (disch := first | assumption | omega) only [tk_gI, tk_gL, tk_gR, tk_pI, tk_pL, rv_aI, rv_aL, rv_aR, rv_uI, rv_uL, rv_uB, rv_uZ, pu_ckI, pu_ckL, pu_lnI, pu_lnL, tk_rI, tk_rL, Option.bind_some, Option.map_some, rv_lt, tk_ix, z0, z1, z2, z3, z4, z5, z6, z7, z8, z9, z10, z11, z12, z13, z15, z16, z17, z18, z20, z21, z23, z24, z25, z31, z32, z39, z40, z41, z46, z48, z50, z57, z59, z60, z61, z62, z63, z64, z97, z98, z99, z100, z101, z102, z103, z104, z105, z106, z107, z108, z109, z110, z111, z112, z113, z114, z115, z116, z117, z118, z119, z120, z121, z122, z128, z132, z200, z240, z255, z372, z390625, z400, z420, z421, z422, z662, z900, z940, z999, z1000, z1024, z2000, z5860, z10000, z12345, z15625, z266240, z1048575, z1064960, z1103515245, z_m1, n_le, n_lt, n_eq, n_bit0, n_bit1, n_sbit0, n_shl, z_ltM, z_Mlt, z_leM, z_Mle, z_eqM, z_Meq, bI0, bI1, bI_01, bI_01t, bI_10, bI_10f, if_true, if_false, eq_self, reduceCtorEq, if_pos, if_neg, rc_189 hB1, kc, km]
      obtain ⟨S2, m2, e2, f2, r2, hM2, g2, o2⟩ := ownS
      have hB2 := f2.B hB1
      have e52 : vL m2 = vL m := (g2 5 (by omega)).trans e5
      have q5 : S2.2.1 191 5 = nI (vL m) := by rw [hM2 5 (by decide), ← e52]
      have n2 : mn m2 i = mn m i := (g2 _ (by omega)).trans n1
      have l2 : rl m2 i = rl m i := by
        rw [← l1]
        unfold rl
        rw [show mn m2 i = mn m1 i from g2 _ (by omega), show rm m2 i 0 = rm m1 i 0 from g2 _ (by omega), show rm m2 i 1 = rm m1 i 1 from g2 _ (by omega), show rm m2 i 2 = rm m1 i 2 from g2 _ (by omega)]
      have rlo : ∀ (a b : Nat → Nat) c, (∀ k, 134 + 6 * c ≤ k → k < 138 + 6 * c → a k = b k) → rl a c = rl b c ∧ mn a c = mn b c := fun a b c hab => by
        unfold rl
        rw [show mn a c = mn b c from hab _ (by omega) (by omega), show rm a c 0 = rm b c 0 from hab _ (by omega) (by omega), show rm a c 1 = rm b c 1 from hab _ (by omega) (by omega), show rm a c 2 = rm b c 2 from hab _ (by omega) (by omega)]
        exact ⟨rfl, rfl⟩
      by_cases cl : vL m = 1
      · refine ⟨(S2, nI (fb_ct (fun c => decide (ow m c = w)) (i + 1)), nI (i + 1)), ?_, rfl, f1.tr f2, r1.tr r2, m2, hM2, fun k hk => (g2 k (by omega)).trans (d1 k hk), fun c => (g2 _ (by omega)).trans (d2 c), fun c hci => ?_, fun c hci => ?_⟩
        · show cX13_dies_67 n (q + 1) S1 189 (nI w) (nI h) (nI (fb_ct (fun c => decide (ow m c = w)) i)) (nI i) = _
          rw [e2, cX13_dies_107]
          simp (disch := first | assumption | omega) only [tk_gI, tk_gL, tk_gR, tk_pI, tk_pL, rv_aI, rv_aL, rv_aR, rv_uI, rv_uL, rv_uB, rv_uZ, pu_ckI, pu_ckL, pu_lnI, pu_lnL, tk_rI, tk_rL, Option.bind_some, Option.map_some, rv_lt, tk_ix, z0, z1, z2, z3, z4, z5, z6, z7, z8, z9, z10, z11, z12, z13, z15, z16, z17, z18, z20, z21, z23, z24, z25, z31, z32, z39, z40, z41, z46, z48, z50, z57, z59, z60, z61, z62, z63, z64, z97, z98, z99, z100, z101, z102, z103, z104, z105, z106, z107, z108, z109, z110, z111, z112, z113, z114, z115, z116, z117, z118, z119, z120, z121, z122, z128, z132, z200, z240, z255, z372, z390625, z400, z420, z421, z422, z662, z900, z940, z999, z1000, z1024, z2000, z5860, z10000, z12345, z15625, z266240, z1048575, z1064960, z1103515245, z_m1, n_le, n_lt, n_eq, n_bit0, n_bit1, n_sbit0, n_shl, z_ltM, z_Mlt, z_leM, z_Mle, z_eqM, z_Meq, bI0, bI1, bI_01, bI_01t, bI_10, bI_10f, if_true, if_false, eq_self, reduceCtorEq, if_pos, if_neg, rc_189 hB2, rf_of hB2 (show (189, 14, 191) ∈ rv_rf0 by decide), rn_191 hB2, q5, cl, nI_add]
        · by_cases ci : c = i
          · subst ci
            unfold dR
            rw [if_pos cl]
            exact ⟨o2, l2, by rw [n2, rl_len (by omega)]⟩
          · obtain ⟨a1, a2, a3⟩ := d3 c (by omega)
            obtain ⟨b1, b2⟩ := rlo m2 m1 c (fun k h1 h2 => g2 k (by omega))
            exact ⟨(g2 _ (by omega)).trans a1, b1.trans a2, b2.trans a3⟩
        · obtain ⟨a1, a2, a3⟩ := d4 c (by omega)
          obtain ⟨b1, b2⟩ := rlo m2 m1 c (fun k h1 h2 => g2 k (by omega))
          exact ⟨(g2 _ (by omega)).trans a1, b1.trans a2, b2.trans a3⟩
      · obtain ⟨S3, e3, f3, hM3, r3⟩ := m_rub (n := n) (m := m2) (w := w) (h := h) (c := i) (by omega) hB2 hM2 (by rw [e52]; exact hL) (by omega) (by omega) (by rw [n2]; omega) (by rw [l2]; intro x hx; have := hlx x hx; omega)
        have n23 : mn m2 i ≤ 3 := by rw [n2]; omega
        obtain ⟨t1, t2⟩ := rub_rl (law := vL m2) (w := w) (h := h) (c := i) n23
        have off := fun k hk => rub_off (law := vL m2) (w := w) (h := h) (c := i) (k := k) n23 hk
        rw [e52, l2] at t1 t2
        rw [e52] at off hM3
        refine ⟨(S3, nI (fb_ct (fun c => decide (ow m c = w)) (i + 1)), nI (i + 1)), ?_, rfl, f1.tr (f2.tr f3), r1.tr (r2.tr r3), rub (vL m) w h i m2, hM3, fun k hk => (off k (by omega)).trans ((g2 k (by omega)).trans (d1 k hk)), fun c => (off _ (by omega)).trans ((g2 _ (by omega)).trans (d2 c)), fun c hci => ?_, fun c hci => ?_⟩
        · show cX13_dies_67 n (q + 1) S1 189 (nI w) (nI h) (nI (fb_ct (fun c => decide (ow m c = w)) i)) (nI i) = _
          rw [e2, cX13_dies_107]
          simp (disch := first | assumption | omega) only [tk_gI, tk_gL, tk_gR, tk_pI, tk_pL, rv_aI, rv_aL, rv_aR, rv_uI, rv_uL, rv_uB, rv_uZ, pu_ckI, pu_ckL, pu_lnI, pu_lnL, tk_rI, tk_rL, Option.bind_some, Option.map_some, rv_lt, tk_ix, z0, z1, z2, z3, z4, z5, z6, z7, z8, z9, z10, z11, z12, z13, z15, z16, z17, z18, z20, z21, z23, z24, z25, z31, z32, z39, z40, z41, z46, z48, z50, z57, z59, z60, z61, z62, z63, z64, z97, z98, z99, z100, z101, z102, z103, z104, z105, z106, z107, z108, z109, z110, z111, z112, z113, z114, z115, z116, z117, z118, z119, z120, z121, z122, z128, z132, z200, z240, z255, z372, z390625, z400, z420, z421, z422, z662, z900, z940, z999, z1000, z1024, z2000, z5860, z10000, z12345, z15625, z266240, z1048575, z1064960, z1103515245, z_m1, n_le, n_lt, n_eq, n_bit0, n_bit1, n_sbit0, n_shl, z_ltM, z_Mlt, z_leM, z_Mle, z_eqM, z_Meq, bI0, bI1, bI_01, bI_01t, bI_10, bI_10f, if_true, if_false, eq_self, reduceCtorEq, if_pos, if_neg, rc_189 hB2, rf_of hB2 (show (189, 14, 191) ∈ rv_rf0 by decide), rn_191 hB2, q5, e3, nI_add]
        · by_cases ci : c = i
          · subst ci
            unfold dR
            rw [if_neg cl]
            exact ⟨(off _ (by omega)).trans o2, t1, t2⟩
          · obtain ⟨a1, a2, a3⟩ := d3 c (by omega)
            obtain ⟨b1, b2⟩ := rlo (rub (vL m) w h i m2) m1 c (fun k h1 h2 => (off k (by omega)).trans (g2 k (by omega)))
            exact ⟨((off _ (by omega)).trans (g2 _ (by omega))).trans a1, b1.trans a2, b2.trans a3⟩
        · obtain ⟨a1, a2, a3⟩ := d4 c (by omega)
          obtain ⟨b1, b2⟩ := rlo (rub (vL m) w h i m2) m1 c (fun k h1 h2 => (off k (by omega)).trans (g2 k (by omega)))
          exact ⟨((off _ (by omega)).trans (g2 _ (by omega))).trans a1, b1.trans a2, b2.trans a3⟩
    · obtain ⟨S1, x1, x2⟩ := x
      obtain ⟨hx, f1, r1, m1, hM1, dd⟩ := hx
      obtain ⟨rfl, rfl⟩ := Prod.mk.inj hx
      have f1 : rvf [191] S S1 := f1
      have hM1 : MR S1 m1 := hM1
      have hB1 := f1.B hB
      have ec : vC m1 = vC m := dd.1 1 (by omega)
      have kc := m_coins (n := n) hB1 hM1
      rw [ec] at kc
      refine ⟨S1, ?_, f1, r1, m1, hM1, dd⟩
      show cX13_dies_67 n (q + 1) S1 189 (nI w) (nI h) (nI (fb_ct (fun c => decide (ow m c = w)) (vC m))) (nI (vC m)) = _
      rw [cX13_dies_67]
      simp (disch := first | assumption | omega) only [tk_gI, tk_gL, tk_gR, tk_pI, tk_pL, rv_aI, rv_aL, rv_aR, rv_uI, rv_uL, rv_uB, rv_uZ, pu_ckI, pu_ckL, pu_lnI, pu_lnL, tk_rI, tk_rL, Option.bind_some, Option.map_some, rv_lt, tk_ix, z0, z1, z2, z3, z4, z5, z6, z7, z8, z9, z10, z11, z12, z13, z15, z16, z17, z18, z20, z21, z23, z24, z25, z31, z32, z39, z40, z41, z46, z48, z50, z57, z59, z60, z61, z62, z63, z64, z97, z98, z99, z100, z101, z102, z103, z104, z105, z106, z107, z108, z109, z110, z111, z112, z113, z114, z115, z116, z117, z118, z119, z120, z121, z122, z128, z132, z200, z240, z255, z372, z390625, z400, z420, z421, z422, z662, z900, z940, z999, z1000, z1024, z2000, z5860, z10000, z12345, z15625, z266240, z1048575, z1064960, z1103515245, z_m1, n_le, n_lt, n_eq, n_bit0, n_bit1, n_sbit0, n_shl, z_ltM, z_Mlt, z_leM, z_Mle, z_eqM, z_Meq, bI0, bI1, bI_01, bI_01t, bI_10, bI_10f, if_true, if_false, eq_self, reduceCtorEq, if_pos, if_neg, rc_189 hB1, kc]
  obtain ⟨S', k1, k2, k3, m', k4, k5⟩ := key
  exact ⟨S', m', k1, k2, k4, k5, k3⟩
end
