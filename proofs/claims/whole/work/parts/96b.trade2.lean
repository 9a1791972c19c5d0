/-! TRADE: both sides -/
section
variable {n : Nat} {S : rvS} {m m' : Nat → Nat} {wd : Nat → List Nat}
/-- rims made no longer than r: of the first i coins -/
def sni (m : Nat → Nat) (r i : Nat) : Nat → Nat := fun k => if k = 3 then r else if 134 ≤ k ∧ (k - 134) % 6 = 0 ∧ (k - 134) / 6 < i ∧ r < m k then r else m k
abbrev sn (m : Nat → Nat) (r : Nat) : Nat → Nat := sni m r (vC m)
theorem sni_lo {r i k : Nat} (h : k < 134) (h3 : k ≠ 3) : sni m r i k = m k := by
  rw [sni, if_neg h3, if_neg (by omega)]
theorem sni_hi {r i k : Nat} (hi : i ≤ 40) (h : 372 ≤ k) : sni m r i k = m k := by
  rw [sni, if_neg (by omega), if_neg (by omega)]
theorem sni_3 (r i : Nat) : sni m r i 3 = r := if_pos rfl
theorem sni_mn {r i c : Nat} : mn (sni m r i) c = if c < i ∧ r < mn m c then r else mn m c := by
  show sni m r i (134 + 6 * c) = _
  rw [sni, if_neg (by omega)]
  by_cases h : c < i ∧ r < mn m c
  · rw [if_pos h, if_pos ⟨by omega, by omega, by omega, h.2⟩]
  · rw [if_neg h, if_neg (fun z => h ⟨by omega, z.2.2.2⟩)]
theorem sni_o {r i c j : Nat} (hj : j = 0 ∨ j = 1 ∨ j = 3 ∨ j = 4 ∨ j = 5) : sni m r i (132 + 6 * c + j) = m (132 + 6 * c + j) := by
  rw [sni, if_neg (by omega), if_neg (by omega)]
theorem sn_va (r c : Nat) {i : Nat} : va (sni m r i) c = va m c := sni_o (j := 0) (Or.inl rfl)
theorem sn_ow (r c : Nat) {i : Nat} : ow (sni m r i) c = ow m c := by
  have h : sni m r i (132 + 6 * c + 1) = m (132 + 6 * c + 1) := sni_o (Or.inr (Or.inl rfl))
  exact ((c_1 (sni m r i) c).symm.trans h).trans (c_1 m c)
theorem sn_rm (r c j : Nat) {i : Nat} (hj : j < 3) : rm (sni m r i) c j = rm m c j := by
  have h : sni m r i (132 + 6 * c + (3 + j)) = m (132 + 6 * c + (3 + j)) := sni_o (by omega)
  exact ((c_3 (sni m r i) c j).symm.trans h).trans (c_3 m c j)
theorem sn_rl {r c : Nat} (hc : c < vC m) (h3 : mn m c ≤ 3) : rl (sn m r) c = (rl m c).take r := by
  have e : mn (sn m r) c = if r < mn m c then r else mn m c := by
    rw [sni_mn]
    by_cases h : r < mn m c
    · rw [if_pos h, if_pos ⟨hc, h⟩]
    · rw [if_neg h, if_neg (fun z => h z.2)]
  have r0 := sn_rm (m := m) r c 0 (i := vC m) (by decide)
  have r1 := sn_rm (m := m) r c 1 (i := vC m) (by decide)
  have r2 := sn_rm (m := m) r c 2 (i := vC m) (by decide)
  unfold rl
  rw [e, r0, r1, r2]
  have hm : mn m c = 0 ∨ mn m c = 1 ∨ mn m c = 2 ∨ mn m c = 3 := by omega
  have hr : r = 0 ∨ r = 1 ∨ r = 2 ∨ 3 ≤ r := by omega
  rcases hm with h | h | h | h <;> rcases hr with h' | h' | h' | h'
  all_goals first | (rw [h, h']; done) | (rw [h, h']; rfl) | (rw [h, if_neg (by omega)]; done) | (rw [h, if_neg (by omega)]; exact (List.take_of_length_le (by simp; omega)).symm) | (rw [h, if_neg (by omega)]; exact (List.take_of_length_le (by simp)).symm)
theorem sn_okm (hk : okm m) {r : Nat} (hr : r ≤ 3) : okm (sn m r) := by
  obtain ⟨hp, hc, hd⟩ := hk
  have h40 := hc.1
  have lo : ∀ k, k < 132 → k ≠ 3 → sn m r k = m k := fun k hk h3 => sni_lo (by omega) h3
  refine ⟨hp.c3 lo, ?_, hd.c3 hp.1 (fun k hk h3 => lo k (by omega) h3) (fun k hk => sni_hi h40 hk)⟩
  obtain ⟨h1, h2, h3⟩ := hc
  have e1 : vC (sn m r) = vC m := lo 1 (by decide) (by decide)
  have e0 : vW (sn m r) = vW m := lo 0 (by decide) (by decide)
  have e3 : vN (sn m r) = r := sni_3 r _
  refine ⟨by rw [e1]; exact h1, by rw [e3]; exact hr, fun c hcc => ?_⟩
  rw [e1] at hcc
  obtain ⟨q1, q2, q3, q4, q5⟩ := h3 c hcc
  refine ⟨by rw [sn_va]; exact q1, by rw [sn_va]; exact q2, by rw [sn_ow, e0]; exact q3, ?_, fun i hi => ?_⟩
  · rw [e3, sni_mn]
    by_cases h : c < vC m ∧ r < mn m c
    · rw [if_pos h]; exact Nat.le_refl r
    · rw [if_neg h]; omega
  · rw [sni_mn] at hi
    rw [e0, sn_rm _ _ _ (by split at hi <;> omega)]
    exact q5 i (by split at hi <;> omega)
theorem k_shorten (hn : 50 ≤ n) (hB : rv_B S) (hP : PR S 95 m) (hk : okm m) {r : Nat} (hr : r ≤ 3) : ∃ S', fnX6_shorten n S 95 (nI r) = some S' ∧ rvf [95, 98] S S' ∧ PR S' 95 (sn m r) := by
  obtain ⟨hp, hc, hd⟩ := id hk
  have h40 := hc.1
  obtain ⟨b1, b2, b3, b4, b5⟩ := id hP
  obtain ⟨S0, eS0⟩ : ∃ S0, S0 = rv_sI S 95 1 (nI r) := ⟨_, rfl⟩
  have f0 : rvf [95, 98] S S0 := by rw [eS0]; exact (rvf.rf _ _).w rfl rfl
  have hB0 := f0.B hB
  have n0 : S0.2.1 95 0 = nI (vC m) := by rw [eS0, rv_sI_k _ _ (by decide)]; exact b1
  have n1 : S0.2.1 95 1 = nI r := by rw [eS0, rv_sI_eq]
  have n98 : ∀ k, S0.2.1 98 k = S.2.1 98 k := fun k => by rw [eS0, rv_sI_a _ _ _ (by decide)]
  obtain ⟨S1, e1, f1, g1⟩ : ∃ S', cX6_shorten_7 n n S0 95 (nI r) (nI 0) = some S' ∧ rvf [98] S0 S' ∧ ∀ c, c < vC m → S'.2.1 98 c = nI (rb ((rl m c).take r)) := by
    refine lp (F := fun q (x : rvS × Int32) => cX6_shorten_7 n q x.1 95 (nI r) x.2) (fun i x => x.2 = nI i ∧ rvf [98] S0 x.1 ∧ ∀ c, x.1.2.1 98 c = if c < i then nI (rb ((rl m c).take r)) else S.2.1 98 c) (fun o => ∃ S', o = some S' ∧ rvf [98] S0 S' ∧ ∀ c, c < vC m → S'.2.1 98 c = nI (rb ((rl m c).take r))) (vC m) (fun i x q hi hx => Or.inr ?_) (fun x q hx => ?_) (i := 0) (x := (S0, nI 0)) (q := n) (Nat.zero_le _) ⟨rfl, rvf.rf _ _, fun c => by rw [if_neg (by omega)]; exact n98 c⟩ (by omega)
    · obtain ⟨S1, x2⟩ := x
      obtain ⟨rfl, f, g⟩ := hx
      have f : rvf [98] S0 S1 := f
      have g : ∀ c, S1.2.1 98 c = if c < i then nI (rb ((rl m c).take r)) else S.2.1 98 c := g
      have hB1 := f.B hB0
      have hPS := PS_of hB1 (show pb 95 from Or.inr (Or.inl rfl))
      have q0 : S1.2.1 95 0 = nI (vC m) := (f.row rfl rfl 0).trans n0
      have q1 : S1.2.1 (95 + 3) i = nI (rb (rl m i)) := (g i).trans (by rw [if_neg (by omega)]; exact b5 i hi)
      have hl := hc.l hi
      have e3 : nI (rb (rl m i)) &&& nI (2 ^ (5 * r) - 1) = nI (rb ((rl m i).take r)) := by
        rw [fa_mask, Nat.pow_mul, ← rb_take r (fun x hx => by have := hl.2 x hx; have := hp.1; omega)]
      have p4 : 1 ≤ 2 ^ (5 * r) := Nat.two_pow_pos _
      refine ⟨(rv_sI S1 98 i (nI (rb ((rl m i).take r))), nI (i + 1)), ?_, rfl, f.w rfl rfl, fun c => ?_⟩
      · show cX6_shorten_7 n (q + 1) S1 95 (nI r) (nI i) = cX6_shorten_7 n q _ 95 (nI r) (nI (i + 1))
        rw [cX6_shorten_7]
        simp (disch := first | assumption | omega) only [tk_gI, tk_gL, tk_gR, tk_pI, tk_pL, rv_aI, rv_aL, rv_aR, rv_uI, rv_uL, rv_uB, rv_uZ, pu_ckI, pu_ckL, pu_lnI, pu_lnL, tk_rI, tk_rL, Option.bind_some, Option.map_some, rv_lt, tk_ix, z0, z1, z2, z3, z4, z5, z6, z7, z8, z9, z10, z11, z12, z13, z15, z16, z17, z18, z20, z21, z23, z24, z25, z31, z32, z39, z40, z41, z46, z48, z50, z57, z59, z60, z61, z62, z63, z64, z97, z98, z99, z100, z101, z102, z103, z104, z105, z106, z107, z108, z109, z110, z111, z112, z113, z114, z115, z116, z117, z118, z119, z120, z121, z122, z128, z132, z200, z240, z255, z372, z390625, z400, z420, z421, z422, z662, z900, z940, z999, z1000, z1024, z2000, z5860, z10000, z12345, z15625, z266240, z1048575, z1064960, z1103515245, z_m1, n_le, n_lt, n_eq, n_bit0, n_bit1, n_sbit0, n_shl, z_ltM, z_Mlt, z_leM, z_Mle, z_eqM, z_Meq, bI0, bI1, bI_01, bI_01t, bI_10, bI_10f, if_true, if_false, eq_self, reduceCtorEq, if_pos, if_neg, hPS, q0, q1, z_mul, n_ushl, Nat.one_mul, z_sub, e3, nI_add]
      · show (rv_sI S1 98 i _).2.1 98 c = _
        by_cases e : c = i
        · subst e; rw [rv_sI_eq, if_pos (by omega)]
        · rw [rv_sI_k _ _ e, g]
          by_cases e2 : c < i
          · rw [if_pos e2, if_pos (by omega)]
          · rw [if_neg e2, if_neg (by omega)]
    · obtain ⟨S1, x2⟩ := x
      obtain ⟨rfl, f, g⟩ := hx
      have f : rvf [98] S0 S1 := f
      have hB1 := f.B hB0
      have hPS := PS_of hB1 (show pb 95 from Or.inr (Or.inl rfl))
      have q0 : S1.2.1 95 0 = nI (vC m) := (f.row rfl rfl 0).trans n0
      refine ⟨S1, ?_, f, fun c hcc => (g c).trans (if_pos hcc)⟩
      show cX6_shorten_7 n (q + 1) S1 95 (nI r) (nI (vC m)) = _
      rw [cX6_shorten_7]
      simp (disch := first | assumption | omega) only [tk_gI, tk_gL, tk_gR, tk_pI, tk_pL, rv_aI, rv_aL, rv_aR, rv_uI, rv_uL, rv_uB, rv_uZ, pu_ckI, pu_ckL, pu_lnI, pu_lnL, tk_rI, tk_rL, Option.bind_some, Option.map_some, rv_lt, tk_ix, z0, z1, z2, z3, z4, z5, z6, z7, z8, z9, z10, z11, z12, z13, z15, z16, z17, z18, z20, z21, z23, z24, z25, z31, z32, z39, z40, z41, z46, z48, z50, z57, z59, z60, z61, z62, z63, z64, z97, z98, z99, z100, z101, z102, z103, z104, z105, z106, z107, z108, z109, z110, z111, z112, z113, z114, z115, z116, z117, z118, z119, z120, z121, z122, z128, z132, z200, z240, z255, z372, z390625, z400, z420, z421, z422, z662, z900, z940, z999, z1000, z1024, z2000, z5860, z10000, z12345, z15625, z266240, z1048575, z1064960, z1103515245, z_m1, n_le, n_lt, n_eq, n_bit0, n_bit1, n_sbit0, n_shl, z_ltM, z_Mlt, z_leM, z_Mle, z_eqM, z_Meq, bI0, bI1, bI_01, bI_01t, bI_10, bI_10f, if_true, if_false, eq_self, reduceCtorEq, if_pos, if_neg, hPS, q0]
  have hPS := PS_of hB (show pb 95 from Or.inr (Or.inl rfl))
  have eC : vC (sn m r) = vC m := sni_lo (by decide) (by decide)
  refine ⟨S1, ?_, f0.tr (f1.mono rfl), ?_, ?_, fun c hcc => ?_, fun c hcc => ?_, fun c hcc => ?_⟩
  · rw [fnX6_shorten]
    simp (disch := first | assumption | omega) only [tk_gI, tk_gL, tk_gR, tk_pI, tk_pL, rv_aI, rv_aL, rv_aR, rv_uI, rv_uL, rv_uB, rv_uZ, pu_ckI, pu_ckL, pu_lnI, pu_lnL, tk_rI, tk_rL, Option.bind_some, Option.map_some, rv_lt, tk_ix, z0, z1, z2, z3, z4, z5, z6, z7, z8, z9, z10, z11, z12, z13, z15, z16, z17, z18, z20, z21, z23, z24, z25, z31, z32, z39, z40, z41, z46, z48, z50, z57, z59, z60, z61, z62, z63, z64, z97, z98, z99, z100, z101, z102, z103, z104, z105, z106, z107, z108, z109, z110, z111, z112, z113, z114, z115, z116, z117, z118, z119, z120, z121, z122, z128, z132, z200, z240, z255, z372, z390625, z400, z420, z421, z422, z662, z900, z940, z999, z1000, z1024, z2000, z5860, z10000, z12345, z15625, z266240, z1048575, z1064960, z1103515245, z_m1, hPS, ← eS0, e1]
  · rw [eC]; exact (f1.row rfl rfl 0).trans n0
  · rw [show vN (sn m r) = r from sni_3 r _]; exact (f1.row rfl rfl 1).trans n1
  · rw [eC] at hcc
    rw [sn_va, f1.row rfl rfl, eS0, rv_sI_a _ _ _ (by decide)]; exact b3 c hcc
  · rw [eC] at hcc
    rw [sn_ow, f1.row rfl rfl, eS0, rv_sI_a _ _ _ (by decide)]; exact b4 c hcc
  · rw [eC] at hcc
    have h3 := (hc.2.2 c hcc).2.2.2.1
    have hN := hc.2.1
    rw [sn_rl hcc (by omega)]; exact g1 c hcc
theorem m_shorten (hn : 50 ≤ n) (hB : rv_B S) (hM : MR S m) (hk : okm m) {r : Nat} (hr : r ≤ 3) (x y : Int32) : ∃ S', cX13_trade_42 n n (rv_sI S 191 3 (nI r)) 189 (nI r) x y (nI 0) = cX13_trade_85 n S' 189 x y ∧ rvf [191] S S' ∧ MR S' (sn m r) ∧ R42 S S' := by
  obtain ⟨hp, hc, hd⟩ := id hk
  have h40 := hc.1
  have f0 : rvf [191] S (rv_sI S 191 3 (nI r)) := (rvf.rf _ _).w rfl rfl
  refine lp (F := fun q (z : rvS × Int32) => cX13_trade_42 n q z.1 189 (nI r) x y z.2) (fun i z => z.2 = nI i ∧ rvf [191] S z.1 ∧ MR z.1 (sni m r i) ∧ R42 S z.1) (fun o => ∃ S', o = cX13_trade_85 n S' 189 x y ∧ rvf [191] S S' ∧ MR S' (sn m r) ∧ R42 S S') (vC m) (fun i z q hi hz => Or.inr ?_) (fun z q hz => ?_) (i := 0) (x := (rv_sI S 191 3 (nI r), nI 0)) (q := n) (Nat.zero_le _) ⟨rfl, f0, fun k hk => ?_, fun k hk => rv_sI_k _ _ (by omega) _⟩ (by omega)
  · obtain ⟨S1, x2⟩ := z
    obtain ⟨rfl, f, g, r42⟩ := hz
    have f : rvf [191] S S1 := f
    have g : MR S1 (sni m r i) := g
    have r42 : R42 S S1 := r42
    have hB1 := f.B hB
    have kc := m_coins (n := n) hB1 g
    rw [show vC (sni m r i) = vC m from sni_lo (by decide) (by decide)] at kc
    have km := m_mn (n := n) hB1 g (c := i) (by omega)
    rw [sni_mn, if_neg (fun z => absurd z.1 (Nat.lt_irrefl i))] at km
    have h3 := (hc.2.2 i hi).2.2.2.1
    have hN := hc.2.1
    by_cases c : r < mn m i
    · have e134 : 132 + 6 * i + 2 = 134 + 6 * i := by omega
      obtain ⟨S2, eS2⟩ : ∃ S2, S2 = rv_sI S1 191 (134 + 6 * i) (nI r) := ⟨_, rfl⟩
      have f2 : rvf [191] S1 S2 := by rw [eS2]; exact (rvf.rf _ _).w rfl rfl
      refine ⟨(S2, nI (i + 1)), ?_, rfl, f.tr f2, fun k hk => ?_, fun k hk => ?_⟩
      · show cX13_trade_42 n (q + 1) S1 189 (nI r) x y (nI i) = cX13_trade_42 n q S2 189 (nI r) x y (nI (i + 1))
        rw [cX13_trade_42]
        simp (disch := first | assumption | omega) only [tk_gI, tk_gL, tk_gR, tk_pI, tk_pL, rv_aI, rv_aL, rv_aR, rv_uI, rv_uL, rv_uB, rv_uZ, pu_ckI, pu_ckL, pu_lnI, pu_lnL, tk_rI, tk_rL, Option.bind_some, Option.map_some, rv_lt, tk_ix, z0, z1, z2, z3, z4, z5, z6, z7, z8, z9, z10, z11, z12, z13, z15, z16, z17, z18, z20, z21, z23, z24, z25, z31, z32, z39, z40, z41, z46, z48, z50, z57, z59, z60, z61, z62, z63, z64, z97, z98, z99, z100, z101, z102, z103, z104, z105, z106, z107, z108, z109, z110, z111, z112, z113, z114, z115, z116, z117, z118, z119, z120, z121, z122, z128, z132, z200, z240, z255, z372, z390625, z400, z420, z421, z422, z662, z900, z940, z999, z1000, z1024, z2000, z5860, z10000, z12345, z15625, z266240, z1048575, z1064960, z1103515245, z_m1, n_le, n_lt, n_eq, n_bit0, n_bit1, n_sbit0, n_shl, z_ltM, z_Mlt, z_leM, z_Mle, z_eqM, z_Meq, bI0, bI1, bI_01, bI_01t, bI_10, bI_10f, if_true, if_false, eq_self, reduceCtorEq, if_pos, if_neg, rc_189 hB1, kc, km, show ¬ mn m i ≤ r by omega, rf_of hB1 (show (189, 14, 191) ∈ rv_rf0 by decide), rn_191 hB1, z_mul, nI_add, e134, ← eS2]
      · show S2.2.1 191 k = nI (sni m r (i + 1) k)
        rw [eS2]
        by_cases e : k = 134 + 6 * i
        · rw [e, rv_sI_eq]
          have := sni_mn (m := m) (r := r) (i := i + 1) (c := i)
          rw [if_pos ⟨by omega, c⟩] at this
          exact congrArg nI this.symm
        · rw [rv_sI_k _ _ e, g k hk, sni, sni]
          refine congrArg nI ?_
          by_cases e3 : k = 3
          · rw [if_pos e3, if_pos e3]
          · rw [if_neg e3, if_neg e3]
            by_cases e4 : 134 ≤ k ∧ (k - 134) % 6 = 0 ∧ (k - 134) / 6 < i ∧ r < m k
            · rw [if_pos e4, if_pos ⟨e4.1, e4.2.1, by omega, e4.2.2.2⟩]
            · rw [if_neg e4, if_neg (fun z => e4 ⟨z.1, z.2.1, by omega, z.2.2.2⟩)]
      · show S2.2.1 191 k = _
        rw [eS2, rv_sI_k _ _ (by omega)]; exact r42 k hk
    · refine ⟨(S1, nI (i + 1)), ?_, rfl, f, fun k hk => ?_, r42⟩
      · show cX13_trade_42 n (q + 1) S1 189 (nI r) x y (nI i) = cX13_trade_42 n q S1 189 (nI r) x y (nI (i + 1))
        rw [cX13_trade_42]
        simp (disch := first | assumption | omega) only [tk_gI, tk_gL, tk_gR, tk_pI, tk_pL, rv_aI, rv_aL, rv_aR, rv_uI, rv_uL, rv_uB, rv_uZ, pu_ckI, pu_ckL, pu_lnI, pu_lnL, tk_rI, tk_rL, Option.bind_some, Option.map_some, rv_lt, tk_ix, z0, z1, z2, z3, z4, z5, z6, z7, z8, z9, z10, z11, z12, z13, z15, z16, z17, z18, z20, z21, z23, z24, z25, z31, z32, z39, z40, z41, z46, z48, z50, z57, z59, z60, z61, z62, z63, z64, z97, z98, z99, z100, z101, z102, z103, z104, z105, z106, z107, z108, z109, z110, z111, z112, z113, z114, z115, z116, z117, z118, z119, z120, z121, z122, z128, z132, z200, z240, z255, z372, z390625, z400, z420, z421, z422, z662, z900, z940, z999, z1000, z1024, z2000, z5860, z10000, z12345, z15625, z266240, z1048575, z1064960, z1103515245, z_m1, n_le, n_lt, n_eq, n_bit0, n_bit1, n_sbit0, n_shl, z_ltM, z_Mlt, z_leM, z_Mle, z_eqM, z_Meq, bI0, bI1, bI_01, bI_01t, bI_10, bI_10f, if_true, if_false, eq_self, reduceCtorEq, if_pos, if_neg, rc_189 hB1, kc, km, show mn m i ≤ r by omega, nI_add]
      · show S1.2.1 191 k = nI (sni m r (i + 1) k)
        rw [g k hk, sni, sni]
        refine congrArg nI ?_
        by_cases e3 : k = 3
        · rw [if_pos e3, if_pos e3]
        · rw [if_neg e3, if_neg e3]
          by_cases e4 : 134 ≤ k ∧ (k - 134) % 6 = 0 ∧ (k - 134) / 6 < i ∧ r < m k
          · rw [if_pos e4, if_pos ⟨e4.1, e4.2.1, by omega, e4.2.2.2⟩]
          · rw [if_neg e4, if_neg (fun z => ?_)]
            by_cases e5 : (k - 134) / 6 = i
            · have ek : k = 134 + 6 * i := by omega
              rw [ek] at z
              exact c z.2.2.2
            · exact e4 ⟨z.1, z.2.1, by omega, z.2.2.2⟩
  · obtain ⟨S1, x2⟩ := z
    obtain ⟨rfl, f, g, r42⟩ := hz
    have f : rvf [191] S S1 := f
    have g : MR S1 (sni m r (vC m)) := g
    have hB1 := f.B hB
    have kc := m_coins (n := n) hB1 g
    rw [show vC (sni m r (vC m)) = vC m from sni_lo (by decide) (by decide)] at kc
    refine ⟨S1, ?_, f, g, r42⟩
    show cX13_trade_42 n (q + 1) S1 189 (nI r) x y (nI (vC m)) = _
    rw [cX13_trade_42]
    simp (disch := first | assumption | omega) only [tk_gI, tk_gL, tk_gR, tk_pI, tk_pL, rv_aI, rv_aL, rv_aR, rv_uI, rv_uL, rv_uB, rv_uZ, pu_ckI, pu_ckL, pu_lnI, pu_lnL, tk_rI, tk_rL, Option.bind_some, Option.map_some, rv_lt, tk_ix, z0, z1, z2, z3, z4, z5, z6, z7, z8, z9, z10, z11, z12, z13, z15, z16, z17, z18, z20, z21, z23, z24, z25, z31, z32, z39, z40, z41, z46, z48, z50, z57, z59, z60, z61, z62, z63, z64, z97, z98, z99, z100, z101, z102, z103, z104, z105, z106, z107, z108, z109, z110, z111, z112, z113, z114, z115, z116, z117, z118, z119, z120, z121, z122, z128, z132, z200, z240, z255, z372, z390625, z400, z420, z421, z422, z662, z900, z940, z999, z1000, z1024, z2000, z5860, z10000, z12345, z15625, z266240, z1048575, z1064960, z1103515245, z_m1, n_le, n_lt, n_eq, n_bit0, n_bit1, n_sbit0, n_shl, z_ltM, z_Mlt, z_leM, z_Mle, z_eqM, z_Meq, bI0, bI1, bI_01, bI_01t, bI_10, bI_10f, if_true, if_false, eq_self, reduceCtorEq, if_pos, if_neg, rc_189 hB1, kc]
  · show (rv_sI S 191 3 (nI r)).2.1 191 k = nI (sni m r 0 k)
    rw [sni]
    by_cases e3 : k = 3
    · rw [if_pos e3, e3, rv_sI_eq]
    · rw [if_neg e3, rv_sI_k _ _ e3, if_neg (by omega)]; exact hM k hk
/-- a state of trade: the valley, the seed, gone, refused -/
abbrev TSt := (Nat → Nat) × Int32 × Nat × Nat
def ty1 (X : TSt) : TSt := ((dpay X.1 X.2.1).1, (dpay X.1 X.2.1).2.1, X.2.2.1 + (dpay X.1 X.2.1).2.2.1, X.2.2.2 + (dpay X.1 X.2.1).2.2.2)
def tyN (X : TSt) : Nat → TSt
  | 0 => X
  | i + 1 => ty1 (tyN X i)
theorem tyN_ok {X : TSt} (hk : okm X.1) (hW : 0 < vW X.1) : ∀ i, okm (tyN X i).1 ∧ 0 < vW (tyN X i).1
  | 0 => ⟨hk, hW⟩
  | i + 1 => by
    obtain ⟨h1, h2⟩ := tyN_ok hk hW i
    obtain ⟨o1, o2⟩ := dpay_ok h1 h2 (tyN X i).2.1
    refine ⟨o1, ?_⟩
    show 0 < (dpay (tyN X i).1 (tyN X i).2.1).1 0
    rw [o2 0 (by decide)]; exact h2
theorem k_tloop (hn : 500 ≤ n) (hB : rv_B S) {X : TSt} (hk : okm X.1) (hW : 0 < vW X.1) (hR : CR S 87 X.1) (h0 : S.2.1 148 0 = X.2.1) (h1 : S.2.1 148 1 = nI X.2.2.1) (h2 : S.2.1 148 2 = nI X.2.2.2) {N : Nat} (hN4 : N ≤ 400) : ∃ S', cX12_trade_84 n n S 64 (nI N) (nI 0) = some (nI (tyN X N).2.2.1, S') ∧ rvf [148, 97, 98] S S' := by
  refine lp (F := fun q (x : rvS × Int32) => cX12_trade_84 n q x.1 64 (nI N) x.2) (fun i x => x.2 = nI i ∧ rvf [148, 97, 98] S x.1 ∧ CR x.1 87 (tyN X i).1 ∧ x.1.2.1 148 0 = (tyN X i).2.1 ∧ x.1.2.1 148 1 = nI (tyN X i).2.2.1 ∧ x.1.2.1 148 2 = nI (tyN X i).2.2.2) (fun o => ∃ S', o = some (nI (tyN X N).2.2.1, S') ∧ rvf [148, 97, 98] S S') N (fun i x q hi hx => Or.inr ?_) (fun x q hx => ?_) (i := 0) (x := (S, nI 0)) (q := n) (Nat.zero_le _) ⟨rfl, rvf.rf _ _, hR, h0, h1, h2⟩ (by omega)
  · obtain ⟨S1, x2⟩ := x
    obtain ⟨rfl, f, g, g0, g1, g2⟩ := hx
    have f : rvf [148, 97, 98] S S1 := f
    have hB1 := f.B hB
    obtain ⟨ok1, W1⟩ := tyN_ok hk hW i
    obtain ⟨S2, e2, f2, R2, p0, p1, p2, -, -⟩ := k_dpay87 (n := n) (by omega) hB1 g ok1 W1 g0 g1 g2
    have hC := CS_of hB1
    have r9 := rf_of hB1 (show (64, 9, 148) ∈ rv_rf0 by decide)
    have rd := rf_of hB1 (show (64, 2, 87) ∈ rv_rf0 by decide)
    refine ⟨(S2, nI (i + 1)), ?_, rfl, f.tr f2, R2, p0, p1, p2⟩
    show cX12_trade_84 n (q + 1) S1 64 (nI N) (nI i) = cX12_trade_84 n q S2 64 (nI N) (nI (i + 1))
    rw [cX12_trade_84]
    simp (disch := first | assumption | omega) only [tk_gI, tk_gL, tk_gR, tk_pI, tk_pL, rv_aI, rv_aL, rv_aR, rv_uI, rv_uL, rv_uB, rv_uZ, pu_ckI, pu_ckL, pu_lnI, pu_lnL, tk_rI, tk_rL, Option.bind_some, Option.map_some, rv_lt, tk_ix, z0, z1, z2, z3, z4, z5, z6, z7, z8, z9, z10, z11, z12, z13, z15, z16, z17, z18, z20, z21, z23, z24, z25, z31, z32, z39, z40, z41, z46, z48, z50, z57, z59, z60, z61, z62, z63, z64, z97, z98, z99, z100, z101, z102, z103, z104, z105, z106, z107, z108, z109, z110, z111, z112, z113, z114, z115, z116, z117, z118, z119, z120, z121, z122, z128, z132, z200, z240, z255, z372, z390625, z400, z420, z421, z422, z662, z900, z940, z999, z1000, z1024, z2000, z5860, z10000, z12345, z15625, z266240, z1048575, z1064960, z1103515245, z_m1, n_le, n_lt, n_eq, n_bit0, n_bit1, n_sbit0, n_shl, z_ltM, z_Mlt, z_leM, z_Mle, z_eqM, z_Meq, bI0, bI1, bI_01, bI_01t, bI_10, bI_10f, if_true, if_false, eq_self, reduceCtorEq, if_pos, if_neg, hC, r9, rd, rc_148 hB1, e2, bp_s, nI_add]
  · obtain ⟨S1, x2⟩ := x
    obtain ⟨rfl, f, g, g0, g1, g2⟩ := hx
    have f : rvf [148, 97, 98] S S1 := f
    have g1 : S1.2.1 148 1 = nI (tyN X N).2.2.1 := g1
    have hB1 := f.B hB
    have hC := CS_of hB1
    have r9 := rf_of hB1 (show (64, 9, 148) ∈ rv_rf0 by decide)
    refine ⟨S1, ?_, f⟩
    show cX12_trade_84 n (q + 1) S1 64 (nI N) (nI N) = _
    rw [cX12_trade_84]
    simp (disch := first | assumption | omega) only [tk_gI, tk_gL, tk_gR, tk_pI, tk_pL, rv_aI, rv_aL, rv_aR, rv_uI, rv_uL, rv_uB, rv_uZ, pu_ckI, pu_ckL, pu_lnI, pu_lnL, tk_rI, tk_rL, Option.bind_some, Option.map_some, rv_lt, tk_ix, z0, z1, z2, z3, z4, z5, z6, z7, z8, z9, z10, z11, z12, z13, z15, z16, z17, z18, z20, z21, z23, z24, z25, z31, z32, z39, z40, z41, z46, z48, z50, z57, z59, z60, z61, z62, z63, z64, z97, z98, z99, z100, z101, z102, z103, z104, z105, z106, z107, z108, z109, z110, z111, z112, z113, z114, z115, z116, z117, z118, z119, z120, z121, z122, z128, z132, z200, z240, z255, z372, z390625, z400, z420, z421, z422, z662, z900, z940, z999, z1000, z1024, z2000, z5860, z10000, z12345, z15625, z266240, z1048575, z1064960, z1103515245, z_m1, n_le, n_lt, n_eq, n_bit0, n_bit1, n_sbit0, n_shl, z_ltM, z_Mlt, z_leM, z_Mle, z_eqM, z_Meq, bI0, bI1, bI_01, bI_01t, bI_10, bI_10f, if_true, if_false, eq_self, reduceCtorEq, if_pos, if_neg, hC, r9, rc_148 hB1, g1]
theorem m_tloop (hn : 500 ≤ n) (hB : rv_B S) {X : TSt} (hk : okm X.1) (hW : 0 < vW X.1) (hM : MR S X.1) (h0 : S.2.1 189 49 = X.2.1) (h1 : S.2.1 189 50 = nI X.2.2.1) (h2 : S.2.1 189 51 = nI X.2.2.2) {N : Nat} (hN4 : N ≤ 400) : ∃ S', cX13_trade_98 n n S 189 (nI N) (nI 0) = cX13_trade_115 n S' 189 ∧ rvf [189049, 189050, 189051, 191, 199] S S' ∧ R42 S S' ∧ S'.2.1 189 50 = nI (tyN X N).2.2.1 := by
  refine lp (F := fun q (x : rvS × Int32) => cX13_trade_98 n q x.1 189 (nI N) x.2) (fun i x => x.2 = nI i ∧ rvf [189049, 189050, 189051, 191, 199] S x.1 ∧ MR x.1 (tyN X i).1 ∧ R42 S x.1 ∧ x.1.2.1 189 49 = (tyN X i).2.1 ∧ x.1.2.1 189 50 = nI (tyN X i).2.2.1 ∧ x.1.2.1 189 51 = nI (tyN X i).2.2.2) (fun o => ∃ S', o = cX13_trade_115 n S' 189 ∧ rvf [189049, 189050, 189051, 191, 199] S S' ∧ R42 S S' ∧ S'.2.1 189 50 = nI (tyN X N).2.2.1) N (fun i x q hi hx => Or.inr ?_) (fun x q hx => ?_) (i := 0) (x := (S, nI 0)) (q := n) (Nat.zero_le _) ⟨rfl, rvf.rf _ _, hM, fun _ _ => rfl, h0, h1, h2⟩ (by omega)
  · obtain ⟨S1, x2⟩ := x
    obtain ⟨rfl, f, g, r, g0, g1, g2⟩ := hx
    have f : rvf [189049, 189050, 189051, 191, 199] S S1 := f
    have hB1 := f.B hB
    obtain ⟨ok1, W1⟩ := tyN_ok hk hW i
    obtain ⟨S2, e2, f2, M2, r2, p0, p1, p2⟩ := m_dpay (n := n) (by omega) hB1 g ok1 W1 g0 g1 g2 (nI 0)
    have e84 : ∀ z, cX13_day_84 n S2 189 (nI 0) z = some S2 := fun z => by
      rw [cX13_day_84, if_pos (by decide)]
    rw [e84] at e2
    refine ⟨(S2, nI (i + 1)), ?_, rfl, f.tr f2, M2, r.tr r2, p0, p1, p2⟩
    show cX13_trade_98 n (q + 1) S1 189 (nI N) (nI i) = cX13_trade_98 n q S2 189 (nI N) (nI (i + 1))
    rw [cX13_trade_98]
    simp (disch := first | assumption | omega) only [tk_gI, tk_gL, tk_gR, tk_pI, tk_pL, rv_aI, rv_aL, rv_aR, rv_uI, rv_uL, rv_uB, rv_uZ, pu_ckI, pu_ckL, pu_lnI, pu_lnL, tk_rI, tk_rL, Option.bind_some, Option.map_some, rv_lt, tk_ix, z0, z1, z2, z3, z4, z5, z6, z7, z8, z9, z10, z11, z12, z13, z15, z16, z17, z18, z20, z21, z23, z24, z25, z31, z32, z39, z40, z41, z46, z48, z50, z57, z59, z60, z61, z62, z63, z64, z97, z98, z99, z100, z101, z102, z103, z104, z105, z106, z107, z108, z109, z110, z111, z112, z113, z114, z115, z116, z117, z118, z119, z120, z121, z122, z128, z132, z200, z240, z255, z372, z390625, z400, z420, z421, z422, z662, z900, z940, z999, z1000, z1024, z2000, z5860, z10000, z12345, z15625, z266240, z1048575, z1064960, z1103515245, z_m1, n_le, n_lt, n_eq, n_bit0, n_bit1, n_sbit0, n_shl, z_ltM, z_Mlt, z_leM, z_Mle, z_eqM, z_Meq, bI0, bI1, bI_01, bI_01t, bI_10, bI_10f, if_true, if_false, eq_self, reduceCtorEq, if_pos, if_neg, rc_189 hB1, e2, nI_add]
  · obtain ⟨S1, x2⟩ := x
    obtain ⟨rfl, f, g, r, g0, g1, g2⟩ := hx
    refine ⟨S1, ?_, f, r, g1⟩
    show cX13_trade_98 n (q + 1) S1 189 (nI N) (nI N) = _
    rw [cX13_trade_98]
    simp (disch := first | assumption | omega) only [tk_gI, tk_gL, tk_gR, tk_pI, tk_pL, rv_aI, rv_aL, rv_aR, rv_uI, rv_uL, rv_uB, rv_uZ, pu_ckI, pu_ckL, pu_lnI, pu_lnL, tk_rI, tk_rL, Option.bind_some, Option.map_some, rv_lt, tk_ix, z0, z1, z2, z3, z4, z5, z6, z7, z8, z9, z10, z11, z12, z13, z15, z16, z17, z18, z20, z21, z23, z24, z25, z31, z32, z39, z40, z41, z46, z48, z50, z57, z59, z60, z61, z62, z63, z64, z97, z98, z99, z100, z101, z102, z103, z104, z105, z106, z107, z108, z109, z110, z111, z112, z113, z114, z115, z116, z117, z118, z119, z120, z121, z122, z128, z132, z200, z240, z255, z372, z390625, z400, z420, z421, z422, z662, z900, z940, z999, z1000, z1024, z2000, z5860, z10000, z12345, z15625, z266240, z1048575, z1064960, z1103515245, z_m1, n_le, n_lt, n_eq, n_bit0, n_bit1, n_sbit0, n_shl, z_ltM, z_Mlt, z_leM, z_Mle, z_eqM, z_Meq, bI0, bI1, bI_01, bI_01t, bI_10, bI_10f, if_true, if_false, eq_self, reduceCtorEq, if_pos, if_neg]
end
