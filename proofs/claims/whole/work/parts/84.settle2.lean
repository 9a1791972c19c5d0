/-! SETTLE: the coins go -/
section
variable {n : Nat} {S : rvS} {m m' : Nat → Nat} {wd : Nat → List Nat} {B : Nat → Bool} {b : Nat}
def mvs (m : Nat → Nat) (B : Nat → Bool) (b : Nat) : Nat → Nat → Nat
  | 0 => m
  | i + 1 => if B i then mv (mvs m B b i) i b else mvs m B b i
theorem mvs_lo : ∀ i k, k < 132 → mvs m B b i k = m k
  | 0, _, _ => rfl
  | i + 1, k, h => by
    rw [mvs]
    cases B i
    · rw [if_neg nft]; exact mvs_lo i k h
    · rw [if_pos rfl, mv_lo b k h]; exact mvs_lo i k h
theorem mvs_ok (hk : okm m) (hb : b < vW m) : ∀ i, i ≤ vC m → okm (mvs m B b i)
  | 0, _ => hk
  | i + 1, h => by
    have ih := mvs_ok hk hb i (by omega)
    rw [mvs]
    cases B i
    · rw [if_neg nft]; exact ih
    · rw [if_pos rfl]
      exact mv_okm ih (by rw [show vC (mvs m B b i) = vC m from mvs_lo i 1 (by decide)]; omega) (by rw [show vW (mvs m B b i) = vW m from mvs_lo i 0 (by decide)]; exact hb)
theorem k_moveAll (hn : 1100 ≤ n) (hB : rv_B S) (hP : PR S 75 m) (hk : okm m) (hb : b < vW m) : ∃ S', fnX6_moveAll n S 75 (lN (bs B (vC m))) (nI b) = some S' ∧ rvf [77, 78] S S' ∧ PR S' 75 (mvs m B b (vC m)) := by
  have h40 := hk.2.1.1
  have h24 := hk.1.1
  have b40 := bs_64 B h40
  rw [fnX6_moveAll]
  refine lp (F := fun q (x : rvS × Int32) => cX6_moveAll_3 n q x.1 75 (lN (bs B (vC m))) (nI b) x.2) (fun i x => x.2 = nI i ∧ rvf [77, 78] S x.1 ∧ PR x.1 75 (mvs m B b i)) (fun o => ∃ S', o = some S' ∧ rvf [77, 78] S S' ∧ PR S' 75 (mvs m B b (vC m))) (vC m) (fun i x q hi hx => Or.inr ?_) (fun x q hx => ?_) (i := 0) (x := (S, nI 0)) (q := n) (Nat.zero_le _) ⟨rfl, rvf.rf _ _, hP⟩ (by omega)
  · obtain ⟨S1, x2⟩ := x
    obtain ⟨rfl, f, g⟩ := hx
    have f : rvf [77, 78] S S1 := f
    have g : PR S1 75 (mvs m B b i) := g
    have hB1 := f.B hB
    have hPS := PS_of hB1 (show pb 75 from Or.inl rfl)
    have hk1 := mvs_ok (B := B) hk hb i (by omega)
    have ec : vC (mvs m B b i) = vC m := mvs_lo i 1 (by decide)
    have g0 : S1.2.1 75 0 = nI (vC m) := by rw [← ec]; exact g.1
    have hi2 : i < vC (mvs m B b i) := by omega
    cases c : B i
    · refine ⟨(S1, nI (i + 1)), ?_, rfl, f, by rw [mvs, c, if_neg nft]; exact g⟩
      show cX6_moveAll_3 n (q + 1) S1 75 (lN (bs B (vC m))) (nI b) (nI i) = cX6_moveAll_3 n q S1 75 (lN (bs B (vC m))) (nI b) (nI (i + 1))
      rw [cX6_moveAll_3]
      simp (disch := first | assumption | omega) only [tk_gI, tk_gL, tk_gR, tk_pI, tk_pL, rv_aI, rv_aL, rv_aR, rv_uI, rv_uL, rv_uB, rv_uZ, pu_ckI, pu_ckL, pu_lnI, pu_lnL, tk_rI, tk_rL, Option.bind_some, Option.map_some, rv_lt, tk_ix, z0, z1, z2, z3, z4, z5, z6, z7, z8, z9, z10, z11, z12, z13, z15, z16, z17, z18, z20, z21, z23, z24, z25, z31, z32, z39, z40, z41, z46, z48, z50, z57, z59, z60, z61, z62, z63, z64, z97, z98, z99, z100, z101, z102, z103, z104, z105, z106, z107, z108, z109, z110, z111, z112, z113, z114, z115, z116, z117, z118, z119, z120, z121, z122, z128, z132, z200, z240, z255, z372, z390625, z400, z420, z421, z422, z662, z900, z940, z999, z1000, z1024, z2000, z5860, z10000, z12345, z15625, z266240, z1048575, z1064960, z1103515245, z_m1, y0, y1, y27, y63, y96, y1099511627776, y69269232549888, n_le, n_lt, n_eq, n_bit0, n_bit1, n_sbit0, n_shl, z_ltM, z_Mlt, z_leM, z_Mle, z_eqM, z_Meq, bI0, bI1, bI_01, bI_01t, bI_10, bI_10f, if_true, if_false, eq_self, reduceCtorEq, if_pos, if_neg, hPS, g0, m_bit0, m_bit2, n_l, bs_bit, c, Bool.and_false, nI_add]
    · have km := k_move (n := n) hPS g hk1.1 hk1.2.1 hi2 (nI b)
      have f2 : rvf [77, 78] S1 (rv_sI (rv_sI S1 (75 + 3) i (nI (rb (ps (mvs m B b i) (ow (mvs m B b i) i) (rl (mvs m B b i) i))))) (75 + 2) i (nI b)) := ((rvf.rf _ _).w rfl rfl).w rfl rfl
      have p2 := mv_PR (w := b) g hk1.2.1 hi2
      obtain ⟨S2, eS2⟩ : ∃ S2, S2 = rv_sI (rv_sI S1 (75 + 3) i (nI (rb (ps (mvs m B b i) (ow (mvs m B b i) i) (rl (mvs m B b i) i))))) (75 + 2) i (nI b) := ⟨_, rfl⟩
      rw [← eS2] at km f2 p2
      refine ⟨(S2, nI (i + 1)), ?_, rfl, f.tr f2, by rw [mvs, c, if_pos rfl]; exact p2⟩
      show cX6_moveAll_3 n (q + 1) S1 75 (lN (bs B (vC m))) (nI b) (nI i) = cX6_moveAll_3 n q S2 75 (lN (bs B (vC m))) (nI b) (nI (i + 1))
      rw [cX6_moveAll_3]
      simp (disch := first | assumption | omega) only [tk_gI, tk_gL, tk_gR, tk_pI, tk_pL, rv_aI, rv_aL, rv_aR, rv_uI, rv_uL, rv_uB, rv_uZ, pu_ckI, pu_ckL, pu_lnI, pu_lnL, tk_rI, tk_rL, Option.bind_some, Option.map_some, rv_lt, tk_ix, z0, z1, z2, z3, z4, z5, z6, z7, z8, z9, z10, z11, z12, z13, z15, z16, z17, z18, z20, z21, z23, z24, z25, z31, z32, z39, z40, z41, z46, z48, z50, z57, z59, z60, z61, z62, z63, z64, z97, z98, z99, z100, z101, z102, z103, z104, z105, z106, z107, z108, z109, z110, z111, z112, z113, z114, z115, z116, z117, z118, z119, z120, z121, z122, z128, z132, z200, z240, z255, z372, z390625, z400, z420, z421, z422, z662, z900, z940, z999, z1000, z1024, z2000, z5860, z10000, z12345, z15625, z266240, z1048575, z1064960, z1103515245, z_m1, y0, y1, y27, y63, y96, y1099511627776, y69269232549888, n_le, n_lt, n_eq, n_bit0, n_bit1, n_sbit0, n_shl, z_ltM, z_Mlt, z_leM, z_Mle, z_eqM, z_Meq, bI0, bI1, bI_01, bI_01t, bI_10, bI_10f, if_true, if_false, eq_self, reduceCtorEq, if_pos, if_neg, hPS, g0, m_bit0, m_bit2, n_l, bs_bit, c, Bool.and_true, decide_true, hi, nI_add, km, reduceCtorEq]
  · obtain ⟨S1, x2⟩ := x
    obtain ⟨rfl, f, g⟩ := hx
    have f : rvf [77, 78] S S1 := f
    have g : PR S1 75 (mvs m B b (vC m)) := g
    have hB1 := f.B hB
    have hPS := PS_of hB1 (show pb 75 from Or.inl rfl)
    have ec : vC (mvs m B b (vC m)) = vC m := mvs_lo (vC m) 1 (by decide)
    have g0 : S1.2.1 75 0 = nI (vC m) := g.1.trans (congrArg nI ec)
    refine ⟨S1, ?_, f, g⟩
    show cX6_moveAll_3 n (q + 1) S1 75 (lN (bs B (vC m))) (nI b) (nI (vC m)) = _
    rw [cX6_moveAll_3]
    simp (disch := first | assumption | omega) only [tk_gI, tk_gL, tk_gR, tk_pI, tk_pL, rv_aI, rv_aL, rv_aR, rv_uI, rv_uL, rv_uB, rv_uZ, pu_ckI, pu_ckL, pu_lnI, pu_lnL, tk_rI, tk_rL, Option.bind_some, Option.map_some, rv_lt, tk_ix, z0, z1, z2, z3, z4, z5, z6, z7, z8, z9, z10, z11, z12, z13, z15, z16, z17, z18, z20, z21, z23, z24, z25, z31, z32, z39, z40, z41, z46, z48, z50, z57, z59, z60, z61, z62, z63, z64, z97, z98, z99, z100, z101, z102, z103, z104, z105, z106, z107, z108, z109, z110, z111, z112, z113, z114, z115, z116, z117, z118, z119, z120, z121, z122, z128, z132, z200, z240, z255, z372, z390625, z400, z420, z421, z422, z662, z900, z940, z999, z1000, z1024, z2000, z5860, z10000, z12345, z15625, z266240, z1048575, z1064960, z1103515245, z_m1, y0, y1, y27, y63, y96, y1099511627776, y69269232549888, n_le, n_lt, n_eq, n_bit0, n_bit1, n_sbit0, n_shl, z_ltM, z_Mlt, z_leM, z_Mle, z_eqM, z_Meq, bI0, bI1, bI_01, bI_01t, bI_10, bI_10f, if_true, if_false, eq_self, reduceCtorEq, if_pos, if_neg, hPS, g0]
theorem m_giveAll (hn : 1100 ≤ n) (hB : rv_B S) (hM : MR S m) (hk : okm m) (hb : b < vW m) (hw : ∀ k, k < vC m → S.2.1 202 k = bI (B k)) : ∃ S', fnX13_giveAll n S 189 (nI b) = some S' ∧ rvf [191, 199] S S' ∧ MR S' (mvs m B b (vC m)) ∧ R42 S S' := by
  have h40 := hk.2.1.1
  have h24 := hk.1.1
  rw [fnX13_giveAll]
  refine lp (F := fun q (x : rvS × Int32) => cX13_giveAll_2 n q x.1 189 (nI b) x.2) (fun i x => x.2 = nI i ∧ rvf [191, 199] S x.1 ∧ MR x.1 (mvs m B b i) ∧ R42 S x.1) (fun o => ∃ S', o = some S' ∧ rvf [191, 199] S S' ∧ MR S' (mvs m B b (vC m)) ∧ R42 S S') (vC m) (fun i x q hi hx => Or.inr ?_) (fun x q hx => ?_) (i := 0) (x := (S, nI 0)) (q := n) (Nat.zero_le _) ⟨rfl, rvf.rf _ _, hM, R42.of (rvf.rf [] S) rfl⟩ (by omega)
  · obtain ⟨S1, x2⟩ := x
    obtain ⟨rfl, f, g, r⟩ := hx
    have f : rvf [191, 199] S S1 := f
    have g : MR S1 (mvs m B b i) := g
    have r : R42 S S1 := r
    have hB1 := f.B hB
    have hk1 := mvs_ok (B := B) hk hb i (by omega)
    have ec : vC (mvs m B b i) = vC m := mvs_lo i 1 (by decide)
    have hi2 : i < vC (mvs m B b i) := by omega
    have kc := m_coins (n := n) hB1 g
    rw [ec] at kc
    have w1 : S1.2.1 202 i = bI (B i) := (f.row rfl rfl i).trans (hw i hi)
    have rq := rf_of hB1 (show (189, 27, 202) ∈ rv_rf0 by decide)
    cases c : B i
    · refine ⟨(S1, nI (i + 1)), ?_, rfl, f, by rw [mvs, c, if_neg nft]; exact g, r⟩
      show cX13_giveAll_2 n (q + 1) S1 189 (nI b) (nI i) = cX13_giveAll_2 n q S1 189 (nI b) (nI (i + 1))
      rw [cX13_giveAll_2]
      simp (disch := first | assumption | omega) only [tk_gI, tk_gL, tk_gR, tk_pI, tk_pL, rv_aI, rv_aL, rv_aR, rv_uI, rv_uL, rv_uB, rv_uZ, pu_ckI, pu_ckL, pu_lnI, pu_lnL, tk_rI, tk_rL, Option.bind_some, Option.map_some, rv_lt, tk_ix, z0, z1, z2, z3, z4, z5, z6, z7, z8, z9, z10, z11, z12, z13, z15, z16, z17, z18, z20, z21, z23, z24, z25, z31, z32, z39, z40, z41, z46, z48, z50, z57, z59, z60, z61, z62, z63, z64, z97, z98, z99, z100, z101, z102, z103, z104, z105, z106, z107, z108, z109, z110, z111, z112, z113, z114, z115, z116, z117, z118, z119, z120, z121, z122, z128, z132, z200, z240, z255, z372, z390625, z400, z420, z421, z422, z662, z900, z940, z999, z1000, z1024, z2000, z5860, z10000, z12345, z15625, z266240, z1048575, z1064960, z1103515245, z_m1, n_le, n_lt, n_eq, n_bit0, n_bit1, n_sbit0, n_shl, z_ltM, z_Mlt, z_leM, z_Mle, z_eqM, z_Meq, bI0, bI1, bI_01, bI_01t, bI_10, bI_10f, if_true, if_false, eq_self, reduceCtorEq, if_pos, if_neg, rc_189 hB1, kc, rq, rn_202 hB1, w1, c, bI_f, nI_add]
    · obtain ⟨S2, e2, f2, g2, r2⟩ := m_goes (n := n) (by omega) hB1 g hk1.2.1 hi2 b
      refine ⟨(S2, nI (i + 1)), ?_, rfl, f.tr f2, by rw [mvs, c, if_pos rfl]; exact g2, r.tr r2⟩
      show cX13_giveAll_2 n (q + 1) S1 189 (nI b) (nI i) = cX13_giveAll_2 n q S2 189 (nI b) (nI (i + 1))
      rw [cX13_giveAll_2]
      simp (disch := first | assumption | omega) only [tk_gI, tk_gL, tk_gR, tk_pI, tk_pL, rv_aI, rv_aL, rv_aR, rv_uI, rv_uL, rv_uB, rv_uZ, pu_ckI, pu_ckL, pu_lnI, pu_lnL, tk_rI, tk_rL, Option.bind_some, Option.map_some, rv_lt, tk_ix, z0, z1, z2, z3, z4, z5, z6, z7, z8, z9, z10, z11, z12, z13, z15, z16, z17, z18, z20, z21, z23, z24, z25, z31, z32, z39, z40, z41, z46, z48, z50, z57, z59, z60, z61, z62, z63, z64, z97, z98, z99, z100, z101, z102, z103, z104, z105, z106, z107, z108, z109, z110, z111, z112, z113, z114, z115, z116, z117, z118, z119, z120, z121, z122, z128, z132, z200, z240, z255, z372, z390625, z400, z420, z421, z422, z662, z900, z940, z999, z1000, z1024, z2000, z5860, z10000, z12345, z15625, z266240, z1048575, z1064960, z1103515245, z_m1, n_le, n_lt, n_eq, n_bit0, n_bit1, n_sbit0, n_shl, z_ltM, z_Mlt, z_leM, z_Mle, z_eqM, z_Meq, bI0, bI1, bI_01, bI_01t, bI_10, bI_10f, if_true, if_false, eq_self, reduceCtorEq, if_pos, if_neg, rc_189 hB1, kc, rq, rn_202 hB1, w1, c, bI_t, nI_add, e2]
  · obtain ⟨S1, x2⟩ := x
    obtain ⟨rfl, f, g, r⟩ := hx
    have f : rvf [191, 199] S S1 := f
    have g : MR S1 (mvs m B b (vC m)) := g
    have hB1 := f.B hB
    have kc := m_coins (n := n) hB1 g
    rw [show vC (mvs m B b (vC m)) = vC m from mvs_lo (vC m) 1 (by decide)] at kc
    refine ⟨S1, ?_, f, g, r⟩
    show cX13_giveAll_2 n (q + 1) S1 189 (nI b) (nI (vC m)) = _
    rw [cX13_giveAll_2]
    simp (disch := first | assumption | omega) only [tk_gI, tk_gL, tk_gR, tk_pI, tk_pL, rv_aI, rv_aL, rv_aR, rv_uI, rv_uL, rv_uB, rv_uZ, pu_ckI, pu_ckL, pu_lnI, pu_lnL, tk_rI, tk_rL, Option.bind_some, Option.map_some, rv_lt, tk_ix, z0, z1, z2, z3, z4, z5, z6, z7, z8, z9, z10, z11, z12, z13, z15, z16, z17, z18, z20, z21, z23, z24, z25, z31, z32, z39, z40, z41, z46, z48, z50, z57, z59, z60, z61, z62, z63, z64, z97, z98, z99, z100, z101, z102, z103, z104, z105, z106, z107, z108, z109, z110, z111, z112, z113, z114, z115, z116, z117, z118, z119, z120, z121, z122, z128, z132, z200, z240, z255, z372, z390625, z400, z420, z421, z422, z662, z900, z940, z999, z1000, z1024, z2000, z5860, z10000, z12345, z15625, z266240, z1048575, z1064960, z1103515245, z_m1, n_le, n_lt, n_eq, n_bit0, n_bit1, n_sbit0, n_shl, z_ltM, z_Mlt, z_leM, z_Mle, z_eqM, z_Meq, bI0, bI1, bI_01, bI_01t, bI_10, bI_10f, if_true, if_false, eq_self, reduceCtorEq, if_pos, if_neg, rc_189 hB1, kc]
theorem FD.p {S' : rvS} (hF : FR S (67 + 1) m) (hD : DR S 67 m) (f : rvf [77, 78] S S') : FR S' (67 + 1) m ∧ DR S' 67 m := by
  obtain ⟨a1, a2, a3, a4, a5, a6, a7, a8⟩ := hF
  obtain ⟨c1, c2, c3, c4, c5, c6, c7⟩ := hD
  have k : ∀ a, a ∈ [67, 68, 69, 70, 71, 73, 74, 84, 85, 86] → ∀ j, S'.2.1 a j = S.2.1 a j := fun a ha j => by
    simp only [List.mem_cons, List.not_mem_nil, or_false] at ha
    rcases ha with rfl | rfl | rfl | rfl | rfl | rfl | rfl | rfl | rfl | rfl <;> exact f.row rfl rfl j
  exact ⟨⟨(k 68 (by decide) _).trans a1, (k 68 (by decide) _).trans a2, (k 68 (by decide) _).trans a3, fun w h => (k 69 (by decide) w).trans (a4 w h), fun w h => (k 70 (by decide) w).trans (a5 w h), fun w h => (k 71 (by decide) w).trans (a6 w h), fun w h => (k 73 (by decide) w).trans (a7 w h), fun w h => (k 74 (by decide) w).trans (a8 w h)⟩, (k 67 (by decide) _).trans c1, (k 67 (by decide) _).trans c2, (k 67 (by decide) _).trans c3, (k 67 (by decide) _).trans c4, fun w h => (k 84 (by decide) w).trans (c5 w h), fun w h => (k 85 (by decide) w).trans (c6 w h), fun w h => (k 86 (by decide) w).trans (c7 w h)⟩
theorem cr_mvs {S' : rvS} (hR : CR S 67 m) (hk : okm m) (f : rvf [77, 78] S S') (hP : PR S' 75 (mvs m B b (vC m))) : CR S' 67 (mvs m B b (vC m)) := by
  obtain ⟨hF, -, hD⟩ := hR
  obtain ⟨q1, q2⟩ := FD.p hF hD f
  have hi : ∀ i, i ≤ 40 → ∀ k, 372 ≤ k → mvs m B b i k = m k := by
    intro i
    induction i with
    | zero => intro _ _ _; rfl
    | succ i ih =>
      intro h k hk
      rw [mvs]
      cases B i
      · rw [if_neg nft]; exact ih (by omega) k hk
      · rw [if_pos rfl, mv_hi (by omega) b k hk]; exact ih (by omega) k hk
  exact ⟨q1.c hk.1 (mvs_lo (vC m)), hP, q2.c hk.2.2.1 (mvs_lo (vC m)) (hi (vC m) hk.2.1.1)⟩
theorem op_settle (hn : 1100 ≤ n) (hV : VI S m wd) (hG : GV S) (x y z : Int32) : ∃ r S1 S' m', fnX12_settle n S 64 x y z = some (r, S1) ∧ fnX13_settle n S1 189 x y z = some (r, S') ∧ QD DG S S' m' wd ∧ GV S' := by
  obtain ⟨hB, hR, hL, hk, -⟩ := id hV
  have hC := CS_of hB
  rcases ok3 (n := n) hB hR hk x y z with ⟨a, b, X, ha, hb, h1, hX, rfl, rfl, rfl⟩ | ⟨u1, u2⟩
  · rcases k_exact hn hB hR hk ha hb h1 hX with ⟨t1, S1, e1, f1⟩ | ⟨t1, S1, e1, f1, g1, g2, g3⟩
    · have hB1 := f1.B hB
      have hL1 := hL.f f1 rfl rfl
      obtain ⟨S2, e2, f2, hM2, r2, b2⟩ := (m_exact hn hB1 hL1 hk ha hb h1 hX).1 t1
      have q := hR.f f1 (Or.inl rfl) (Or.inl rfl) (Or.inr (by decide)) (Or.inr (by decide)) (Or.inr (by decide))
      refine ⟨iM, S1, S2, m, ?_, ?_, QD.two hV f1 f2 rfl rfl rfl rfl q hM2 b2 hk rfl rfl r2, (hG.f f1 rfl rfl rfl rfl).f f2 rfl rfl rfl rfl⟩
      · rw [fnX12_settle, hC.1, Option.bind_some, e1, bp_s, if_pos (by decide)]
      · rw [fnX13_settle, rc_189 hB1, Option.bind_some, e2, bp_s, if_pos (by decide)]
    · have hB1 := f1.B hB
      have q := hR.f f1 (Or.inl rfl) (Or.inl rfl) (Or.inr (by decide)) (Or.inr (by decide)) (Or.inr (by decide))
      obtain ⟨S2, e2, f2, p2⟩ := k_moveAll (B := Bf (gz m a b) (va m) (vC m) X) hn hB1 q.2.1 hk hb
      have q2 := cr_mvs q hk f2 p2
      have hB2 := f2.B hB1
      have f12 : rvf [108, 109, 64012, 64013, 77, 78] S S2 := (f1.mono rfl).tr (f2.mono rfl)
      have hL2 := hL.f f12 rfl rfl
      obtain ⟨S3, e3, f3, hM3, r3, b3, g4, g5, g6⟩ := (m_exact hn hB2 hL2 hk ha hb h1 hX).2 t1
      have hB3 := f3.B hB2
      obtain ⟨S4, e4, f4, hM4, r4⟩ := m_giveAll hn hB3 hM3 hk hb g6
      have b40 := bs_64 (Bf (gz m a b) (va m) (vC m) X) hk.2.1.1
      have b4 : ¬ S4.2.1 189 22 = 0 := by rw [f4.at (a := 189) (k := 22) rfl]; exact b3
      have fz : rvf [189000, 189022, 191, 199, 200, 202, 201, 189028] S2 S4 := f3.tr (f4.mono rfl)
      refine ⟨nI (tb (gz m a b) (va m) (vC m) (vC m) X), S2, S4, mvs m (Bf (gz m a b) (va m) (vC m) X) b (vC m), ?_, ?_, QD.two hV f12 fz rfl rfl rfl rfl q2 hM4 b4 (mvs_ok hk hb _ (Nat.le_refl _)) (mvs_lo _ 0 (by decide)) (mvs_lo _ 6 (by decide)) (r3.tr r4), vC m, bs (Bf (gz m a b) (va m) (vC m) X) (vC m), hk.2.1.1, by omega, (fz.atL (a := 64) (k := 12) rfl).trans ((f2.atL (a := 64) (k := 12) rfl).trans g2), (fz.at (a := 64) (k := 13) rfl).trans ((f2.at (a := 64) (k := 13) rfl).trans g3), (f4.at (a := 189) (k := 28) rfl).trans g4, fun j hj => (f4.row rfl rfl j).trans ((g5 j hj).trans ?_)⟩
      · have hC1 := CS_of hB1
        have hVS1 := VS_of hB1 (show vb 67 from Or.inl rfl)
        have r5 := rf_of hB1 (show (64, 5, 108) ∈ rv_rf0 by decide)
        have hPS1 := PS_of hB1 (show pb 75 from Or.inl rfl)
        rw [fnX12_settle, hC.1, Option.bind_some, e1, bp_s]
        simp (disch := first | assumption | omega) only [tk_gI, tk_gL, tk_gR, tk_pI, tk_pL, rv_aI, rv_aL, rv_aR, rv_uI, rv_uL, rv_uB, rv_uZ, pu_ckI, pu_ckL, pu_lnI, pu_lnL, tk_rI, tk_rL, Option.bind_some, Option.map_some, rv_lt, tk_ix, z0, z1, z2, z3, z4, z5, z6, z7, z8, z9, z10, z11, z12, z13, z15, z16, z17, z18, z20, z21, z23, z24, z25, z31, z32, z39, z40, z41, z46, z48, z50, z57, z59, z60, z61, z62, z63, z64, z97, z98, z99, z100, z101, z102, z103, z104, z105, z106, z107, z108, z109, z110, z111, z112, z113, z114, z115, z116, z117, z118, z119, z120, z121, z122, z128, z132, z200, z240, z255, z372, z390625, z400, z420, z421, z422, z662, z900, z940, z999, z1000, z1024, z2000, z5860, z10000, z12345, z15625, z266240, z1048575, z1064960, z1103515245, z_m1, n_le, n_lt, n_eq, n_bit0, n_bit1, n_sbit0, n_shl, z_ltM, z_Mlt, z_leM, z_Mle, z_eqM, z_Meq, bI0, bI1, bI_01, bI_01t, bI_10, bI_10f, if_true, if_false, eq_self, reduceCtorEq, if_pos, if_neg, hC1, hVS1, hPS1, r5, rc_108 hB1, g1, e2, Nat.not_lt_zero]
      · rw [fnX13_settle, rc_189 hB2, Option.bind_some, e3, bp_s]
        simp (disch := first | assumption | omega) only [tk_gI, tk_gL, tk_gR, tk_pI, tk_pL, rv_aI, rv_aL, rv_aR, rv_uI, rv_uL, rv_uB, rv_uZ, pu_ckI, pu_ckL, pu_lnI, pu_lnL, tk_rI, tk_rL, Option.bind_some, Option.map_some, rv_lt, tk_ix, z0, z1, z2, z3, z4, z5, z6, z7, z8, z9, z10, z11, z12, z13, z15, z16, z17, z18, z20, z21, z23, z24, z25, z31, z32, z39, z40, z41, z46, z48, z50, z57, z59, z60, z61, z62, z63, z64, z97, z98, z99, z100, z101, z102, z103, z104, z105, z106, z107, z108, z109, z110, z111, z112, z113, z114, z115, z116, z117, z118, z119, z120, z121, z122, z128, z132, z200, z240, z255, z372, z390625, z400, z420, z421, z422, z662, z900, z940, z999, z1000, z1024, z2000, z5860, z10000, z12345, z15625, z266240, z1048575, z1064960, z1103515245, z_m1, n_le, n_lt, n_eq, n_bit0, n_bit1, n_sbit0, n_shl, z_ltM, z_Mlt, z_leM, z_Mle, z_eqM, z_Meq, bI0, bI1, bI_01, bI_01t, bI_10, bI_10f, if_true, if_false, eq_self, reduceCtorEq, if_pos, if_neg, rc_189 hB3, e4, Nat.not_lt_zero]
      · rw [bs_bit, decide_eq_true hj, Bool.true_and]
  · obtain ⟨S6, e6, hB6, f6, hM6, r6, b6⟩ := start_ok (n := n) (by omega) hB hL
    have q := QS.s0 hV f6 hM6 r6 b6
    refine ⟨-(nI 2), S, S6, m, ?_, ?_, q.dg, hG.v q⟩
    · rw [fnX12_settle, hC.1, Option.bind_some, u1, bp_s, if_pos (by decide)]
    · rw [fnX13_settle, rc_189 hB, Option.bind_some, u2 S S6 hB e6 hB6 hM6, bp_s, if_pos (by decide)]
/-! payable -/
theorem k_payable1 (hn : 1100 ≤ n) (hB : rv_B S) (hR : CR S 67 m) (hk : okm m) {a X : Nat} (ha : a < vW m) (h1 : 1 ≤ X) (hX : X ≤ 999) : ∃ S', cX12_payable_27 n n S 64 (nI a) (nI X) (nI 0) (nI 0) = some (nI (bs (fun w => decide (tb (gz m a w) (va m) (vC m) (vC m) X ≤ 40)) (vW m)), S') ∧ rvf [108, 109] S S' := by
  obtain ⟨hp, hc, hd⟩ := id hk
  have h24 := hp.1
  refine lp (F := fun q (x : rvS × Int32 × Int32) => cX12_payable_27 n q x.1 64 (nI a) (nI X) x.2.1 x.2.2) (fun i x => x.2 = (nI (bs (fun w => decide (tb (gz m a w) (va m) (vC m) (vC m) X ≤ 40)) i), nI i) ∧ rvf [108, 109] S x.1) (fun o => ∃ S', o = some (nI (bs (fun w => decide (tb (gz m a w) (va m) (vC m) (vC m) X ≤ 40)) (vW m)), S') ∧ rvf [108, 109] S S') (vW m) (fun i x q hi hx => Or.inr ?_) (fun x q hx => ?_) (i := 0) (x := (S, nI 0, nI 0)) (q := n) (Nat.zero_le _) ⟨rfl, rvf.rf _ _⟩ (by omega)
  · obtain ⟨S1, x1, x2⟩ := x
    obtain ⟨hx, f⟩ := hx
    obtain ⟨rfl, rfl⟩ := Prod.mk.inj hx
    have f : rvf [108, 109] S S1 := f
    have hB1 := f.B hB
    have q1 := hR.f f (Or.inl rfl) (Or.inl rfl) (Or.inr (by decide)) (Or.inr (by decide)) (Or.inr (by decide))
    obtain ⟨hF, hP, hD⟩ := id q1
    have hC := CS_of hB1
    have hv : vb 67 := Or.inl rfl
    have hVS := VS_of hB1 hv
    have hFS := FS_of hB1 hv.f
    have r5 := rf_of hB1 (show (64, 5, 108) ∈ rv_rf0 by decide)
    have b24 := bs_24 (fun w => decide (tb (gz m a w) (va m) (vC m) (vC m) X ≤ 40)) (k := i) (by omega)
    rcases k_choose hn hB1 hFS hF (show pb 75 from Or.inl rfl) hP hp hc ha hi h1 hX with ⟨t1, S2, e2, f2⟩ | ⟨t1, S2, e2, f2, -⟩
    · refine ⟨(S2, nI (bs (fun w => decide (tb (gz m a w) (va m) (vC m) (vC m) X ≤ 40)) i), nI (i + 1)), ?_, ?_, f.tr f2⟩
      · show cX12_payable_27 n (q + 1) S1 64 (nI a) (nI X) (nI (bs _ i)) (nI i) = cX12_payable_27 n q S2 64 (nI a) (nI X) (nI (bs _ i)) (nI (i + 1))
        rw [cX12_payable_27]
        simp (disch := first | assumption | omega) only [tk_gI, tk_gL, tk_gR, tk_pI, tk_pL, rv_aI, rv_aL, rv_aR, rv_uI, rv_uL, rv_uB, rv_uZ, pu_ckI, pu_ckL, pu_lnI, pu_lnL, tk_rI, tk_rL, Option.bind_some, Option.map_some, rv_lt, tk_ix, z0, z1, z2, z3, z4, z5, z6, z7, z8, z9, z10, z11, z12, z13, z15, z16, z17, z18, z20, z21, z23, z24, z25, z31, z32, z39, z40, z41, z46, z48, z50, z57, z59, z60, z61, z62, z63, z64, z97, z98, z99, z100, z101, z102, z103, z104, z105, z106, z107, z108, z109, z110, z111, z112, z113, z114, z115, z116, z117, z118, z119, z120, z121, z122, z128, z132, z200, z240, z255, z372, z390625, z400, z420, z421, z422, z662, z900, z940, z999, z1000, z1024, z2000, z5860, z10000, z12345, z15625, z266240, z1048575, z1064960, z1103515245, z_m1, n_le, n_lt, n_eq, n_bit0, n_bit1, n_sbit0, n_shl, z_ltM, z_Mlt, z_leM, z_Mle, z_eqM, z_Meq, bI0, bI1, bI_01, bI_01t, bI_10, bI_10f, if_true, if_false, eq_self, reduceCtorEq, if_pos, if_neg, hC, hVS, hFS, hF, r5, rc_108 hB1, e2, bp_s, nI_add, show (iM < nI 0) = True from eq_true (by decide)]
      · show (nI (bs _ i), nI (i + 1)) = (nI (bs _ (i + 1)), nI (i + 1))
        rw [bs_s, decide_eq_false (by omega), if_neg nft]
    · refine ⟨(S2, nI (bs (fun w => decide (tb (gz m a w) (va m) (vC m) (vC m) X ≤ 40)) (i + 1)), nI (i + 1)), ?_, rfl, f.tr f2⟩
      show cX12_payable_27 n (q + 1) S1 64 (nI a) (nI X) (nI (bs _ i)) (nI i) = cX12_payable_27 n q S2 64 (nI a) (nI X) (nI (bs _ (i + 1))) (nI (i + 1))
      rw [cX12_payable_27, bs_s, decide_eq_true t1, if_pos rfl]
      simp (disch := first | assumption | omega) only [tk_gI, tk_gL, tk_gR, tk_pI, tk_pL, rv_aI, rv_aL, rv_aR, rv_uI, rv_uL, rv_uB, rv_uZ, pu_ckI, pu_ckL, pu_lnI, pu_lnL, tk_rI, tk_rL, Option.bind_some, Option.map_some, rv_lt, tk_ix, z0, z1, z2, z3, z4, z5, z6, z7, z8, z9, z10, z11, z12, z13, z15, z16, z17, z18, z20, z21, z23, z24, z25, z31, z32, z39, z40, z41, z46, z48, z50, z57, z59, z60, z61, z62, z63, z64, z97, z98, z99, z100, z101, z102, z103, z104, z105, z106, z107, z108, z109, z110, z111, z112, z113, z114, z115, z116, z117, z118, z119, z120, z121, z122, z128, z132, z200, z240, z255, z372, z390625, z400, z420, z421, z422, z662, z900, z940, z999, z1000, z1024, z2000, z5860, z10000, z12345, z15625, z266240, z1048575, z1064960, z1103515245, z_m1, n_le, n_lt, n_eq, n_bit0, n_bit1, n_sbit0, n_shl, z_ltM, z_Mlt, z_leM, z_Mle, z_eqM, z_Meq, bI0, bI1, bI_01, bI_01t, bI_10, bI_10f, if_true, if_false, eq_self, reduceCtorEq, if_pos, if_neg, hC, hVS, hFS, hF, r5, rc_108 hB1, e2, bp_s, nI_add, fa_or, Nat.not_lt_zero]
  · obtain ⟨S1, x1, x2⟩ := x
    obtain ⟨hx, f⟩ := hx
    obtain ⟨rfl, rfl⟩ := Prod.mk.inj hx
    have f : rvf [108, 109] S S1 := f
    have hB1 := f.B hB
    have q1 := hR.f f (Or.inl rfl) (Or.inl rfl) (Or.inr (by decide)) (Or.inr (by decide)) (Or.inr (by decide))
    obtain ⟨hF, hP, hD⟩ := id q1
    have hC := CS_of hB1
    have hv : vb 67 := Or.inl rfl
    have hVS := VS_of hB1 hv
    have hFS := FS_of hB1 hv.f
    refine ⟨S1, ?_, f⟩
    show cX12_payable_27 n (q + 1) S1 64 (nI a) (nI X) (nI (bs _ (vW m))) (nI (vW m)) = _
    rw [cX12_payable_27]
    simp (disch := first | assumption | omega) only [tk_gI, tk_gL, tk_gR, tk_pI, tk_pL, rv_aI, rv_aL, rv_aR, rv_uI, rv_uL, rv_uB, rv_uZ, pu_ckI, pu_ckL, pu_lnI, pu_lnL, tk_rI, tk_rL, Option.bind_some, Option.map_some, rv_lt, tk_ix, z0, z1, z2, z3, z4, z5, z6, z7, z8, z9, z10, z11, z12, z13, z15, z16, z17, z18, z20, z21, z23, z24, z25, z31, z32, z39, z40, z41, z46, z48, z50, z57, z59, z60, z61, z62, z63, z64, z97, z98, z99, z100, z101, z102, z103, z104, z105, z106, z107, z108, z109, z110, z111, z112, z113, z114, z115, z116, z117, z118, z119, z120, z121, z122, z128, z132, z200, z240, z255, z372, z390625, z400, z420, z421, z422, z662, z900, z940, z999, z1000, z1024, z2000, z5860, z10000, z12345, z15625, z266240, z1048575, z1064960, z1103515245, z_m1, n_le, n_lt, n_eq, n_bit0, n_bit1, n_sbit0, n_shl, z_ltM, z_Mlt, z_leM, z_Mle, z_eqM, z_Meq, bI0, bI1, bI_01, bI_01t, bI_10, bI_10f, if_true, if_false, eq_self, reduceCtorEq, if_pos, if_neg, hC, hVS, hFS, hF]
theorem m_payable1 (hn : 1100 ≤ n) (hB : rv_B S) (hM : MR S m) (hk : okm m) {a X : Nat} (ha : a < vW m) (hX : X ≤ 999) : ∃ S', cX13_payable_32 n n S 189 (nI a) (nI X) (nI 0) (nI 0) = some (nI (bs (fun w => decide (tb (gz m a w) (va m) (vC m) (vC m) X ≤ 40)) (vW m)), S') ∧ rvf [199, 200, 202] S S' := by
  obtain ⟨hp, hc, hd⟩ := id hk
  have h24 := hp.1
  refine lp (F := fun q (x : rvS × Int32 × Int32) => cX13_payable_32 n q x.1 189 (nI a) (nI X) x.2.1 x.2.2) (fun i x => x.2 = (nI (bs (fun w => decide (tb (gz m a w) (va m) (vC m) (vC m) X ≤ 40)) i), nI i) ∧ rvf [199, 200, 202] S x.1) (fun o => ∃ S', o = some (nI (bs (fun w => decide (tb (gz m a w) (va m) (vC m) (vC m) X ≤ 40)) (vW m)), S') ∧ rvf [199, 200, 202] S S') (vW m) (fun i x q hi hx => Or.inr ?_) (fun x q hx => ?_) (i := 0) (x := (S, nI 0, nI 0)) (q := n) (Nat.zero_le _) ⟨rfl, rvf.rf _ _⟩ (by omega)
  · obtain ⟨S1, x1, x2⟩ := x
    obtain ⟨hx, f⟩ := hx
    obtain ⟨rfl, rfl⟩ := Prod.mk.inj hx
    have f : rvf [199, 200, 202] S S1 := f
    have hB1 := f.B hB
    have hM1 := hM.f f rfl
    have b24 := bs_24 (fun w => decide (tb (gz m a w) (va m) (vC m) (vC m) X ≤ 40)) (k := i) (by omega)
    obtain ⟨y1, y2⟩ := m_exactOf hn hB1 hM1 hp hc ha hi hX
    rcases few (e := gz m a i) (d := va m) hc.1 hX with ⟨t1, -⟩ | ⟨t1, -⟩
    · obtain ⟨S2, e2, f2⟩ := y1 t1
      refine ⟨(S2, nI (bs (fun w => decide (tb (gz m a w) (va m) (vC m) (vC m) X ≤ 40)) i), nI (i + 1)), ?_, ?_, f.tr f2⟩
      · show cX13_payable_32 n (q + 1) S1 189 (nI a) (nI X) (nI (bs _ i)) (nI i) = cX13_payable_32 n q S2 189 (nI a) (nI X) (nI (bs _ i)) (nI (i + 1))
        rw [cX13_payable_32]
        simp (disch := first | assumption | omega) only [tk_gI, tk_gL, tk_gR, tk_pI, tk_pL, rv_aI, rv_aL, rv_aR, rv_uI, rv_uL, rv_uB, rv_uZ, pu_ckI, pu_ckL, pu_lnI, pu_lnL, tk_rI, tk_rL, Option.bind_some, Option.map_some, rv_lt, tk_ix, z0, z1, z2, z3, z4, z5, z6, z7, z8, z9, z10, z11, z12, z13, z15, z16, z17, z18, z20, z21, z23, z24, z25, z31, z32, z39, z40, z41, z46, z48, z50, z57, z59, z60, z61, z62, z63, z64, z97, z98, z99, z100, z101, z102, z103, z104, z105, z106, z107, z108, z109, z110, z111, z112, z113, z114, z115, z116, z117, z118, z119, z120, z121, z122, z128, z132, z200, z240, z255, z372, z390625, z400, z420, z421, z422, z662, z900, z940, z999, z1000, z1024, z2000, z5860, z10000, z12345, z15625, z266240, z1048575, z1064960, z1103515245, z_m1, n_le, n_lt, n_eq, n_bit0, n_bit1, n_sbit0, n_shl, z_ltM, z_Mlt, z_leM, z_Mle, z_eqM, z_Meq, bI0, bI1, bI_01, bI_01t, bI_10, bI_10f, if_true, if_false, eq_self, reduceCtorEq, if_pos, if_neg, rc_189 hB1, m_whos hB1 hM1, e2, bp_s, nI_add, show (iM < nI 0) = True from eq_true (by decide)]
      · show (nI (bs _ i), nI (i + 1)) = (nI (bs _ (i + 1)), nI (i + 1))
        rw [bs_s, decide_eq_false (by omega), if_neg nft]
    · obtain ⟨S2, e2, f2, -⟩ := y2 (by omega)
      refine ⟨(S2, nI (bs (fun w => decide (tb (gz m a w) (va m) (vC m) (vC m) X ≤ 40)) (i + 1)), nI (i + 1)), ?_, rfl, f.tr f2⟩
      show cX13_payable_32 n (q + 1) S1 189 (nI a) (nI X) (nI (bs _ i)) (nI i) = cX13_payable_32 n q S2 189 (nI a) (nI X) (nI (bs _ (i + 1))) (nI (i + 1))
      rw [cX13_payable_32, bs_s, decide_eq_true t1, if_pos rfl]
      simp (disch := first | assumption | omega) only [tk_gI, tk_gL, tk_gR, tk_pI, tk_pL, rv_aI, rv_aL, rv_aR, rv_uI, rv_uL, rv_uB, rv_uZ, pu_ckI, pu_ckL, pu_lnI, pu_lnL, tk_rI, tk_rL, Option.bind_some, Option.map_some, rv_lt, tk_ix, z0, z1, z2, z3, z4, z5, z6, z7, z8, z9, z10, z11, z12, z13, z15, z16, z17, z18, z20, z21, z23, z24, z25, z31, z32, z39, z40, z41, z46, z48, z50, z57, z59, z60, z61, z62, z63, z64, z97, z98, z99, z100, z101, z102, z103, z104, z105, z106, z107, z108, z109, z110, z111, z112, z113, z114, z115, z116, z117, z118, z119, z120, z121, z122, z128, z132, z200, z240, z255, z372, z390625, z400, z420, z421, z422, z662, z900, z940, z999, z1000, z1024, z2000, z5860, z10000, z12345, z15625, z266240, z1048575, z1064960, z1103515245, z_m1, n_le, n_lt, n_eq, n_bit0, n_bit1, n_sbit0, n_shl, z_ltM, z_Mlt, z_leM, z_Mle, z_eqM, z_Meq, bI0, bI1, bI_01, bI_01t, bI_10, bI_10f, if_true, if_false, eq_self, reduceCtorEq, if_pos, if_neg, rc_189 hB1, m_whos hB1 hM1, e2, bp_s, nI_add, fa_or, Nat.not_lt_zero]
  · obtain ⟨S1, x1, x2⟩ := x
    obtain ⟨hx, f⟩ := hx
    obtain ⟨rfl, rfl⟩ := Prod.mk.inj hx
    have f : rvf [199, 200, 202] S S1 := f
    have hB1 := f.B hB
    have hM1 := hM.f f rfl
    refine ⟨S1, ?_, f⟩
    show cX13_payable_32 n (q + 1) S1 189 (nI a) (nI X) (nI (bs _ (vW m))) (nI (vW m)) = _
    rw [cX13_payable_32]
    simp (disch := first | assumption | omega) only [tk_gI, tk_gL, tk_gR, tk_pI, tk_pL, rv_aI, rv_aL, rv_aR, rv_uI, rv_uL, rv_uB, rv_uZ, pu_ckI, pu_ckL, pu_lnI, pu_lnL, tk_rI, tk_rL, Option.bind_some, Option.map_some, rv_lt, tk_ix, z0, z1, z2, z3, z4, z5, z6, z7, z8, z9, z10, z11, z12, z13, z15, z16, z17, z18, z20, z21, z23, z24, z25, z31, z32, z39, z40, z41, z46, z48, z50, z57, z59, z60, z61, z62, z63, z64, z97, z98, z99, z100, z101, z102, z103, z104, z105, z106, z107, z108, z109, z110, z111, z112, z113, z114, z115, z116, z117, z118, z119, z120, z121, z122, z128, z132, z200, z240, z255, z372, z390625, z400, z420, z421, z422, z662, z900, z940, z999, z1000, z1024, z2000, z5860, z10000, z12345, z15625, z266240, z1048575, z1064960, z1103515245, z_m1, n_le, n_lt, n_eq, n_bit0, n_bit1, n_sbit0, n_shl, z_ltM, z_Mlt, z_leM, z_Mle, z_eqM, z_Meq, bI0, bI1, bI_01, bI_01t, bI_10, bI_10f, if_true, if_false, eq_self, reduceCtorEq, if_pos, if_neg, rc_189 hB1, m_whos hB1 hM1]
end
