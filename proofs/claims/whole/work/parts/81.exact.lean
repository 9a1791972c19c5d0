/-! EXACT: the class's weights -/
section
variable {n : Nat} {S : rvS} {m m' : Nat → Nat} {e : Nat → Bool} {d : Nat → Nat}
theorem m_lt {a b : Nat} (ha : a < 9223372036854775808) (hb : b < 9223372036854775808) : (lN a < lN b) = (a < b) := by
  rw [eq_iff_iff, Int64.lt_iff_toInt_lt, pf_lI ha, pf_lI hb]
  exact Int.ofNat_lt
theorem m_max {a b : Nat} (ha : a < 9223372036854775808) (hb : b < 9223372036854775808) : (if lN a < lN b then lN b else lN a) = lN (max b a) := by
  simp only [m_lt ha hb]
  by_cases h : a < b
  · rw [if_pos h, Nat.max_eq_left (by omega)]
  · rw [if_neg h, Nat.max_eq_right (by omega)]
theorem rvf.wL {D : List Nat} {S S0 : rvS} {a k : Nat} {v : Int64} (h : rvf D S S0) (ha : rwb a = true) (hd : D.elem a = true) : rvf D S (rv_sL S0 a k v) := h.tr ((rvf.sLr S0 k v ha).mono (by rw [List.all_cons, hd]; rfl))
/-- the class's row of weights -/
def WR (S : rvS) (f : Nat → Nat) (X : Nat) : Prop := ∀ x, x ≤ X → S.2.2.1 109 x = lN (f x)
theorem k_startAt (hn : 1100 ≤ n) (hB : rv_B S) {X : Nat} (hX : X ≤ 999) : ∃ S', fnX5_startAt n S 109 (nI X) = some S' ∧ rvf [109] S S' ∧ WR S' (Lf e d 0) X := by
  rw [fnX5_startAt]
  refine lp (F := fun q (x : rvS × Int32) => cX5_startAt_2 n q x.1 109 (nI X) x.2) (fun i x => 1 ≤ i ∧ x.2 = nI i ∧ rvf [109] S x.1 ∧ ∀ j, 1 ≤ j → j < i → x.1.2.2.1 109 j = lN 0) (fun o => ∃ S', o = some S' ∧ rvf [109] S S' ∧ WR S' (Lf e d 0) X) (X + 1) (fun i x q hi hx => Or.inr ?_) (fun x q hx => ?_) (i := 1) (x := (S, nI 1)) (q := n) (by omega) ⟨Nat.le_refl _, rfl, rvf.rf _ _, fun j h1 h2 => absurd h2 (by omega)⟩ (by omega)
  · obtain ⟨S1, x2⟩ := x
    obtain ⟨h0, rfl, f, g⟩ := hx
    have f : rvf [109] S S1 := f
    have hB1 := f.B hB
    refine ⟨(rv_sL S1 109 i (lN 0), nI (i + 1)), ?_, by omega, rfl, f.wL rfl rfl, fun j h1 h2 => ?_⟩
    · show cX5_startAt_2 n (q + 1) S1 109 (nI X) (nI i) = cX5_startAt_2 n q _ 109 (nI X) (nI (i + 1))
      rw [cX5_startAt_2]
      simp (disch := first | assumption | omega) only [tk_gI, tk_gL, tk_gR, tk_pI, tk_pL, rv_aI, rv_aL, rv_aR, rv_uI, rv_uL, rv_uB, rv_uZ, pu_ckI, pu_ckL, pu_lnI, pu_lnL, tk_rI, tk_rL, Option.bind_some, Option.map_some, rv_lt, tk_ix, z0, z1, z2, z3, z4, z5, z6, z7, z8, z9, z10, z11, z12, z13, z15, z16, z17, z18, z20, z21, z23, z24, z25, z31, z32, z39, z40, z41, z46, z48, z50, z57, z59, z60, z61, z62, z63, z64, z97, z98, z99, z100, z101, z102, z103, z104, z105, z106, z107, z108, z109, z110, z111, z112, z113, z114, z115, z116, z117, z118, z119, z120, z121, z122, z128, z132, z200, z240, z255, z372, z390625, z400, z420, z421, z422, z662, z900, z940, z999, z1000, z1024, z2000, z5860, z10000, z12345, z15625, z266240, z1048575, z1064960, z1103515245, z_m1, y0, y1, y27, y63, y96, y1099511627776, y69269232549888, n_le, n_lt, n_eq, n_bit0, n_bit1, n_sbit0, n_shl, z_ltM, z_Mlt, z_leM, z_Mle, z_eqM, z_Meq, bI0, bI1, bI_01, bI_01t, bI_10, bI_10f, if_true, if_false, eq_self, reduceCtorEq, if_pos, if_neg, rn_109 hB1, nI_add, show Int32.ofNat 1000 = nI 1000 from rfl]
    · show (rv_sL S1 109 i (lN 0)).2.2.1 109 j = _
      by_cases c : j = i
      · subst c; exact rv_sL_eq _ _ _ _
      · rw [rv_sL_k _ _ c]; exact g j h1 (by omega)
  · obtain ⟨S1, x2⟩ := x
    obtain ⟨h0, rfl, f, g⟩ := hx
    have f : rvf [109] S S1 := f
    have hB1 := f.B hB
    refine ⟨rv_sL S1 109 0 (lN 69269232549888), ?_, f.wL rfl rfl, fun j hj => ?_⟩
    · show cX5_startAt_2 n (q + 1) S1 109 (nI X) (nI (X + 1)) = _
      rw [cX5_startAt_2]
      simp (disch := first | assumption | omega) only [tk_gI, tk_gL, tk_gR, tk_pI, tk_pL, rv_aI, rv_aL, rv_aR, rv_uI, rv_uL, rv_uB, rv_uZ, pu_ckI, pu_ckL, pu_lnI, pu_lnL, tk_rI, tk_rL, Option.bind_some, Option.map_some, rv_lt, tk_ix, z0, z1, z2, z3, z4, z5, z6, z7, z8, z9, z10, z11, z12, z13, z15, z16, z17, z18, z20, z21, z23, z24, z25, z31, z32, z39, z40, z41, z46, z48, z50, z57, z59, z60, z61, z62, z63, z64, z97, z98, z99, z100, z101, z102, z103, z104, z105, z106, z107, z108, z109, z110, z111, z112, z113, z114, z115, z116, z117, z118, z119, z120, z121, z122, z128, z132, z200, z240, z255, z372, z390625, z400, z420, z421, z422, z662, z900, z940, z999, z1000, z1024, z2000, z5860, z10000, z12345, z15625, z266240, z1048575, z1064960, z1103515245, z_m1, y0, y1, y27, y63, y96, y1099511627776, y69269232549888, n_le, n_lt, n_eq, n_bit0, n_bit1, n_sbit0, n_shl, z_ltM, z_Mlt, z_leM, z_Mle, z_eqM, z_Meq, bI0, bI1, bI_01, bI_01t, bI_10, bI_10f, if_true, if_false, eq_self, reduceCtorEq, if_pos, if_neg, rn_109 hB1, nI_add]
    · by_cases c : j = 0
      · subst c; rw [rv_sL_eq]; rfl
      · rw [rv_sL_k _ _ c, show Lf e d 0 j = 0 from if_neg c]
        exact g j (by omega) (by omega)
theorem k_heavier {w i : Nat} (hi : i < 40) (h : w < 140737488355328) (h2 : w = 0 ∨ 1099511627776 ≤ w) : fnX5_heavier n S (lN w) (nI i) = some (lN (hvy i w)) := by
  rw [fnX5_heavier, hvy]
  simp (disch := first | assumption | omega) only [z0, z1, z2, z3, z4, z5, z6, z7, z8, z9, z10, z11, z12, z13, z15, z16, z17, z18, z20, z21, z23, z24, z25, z31, z32, z39, z40, z41, z46, z48, z50, z57, z59, z60, z61, z62, z63, z64, z97, z98, z99, z100, z101, z102, z103, z104, z105, z106, z107, z108, z109, z110, z111, z112, z113, z114, z115, z116, z117, z118, z119, z120, z121, z122, z128, z132, z200, z240, z255, z372, z390625, z400, z420, z421, z422, z662, z900, z940, z999, z1000, z1024, z2000, z5860, z10000, z12345, z15625, z266240, z1048575, z1064960, z1103515245, z_m1, y0, y1, y27, y63, y96, y1099511627776, y69269232549888, m_cmp]
  by_cases c : w = 0
  · rw [if_pos c, if_pos c]
  · rw [if_neg c, if_neg c]
    simp (disch := first | assumption | omega) only [z_sub, m_shl, lN_add]
    rw [lN_sub (by omega), lN_add]
theorem hvy_lt {w i : Nat} (hi : i < 40) (h : w < 140737488355328) : hvy i w < 281474976710656 := by
  have : 2 ^ (39 - i) ≤ 2 ^ 39 := Nat.pow_le_pow_right (by decide) (by omega)
  rw [hvy]
  split <;> omega
theorem k_addCoin (hn : 1100 ≤ n) (hB : rv_B S) {X i v : Nat} {f : Nat → Nat} (hX : X ≤ 999) (h1 : 1 ≤ v) (h99 : v ≤ 99) (hi : i < 40) (hf : ∀ x, f x < 140737488355328 ∧ (f x = 0 ∨ 1099511627776 ≤ f x)) (hW : WR S f X) : ∃ S', fnX5_addCoin n S 108 (nI i) (nI v) (nI X) = some S' ∧ rvf [109] S S' ∧ WR S' (fun x => if v ≤ x then max (f x) (hvy i (f (x - v))) else f x) X := by
  rw [fnX5_addCoin]
  refine lp (F := fun q (x : rvS × Int32) => cX5_addCoin_3 n q x.1 108 (nI i) (nI v) x.2) (fun j x => (j ≤ X → x.2 = nI (X - j)) ∧ rvf [109] S x.1 ∧ ∀ y, y ≤ X → x.1.2.2.1 109 y = lN (if X < y + j ∧ v ≤ y then max (f y) (hvy i (f (y - v))) else f y)) (fun o => ∃ S', o = some S' ∧ rvf [109] S S' ∧ WR S' (fun x => if v ≤ x then max (f x) (hvy i (f (x - v))) else f x) X) (X + 1 - v) (fun j x q hj hx => Or.inr ?_) (fun x q hx => ?_) (i := 0) (x := (S, nI X)) (q := n) (by omega) ⟨fun _ => rfl, rvf.rf _ _, fun y hy => by rw [if_neg (by omega)]; exact hW y hy⟩ (by omega)
  · obtain ⟨S1, x2⟩ := x
    obtain ⟨h0, fr, g⟩ := hx
    have h0 : x2 = nI (X - j) := h0 (by omega)
    subst h0
    have fr : rvf [109] S S1 := fr
    have hB1 := fr.B hB
    have g1 : S1.2.2.1 109 (X - j) = lN (f (X - j)) := (g (X - j) (by omega)).trans (by rw [if_neg (by omega)])
    have g2 : S1.2.2.1 109 (X - j - v) = lN (f (X - j - v)) := (g (X - j - v) (by omega)).trans (by rw [if_neg (by omega)])
    have hv1 := hf (X - j)
    have hv2 := hf (X - j - v)
    have hl := hvy_lt hi hv2.1
    refine ⟨(rv_sL S1 109 (X - j) (lN (max (f (X - j)) (hvy i (f (X - j - v))))), nI (X - (j + 1))), ?_, fun _ => rfl, fr.wL rfl rfl, fun y hy => ?_⟩
    · show cX5_addCoin_3 n (q + 1) S1 108 (nI i) (nI v) (nI (X - j)) = cX5_addCoin_3 n q _ 108 (nI i) (nI v) (nI (X - (j + 1)))
      have e1 : nI (X - j) + iM = nI (X - (j + 1)) := by
        rw [← z_m1, ← Int32.sub_eq_add_neg, z_sub (by omega), Nat.sub_sub]
      rw [cX5_addCoin_3]
      simp (disch := first | assumption | omega) only [tk_gI, tk_gL, tk_gR, tk_pI, tk_pL, rv_aI, rv_aL, rv_aR, rv_uI, rv_uL, rv_uB, rv_uZ, pu_ckI, pu_ckL, pu_lnI, pu_lnL, tk_rI, tk_rL, Option.bind_some, Option.map_some, rv_lt, tk_ix, z0, z1, z2, z3, z4, z5, z6, z7, z8, z9, z10, z11, z12, z13, z15, z16, z17, z18, z20, z21, z23, z24, z25, z31, z32, z39, z40, z41, z46, z48, z50, z57, z59, z60, z61, z62, z63, z64, z97, z98, z99, z100, z101, z102, z103, z104, z105, z106, z107, z108, z109, z110, z111, z112, z113, z114, z115, z116, z117, z118, z119, z120, z121, z122, z128, z132, z200, z240, z255, z372, z390625, z400, z420, z421, z422, z662, z900, z940, z999, z1000, z1024, z2000, z5860, z10000, z12345, z15625, z266240, z1048575, z1064960, z1103515245, z_m1, y0, y1, y27, y63, y96, y1099511627776, y69269232549888, n_le, n_lt, n_eq, n_bit0, n_bit1, n_sbit0, n_shl, z_ltM, z_Mlt, z_leM, z_Mle, z_eqM, z_Meq, bI0, bI1, bI_01, bI_01t, bI_10, bI_10f, if_true, if_false, eq_self, reduceCtorEq, if_pos, if_neg, z_m1, rg_108_0 hB1, rf_of hB1 (show (108, 0, 109) ∈ rv_rf0 by decide), rc_108 hB1, rn_109 hB1, z_sub, g1, g2, k_heavier hi hv2.1 hv2.2, m_max, e1]
    · show (rv_sL S1 109 (X - j) _).2.2.1 109 y = _
      by_cases c : y = X - j
      · subst c; rw [rv_sL_eq, if_pos ⟨by omega, by omega⟩]
      · rw [rv_sL_k _ _ c]
        refine (g y hy).trans (congrArg lN ?_)
        by_cases c2 : X < y + j ∧ v ≤ y
        · rw [if_pos c2, if_pos ⟨by omega, c2.2⟩]
        · rw [if_neg c2, if_neg (by omega)]
  · obtain ⟨S1, x2⟩ := x
    obtain ⟨h0, fr, g⟩ := hx
    have fr : rvf [109] S S1 := fr
    refine ⟨S1, ?_, fr, fun y hy => (g y hy).trans (congrArg lN ?_)⟩
    · have h0 : x2 = nI (X - (X + 1 - v)) := h0 (by omega)
      subst h0
      show cX5_addCoin_3 n (q + 1) S1 108 (nI i) (nI v) (nI (X - (X + 1 - v))) = _
      rw [cX5_addCoin_3]
      rw [if_pos]
      rw [n_lt (by omega) (by omega)]
      omega
    · by_cases c : v ≤ y
      · rw [if_pos ⟨by omega, c⟩]; exact (if_pos c).symm
      · rw [if_neg (fun z => c z.2)]; exact (if_neg c).symm
/-- the weight's coins, taken out -/
theorem k_take (hn : 1100 ≤ n) (hB : rv_B S) {w : Nat} (hw : w < 140737488355328) (h0 : ¬ w = 0) : ∃ S', fnX5_take n S 108 (lN w) = some (nI (fb_ct (fun k => w.testBit (39 - k)) 40), S') ∧ rvf [108] S S' ∧ S'.2.2.1 108 2 = lN (bs (fun k => w.testBit (39 - k)) 40) := by
  have hC := rc_108 hB
  rw [fnX5_take]
  simp (disch := first | assumption | omega) only [tk_gI, tk_gL, tk_gR, tk_pI, tk_pL, rv_aI, rv_aL, rv_aR, rv_uI, rv_uL, rv_uB, rv_uZ, pu_ckI, pu_ckL, pu_lnI, pu_lnL, tk_rI, tk_rL, Option.bind_some, Option.map_some, rv_lt, tk_ix, z0, z1, z2, z3, z4, z5, z6, z7, z8, z9, z10, z11, z12, z13, z15, z16, z17, z18, z20, z21, z23, z24, z25, z31, z32, z39, z40, z41, z46, z48, z50, z57, z59, z60, z61, z62, z63, z64, z97, z98, z99, z100, z101, z102, z103, z104, z105, z106, z107, z108, z109, z110, z111, z112, z113, z114, z115, z116, z117, z118, z119, z120, z121, z122, z128, z132, z200, z240, z255, z372, z390625, z400, z420, z421, z422, z662, z900, z940, z999, z1000, z1024, z2000, z5860, z10000, z12345, z15625, z266240, z1048575, z1064960, z1103515245, z_m1, y0, y1, y27, y63, y96, y1099511627776, y69269232549888, m_cmp, hC, if_neg h0]
  refine lp (F := fun q (x : rvS × Int32) => cX5_take_15 n q x.1 108 (lN w) x.2) (fun i x => x.2 = nI i ∧ rvf [108] S x.1 ∧ x.1.2.2.1 108 2 = lN (bs (fun k => w.testBit (39 - k)) i)) (fun o => ∃ S', o = some (nI (fb_ct (fun k => w.testBit (39 - k)) 40), S') ∧ rvf [108] S S' ∧ S'.2.2.1 108 2 = lN (bs (fun k => w.testBit (39 - k)) 40)) 40 (fun i x q hi hx => Or.inr ?_) (fun x q hx => ?_) (i := 0) (x := (rv_sL S 108 2 (lN 0), nI 0)) (q := n) (by omega) ⟨rfl, (rvf.rf _ _).wL rfl rfl, rv_sL_eq _ _ _ _⟩ (by omega)
  · obtain ⟨S1, x2⟩ := x
    obtain ⟨rfl, fr, g⟩ := hx
    have fr : rvf [108] S S1 := fr
    have g : S1.2.2.1 108 2 = lN (bs (fun k => w.testBit (39 - k)) i) := g
    have hB1 := fr.B hB
    have hC1 := rc_108 hB1
    cases c : w.testBit (39 - i)
    · refine ⟨(S1, nI (i + 1)), ?_, rfl, fr, by rw [bs_s, c, if_neg nft]; exact g⟩
      show cX5_take_15 n (q + 1) S1 108 (lN w) (nI i) = cX5_take_15 n q S1 108 (lN w) (nI (i + 1))
      rw [cX5_take_15]
      simp (disch := first | assumption | omega) only [tk_gI, tk_gL, tk_gR, tk_pI, tk_pL, rv_aI, rv_aL, rv_aR, rv_uI, rv_uL, rv_uB, rv_uZ, pu_ckI, pu_ckL, pu_lnI, pu_lnL, tk_rI, tk_rL, Option.bind_some, Option.map_some, rv_lt, tk_ix, z0, z1, z2, z3, z4, z5, z6, z7, z8, z9, z10, z11, z12, z13, z15, z16, z17, z18, z20, z21, z23, z24, z25, z31, z32, z39, z40, z41, z46, z48, z50, z57, z59, z60, z61, z62, z63, z64, z97, z98, z99, z100, z101, z102, z103, z104, z105, z106, z107, z108, z109, z110, z111, z112, z113, z114, z115, z116, z117, z118, z119, z120, z121, z122, z128, z132, z200, z240, z255, z372, z390625, z400, z420, z421, z422, z662, z900, z940, z999, z1000, z1024, z2000, z5860, z10000, z12345, z15625, z266240, z1048575, z1064960, z1103515245, z_m1, y0, y1, y27, y63, y96, y1099511627776, y69269232549888, n_le, n_lt, n_eq, n_bit0, n_bit1, n_sbit0, n_shl, z_ltM, z_Mlt, z_leM, z_Mle, z_eqM, z_Meq, bI0, bI1, bI_01, bI_01t, bI_10, bI_10f, if_true, if_false, eq_self, reduceCtorEq, if_pos, if_neg, z_sub, n_l, m_bit2, c, nI_add]
    · refine ⟨(rv_sL S1 108 2 (lN (bs (fun k => w.testBit (39 - k)) i ||| 2 ^ i)), nI (i + 1)), ?_, rfl, fr.wL rfl rfl, by rw [bs_s, c, if_pos rfl]; exact rv_sL_eq _ _ _ _⟩
      show cX5_take_15 n (q + 1) S1 108 (lN w) (nI i) = cX5_take_15 n q _ 108 (lN w) (nI (i + 1))
      rw [cX5_take_15]
      simp (disch := first | assumption | omega) only [tk_gI, tk_gL, tk_gR, tk_pI, tk_pL, rv_aI, rv_aL, rv_aR, rv_uI, rv_uL, rv_uB, rv_uZ, pu_ckI, pu_ckL, pu_lnI, pu_lnL, tk_rI, tk_rL, Option.bind_some, Option.map_some, rv_lt, tk_ix, z0, z1, z2, z3, z4, z5, z6, z7, z8, z9, z10, z11, z12, z13, z15, z16, z17, z18, z20, z21, z23, z24, z25, z31, z32, z39, z40, z41, z46, z48, z50, z57, z59, z60, z61, z62, z63, z64, z97, z98, z99, z100, z101, z102, z103, z104, z105, z106, z107, z108, z109, z110, z111, z112, z113, z114, z115, z116, z117, z118, z119, z120, z121, z122, z128, z132, z200, z240, z255, z372, z390625, z400, z420, z421, z422, z662, z900, z940, z999, z1000, z1024, z2000, z5860, z10000, z12345, z15625, z266240, z1048575, z1064960, z1103515245, z_m1, y0, y1, y27, y63, y96, y1099511627776, y69269232549888, n_le, n_lt, n_eq, n_bit0, n_bit1, n_sbit0, n_shl, z_ltM, z_Mlt, z_leM, z_Mle, z_eqM, z_Meq, bI0, bI1, bI_01, bI_01t, bI_10, bI_10f, if_true, if_false, eq_self, reduceCtorEq, if_pos, if_neg, z_sub, n_l, m_bit2, c, nft, hC1, g, m_shl, m_shl2, fb_orL, nI_add]
  · obtain ⟨S1, x2⟩ := x
    obtain ⟨rfl, fr, g⟩ := hx
    have fr : rvf [108] S S1 := fr
    have g : S1.2.2.1 108 2 = lN (bs (fun k => w.testBit (39 - k)) 40) := g
    have hC1 := rc_108 (fr.B hB)
    have b40 := bs_64 (fun k => w.testBit (39 - k)) (Nat.le_refl 40)
    refine ⟨S1, ?_, fr, g⟩
    show cX5_take_15 n (q + 1) S1 108 (lN w) (nI 40) = _
    rw [cX5_take_15, cX5_take_52]
    simp (disch := first | assumption | omega) only [tk_gI, tk_gL, tk_gR, tk_pI, tk_pL, rv_aI, rv_aL, rv_aR, rv_uI, rv_uL, rv_uB, rv_uZ, pu_ckI, pu_ckL, pu_lnI, pu_lnL, tk_rI, tk_rL, Option.bind_some, Option.map_some, rv_lt, tk_ix, z0, z1, z2, z3, z4, z5, z6, z7, z8, z9, z10, z11, z12, z13, z15, z16, z17, z18, z20, z21, z23, z24, z25, z31, z32, z39, z40, z41, z46, z48, z50, z57, z59, z60, z61, z62, z63, z64, z97, z98, z99, z100, z101, z102, z103, z104, z105, z106, z107, z108, z109, z110, z111, z112, z113, z114, z115, z116, z117, z118, z119, z120, z121, z122, z128, z132, z200, z240, z255, z372, z390625, z400, z420, z421, z422, z662, z900, z940, z999, z1000, z1024, z2000, z5860, z10000, z12345, z15625, z266240, z1048575, z1064960, z1103515245, z_m1, y0, y1, y27, y63, y96, y1099511627776, y69269232549888, n_le, n_lt, n_eq, n_bit0, n_bit1, n_sbit0, n_shl, z_ltM, z_Mlt, z_leM, z_Mle, z_eqM, z_Meq, bI0, bI1, bI_01, bI_01t, bI_10, bI_10f, if_true, if_false, eq_self, reduceCtorEq, if_pos, if_neg, hC1, g, pc_64]
    rw [show 64 = 40 + 24 from rfl, fb_ct_split, fb_ct_cong (q := fun k => w.testBit (39 - k)) (n := 40) (fun k hk => by rw [bs_bit, decide_eq_true hk, Bool.true_and])]
    rw [show fb_ct (fun k => (bs (fun k => w.testBit (39 - k)) 40).testBit (40 + k)) 24 = 0 from fb_ct_zero.mpr fun k _ => by rw [bs_bit, decide_eq_false (by omega), Bool.false_and], Nat.add_zero]
theorem ct_cut (p : Nat → Bool) {N M : Nat} (h : N ≤ M) : fb_ct (fun k => decide (k < N) && p k) M = fb_ct p N := by
  rw [show M = N + (M - N) by omega, fb_ct_split, fb_ct_cong (q := p) (n := N) (fun k hk => by rw [decide_eq_true hk, Bool.true_and])]
  rw [show fb_ct (fun k => decide (N + k < N) && p (N + k)) (M - N) = 0 from fb_ct_zero.mpr fun k _ => by rw [decide_eq_false (by omega), Bool.false_and], Nat.add_zero]
theorem pb_r {p : Nat} (h : pb p) : ∀ i, i < 4 → rwb (p + i) = true ∧ [108, 109].elem (p + i) = false := by
  intro i hi
  have h4 : i = 0 ∨ i = 1 ∨ i = 2 ∨ i = 3 := by omega
  rcases h with rfl | rfl | rfl | rfl | rfl | rfl | rfl | rfl | rfl | rfl <;> rcases h4 with rfl | rfl | rfl | rfl <;> decide
theorem PR.x {p : Nat} {S' : rvS} (h : PR S p m) (hp : pb p) (f : rvf [108, 109] S S') : PR S' p m := by
  have k : ∀ i, i < 4 → ∀ j, S'.2.1 (p + i) j = S.2.1 (p + i) j := fun i hi j => f.row (pb_r hp i hi).1 (pb_r hp i hi).2 j
  obtain ⟨b1, b2, b3, b4, b5⟩ := h
  exact ⟨(k 0 (by decide) 0).trans b1, (k 0 (by decide) 1).trans b2, fun w h => (k 1 (by decide) w).trans (b3 w h), fun w h => (k 2 (by decide) w).trans (b4 w h), fun w h => (k 3 (by decide) w).trans (b5 w h)⟩
/-- the coins of a that go to b -/
abbrev gz (m : Nat → Nat) (a b : Nat) : Nat → Bool := fun c => decide (ow m c = a) && decide (wy m a (rl m c) b = 0)
theorem k_choose1 (hn : 1100 ≤ n) (hB : rv_B S) {p : Nat} (hpb : pb p) (hPR : PR S p m) (hc : okc m) {X : Nat} (hX : X ≤ 999) (hW : WR S (Lf e (va m) 0) X) : ∃ S', cX5_choose_38 n n S 108 p (nI X) (lN (bs e (vC m))) (nI 0) = rv_bp (fnX5_take n S' 108 (lN (Lf e (va m) (vC m) X))) (fun x S => some (x, S)) ∧ rvf [108, 109] S S' := by
  have h40 := hc.1
  have b40 := bs_64 e h40
  refine lp (F := fun q (x : rvS × Int32) => cX5_choose_38 n q x.1 108 p (nI X) (lN (bs e (vC m))) x.2) (fun i x => x.2 = nI i ∧ rvf [108, 109] S x.1 ∧ WR x.1 (Lf e (va m) i) X) (fun o => ∃ S', o = rv_bp (fnX5_take n S' 108 (lN (Lf e (va m) (vC m) X))) (fun x S => some (x, S)) ∧ rvf [108, 109] S S') (vC m) (fun i x q hi hx => Or.inr ?_) (fun x q hx => ?_) (i := 0) (x := (S, nI 0)) (q := n) (Nat.zero_le _) ⟨rfl, rvf.rf _ _, hW⟩ (by omega)
  · obtain ⟨S1, x2⟩ := x
    obtain ⟨rfl, fr, g⟩ := hx
    have fr : rvf [108, 109] S S1 := fr
    have g : WR S1 (Lf e (va m) i) X := g
    have hB1 := fr.B hB
    have hP1 := hPR.x hpb fr
    have hPS := PS_of hB1 hpb
    obtain ⟨v1, v2, -⟩ := hc.2.2 i hi
    cases c : e i
    · refine ⟨(S1, nI (i + 1)), ?_, rfl, fr, fun x hx => ?_⟩
      · show cX5_choose_38 n (q + 1) S1 108 p (nI X) (lN (bs e (vC m))) (nI i) = cX5_choose_38 n q S1 108 p (nI X) (lN (bs e (vC m))) (nI (i + 1))
        rw [cX5_choose_38]
        simp (disch := first | assumption | omega) only [tk_gI, tk_gL, tk_gR, tk_pI, tk_pL, rv_aI, rv_aL, rv_aR, rv_uI, rv_uL, rv_uB, rv_uZ, pu_ckI, pu_ckL, pu_lnI, pu_lnL, tk_rI, tk_rL, Option.bind_some, Option.map_some, rv_lt, tk_ix, z0, z1, z2, z3, z4, z5, z6, z7, z8, z9, z10, z11, z12, z13, z15, z16, z17, z18, z20, z21, z23, z24, z25, z31, z32, z39, z40, z41, z46, z48, z50, z57, z59, z60, z61, z62, z63, z64, z97, z98, z99, z100, z101, z102, z103, z104, z105, z106, z107, z108, z109, z110, z111, z112, z113, z114, z115, z116, z117, z118, z119, z120, z121, z122, z128, z132, z200, z240, z255, z372, z390625, z400, z420, z421, z422, z662, z900, z940, z999, z1000, z1024, z2000, z5860, z10000, z12345, z15625, z266240, z1048575, z1064960, z1103515245, z_m1, y0, y1, y27, y63, y96, y1099511627776, y69269232549888, n_le, n_lt, n_eq, n_bit0, n_bit1, n_sbit0, n_shl, z_ltM, z_Mlt, z_leM, z_Mle, z_eqM, z_Meq, bI0, bI1, bI_01, bI_01t, bI_10, bI_10f, if_true, if_false, eq_self, reduceCtorEq, if_pos, if_neg, hPS, hP1, m_bit0, m_bit2, n_l, bs_bit, c, Bool.and_false, nI_add]
      · show S1.2.2.1 109 x = lN (Lf e (va m) (i + 1) x)
        rw [Lf, if_neg (by rw [c]; exact fun z => nft z.1)]
        exact g x hx
    · obtain ⟨S2, e2, f2, g2⟩ := k_addCoin hn hB1 hX v1 v2 (i := i) (by omega) (fun x => Lf_cap (e := e) (d := va m) (i := i) (by omega) x) g
      refine ⟨(S2, nI (i + 1)), ?_, rfl, fr.tr (f2.mono rfl), fun x hx => ?_⟩
      · show cX5_choose_38 n (q + 1) S1 108 p (nI X) (lN (bs e (vC m))) (nI i) = cX5_choose_38 n q S2 108 p (nI X) (lN (bs e (vC m))) (nI (i + 1))
        rw [cX5_choose_38]
        simp (disch := first | assumption | omega) only [tk_gI, tk_gL, tk_gR, tk_pI, tk_pL, rv_aI, rv_aL, rv_aR, rv_uI, rv_uL, rv_uB, rv_uZ, pu_ckI, pu_ckL, pu_lnI, pu_lnL, tk_rI, tk_rL, Option.bind_some, Option.map_some, rv_lt, tk_ix, z0, z1, z2, z3, z4, z5, z6, z7, z8, z9, z10, z11, z12, z13, z15, z16, z17, z18, z20, z21, z23, z24, z25, z31, z32, z39, z40, z41, z46, z48, z50, z57, z59, z60, z61, z62, z63, z64, z97, z98, z99, z100, z101, z102, z103, z104, z105, z106, z107, z108, z109, z110, z111, z112, z113, z114, z115, z116, z117, z118, z119, z120, z121, z122, z128, z132, z200, z240, z255, z372, z390625, z400, z420, z421, z422, z662, z900, z940, z999, z1000, z1024, z2000, z5860, z10000, z12345, z15625, z266240, z1048575, z1064960, z1103515245, z_m1, y0, y1, y27, y63, y96, y1099511627776, y69269232549888, n_le, n_lt, n_eq, n_bit0, n_bit1, n_sbit0, n_shl, z_ltM, z_Mlt, z_leM, z_Mle, z_eqM, z_Meq, bI0, bI1, bI_01, bI_01t, bI_10, bI_10f, if_true, if_false, eq_self, reduceCtorEq, if_pos, if_neg, hPS, hP1, m_bit0, m_bit2, n_l, bs_bit, c, Bool.and_true, decide_eq_false_iff_not, not_true, not_false_iff, hi, nI_add, rc_108 hB1, e2, decide_true, nft, reduceCtorEq]
      · show S2.2.2.1 109 x = lN (Lf e (va m) (i + 1) x)
        refine (g2 x hx).trans (congrArg lN ?_)
        rw [Lf]
        by_cases c2 : va m i ≤ x
        · rw [if_pos ⟨c, c2⟩]; exact if_pos c2
        · rw [if_neg (fun z => c2 z.2)]; exact if_neg c2
  · obtain ⟨S1, x2⟩ := x
    obtain ⟨rfl, fr, g⟩ := hx
    have fr : rvf [108, 109] S S1 := fr
    have g : S1.2.2.1 109 X = lN (Lf e (va m) (vC m) X) := g X (Nat.le_refl X)
    have hB1 := fr.B hB
    have hP1 := hPR.x hpb fr
    have hPS := PS_of hB1 hpb
    refine ⟨S1, ?_, fr⟩
    show cX5_choose_38 n (q + 1) S1 108 p (nI X) (lN (bs e (vC m))) (nI (vC m)) = _
    rw [cX5_choose_38, cX5_choose_80]
    simp (disch := first | assumption | omega) only [tk_gI, tk_gL, tk_gR, tk_pI, tk_pL, rv_aI, rv_aL, rv_aR, rv_uI, rv_uL, rv_uB, rv_uZ, pu_ckI, pu_ckL, pu_lnI, pu_lnL, tk_rI, tk_rL, Option.bind_some, Option.map_some, rv_lt, tk_ix, z0, z1, z2, z3, z4, z5, z6, z7, z8, z9, z10, z11, z12, z13, z15, z16, z17, z18, z20, z21, z23, z24, z25, z31, z32, z39, z40, z41, z46, z48, z50, z57, z59, z60, z61, z62, z63, z64, z97, z98, z99, z100, z101, z102, z103, z104, z105, z106, z107, z108, z109, z110, z111, z112, z113, z114, z115, z116, z117, z118, z119, z120, z121, z122, z128, z132, z200, z240, z255, z372, z390625, z400, z420, z421, z422, z662, z900, z940, z999, z1000, z1024, z2000, z5860, z10000, z12345, z15625, z266240, z1048575, z1064960, z1103515245, z_m1, y0, y1, y27, y63, y96, y1099511627776, y69269232549888, n_le, n_lt, n_eq, n_bit0, n_bit1, n_sbit0, n_shl, z_ltM, z_Mlt, z_leM, z_Mle, z_eqM, z_Meq, bI0, bI1, bI_01, bI_01t, bI_10, bI_10f, if_true, if_false, eq_self, reduceCtorEq, if_pos, if_neg, hPS, hP1, rc_108 hB1, rf_of hB1 (show (108, 0, 109) ∈ rv_rf0 by decide), rn_109 hB1, g]
theorem k_choose0 (hn : 1100 ≤ n) (hB : rv_B S) {f p : Nat} (hFS : FS S f) (hFR : FR S f m) (hpb : pb p) (hPR : PR S p m) (hp : okp m) (hc : okc m) {a b X : Nat} (ha : a < vW m) (hb : b < vW m) (h1 : 1 ≤ X) (hX : X ≤ 999) : ∃ S2, fnX5_choose n S 108 f p (nI a) (nI b) (nI X) = rv_bp (fnX5_take n S2 108 (lN (Lf (gz m a b) (va m) (vC m) X))) (fun x S => some (x, S)) ∧ rvf [108, 109] S S2 := by
  have h40 := hc.1
  have hPS := PS_of hB hpb
  obtain ⟨S1, e1, f1, g1⟩ := k_startAt (e := gz m a b) (d := va m) hn hB hX
  have hB1 := f1.B hB
  have f1 : rvf [108, 109] S S1 := f1.mono rfl
  obtain ⟨S2, e2, f2⟩ := k_choose1 hn hB1 hpb (hPR.x hpb f1) hc hX g1
  refine ⟨S2, ?_, f1.tr f2⟩
  rw [← e2, fnX5_choose]
  have kg := k_goingTo (n := n) (by omega) hFS hFR hPS hPR hp hc ha hb
  have r9 := rf_of hB (show (108, 0, 109) ∈ rv_rf0 by decide)
  simp (disch := first | assumption | omega) only [tk_gI, tk_gL, tk_gR, tk_pI, tk_pL, rv_aI, rv_aL, rv_aR, rv_uI, rv_uL, rv_uB, rv_uZ, pu_ckI, pu_ckL, pu_lnI, pu_lnL, tk_rI, tk_rL, Option.bind_some, Option.map_some, rv_lt, tk_ix, z0, z1, z2, z3, z4, z5, z6, z7, z8, z9, z10, z11, z12, z13, z15, z16, z17, z18, z20, z21, z23, z24, z25, z31, z32, z39, z40, z41, z46, z48, z50, z57, z59, z60, z61, z62, z63, z64, z97, z98, z99, z100, z101, z102, z103, z104, z105, z106, z107, z108, z109, z110, z111, z112, z113, z114, z115, z116, z117, z118, z119, z120, z121, z122, z128, z132, z200, z240, z255, z372, z390625, z400, z420, z421, z422, z662, z900, z940, z999, z1000, z1024, z2000, z5860, z10000, z12345, z15625, z266240, z1048575, z1064960, z1103515245, z_m1, y0, y1, y27, y63, y96, y1099511627776, y69269232549888, n_le, n_lt, n_eq, n_bit0, n_bit1, n_sbit0, n_shl, z_ltM, z_Mlt, z_leM, z_Mle, z_eqM, z_Meq, bI0, bI1, bI_01, bI_01t, bI_10, bI_10f, if_true, if_false, eq_self, reduceCtorEq, if_pos, if_neg, hPS, kg, rc_108 hB, r9, e1]
theorem k_choose2 {S2 : rvS} : rv_bp (fnX5_take n S2 108 (lN 0)) (fun x S => some (x, S)) = some (iM, S2) := by
  have h : lg_cmp (lN 0) (0 : Int64) = 0 := by rw [y0, z0, m_cmp (by decide) (by decide)]
  rw [fnX5_take, if_pos h]
  rfl
theorem k_choose3 {A : Nat → Bool} {N : Nat} (h40 : N ≤ 40) : bs (fun k => (Wt A N).testBit (39 - k)) 40 = bs A N := by
  refine Nat.eq_of_testBit_eq fun k => ?_
  rw [bs_bit, bs_bit]
  by_cases c : k < 40
  · rw [decide_eq_true c, Bool.true_and, Wt_b h40 c]
  · rw [decide_eq_false c, decide_eq_false (show ¬ k < N by omega)]
    rw [Bool.false_and, Bool.false_and]
theorem k_choose4 {A : Nat → Bool} {N : Nat} (h40 : N ≤ 40) : fb_ct (fun k => (Wt A N).testBit (39 - k)) 40 = fb_ct A N := by
  rw [fb_ct_cong (q := fun k => decide (k < N) && A k) (fun k hk => Wt_b h40 hk), ct_cut _ h40]
theorem k_choose (hn : 1100 ≤ n) (hB : rv_B S) {f p : Nat} (hFS : FS S f) (hFR : FR S f m) (hpb : pb p) (hPR : PR S p m) (hp : okp m) (hc : okc m) {a b X : Nat} (ha : a < vW m) (hb : b < vW m) (h1 : 1 ≤ X) (hX : X ≤ 999) :
    (10000 ≤ tb (gz m a b) (va m) (vC m) (vC m) X ∧ ∃ S', fnX5_choose n S 108 f p (nI a) (nI b) (nI X) = some (iM, S') ∧ rvf [108, 109] S S') ∨
    (tb (gz m a b) (va m) (vC m) (vC m) X ≤ 40 ∧ ∃ S', fnX5_choose n S 108 f p (nI a) (nI b) (nI X) = some (nI (tb (gz m a b) (va m) (vC m) (vC m) X), S') ∧ rvf [108, 109] S S' ∧ S'.2.2.1 108 2 = lN (bs (Bf (gz m a b) (va m) (vC m) X) (vC m))) := by
  have h40 := hc.1
  obtain ⟨S2, top, f2⟩ := k_choose0 hn hB hFS hFR hpb hPR hp hc ha hb h1 hX
  have hB2 := f2.B hB
  rw [top]
  rcases few (e := gz m a b) (d := va m) h40 hX with ⟨t1, t2⟩ | ⟨t1, t2, t3⟩
  · exact Or.inl ⟨t1, S2, by rw [t2]; exact k_choose2, f2⟩
  · have hg := Wt_ge (A := Bf (gz m a b) (va m) (vC m) X) h40
    rw [t3]
    obtain ⟨w, ew⟩ : ∃ w, w = Wt (Bf (gz m a b) (va m) (vC m) X) (vC m) := ⟨_, rfl⟩
    have k3 := k_choose3 (A := Bf (gz m a b) (va m) (vC m) X) h40
    have k4 := k_choose4 (A := Bf (gz m a b) (va m) (vC m) X) h40
    have wl := Wt_lt (A := Bf (gz m a b) (va m) (vC m) X) h40
    rw [← ew] at hg k3 k4 wl
    rw [← ew]
    obtain ⟨S3, e3, f3, g3⟩ := k_take hn hB2 (w := w) wl (by omega)
    rw [k3] at g3
    rw [k4, t2] at e3
    exact Or.inr ⟨t1, S3, by rw [e3, bp_s], f2.tr (f3.mono rfl), g3⟩
end
