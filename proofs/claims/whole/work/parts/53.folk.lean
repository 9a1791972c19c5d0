/-! THE FOLK, what is asked of it: the class's answers out of m -/
section
variable {n : Nat} {S : rvS} {f : Nat} {m : Nat → Nat}
theorem bs_24 (p : Nat → Bool) {k : Nat} (h : k ≤ 24) : bs p k < 2147483648 := bs_lt32 p (by omega)
theorem k_isVillage {a : Nat} (ha : a < 4) : fnX1_isVillage n S (nI a) = some (nI 1) := by
  simp (disch := first | assumption | omega) only [fnX1_isVillage, z0, z1, z2, z3, z4, z5, z6, z7, z8, z9, z10, z11, z12, z13, z15, z16, z17, z18, z20, z21, z23, z24, z25, z31, z32, z39, z40, z41, z46, z48, z50, z57, z59, z60, z61, z62, z63, z64, z97, z98, z99, z100, z101, z102, z103, z104, z105, z106, z107, z108, z109, z110, z111, z112, z113, z114, z115, z116, z117, z118, z119, z120, z121, z122, z128, z132, z200, z240, z255, z372, z390625, z400, z420, z421, z422, z662, z900, z940, z999, z1000, z1024, z2000, z5860, z10000, z12345, z15625, z266240, z1048575, z1064960, z1103515245, z_m1, n_le, n_lt, n_eq, n_bit0, n_bit1, n_sbit0, n_shl, z_ltM, z_Mlt, z_leM, z_Mle, z_eqM, z_Meq, bI0, bI1, bI_01, bI_01t, bI_10, bI_10f, if_true, if_false, eq_self, reduceCtorEq, if_pos, if_neg]
theorem k_has (hS : FS S f) (hR : FR S f m) (hp : okp m) {w : Nat} (hw : w < vW m) : fnX1_has n S f (nI w) = some (nI 1) := by
  have h1 := hp.1
  simp (disch := first | assumption | omega) only [fnX1_has, tk_gI, tk_gL, tk_gR, tk_pI, tk_pL, rv_aI, rv_aL, rv_aR, rv_uI, rv_uL, rv_uB, rv_uZ, pu_ckI, pu_ckL, pu_lnI, pu_lnL, tk_rI, tk_rL, Option.bind_some, Option.map_some, rv_lt, tk_ix, z0, z1, z2, z3, z4, z5, z6, z7, z8, z9, z10, z11, z12, z13, z15, z16, z17, z18, z20, z21, z23, z24, z25, z31, z32, z39, z40, z41, z46, z48, z50, z57, z59, z60, z61, z62, z63, z64, z97, z98, z99, z100, z101, z102, z103, z104, z105, z106, z107, z108, z109, z110, z111, z112, z113, z114, z115, z116, z117, z118, z119, z120, z121, z122, z128, z132, z200, z240, z255, z372, z390625, z400, z420, z421, z422, z662, z900, z940, z999, z1000, z1024, z2000, z5860, z10000, z12345, z15625, z266240, z1048575, z1064960, z1103515245, z_m1, n_le, n_lt, n_eq, n_bit0, n_bit1, n_sbit0, n_shl, z_ltM, z_Mlt, z_leM, z_Mle, z_eqM, z_Meq, bI0, bI1, bI_01, bI_01t, bI_10, bI_10f, if_true, if_false, eq_self, reduceCtorEq, if_pos, if_neg, hS, hR]
theorem k_isDead (hS : FS S f) (hR : FR S f m) (hp : okp m) {w : Nat} (hw : w < vW m) : fnX1_isDead n S f (nI w) = some (bI (decide (0 < de m w))) := by
  have h1 := hp.1
  have hb := bs_24 (fun w => decide (0 < de m w)) h1
  simp (disch := first | assumption | omega) only [fnX1_isDead, tk_gI, tk_gL, tk_gR, tk_pI, tk_pL, rv_aI, rv_aL, rv_aR, rv_uI, rv_uL, rv_uB, rv_uZ, pu_ckI, pu_ckL, pu_lnI, pu_lnL, tk_rI, tk_rL, Option.bind_some, Option.map_some, rv_lt, tk_ix, z0, z1, z2, z3, z4, z5, z6, z7, z8, z9, z10, z11, z12, z13, z15, z16, z17, z18, z20, z21, z23, z24, z25, z31, z32, z39, z40, z41, z46, z48, z50, z57, z59, z60, z61, z62, z63, z64, z97, z98, z99, z100, z101, z102, z103, z104, z105, z106, z107, z108, z109, z110, z111, z112, z113, z114, z115, z116, z117, z118, z119, z120, z121, z122, z128, z132, z200, z240, z255, z372, z390625, z400, z420, z421, z422, z662, z900, z940, z999, z1000, z1024, z2000, z5860, z10000, z12345, z15625, z266240, z1048575, z1064960, z1103515245, z_m1, n_le, n_lt, n_eq, n_bit0, n_bit1, n_sbit0, n_shl, z_ltM, z_Mlt, z_leM, z_Mle, z_eqM, z_Meq, bI0, bI1, bI_01, bI_01t, bI_10, bI_10f, if_true, if_false, eq_self, reduceCtorEq, hS, hR, bs_bit, decide_eq_true hw, Bool.true_and]
theorem k_villageOf (hS : FS S f) (hR : FR S f m) (hp : okp m) {w : Nat} (hw : w < vW m) : fnX1_villageOf n S f (nI w) = some (nI (at_ m w)) := by
  have h24 := hp.1
  have kh := k_has (n := n) hS hR hp hw
  have g := hR.2.2.2.1 w hw
  rw [fnX1_villageOf]
  repeat (first | (conv => (lhs; arg 1; simp (disch := first | assumption | omega) only [tk_gI, tk_gL, tk_gR, tk_pI, tk_pL, rv_aI, rv_aL, rv_aR, rv_uI, rv_uL, rv_uB, rv_uZ, pu_ckI, pu_ckL, pu_lnI, pu_lnL, tk_rI, tk_rL, Option.bind_some, Option.map_some, rv_lt, tk_ix, hS, kh])); first | rw [Option.bind_some] | rw [bp_s] | rw [if_true] | rw [if_false] | rw [rv_lt_eq] | rw [if_pos (by omega)] | rw [if_neg (by omega)])
  rw [if_neg (show ¬ nI 1 = (0 : Int32) by decide)]
  repeat (first | (conv => (lhs; arg 1; simp (disch := first | assumption | omega) only [tk_gI, tk_gL, tk_gR, tk_pI, tk_pL, rv_aI, rv_aL, rv_aR, rv_uI, rv_uL, rv_uB, rv_uZ, pu_ckI, pu_ckL, pu_lnI, pu_lnL, tk_rI, tk_rL, Option.bind_some, Option.map_some, rv_lt, tk_ix, hS, g])); first | rw [Option.bind_some] | rw [bp_s] | rw [if_true] | rw [if_false] | rw [rv_lt_eq] | rw [if_pos (by omega)] | rw [if_neg (by omega)])
theorem k_houseOf (hS : FS S f) (hR : FR S f m) (hp : okp m) {w : Nat} (hw : w < vW m) : fnX1_houseOf n S f (nI w) = some (nI (hs m w)) := by
  have h24 := hp.1
  have kh := k_has (n := n) hS hR hp hw
  have g := hR.2.2.2.2.1 w hw
  rw [fnX1_houseOf]
  repeat (first | (conv => (lhs; arg 1; simp (disch := first | assumption | omega) only [tk_gI, tk_gL, tk_gR, tk_pI, tk_pL, rv_aI, rv_aL, rv_aR, rv_uI, rv_uL, rv_uB, rv_uZ, pu_ckI, pu_ckL, pu_lnI, pu_lnL, tk_rI, tk_rL, Option.bind_some, Option.map_some, rv_lt, tk_ix, hS, kh])); first | rw [Option.bind_some] | rw [bp_s] | rw [if_true] | rw [if_false] | rw [rv_lt_eq] | rw [if_pos (by omega)] | rw [if_neg (by omega)])
  rw [if_neg (show ¬ nI 1 = (0 : Int32) by decide)]
  repeat (first | (conv => (lhs; arg 1; simp (disch := first | assumption | omega) only [tk_gI, tk_gL, tk_gR, tk_pI, tk_pL, rv_aI, rv_aL, rv_aR, rv_uI, rv_uL, rv_uB, rv_uZ, pu_ckI, pu_ckL, pu_lnI, pu_lnL, tk_rI, tk_rL, Option.bind_some, Option.map_some, rv_lt, tk_ix, hS, g])); first | rw [Option.bind_some] | rw [bp_s] | rw [if_true] | rw [if_false] | rw [rv_lt_eq] | rw [if_pos (by omega)] | rw [if_neg (by omega)])
theorem k_earn (hS : FS S f) (hR : FR S f m) (hp : okp m) {w v : Nat} (hw : w < vW m) : fnX1_earn n S f (nI w) (nI v) = some (rv_sI S (f + 3) w (nI (ea m w + v))) := by
  have h24 := hp.1
  have kh := k_has (n := n) hS hR hp hw
  have g := hR.2.2.2.2.2.1 w hw
  rw [fnX1_earn]
  repeat (first | (conv => (lhs; arg 1; simp (disch := first | assumption | omega) only [tk_gI, tk_gL, tk_gR, tk_pI, tk_pL, rv_aI, rv_aL, rv_aR, rv_uI, rv_uL, rv_uB, rv_uZ, pu_ckI, pu_ckL, pu_lnI, pu_lnL, tk_rI, tk_rL, Option.bind_some, Option.map_some, rv_lt, tk_ix, hS, kh])); first | rw [Option.bind_some] | rw [bp_s] | rw [if_true] | rw [if_false] | rw [rv_lt_eq] | rw [if_pos (by omega)] | rw [if_neg (by omega)])
  rw [if_neg (show ¬ nI 1 = (0 : Int32) by decide)]
  repeat (first | (conv => (lhs; arg 1; simp (disch := first | assumption | omega) only [tk_gI, tk_gL, tk_gR, tk_pI, tk_pL, rv_aI, rv_aL, rv_aR, rv_uI, rv_uL, rv_uB, rv_uZ, pu_ckI, pu_ckL, pu_lnI, pu_lnL, tk_rI, tk_rL, Option.bind_some, Option.map_some, rv_lt, tk_ix, hS, g, nI_add])); first | rw [Option.bind_some] | rw [bp_s] | rw [if_true] | rw [if_false] | rw [rv_lt_eq] | rw [if_pos (by omega)] | rw [if_neg (by omega)])
theorem k_isStranger (hS : FS S f) (hR : FR S f m) (hp : okp m) {w : Nat} (hw : w < vW m) : fnX1_isStranger n S f (nI w) = some (bI (decide (0 < sg m w))) := by
  have h1 := hp.1
  have hb := bs_24 (fun w => decide (0 < sg m w)) h1
  simp (disch := first | assumption | omega) only [fnX1_isStranger, tk_gI, tk_gL, tk_gR, tk_pI, tk_pL, rv_aI, rv_aL, rv_aR, rv_uI, rv_uL, rv_uB, rv_uZ, pu_ckI, pu_ckL, pu_lnI, pu_lnL, tk_rI, tk_rL, Option.bind_some, Option.map_some, rv_lt, tk_ix, z0, z1, z2, z3, z4, z5, z6, z7, z8, z9, z10, z11, z12, z13, z15, z16, z17, z18, z20, z21, z23, z24, z25, z31, z32, z39, z40, z41, z46, z48, z50, z57, z59, z60, z61, z62, z63, z64, z97, z98, z99, z100, z101, z102, z103, z104, z105, z106, z107, z108, z109, z110, z111, z112, z113, z114, z115, z116, z117, z118, z119, z120, z121, z122, z128, z132, z200, z240, z255, z372, z390625, z400, z420, z421, z422, z662, z900, z940, z999, z1000, z1024, z2000, z5860, z10000, z12345, z15625, z266240, z1048575, z1064960, z1103515245, z_m1, n_le, n_lt, n_eq, n_bit0, n_bit1, n_sbit0, n_shl, z_ltM, z_Mlt, z_leM, z_Mle, z_eqM, z_Meq, bI0, bI1, bI_01, bI_01t, bI_10, bI_10f, if_true, if_false, eq_self, reduceCtorEq, hS, hR, bs_bit, decide_eq_true hw, Bool.true_and]
theorem k_areNear (hS : FS S f) (hR : FR S f m) (hp : okp m) {a b : Nat} (ha : a < 4) (hb : b < 4) : fnX1_areNear n S f (nI a) (nI b) = some (bI (nr m a b)) := by
  have h1 := (hp.2.2.2.2.1 a ha).1
  simp (disch := first | assumption | omega) only [fnX1_areNear, tk_gI, tk_gL, tk_gR, tk_pI, tk_pL, rv_aI, rv_aL, rv_aR, rv_uI, rv_uL, rv_uB, rv_uZ, pu_ckI, pu_ckL, pu_lnI, pu_lnL, tk_rI, tk_rL, Option.bind_some, Option.map_some, rv_lt, tk_ix, z0, z1, z2, z3, z4, z5, z6, z7, z8, z9, z10, z11, z12, z13, z15, z16, z17, z18, z20, z21, z23, z24, z25, z31, z32, z39, z40, z41, z46, z48, z50, z57, z59, z60, z61, z62, z63, z64, z97, z98, z99, z100, z101, z102, z103, z104, z105, z106, z107, z108, z109, z110, z111, z112, z113, z114, z115, z116, z117, z118, z119, z120, z121, z122, z128, z132, z200, z240, z255, z372, z390625, z400, z420, z421, z422, z662, z900, z940, z999, z1000, z1024, z2000, z5860, z10000, z12345, z15625, z266240, z1048575, z1064960, z1103515245, z_m1, n_le, n_lt, n_eq, n_bit0, n_bit1, n_sbit0, n_shl, z_ltM, z_Mlt, z_leM, z_Mle, z_eqM, z_Meq, bI0, bI1, bI_01, bI_01t, bI_10, bI_10f, if_true, if_false, eq_self, reduceCtorEq, if_pos, if_neg, hS, hR, k_isVillage]
  rfl
/-- the houses of those on a rim -/
def hO (m : Nat → Nat) : List Nat → Nat
  | [] => 0
  | a :: t => hs m a ||| hO m t
theorem hO_bit (hp : okp m) {b : Nat} (hb : b < vW m) : ∀ {l : List Nat}, (∀ x ∈ l, x < vW m) → (hO m l).testBit b = l.any (fun x => sh m b x) := by
  intro l
  induction l with
  | nil => intro _; exact Nat.zero_testBit b
  | cons a t ih =>
    intro h
    rw [hO, Nat.testBit_or, ih (fun x hx => h x (List.mem_cons_of_mem _ hx)), hs_sh hp (h a List.mem_cons_self) hb, List.any_cons]
theorem hO_lt (hp : okp m) : ∀ {l : List Nat}, (∀ x ∈ l, x < vW m) → hO m l < 2 ^ 24 := by
  intro l
  induction l with
  | nil => intro _; exact Nat.two_pow_pos 24
  | cons a t ih =>
    intro h
    exact Nat.or_lt_two_pow (hs_lt hp (h a List.mem_cons_self)) (ih (fun x hx => h x (List.mem_cons_of_mem _ hx)))
theorem k_houses1 (hS : FS S f) (hR : FR S f m) (hp : okp m) : ∀ (l : List Nat) (q acc : Nat), (∀ x ∈ l, x < vW m) → l.length ≤ 4 → l.length < q → cX1_housesOn_4 n S q f (nI acc) (nI (rb l)) = some (nI (acc ||| hO m l)) := by
  intro l
  induction l with
  | nil =>
    intro q acc _ _ hq
    obtain ⟨q, rfl⟩ : ∃ q', q = q' + 1 := ⟨q - 1, by omega⟩
    rw [cX1_housesOn_4, rb, hO, Nat.or_zero, if_pos (show nI 0 = 0 from rfl)]
  | cons a t ih =>
    intro q acc h h4 hq
    obtain ⟨q, rfl⟩ : ∃ q', q = q' + 1 := ⟨q - 1, by omega⟩
    have h1 := hp.1
    have ha := h a List.mem_cons_self
    have ht : ∀ x ∈ t, x < vW m := fun x hx => h x (List.mem_cons_of_mem _ hx)
    have hr := rb_lt (l := t) (fun x hx => by have := ht x hx; omega)
    rw [List.length_cons] at h4 hq
    have hr2 : 32 ^ t.length ≤ 32 ^ 3 := Nat.pow_le_pow_right (by decide) (by omega)
    have hr3 : (32 : Nat) ^ 3 = 32768 := rfl
    have e1 : (a + 1 + 32 * rb t) % 32 = a + 1 := by omega
    have e2 : (a + 1 + 32 * rb t) / 2 ^ 5 = rb t := by
      show (a + 1 + 32 * rb t) / 32 = rb t
      omega
    have e3 : ¬ (a + 1 + 32 * rb t = 0) := by omega
    have := ih q (acc ||| hs m a) ht (by omega) (by omega)
    rw [cX1_housesOn_4, rb]
    simp (disch := first | assumption | omega) only [tk_gI, tk_gL, tk_gR, tk_pI, tk_pL, rv_aI, rv_aL, rv_aR, rv_uI, rv_uL, rv_uB, rv_uZ, pu_ckI, pu_ckL, pu_lnI, pu_lnL, tk_rI, tk_rL, Option.bind_some, Option.map_some, rv_lt, tk_ix, z0, z1, z2, z3, z4, z5, z6, z7, z8, z9, z10, z11, z12, z13, z15, z16, z17, z18, z20, z21, z23, z24, z25, z31, z32, z39, z40, z41, z46, z48, z50, z57, z59, z60, z61, z62, z63, z64, z97, z98, z99, z100, z101, z102, z103, z104, z105, z106, z107, z108, z109, z110, z111, z112, z113, z114, z115, z116, z117, z118, z119, z120, z121, z122, z128, z132, z200, z240, z255, z372, z390625, z400, z420, z421, z422, z662, z900, z940, z999, z1000, z1024, z2000, z5860, z10000, z12345, z15625, z266240, z1048575, z1064960, z1103515245, z_m1, n_le, n_lt, n_eq, n_bit0, n_bit1, n_sbit0, n_shl, z_ltM, z_Mlt, z_leM, z_Mle, z_eqM, z_Meq, bI0, bI1, bI_01, bI_01t, bI_10, bI_10f, if_true, if_false, eq_self, reduceCtorEq, if_pos, if_neg, hS, hR, n_and31, e1, z_sub, Nat.add_sub_cancel, n_ush, e2, e3, fa_or, this, Nat.not_lt_zero]
    rw [hO, Nat.or_assoc]
theorem k_houses (hn : 10 ≤ n) (hS : FS S f) (hR : FR S f m) (hp : okp m) {l : List Nat} (hl : okl m l) : fnX1_housesOn n S f (nI (rb l)) = some (nI (hO m l)) := by
  rw [fnX1_housesOn]
  have := k_houses1 (n := n) hS hR hp l n 0 hl.2 (by have := hl.1; omega) (by have := hl.1; omega)
  rw [Nat.zero_or] at this
  exact this
theorem m_not (p : Nat → Bool) {k : Nat} (hk : k ≤ 31) (B : Nat) : nI (bs p k) &&& (nI B ^^^ iM) = nI (bs (fun i => p i && !B.testBit i) k) := by
  apply b_ext
  intro i hi
  rw [b_and, b_xor, z_bt, z_bt, z_bt, bs_bit, bs_bit, show bt iM i = true from b_m1 i hi, decide_eq_true hi, Bool.true_and, Bool.true_and, Bool.true_and, Bool.xor_true]
  cases decide (i < k) <;> rfl
theorem gs_eq (hp : okp m) {o : Nat} (ho : o < vW m) {l : List Nat} (hl : okl m l) : bs (fun i => (nr m (at_ m o) (at_ m i) && decide (de m i = 0)) && !(hs m o ||| hO m l).testBit i) (vW m) = gs m o l := by
  apply bs_cong
  intro w hw
  have h2 := hp.2.2.2.2.2 (at_ m o) (at_ m w) (hp.2.1 o ho) (hp.2.1 w hw)
  rw [Nat.testBit_or, hs_sh hp ho hw, hO_bit hp hw hl.2, h2]
  unfold wy
  by_cases c1 : 0 < de m w
  · rw [if_pos c1, decide_eq_false (show ¬ de m w = 0 by omega)]
    simp
  · rw [if_neg c1, decide_eq_true (show de m w = 0 by omega)]
    cases sh m w o <;> cases l.any (fun x => sh m w x) <;> cases nr m (at_ m w) (at_ m o) <;> simp
theorem k_goers (hn : 10 ≤ n) (hS : FS S f) (hR : FR S f m) (hp : okp m) {o : Nat} (ho : o < vW m) {l : List Nat} (hl : okl m l) : fnX1_goers n S f (nI o) (nI (rb l)) = some (nI (gs m o l)) := by
  have h1 := hp.1
  have h2 := hp.2.1 o ho
  simp (disch := first | assumption | omega) only [fnX1_goers, tk_gI, tk_gL, tk_gR, tk_pI, tk_pL, rv_aI, rv_aL, rv_aR, rv_uI, rv_uL, rv_uB, rv_uZ, pu_ckI, pu_ckL, pu_lnI, pu_lnL, tk_rI, tk_rL, Option.bind_some, Option.map_some, rv_lt, tk_ix, z0, z1, z2, z3, z4, z5, z6, z7, z8, z9, z10, z11, z12, z13, z15, z16, z17, z18, z20, z21, z23, z24, z25, z31, z32, z39, z40, z41, z46, z48, z50, z57, z59, z60, z61, z62, z63, z64, z97, z98, z99, z100, z101, z102, z103, z104, z105, z106, z107, z108, z109, z110, z111, z112, z113, z114, z115, z116, z117, z118, z119, z120, z121, z122, z128, z132, z200, z240, z255, z372, z390625, z400, z420, z421, z422, z662, z900, z940, z999, z1000, z1024, z2000, z5860, z10000, z12345, z15625, z266240, z1048575, z1064960, z1103515245, z_m1, n_le, n_lt, n_eq, n_bit0, n_bit1, n_sbit0, n_shl, z_ltM, z_Mlt, z_leM, z_Mle, z_eqM, z_Meq, bI0, bI1, bI_01, bI_01t, bI_10, bI_10f, if_true, if_false, eq_self, reduceCtorEq, if_pos, if_neg, hS, hR, k_has hS hR hp ho, k_isVillage h2, k_houses hn hS hR hp hl, fa_or, Nat.not_lt_zero]
  unfold rc
  rw [m_not _ (by omega), gs_eq hp ho hl]
theorem gs_bit {o : Nat} {l : List Nat} {w : Nat} (hw : w < vW m) : (gs m o l).testBit w = decide (wy m o l w = 0) := by
  rw [gs, bs_bit, decide_eq_true hw, Bool.true_and]
theorem gs_lt (hp : okp m) (o : Nat) (l : List Nat) : gs m o l < 2147483648 := bs_24 _ hp.1
theorem wy_le (m : Nat → Nat) (o : Nat) (l : List Nat) (w : Nat) : wy m o l w ≤ 4 := by
  unfold wy
  repeat (split; omega)
  omega
theorem k_whyNot (hn : 10 ≤ n) (hS : FS S f) (hR : FR S f m) (hp : okp m) {o : Nat} (ho : o < vW m) {l : List Nat} (hl : okl m l) {w : Nat} (hw : w < vW m) : fnX1_whyNot n S f (nI o) (nI (rb l)) (nI w) = some (nI (wy m o l w)) := by
  have h1 := hp.1
  have h2 := hs_lt hp ho
  have h3 := hO_lt hp hl.2
  have h4 := gs_lt hp o l
  simp (disch := first | assumption | omega) only [fnX1_whyNot, tk_gI, tk_gL, tk_gR, tk_pI, tk_pL, rv_aI, rv_aL, rv_aR, rv_uI, rv_uL, rv_uB, rv_uZ, pu_ckI, pu_ckL, pu_lnI, pu_lnL, tk_rI, tk_rL, Option.bind_some, Option.map_some, rv_lt, tk_ix, z0, z1, z2, z3, z4, z5, z6, z7, z8, z9, z10, z11, z12, z13, z15, z16, z17, z18, z20, z21, z23, z24, z25, z31, z32, z39, z40, z41, z46, z48, z50, z57, z59, z60, z61, z62, z63, z64, z97, z98, z99, z100, z101, z102, z103, z104, z105, z106, z107, z108, z109, z110, z111, z112, z113, z114, z115, z116, z117, z118, z119, z120, z121, z122, z128, z132, z200, z240, z255, z372, z390625, z400, z420, z421, z422, z662, z900, z940, z999, z1000, z1024, z2000, z5860, z10000, z12345, z15625, z266240, z1048575, z1064960, z1103515245, z_m1, n_le, n_lt, n_eq, n_bit0, n_bit1, n_sbit0, n_shl, z_ltM, z_Mlt, z_leM, z_Mle, z_eqM, z_Meq, bI0, bI1, bI_01, bI_01t, bI_10, bI_10f, if_true, if_false, eq_self, reduceCtorEq, if_pos, if_neg, hS, hR, k_houseOf hS hR hp ho, k_isDead hS hR hp hw, k_houses hn hS hR hp hl, k_goers hn hS hR hp ho hl, hs_sh hp ho hw, hO_bit hp hw hl.2, gs_bit hw]
  unfold wy
  by_cases c1 : 0 < de m w
  · rw [decide_eq_true c1, if_pos c1]; simp
  · rw [decide_eq_false c1, if_neg c1]
    cases sh m w o <;> cases l.any (fun x => sh m w x) <;> cases nr m (at_ m w) (at_ m o) <;> simp
end
