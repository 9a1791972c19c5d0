/-! CLEAR -/
section
variable {n : Nat} {S : rvS} {m m' : Nat → Nat} {wd : Nat → List Nat}
/-- a debt cleared -/
def cl (m : Nat → Nat) (k : Nat) : Nat → Nat := fun j => if j = 375 + 4 * k then 1 else m j
theorem cl_lo {k j : Nat} (h : j < 372) : cl m k j = m j := if_neg (by omega)
theorem cl_db {k d i : Nat} (h : ¬ (d = k ∧ i = 3)) (hi : i < 4) : db (cl m k) d i = db m d i := if_neg (by omega)
theorem cl_3 (k : Nat) : db (cl m k) k 3 = 1 := if_pos (by omega)
theorem cl_ok (hk : okm m) {k : Nat} (h : k < vD m) : okm (cl m k) := by
  obtain ⟨hp, hc, hd⟩ := hk
  have lo : ∀ j, j < 372 → cl m k j = m j := fun j hj => cl_lo hj
  obtain ⟨d1, d2, d3, d4, d5, d6, d7⟩ := hd
  refine ⟨hp.c (fun j hj => lo j (by omega)), ?_, ?_⟩
  · obtain ⟨c1, c2, c3⟩ := hc
    have e1 : vC (cl m k) = vC m := lo 1 (by decide)
    refine ⟨by rw [e1]; exact c1, by rw [show vN (cl m k) = vN m from lo 3 (by decide)]; exact c2, fun c hcc => ?_⟩
    rw [e1] at hcc
    obtain ⟨q1, q2, q3, q4, q5⟩ := c3 c hcc
    have f : ∀ i, i < 6 → cl m k (132 + 6 * c + i) = m (132 + 6 * c + i) := fun i hi => lo _ (by omega)
    refine ⟨by rw [show va (cl m k) c = va m c from lo _ (by omega)]; exact q1, by rw [show va (cl m k) c = va m c from lo _ (by omega)]; exact q2, ?_, ?_, fun i hi => ?_⟩
    · rw [show ow (cl m k) c = ow m c from lo _ (by omega), show vW (cl m k) = vW m from lo 0 (by decide)]; exact q3
    · rw [show mn (cl m k) c = mn m c from lo _ (by omega), show vN (cl m k) = vN m from lo 3 (by decide)]; exact q4
    · rw [show mn (cl m k) c = mn m c from lo _ (by omega)] at hi
      rw [show rm (cl m k) c i = rm m c i from lo _ (by omega), show vW (cl m k) = vW m from lo 0 (by decide)]; exact q5 i hi
  · refine ⟨by rw [show vD (cl m k) = vD m from lo 2 (by decide)]; exact d1, by rw [show vF (cl m k) = vF m from lo 4 (by decide)]; exact d2, by rw [show vF (cl m k) = vF m from lo 4 (by decide)]; exact d3, by rw [show vL (cl m k) = vL m from lo 5 (by decide)]; exact d4, by rw [lo 6 (by decide)]; exact d5, by rw [lo 6 (by decide), show vW (cl m k) = vW m from lo 0 (by decide)]; exact d6, fun d hdd => ?_⟩
    rw [show vD (cl m k) = vD m from lo 2 (by decide)] at hdd
    obtain ⟨q1, q2, q3, q4, q5, q6⟩ := d7 d hdd
    have e0 : db (cl m k) d 0 = db m d 0 := cl_db (by omega) (by decide)
    have e1 : db (cl m k) d 1 = db m d 1 := cl_db (by omega) (by decide)
    have e2 : db (cl m k) d 2 = db m d 2 := cl_db (by omega) (by decide)
    rw [e0, e1, e2, show vW (cl m k) = vW m from lo 0 (by decide)]
    refine ⟨q1, q2, q3, q4, q5, ?_⟩
    by_cases c : d = k
    · subst c; rw [cl_3]; exact Nat.le_refl 1
    · rw [cl_db (by omega) (by decide)]; exact q6
theorem cl_DR (hD : DR S 67 m) {k : Nat} (hk : k < vD m) : DR (rv_sI S 67 7 (nI (bs (fun d => decide (0 < db m d 3)) (vD m) ||| 2 ^ k))) 67 (cl m k) := by
  have lo : ∀ j, j < 372 → cl m k j = m j := fun j hj => cl_lo hj
  obtain ⟨c1, c2, c3, c4, c5, c6, c7⟩ := hD
  have eD : vD (cl m k) = vD m := lo 2 (by decide)
  refine ⟨?_, ?_, ?_, ?_, fun d hd => ?_, fun d hd => ?_, fun d hd => ?_⟩
  · rw [rv_sI_k _ _ (by decide), eD]; exact c1
  · rw [rv_sI_eq, eD]
    refine congrArg nI (Nat.eq_of_testBit_eq fun j => ?_)
    rw [Nat.testBit_or, bs_bit, bs_bit, Nat.testBit_two_pow]
    by_cases c : j = k
    · subst c
      rw [cl_3, decide_eq_true hk, decide_eq_true (rfl : j = j), Bool.or_true]; rfl
    · rw [decide_eq_false (show ¬ k = j from fun z => c z.symm), Bool.or_false, cl_db (by omega) (by decide)]
  · rw [rv_sI_k _ _ (by decide), show vF (cl m k) = vF m from lo 4 (by decide)]; exact c3
  · rw [rv_sI_k _ _ (by decide), show vL (cl m k) = vL m from lo 5 (by decide)]; exact c4
  · rw [eD] at hd; rw [rv_sI_a _ _ _ (by decide), cl_db (by omega) (by decide)]; exact c5 d hd
  · rw [eD] at hd; rw [rv_sI_a _ _ _ (by decide), cl_db (by omega) (by decide)]; exact c6 d hd
  · rw [eD] at hd; rw [rv_sI_a _ _ _ (by decide), cl_db (by omega) (by decide)]; exact c7 d hd
theorem cl_CR (hR : CR S 67 m) (hk : okm m) {k : Nat} (h : k < vD m) : CR (rv_sI S 67 7 (nI (bs (fun d => decide (0 < db m d 3)) (vD m) ||| 2 ^ k))) 67 (cl m k) := by
  obtain ⟨hF, hP, hD⟩ := hR
  have hF1 : FR (rv_sI S 67 7 (nI (bs (fun d => decide (0 < db m d 3)) (vD m) ||| 2 ^ k))) (67 + 1) m := hF
  have hP1 : PR (rv_sI S 67 7 (nI (bs (fun d => decide (0 < db m d 3)) (vD m) ||| 2 ^ k))) (67 + 8) m := hP
  exact ⟨hF1.c hk.1 (fun j hj => cl_lo (by omega)), hP1.c hk.2.1.1 (cl_lo (by decide)) (cl_lo (by decide)) (fun j h1 h2 => cl_lo h2), cl_DR hD h⟩
abbrev pB (m : Nat → Nat) (k : Nat) : Nat → Bool := Bf (gz m (db m k 0) (db m k 1)) (va m) (vC m) (db m k 2)
abbrev pT (m : Nat → Nat) (k : Nat) : Nat := tb (gz m (db m k 0) (db m k 1)) (va m) (vC m) (vC m) (db m k 2)
abbrev pM (m : Nat → Nat) (k : Nat) : Nat → Nat := mvs m (pB m k) (db m k 1) (vC m)
theorem mvs_hi {B : Nat → Bool} {b : Nat} : ∀ i, i ≤ 40 → ∀ k, 372 ≤ k → mvs m B b i k = m k := by
  intro i
  induction i with
  | zero => intro _ _ _; rfl
  | succ i ih =>
    intro h k hk
    rw [mvs]
    cases B i
    · rw [if_neg nft]; exact ih (by omega) k hk
    · rw [if_pos rfl, mv_hi (by omega) b k hk]; exact ih (by omega) k hk
theorem k_payDebt (hn : 1100 ≤ n) (hB : rv_B S) (hR : CR S 67 m) (hk : okm m) {k : Nat} (h : k < vD m) :
    (10000 ≤ pT m k ∧ ∃ S', fnX5_payDebt n S 108 67 75 (nI k) = some (iM, S') ∧ rvf [108, 109] S S') ∨
    (pT m k ≤ 40 ∧ ∃ S', fnX5_payDebt n S 108 67 75 (nI k) = some (nI (pT m k), S') ∧ rvf [108, 109, 77, 78] S S' ∧ CR S' 67 (pM m k)) := by
  obtain ⟨hp, hc, hd⟩ := id hk
  obtain ⟨hF, hP, hD⟩ := id hR
  have h12 := hd.1
  have hv : vb 67 := Or.inl rfl
  have hVS := VS_of hB hv
  have hFS := FS_of hB hv.f
  obtain ⟨q1, q2, q3, q4, q5, q6⟩ := hd.2.2.2.2.2.2 k h
  rcases k_choose hn hB hFS hF (show pb 75 from Or.inl rfl) hP hp hc q1 q2 q4 q5 with ⟨t1, S1, e1, f1⟩ | ⟨t1, S1, e1, f1, g1⟩
  · refine Or.inl ⟨t1, S1, ?_, f1⟩
    simp (disch := first | assumption | omega) only [fnX5_payDebt, tk_gI, tk_gL, tk_gR, tk_pI, tk_pL, rv_aI, rv_aL, rv_aR, rv_uI, rv_uL, rv_uB, rv_uZ, pu_ckI, pu_ckL, pu_lnI, pu_lnL, tk_rI, tk_rL, Option.bind_some, Option.map_some, rv_lt, tk_ix, z0, z1, z2, z3, z4, z5, z6, z7, z8, z9, z10, z11, z12, z13, z15, z16, z17, z18, z20, z21, z23, z24, z25, z31, z32, z39, z40, z41, z46, z48, z50, z57, z59, z60, z61, z62, z63, z64, z97, z98, z99, z100, z101, z102, z103, z104, z105, z106, z107, z108, z109, z110, z111, z112, z113, z114, z115, z116, z117, z118, z119, z120, z121, z122, z128, z132, z200, z240, z255, z372, z390625, z400, z420, z421, z422, z662, z900, z940, z999, z1000, z1024, z2000, z5860, z10000, z12345, z15625, z266240, z1048575, z1064960, z1103515245, z_m1, n_le, n_lt, n_eq, n_bit0, n_bit1, n_sbit0, n_shl, z_ltM, z_Mlt, z_leM, z_Mle, z_eqM, z_Meq, bI0, bI1, bI_01, bI_01t, bI_10, bI_10f, if_true, if_false, eq_self, reduceCtorEq, if_pos, if_neg, hVS, hD, rc_108 hB, e1, bp_s, show (iM < nI 0) = True from eq_true (by decide), Nat.not_lt_zero, h]
  · have hB1 := f1.B hB
    have hR1 := hR.f f1 (Or.inl rfl) (Or.inl rfl) (Or.inr (by decide)) (Or.inr (by decide)) (Or.inr (by decide))
    obtain ⟨S2, e2, f2, p2⟩ := k_moveAll (B := pB m k) hn hB1 hR1.2.1 hk q2
    refine Or.inr ⟨t1, S2, ?_, (f1.mono rfl).tr (f2.mono rfl), cr_mvs hR1 hk f2 p2⟩
    have hVS1 := VS_of hB1 hv
    have hPS1 := PS_of hB1 (show pb 75 from Or.inl rfl)
    have hD1 := hR1.2.2
    simp (disch := first | assumption | omega) only [fnX5_payDebt, tk_gI, tk_gL, tk_gR, tk_pI, tk_pL, rv_aI, rv_aL, rv_aR, rv_uI, rv_uL, rv_uB, rv_uZ, pu_ckI, pu_ckL, pu_lnI, pu_lnL, tk_rI, tk_rL, Option.bind_some, Option.map_some, rv_lt, tk_ix, z0, z1, z2, z3, z4, z5, z6, z7, z8, z9, z10, z11, z12, z13, z15, z16, z17, z18, z20, z21, z23, z24, z25, z31, z32, z39, z40, z41, z46, z48, z50, z57, z59, z60, z61, z62, z63, z64, z97, z98, z99, z100, z101, z102, z103, z104, z105, z106, z107, z108, z109, z110, z111, z112, z113, z114, z115, z116, z117, z118, z119, z120, z121, z122, z128, z132, z200, z240, z255, z372, z390625, z400, z420, z421, z422, z662, z900, z940, z999, z1000, z1024, z2000, z5860, z10000, z12345, z15625, z266240, z1048575, z1064960, z1103515245, z_m1, n_le, n_lt, n_eq, n_bit0, n_bit1, n_sbit0, n_shl, z_ltM, z_Mlt, z_leM, z_Mle, z_eqM, z_Meq, bI0, bI1, bI_01, bI_01t, bI_10, bI_10f, if_true, if_false, eq_self, reduceCtorEq, if_pos, if_neg, hVS, hD, rc_108 hB, e1, bp_s, Nat.not_lt_zero, h, rc_108 hB1, g1, hVS1, hD1, hPS1, e2]
theorem m_clearNow (hn : 1100 ≤ n) (hB : rv_B S) (hM : MR S m) (hk : okm m) {k : Nat} (h : k < vD m) :
    (10000 ≤ pT m k → ∃ S', fnX13_clearNow n S 189 (nI k) = some (iM, S') ∧ rvf [191, 199, 200, 202] S S' ∧ MR S' m ∧ R42 S S') ∧
    (pT m k ≤ 40 → ∃ S', fnX13_clearNow n S 189 (nI k) = some (nI (pT m k), S') ∧ rvf [191, 199, 200, 202] S S' ∧ MR S' (cl (pM m k) k) ∧ R42 S S') := by
  obtain ⟨hp, hc, hd⟩ := id hk
  have h12 := hd.1
  obtain ⟨q1, q2, q3, q4, q5, q6⟩ := hd.2.2.2.2.2.2 k h
  obtain ⟨x1, x2⟩ := m_exactOf hn hB hM hp hc q1 q2 q5
  have o0 := m_ofDebt (n := n) hB hM (k := k) (i := 0) (by omega) (by decide)
  have o1 := m_ofDebt (n := n) hB hM (k := k) (i := 1) (by omega) (by decide)
  have o2 := m_ofDebt (n := n) hB hM (k := k) (i := 2) (by omega) (by decide)
  constructor
  · intro t
    obtain ⟨S1, e1, f1⟩ := x1 t
    refine ⟨S1, ?_, f1.mono rfl, hM.f f1 rfl, R42.of f1 rfl⟩
    rw [fnX13_clearNow]
    repeat (first | (conv => (lhs; arg 1; simp (disch := first | assumption | omega) only [tk_gI, tk_gL, tk_gR, tk_pI, tk_pL, rv_aI, rv_aL, rv_aR, rv_uI, rv_uL, rv_uB, rv_uZ, pu_ckI, pu_ckL, pu_lnI, pu_lnL, tk_rI, tk_rL, Option.bind_some, Option.map_some, rv_lt, tk_ix, z0, z1, z2, z3, z4, z5, z6, z7, z8, z9, z10, z11, z12, z13, z15, z16, z17, z18, z20, z21, z23, z24, z25, z31, z32, z39, z40, z41, z46, z48, z50, z57, z59, z60, z61, z62, z63, z64, z97, z98, z99, z100, z101, z102, z103, z104, z105, z106, z107, z108, z109, z110, z111, z112, z113, z114, z115, z116, z117, z118, z119, z120, z121, z122, z128, z132, z200, z240, z255, z372, z390625, z400, z420, z421, z422, z662, z900, z940, z999, z1000, z1024, z2000, z5860, z10000, z12345, z15625, z266240, z1048575, z1064960, z1103515245, z_m1, n_le, n_lt, n_eq, n_bit0, n_bit1, n_sbit0, n_shl, z_ltM, z_Mlt, z_leM, z_Mle, z_eqM, z_Meq, bI0, bI1, bI_01, bI_01t, bI_10, bI_10f, if_true, if_false, eq_self, reduceCtorEq, rc_189 hB, o0, o1, o2, e1])); first | rw [Option.bind_some] | rw [bp_s] | rw [if_true] | rw [if_false] | rw [rv_lt_eq] | rw [if_pos (by omega)] | rw [if_neg (by omega)])
    all_goals rfl
  · intro t
    obtain ⟨S1, e1, f1, g1⟩ := x2 (show pT m k < 10000 by omega)
    have hB1 := f1.B hB
    have hM1 := hM.f f1 rfl
    obtain ⟨S2, e2, f2, hM2, r2⟩ := m_giveAll (B := pB m k) hn hB1 hM1 hk q2 g1
    have hB2 := f2.B hB1
    have p1 := m_ofDebt (n := n) hB1 hM1 (k := k) (i := 1) (by omega) (by decide)
    have rr := rf_of hB2 (show (189, 14, 191) ∈ rv_rf0 by decide)
    have rn := rn_191 hB2
    have ei : 372 + 4 * k + 3 = 375 + 4 * k := by omega
    have pos : (0 : Int32) ≤ nI (pT m k) := by rw [z0, n_le (by decide) (by omega)]; exact Nat.zero_le _
    refine ⟨rv_sI S2 191 (375 + 4 * k) (nI 1), ?_, (f1.mono rfl).tr ((f2.mono rfl).w rfl rfl), fun j hj => ?_, (R42.of f1 rfl).tr (r2.tr fun j hj => rv_sI_k _ _ (by omega) _)⟩
    · rw [fnX13_clearNow]
      repeat (first | (conv => (lhs; arg 1; simp (disch := first | assumption | omega) only [tk_gI, tk_gL, tk_gR, tk_pI, tk_pL, rv_aI, rv_aL, rv_aR, rv_uI, rv_uL, rv_uB, rv_uZ, pu_ckI, pu_ckL, pu_lnI, pu_lnL, tk_rI, tk_rL, Option.bind_some, Option.map_some, rv_lt, tk_ix, z0, z1, z2, z3, z4, z5, z6, z7, z8, z9, z10, z11, z12, z13, z15, z16, z17, z18, z20, z21, z23, z24, z25, z31, z32, z39, z40, z41, z46, z48, z50, z57, z59, z60, z61, z62, z63, z64, z97, z98, z99, z100, z101, z102, z103, z104, z105, z106, z107, z108, z109, z110, z111, z112, z113, z114, z115, z116, z117, z118, z119, z120, z121, z122, z128, z132, z200, z240, z255, z372, z390625, z400, z420, z421, z422, z662, z900, z940, z999, z1000, z1024, z2000, z5860, z10000, z12345, z15625, z266240, z1048575, z1064960, z1103515245, z_m1, n_le, n_lt, n_eq, n_bit0, n_bit1, n_sbit0, n_shl, z_ltM, z_Mlt, z_leM, z_Mle, z_eqM, z_Meq, bI0, bI1, bI_01, bI_01t, bI_10, bI_10f, if_true, if_false, eq_self, reduceCtorEq, rc_189 hB, o0, o1, o2, e1])); first | rw [Option.bind_some] | rw [bp_s] | rw [if_true] | rw [if_false] | rw [rv_lt_eq] | rw [if_pos (by omega)] | rw [if_neg (by omega)])
      rw [if_pos pos]
      simp (disch := first | assumption | omega) only [tk_gI, tk_gL, tk_gR, tk_pI, tk_pL, rv_aI, rv_aL, rv_aR, rv_uI, rv_uL, rv_uB, rv_uZ, pu_ckI, pu_ckL, pu_lnI, pu_lnL, tk_rI, tk_rL, Option.bind_some, Option.map_some, rv_lt, tk_ix, z0, z1, z2, z3, z4, z5, z6, z7, z8, z9, z10, z11, z12, z13, z15, z16, z17, z18, z20, z21, z23, z24, z25, z31, z32, z39, z40, z41, z46, z48, z50, z57, z59, z60, z61, z62, z63, z64, z97, z98, z99, z100, z101, z102, z103, z104, z105, z106, z107, z108, z109, z110, z111, z112, z113, z114, z115, z116, z117, z118, z119, z120, z121, z122, z128, z132, z200, z240, z255, z372, z390625, z400, z420, z421, z422, z662, z900, z940, z999, z1000, z1024, z2000, z5860, z10000, z12345, z15625, z266240, z1048575, z1064960, z1103515245, z_m1, n_le, n_lt, n_eq, n_bit0, n_bit1, n_sbit0, n_shl, z_ltM, z_Mlt, z_leM, z_Mle, z_eqM, z_Meq, bI0, bI1, bI_01, bI_01t, bI_10, bI_10f, if_true, if_false, eq_self, reduceCtorEq, nI_add, z_mul, z_sub, rc_189 hB1, rc_189 hB2, p1, e2, rr, rn, ei]
    · by_cases c : j = 375 + 4 * k
      · subst c
        rw [rv_sI_eq, cl, if_pos rfl]
      · rw [rv_sI_k _ _ c, cl, if_neg c]; exact hM2 j hj
theorem op_clear (hn : 1100 ≤ n) (hV : VI S m wd) (x : Int32) : ∃ r S1 S' m', fnX12_clear n S 64 x = some (r, S1) ∧ fnX13_clear n S1 189 x = some (r, S') ∧ QS S S' m' wd := by
  obtain ⟨hB, hR, hL, hk, -⟩ := id hV
  obtain ⟨hp, hc, hd⟩ := id hk
  have h12 := hd.1
  have hC := CS_of hB
  have hv : vb 67 := Or.inl rfl
  have hVS := VS_of hB hv
  have r5 := rf_of hB (show (64, 5, 108) ∈ rv_rf0 by decide)
  have bad : fnX12_clear n S 64 x = some (-(nI 2), S) → (∀ S6, fnX13_lay n (rv_sI S 189 0 (nI 0)) 189 = some S6 → rv_B S6 → MR S6 m → fnX13_clear n S 189 x = some (-(nI 2), S6)) → ∃ r S1 S' m', fnX12_clear n S 64 x = some (r, S1) ∧ fnX13_clear n S1 189 x = some (r, S') ∧ QS S S' m' wd := fun h1 h2 => by
    obtain ⟨S6, e6, hB6, f6, hM6, r6, b6⟩ := start_ok (n := n) (by omega) hB hL
    exact ⟨_, S, S6, m, h1, h2 S6 e6 hB6 hM6, QS.s0 hV f6 hM6 r6 b6⟩
  rcases rng x (N := vD m) (by omega) with ⟨k, h, rfl⟩ | hx
  · have k1 := k_isDebt (n := n) hB hR hk h
    have k2 := k9_isCleared (n := n) hB hv hR hk h
    obtain ⟨q1, q2, q3, q4, q5, q6⟩ := hd.2.2.2.2.2.2 k h
    by_cases c3 : db m k 3 = 0
    · rw [show decide (0 < db m k 3) = false from decide_eq_false (by omega), bI_f] at k2
      rcases k_payDebt hn hB hR hk h with ⟨t1, S1, e1, f1⟩ | ⟨t1, S1, e1, f1, q⟩
      · have hB1 := f1.B hB
        obtain ⟨S6, e6, hB6, f6, hM6, r6, b6⟩ := start_ok (n := n) (by omega) hB1 (hL.f f1 rfl rfl)
        obtain ⟨S2, e2, f2, hM2, r2⟩ := (m_clearNow hn hB6 hM6 hk h).1 t1
        have o3 := m_ofDebt (n := n) hB6 hM6 (k := k) (i := 3) (by omega) (by decide)
        rw [c3] at o3
        have q := hR.f f1 (Or.inl rfl) (Or.inl rfl) (Or.inr (by decide)) (Or.inr (by decide)) (Or.inr (by decide))
        have fz : rvf [189000, 189022, 191, 199, 200, 202] S1 S2 := (f6.mono rfl).tr (f2.mono rfl)
        refine ⟨iM, S1, S2, m, ?_, ?_, QS.two hV f1 fz rfl rfl rfl rfl q hM2 (by rw [f2.at (a := 189) (k := 22) rfl]; exact b6) hk rfl rfl (r6.tr r2)⟩
        · rw [fnX12_clear]
          repeat (first | (conv => (lhs; arg 1; simp (disch := first | assumption | omega) only [tk_gI, tk_gL, tk_gR, tk_pI, tk_pL, rv_aI, rv_aL, rv_aR, rv_uI, rv_uL, rv_uB, rv_uZ, pu_ckI, pu_ckL, pu_lnI, pu_lnL, tk_rI, tk_rL, Option.bind_some, Option.map_some, rv_lt, tk_ix, z0, z1, z2, z3, z4, z5, z6, z7, z8, z9, z10, z11, z12, z13, z15, z16, z17, z18, z20, z21, z23, z24, z25, z31, z32, z39, z40, z41, z46, z48, z50, z57, z59, z60, z61, z62, z63, z64, z97, z98, z99, z100, z101, z102, z103, z104, z105, z106, z107, z108, z109, z110, z111, z112, z113, z114, z115, z116, z117, z118, z119, z120, z121, z122, z128, z132, z200, z240, z255, z372, z390625, z400, z420, z421, z422, z662, z900, z940, z999, z1000, z1024, z2000, z5860, z10000, z12345, z15625, z266240, z1048575, z1064960, z1103515245, z_m1, n_le, n_lt, n_eq, n_bit0, n_bit1, n_sbit0, n_shl, z_ltM, z_Mlt, z_leM, z_Mle, z_eqM, z_Meq, bI0, bI1, bI_01, bI_01t, bI_10, bI_10f, if_true, if_false, eq_self, reduceCtorEq, hC, hVS, k1, k2, r5, rc_108 hB, e1])); first | rw [Option.bind_some] | rw [bp_s] | rw [if_true] | rw [if_false] | rw [rv_lt_eq] | rw [if_pos (by omega)] | rw [if_neg (by omega)])
          all_goals rfl
        · rw [fnX13_clear]
          repeat (first | (conv => (lhs; arg 1; simp (disch := first | assumption | omega) only [tk_gI, tk_gL, tk_gR, tk_pI, tk_pL, rv_aI, rv_aL, rv_aR, rv_uI, rv_uL, rv_uB, rv_uZ, pu_ckI, pu_ckL, pu_lnI, pu_lnL, tk_rI, tk_rL, Option.bind_some, Option.map_some, rv_lt, tk_ix, z0, z1, z2, z3, z4, z5, z6, z7, z8, z9, z10, z11, z12, z13, z15, z16, z17, z18, z20, z21, z23, z24, z25, z31, z32, z39, z40, z41, z46, z48, z50, z57, z59, z60, z61, z62, z63, z64, z97, z98, z99, z100, z101, z102, z103, z104, z105, z106, z107, z108, z109, z110, z111, z112, z113, z114, z115, z116, z117, z118, z119, z120, z121, z122, z128, z132, z200, z240, z255, z372, z390625, z400, z420, z421, z422, z662, z900, z940, z999, z1000, z1024, z2000, z5860, z10000, z12345, z15625, z266240, z1048575, z1064960, z1103515245, z_m1, n_le, n_lt, n_eq, n_bit0, n_bit1, n_sbit0, n_shl, z_ltM, z_Mlt, z_leM, z_Mle, z_eqM, z_Meq, bI0, bI1, bI_01, bI_01t, bI_10, bI_10f, if_true, if_false, eq_self, reduceCtorEq, rc_189 hB1, e6, rc_189 hB6, m_isDebt hB6 hM6 hd h, o3, e2])); first | rw [Option.bind_some] | rw [bp_s] | rw [if_true] | rw [if_false] | rw [rv_lt_eq] | rw [if_pos (by omega)] | rw [if_neg (by omega)])
          all_goals rfl
      · have hB1 := f1.B hB
        have hkM : okm (pM m k) := mvs_ok hk q2 _ (Nat.le_refl _)
        have eD : vD (pM m k) = vD m := mvs_lo _ 2 (by decide)
        have hkD : k < vD (pM m k) := by omega
        have g7 : S1.2.1 67 7 = nI (bs (fun d => decide (0 < db (pM m k) d 3)) (vD (pM m k))) := q.2.2.2.1
        have q2' := cl_CR q hkM hkD
        obtain ⟨S2, eS2⟩ : ∃ S2, S2 = rv_sI S1 67 7 (nI (bs (fun d => decide (0 < db (pM m k) d 3)) (vD (pM m k)) ||| 2 ^ k)) := ⟨_, rfl⟩
        have f2 : rvf [67] S1 S2 := by rw [eS2]; exact (rvf.rf _ _).w rfl rfl
        rw [← eS2] at q2'
        have f12 : rvf [108, 109, 77, 78, 67] S S2 := (f1.mono rfl).tr (f2.mono rfl)
        have hB2 := f2.B hB1
        obtain ⟨S6, e6, hB6, f6, hM6, r6, b6⟩ := start_ok (n := n) (by omega) hB2 (hL.f f12 rfl rfl)
        obtain ⟨S3, e3, f3, hM3, r3⟩ := (m_clearNow hn hB6 hM6 hk h).2 t1
        have o3 := m_ofDebt (n := n) hB6 hM6 (k := k) (i := 3) (by omega) (by decide)
        rw [c3] at o3
        have fz : rvf [189000, 189022, 191, 199, 200, 202] S2 S3 := (f6.mono rfl).tr (f3.mono rfl)
        refine ⟨nI (pT m k), S2, S3, cl (pM m k) k, ?_, ?_, QS.two hV f12 fz rfl rfl rfl rfl q2' hM3 (by rw [f3.at (a := 189) (k := 22) rfl]; exact b6) (cl_ok hkM hkD) ((cl_lo (by decide)).trans (mvs_lo _ 0 (by decide))) ((cl_lo (by decide)).trans (mvs_lo _ 6 (by decide))) (r6.tr r3)⟩
        · have hC1 := CS_of hB1
          have hVS1 := VS_of hB1 hv
          rw [fnX12_clear]
          repeat (first | (conv => (lhs; arg 1; simp (disch := first | assumption | omega) only [tk_gI, tk_gL, tk_gR, tk_pI, tk_pL, rv_aI, rv_aL, rv_aR, rv_uI, rv_uL, rv_uB, rv_uZ, pu_ckI, pu_ckL, pu_lnI, pu_lnL, tk_rI, tk_rL, Option.bind_some, Option.map_some, rv_lt, tk_ix, z0, z1, z2, z3, z4, z5, z6, z7, z8, z9, z10, z11, z12, z13, z15, z16, z17, z18, z20, z21, z23, z24, z25, z31, z32, z39, z40, z41, z46, z48, z50, z57, z59, z60, z61, z62, z63, z64, z97, z98, z99, z100, z101, z102, z103, z104, z105, z106, z107, z108, z109, z110, z111, z112, z113, z114, z115, z116, z117, z118, z119, z120, z121, z122, z128, z132, z200, z240, z255, z372, z390625, z400, z420, z421, z422, z662, z900, z940, z999, z1000, z1024, z2000, z5860, z10000, z12345, z15625, z266240, z1048575, z1064960, z1103515245, z_m1, n_le, n_lt, n_eq, n_bit0, n_bit1, n_sbit0, n_shl, z_ltM, z_Mlt, z_leM, z_Mle, z_eqM, z_Meq, bI0, bI1, bI_01, bI_01t, bI_10, bI_10f, if_true, if_false, eq_self, reduceCtorEq, hC, hVS, k1, k2, r5, rc_108 hB, e1])); first | rw [Option.bind_some] | rw [bp_s] | rw [if_true] | rw [if_false] | rw [rv_lt_eq] | rw [if_pos (by omega)] | rw [if_neg (by omega)])
          simp (disch := first | assumption | omega) only [tk_gI, tk_gL, tk_gR, tk_pI, tk_pL, rv_aI, rv_aL, rv_aR, rv_uI, rv_uL, rv_uB, rv_uZ, pu_ckI, pu_ckL, pu_lnI, pu_lnL, tk_rI, tk_rL, Option.bind_some, Option.map_some, rv_lt, tk_ix, z0, z1, z2, z3, z4, z5, z6, z7, z8, z9, z10, z11, z12, z13, z15, z16, z17, z18, z20, z21, z23, z24, z25, z31, z32, z39, z40, z41, z46, z48, z50, z57, z59, z60, z61, z62, z63, z64, z97, z98, z99, z100, z101, z102, z103, z104, z105, z106, z107, z108, z109, z110, z111, z112, z113, z114, z115, z116, z117, z118, z119, z120, z121, z122, z128, z132, z200, z240, z255, z372, z390625, z400, z420, z421, z422, z662, z900, z940, z999, z1000, z1024, z2000, z5860, z10000, z12345, z15625, z266240, z1048575, z1064960, z1103515245, z_m1, n_le, n_lt, n_eq, n_bit0, n_bit1, n_sbit0, n_shl, z_ltM, z_Mlt, z_leM, z_Mle, z_eqM, z_Meq, bI0, bI1, bI_01, bI_01t, bI_10, bI_10f, if_true, if_false, eq_self, reduceCtorEq, if_pos, if_neg, hC1, hVS1, g7, fa_or, ← eS2, Nat.not_lt_zero]
        · rw [fnX13_clear]
          repeat (first | (conv => (lhs; arg 1; simp (disch := first | assumption | omega) only [tk_gI, tk_gL, tk_gR, tk_pI, tk_pL, rv_aI, rv_aL, rv_aR, rv_uI, rv_uL, rv_uB, rv_uZ, pu_ckI, pu_ckL, pu_lnI, pu_lnL, tk_rI, tk_rL, Option.bind_some, Option.map_some, rv_lt, tk_ix, z0, z1, z2, z3, z4, z5, z6, z7, z8, z9, z10, z11, z12, z13, z15, z16, z17, z18, z20, z21, z23, z24, z25, z31, z32, z39, z40, z41, z46, z48, z50, z57, z59, z60, z61, z62, z63, z64, z97, z98, z99, z100, z101, z102, z103, z104, z105, z106, z107, z108, z109, z110, z111, z112, z113, z114, z115, z116, z117, z118, z119, z120, z121, z122, z128, z132, z200, z240, z255, z372, z390625, z400, z420, z421, z422, z662, z900, z940, z999, z1000, z1024, z2000, z5860, z10000, z12345, z15625, z266240, z1048575, z1064960, z1103515245, z_m1, n_le, n_lt, n_eq, n_bit0, n_bit1, n_sbit0, n_shl, z_ltM, z_Mlt, z_leM, z_Mle, z_eqM, z_Meq, bI0, bI1, bI_01, bI_01t, bI_10, bI_10f, if_true, if_false, eq_self, reduceCtorEq, rc_189 hB2, e6, rc_189 hB6, m_isDebt hB6 hM6 hd h, o3, e3])); first | rw [Option.bind_some] | rw [bp_s] | rw [if_true] | rw [if_false] | rw [rv_lt_eq] | rw [if_pos (by omega)] | rw [if_neg (by omega)])
          all_goals rfl
    · rw [show decide (0 < db m k 3) = true from decide_eq_true (by omega), bI_t] at k2
      refine bad ?_ fun S6 e6 hB6 hM6 => ?_
      · rw [fnX12_clear]
        repeat (first | (conv => (lhs; arg 1; simp (disch := first | assumption | omega) only [tk_gI, tk_gL, tk_gR, tk_pI, tk_pL, rv_aI, rv_aL, rv_aR, rv_uI, rv_uL, rv_uB, rv_uZ, pu_ckI, pu_ckL, pu_lnI, pu_lnL, tk_rI, tk_rL, Option.bind_some, Option.map_some, rv_lt, tk_ix, z0, z1, z2, z3, z4, z5, z6, z7, z8, z9, z10, z11, z12, z13, z15, z16, z17, z18, z20, z21, z23, z24, z25, z31, z32, z39, z40, z41, z46, z48, z50, z57, z59, z60, z61, z62, z63, z64, z97, z98, z99, z100, z101, z102, z103, z104, z105, z106, z107, z108, z109, z110, z111, z112, z113, z114, z115, z116, z117, z118, z119, z120, z121, z122, z128, z132, z200, z240, z255, z372, z390625, z400, z420, z421, z422, z662, z900, z940, z999, z1000, z1024, z2000, z5860, z10000, z12345, z15625, z266240, z1048575, z1064960, z1103515245, z_m1, n_le, n_lt, n_eq, n_bit0, n_bit1, n_sbit0, n_shl, z_ltM, z_Mlt, z_leM, z_Mle, z_eqM, z_Meq, bI0, bI1, bI_01, bI_01t, bI_10, bI_10f, if_true, if_false, eq_self, reduceCtorEq, hC, hVS, k1, k2])); first | rw [Option.bind_some] | rw [bp_s] | rw [if_true] | rw [if_false] | rw [rv_lt_eq] | rw [if_pos (by omega)] | rw [if_neg (by omega)])
        all_goals rfl
      · have o3 := m_ofDebt (n := n) hB6 hM6 (k := k) (i := 3) (by omega) (by decide)
        have o3' : ¬ nI (db m k 3) = 0 := by rw [z0, n_eq (by omega) (by decide)]; exact c3
        rw [fnX13_clear]
        repeat (first | (conv => (lhs; arg 1; simp (disch := first | assumption | omega) only [tk_gI, tk_gL, tk_gR, tk_pI, tk_pL, rv_aI, rv_aL, rv_aR, rv_uI, rv_uL, rv_uB, rv_uZ, pu_ckI, pu_ckL, pu_lnI, pu_lnL, tk_rI, tk_rL, Option.bind_some, Option.map_some, rv_lt, tk_ix, z0, z1, z2, z3, z4, z5, z6, z7, z8, z9, z10, z11, z12, z13, z15, z16, z17, z18, z20, z21, z23, z24, z25, z31, z32, z39, z40, z41, z46, z48, z50, z57, z59, z60, z61, z62, z63, z64, z97, z98, z99, z100, z101, z102, z103, z104, z105, z106, z107, z108, z109, z110, z111, z112, z113, z114, z115, z116, z117, z118, z119, z120, z121, z122, z128, z132, z200, z240, z255, z372, z390625, z400, z420, z421, z422, z662, z900, z940, z999, z1000, z1024, z2000, z5860, z10000, z12345, z15625, z266240, z1048575, z1064960, z1103515245, z_m1, n_le, n_lt, n_eq, n_bit0, n_bit1, n_sbit0, n_shl, z_ltM, z_Mlt, z_leM, z_Mle, z_eqM, z_Meq, bI0, bI1, bI_01, bI_01t, bI_10, bI_10f, if_true, if_false, eq_self, reduceCtorEq, rc_189 hB, e6, rc_189 hB6, m_isDebt hB6 hM6 hd h, o3])); first | rw [Option.bind_some] | rw [bp_s] | rw [if_true] | rw [if_false] | rw [rv_lt_eq] | rw [if_pos (by omega)] | rw [if_neg (by omega)])
        all_goals first | rfl | (rw [if_neg o3']; rfl)
  · refine bad ?_ fun S6 e6 hB6 hM6 => ?_
    · rw [fnX12_clear]
      repeat (first | (conv => (lhs; arg 1; simp (disch := first | assumption | omega) only [tk_gI, tk_gL, tk_gR, tk_pI, tk_pL, rv_aI, rv_aL, rv_aR, rv_uI, rv_uL, rv_uB, rv_uZ, pu_ckI, pu_ckL, pu_lnI, pu_lnL, tk_rI, tk_rL, Option.bind_some, Option.map_some, rv_lt, tk_ix, z0, z1, z2, z3, z4, z5, z6, z7, z8, z9, z10, z11, z12, z13, z15, z16, z17, z18, z20, z21, z23, z24, z25, z31, z32, z39, z40, z41, z46, z48, z50, z57, z59, z60, z61, z62, z63, z64, z97, z98, z99, z100, z101, z102, z103, z104, z105, z106, z107, z108, z109, z110, z111, z112, z113, z114, z115, z116, z117, z118, z119, z120, z121, z122, z128, z132, z200, z240, z255, z372, z390625, z400, z420, z421, z422, z662, z900, z940, z999, z1000, z1024, z2000, z5860, z10000, z12345, z15625, z266240, z1048575, z1064960, z1103515245, z_m1, n_le, n_lt, n_eq, n_bit0, n_bit1, n_sbit0, n_shl, z_ltM, z_Mlt, z_leM, z_Mle, z_eqM, z_Meq, bI0, bI1, bI_01, bI_01t, bI_10, bI_10f, if_true, if_false, eq_self, reduceCtorEq, hC, k_isDebt0 hB hR hx])); first | rw [Option.bind_some] | rw [bp_s] | rw [if_true] | rw [if_false] | rw [rv_lt_eq] | rw [if_pos (by omega)] | rw [if_neg (by omega)])
      all_goals rfl
    · rw [fnX13_clear]
      repeat (first | (conv => (lhs; arg 1; simp (disch := first | assumption | omega) only [tk_gI, tk_gL, tk_gR, tk_pI, tk_pL, rv_aI, rv_aL, rv_aR, rv_uI, rv_uL, rv_uB, rv_uZ, pu_ckI, pu_ckL, pu_lnI, pu_lnL, tk_rI, tk_rL, Option.bind_some, Option.map_some, rv_lt, tk_ix, z0, z1, z2, z3, z4, z5, z6, z7, z8, z9, z10, z11, z12, z13, z15, z16, z17, z18, z20, z21, z23, z24, z25, z31, z32, z39, z40, z41, z46, z48, z50, z57, z59, z60, z61, z62, z63, z64, z97, z98, z99, z100, z101, z102, z103, z104, z105, z106, z107, z108, z109, z110, z111, z112, z113, z114, z115, z116, z117, z118, z119, z120, z121, z122, z128, z132, z200, z240, z255, z372, z390625, z400, z420, z421, z422, z662, z900, z940, z999, z1000, z1024, z2000, z5860, z10000, z12345, z15625, z266240, z1048575, z1064960, z1103515245, z_m1, n_le, n_lt, n_eq, n_bit0, n_bit1, n_sbit0, n_shl, z_ltM, z_Mlt, z_leM, z_Mle, z_eqM, z_Meq, bI0, bI1, bI_01, bI_01t, bI_10, bI_10f, if_true, if_false, eq_self, reduceCtorEq, rc_189 hB, e6, rc_189 hB6, m_isDebt0 hB6 hM6 hx])); first | rw [Option.bind_some] | rw [bp_s] | rw [if_true] | rw [if_false] | rw [rv_lt_eq] | rw [if_pos (by omega)] | rw [if_neg (by omega)])
      all_goals rfl
end
