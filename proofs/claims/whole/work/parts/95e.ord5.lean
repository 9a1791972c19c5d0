/-! ORDERS: what the tape tells, both sides together -/
section
variable {n : Nat} {S : rvS} {m m' : Nat → Nat} {wd : Nat → List Nat}
/-- whether the bytes are debts, unlike, none cleared -/
def tkk (m : Nat → Nat) (y : Nat → Nat) : Nat → Nat → Nat → Bool
  | 0, _, _ => true
  | r + 1, i, sn => if y i < vD m ∧ db m (y i) 3 = 0 ∧ sn.testBit (y i) = false then tkk m y r (i + 1) (sn ||| 2 ^ y i) else false
theorem tkk_lt {y : Nat → Nat} : ∀ r i sn, tkk m y r i sn = true → ∀ j, i ≤ j → j < i + r → y j < vD m
  | 0, i, sn, _, j, h1, h2 => by omega
  | r + 1, i, sn, h, j, h1, h2 => by
    rw [tkk] at h
    by_cases c : y i < vD m ∧ db m (y i) 3 = 0 ∧ sn.testBit (y i) = false
    · rw [if_pos c] at h
      by_cases e : j = i
      · rw [e]; exact c.1
      · exact tkk_lt r (i + 1) _ h j (by omega) (by omega)
    · rw [if_neg c] at h; exact absurd h nft
theorem sn_lt {sn k : Nat} (h : sn < 4096) (hk : k < 12) : sn ||| 2 ^ k < 4096 := Nat.or_lt_two_pow (n := 12) h (Nat.pow_lt_pow_right (by decide) hk)
theorem k_sign (hB : rv_B S) {L j : Nat} (hL : L ≤ 940) (hl : S.2.1 65 1 = nI L) (hj : j < L) {b : Nat} (hb : S.2.1 66 j &&& 255 = nI b) : fnX8_signAt n S 65 (nI j) = some (nI b) := by
  have rr := rf_of hB (show (65, 0, 66) ∈ rv_rf0 by decide)
  have rn : rv_ln S 2 66 = some 940 := hB.ln rfl rfl
  rw [z255] at hb
  simp (disch := first | assumption | omega) only [fnX8_signAt, tk_gI, tk_gL, tk_gR, tk_pI, tk_pL, rv_aI, rv_aL, rv_aR, rv_uI, rv_uL, rv_uB, rv_uZ, pu_ckI, pu_ckL, pu_lnI, pu_lnL, tk_rI, tk_rL, Option.bind_some, Option.map_some, rv_lt, tk_ix, z0, z1, z2, z3, z4, z5, z6, z7, z8, z9, z10, z11, z12, z13, z15, z16, z17, z18, z20, z21, z23, z24, z25, z31, z32, z39, z40, z41, z46, z48, z50, z57, z59, z60, z61, z62, z63, z64, z97, z98, z99, z100, z101, z102, z103, z104, z105, z106, z107, z108, z109, z110, z111, z112, z113, z114, z115, z116, z117, z118, z119, z120, z121, z122, z128, z132, z200, z240, z255, z372, z390625, z400, z420, z421, z422, z662, z900, z940, z999, z1000, z1024, z2000, z5860, z10000, z12345, z15625, z266240, z1048575, z1064960, z1103515245, z_m1, n_le, n_lt, n_eq, n_bit0, n_bit1, n_sbit0, n_shl, z_ltM, z_Mlt, z_leM, z_Mle, z_eqM, z_Meq, bI0, bI1, bI_01, bI_01t, bI_10, bI_10f, if_true, if_false, eq_self, reduceCtorEq, if_pos, if_neg, rc_65 hB, hl, rr, rn, hb]
theorem k_take1 (hB : rv_B S) (hR : CR S 67 m) (hk : okm m) {L : Nat} (hL : L ≤ 5) {y : Nat → Nat} (hl : S.2.1 65 1 = nI L) (hy : ∀ j, j < L → y j < 256 ∧ S.2.1 66 j &&& 255 = nI (y j)) : ∀ (r q i sn : Nat) (S1 : rvS), i + r = L → r < q → sn < 4096 → rvf [120] S S1 → (∀ j, j < i → S1.2.1 120 j = nI (y j)) → ∃ S', cX4_take_23 n q S1 118 65 67 (nI sn) (nI i) = some (bI (tkk m y r i sn), S') ∧ rvf [118004, 120] S S' ∧ (tkk m y r i sn = true → S'.2.1 118 4 = nI L ∧ ∀ j, j < L → S'.2.1 120 j = nI (y j)) := by
  have h12 := hk.2.2.1
  have hv : vb 67 := Or.inl rfl
  intro r
  induction r with
  | zero =>
    intro q i sn S1 hi hq hs f hg
    obtain ⟨q, rfl⟩ : ∃ q', q = q' + 1 := ⟨q - 1, by omega⟩
    have hB1 := f.B hB
    have l1 : S1.2.1 65 1 = nI L := (f.at (a := 65) (k := 1) rfl).trans hl
    have f2 : rvf [118004] S1 (rv_sI S1 118 4 (nI L)) := rvf.sI S1 118 4 _
    refine ⟨rv_sI S1 118 4 (nI L), ?_, (f.mono rfl).tr (f2.mono rfl), fun _ => ⟨rv_sI_eq _ _ _ _, fun j hj => ?_⟩⟩
    · rw [cX4_take_23, tkk]
      simp (disch := first | assumption | omega) only [tk_gI, tk_gL, tk_gR, tk_pI, tk_pL, rv_aI, rv_aL, rv_aR, rv_uI, rv_uL, rv_uB, rv_uZ, pu_ckI, pu_ckL, pu_lnI, pu_lnL, tk_rI, tk_rL, Option.bind_some, Option.map_some, rv_lt, tk_ix, z0, z1, z2, z3, z4, z5, z6, z7, z8, z9, z10, z11, z12, z13, z15, z16, z17, z18, z20, z21, z23, z24, z25, z31, z32, z39, z40, z41, z46, z48, z50, z57, z59, z60, z61, z62, z63, z64, z97, z98, z99, z100, z101, z102, z103, z104, z105, z106, z107, z108, z109, z110, z111, z112, z113, z114, z115, z116, z117, z118, z119, z120, z121, z122, z128, z132, z200, z240, z255, z372, z390625, z400, z420, z421, z422, z662, z900, z940, z999, z1000, z1024, z2000, z5860, z10000, z12345, z15625, z266240, z1048575, z1064960, z1103515245, z_m1, n_le, n_lt, n_eq, n_bit0, n_bit1, n_sbit0, n_shl, z_ltM, z_Mlt, z_leM, z_Mle, z_eqM, z_Meq, bI0, bI1, bI_01, bI_01t, bI_10, bI_10f, if_true, if_false, eq_self, reduceCtorEq, if_pos, if_neg, rc_65 hB1, rc_118 hB1, l1, show L ≤ i by omega]
      rfl
    · rw [rv_sI_a _ _ _ (by decide)]; exact hg j (by omega)
  | succ r ih =>
    intro q i sn S1 hi hq hs f hg
    obtain ⟨q, rfl⟩ : ∃ q', q = q' + 1 := ⟨q - 1, by omega⟩
    have hB1 := f.B hB
    have R1 := hR.f f hv (Or.inl rfl) (Or.inr (by decide)) (Or.inr (by decide)) (Or.inr (by decide))
    have hVS1 := VS_of hB1 hv
    have l1 : S1.2.1 65 1 = nI L := (f.at (a := 65) (k := 1) rfl).trans hl
    obtain ⟨y1, y2⟩ := hy i (by omega)
    have ks := k_sign (n := n) hB1 (show L ≤ 940 by omega) l1 (show i < L by omega) (b := y i) ((congrArg (· &&& 255) (f.row rfl rfl i)).trans y2)
    have d6 : S1.2.1 67 6 = nI (vD m) := R1.2.2.1
    rw [tkk]
    have same : ∀ {b : Bool}, b = false → rvf [118004, 120] S S1 ∧ (b = true → S1.2.1 118 4 = nI L ∧ ∀ j, j < L → S1.2.1 120 j = nI (y j)) := fun h => ⟨f.mono rfl, fun z => absurd (h.symm.trans z) nft⟩
    by_cases c1 : y i < vD m
    · have kc := k9_isCleared (n := n) hB1 hv R1 hk c1
      have q4 := (hk.2.2.2.2.2.2.2.2 (y i) c1).2.2.2.2.2
      by_cases c2 : db m (y i) 3 = 0
      · rw [decide_eq_false (show ¬ 0 < db m (y i) 3 by omega), bI_f] at kc
        cases c3 : sn.testBit (y i)
        · rw [if_pos ⟨c1, c2, rfl⟩]
          obtain ⟨S2, eS2⟩ : ∃ S2, S2 = rv_sI S1 120 i (nI (y i)) := ⟨_, rfl⟩
          have f2 : rvf [120] S1 S2 := by rw [eS2]; exact (rvf.rf _ _).w rfl rfl
          obtain ⟨S3, e3, f3, g3⟩ := ih q (i + 1) (sn ||| 2 ^ y i) S2 (by omega) (by omega) (sn_lt hs (by omega)) (f.tr f2) (fun j hj => by
            rw [eS2]
            by_cases e : j = i
            · subst e; exact rv_sI_eq _ _ _ _
            · rw [rv_sI_k _ _ e]; exact hg j (by omega))
          refine ⟨S3, ?_, f3, g3⟩
          rw [← e3, cX4_take_23]
          simp (disch := first | assumption | omega) only [tk_gI, tk_gL, tk_gR, tk_pI, tk_pL, rv_aI, rv_aL, rv_aR, rv_uI, rv_uL, rv_uB, rv_uZ, pu_ckI, pu_ckL, pu_lnI, pu_lnL, tk_rI, tk_rL, Option.bind_some, Option.map_some, rv_lt, tk_ix, z0, z1, z2, z3, z4, z5, z6, z7, z8, z9, z10, z11, z12, z13, z15, z16, z17, z18, z20, z21, z23, z24, z25, z31, z32, z39, z40, z41, z46, z48, z50, z57, z59, z60, z61, z62, z63, z64, z97, z98, z99, z100, z101, z102, z103, z104, z105, z106, z107, z108, z109, z110, z111, z112, z113, z114, z115, z116, z117, z118, z119, z120, z121, z122, z128, z132, z200, z240, z255, z372, z390625, z400, z420, z421, z422, z662, z900, z940, z999, z1000, z1024, z2000, z5860, z10000, z12345, z15625, z266240, z1048575, z1064960, z1103515245, z_m1, n_le, n_lt, n_eq, n_bit0, n_bit1, n_sbit0, n_shl, z_ltM, z_Mlt, z_leM, z_Mle, z_eqM, z_Meq, bI0, bI1, bI_01, bI_01t, bI_10, bI_10f, if_true, if_false, eq_self, reduceCtorEq, if_pos, if_neg, rc_65 hB1, rc_118 hB1, l1, show ¬ L ≤ i by omega, show ¬ 5 ≤ i by omega, ks, hVS1, d6, show ¬ vD m ≤ y i by omega, kc, c3, rf_of hB1 (show (118, 1, 120) ∈ rv_rf0 by decide), rn_120 hB1, ← eS2, fa_or, nI_add]
        · rw [if_neg (fun z => absurd z.2.2 (by decide))]
          refine ⟨S1, ?_, same rfl⟩
          rw [cX4_take_23]
          simp (disch := first | assumption | omega) only [tk_gI, tk_gL, tk_gR, tk_pI, tk_pL, rv_aI, rv_aL, rv_aR, rv_uI, rv_uL, rv_uB, rv_uZ, pu_ckI, pu_ckL, pu_lnI, pu_lnL, tk_rI, tk_rL, Option.bind_some, Option.map_some, rv_lt, tk_ix, z0, z1, z2, z3, z4, z5, z6, z7, z8, z9, z10, z11, z12, z13, z15, z16, z17, z18, z20, z21, z23, z24, z25, z31, z32, z39, z40, z41, z46, z48, z50, z57, z59, z60, z61, z62, z63, z64, z97, z98, z99, z100, z101, z102, z103, z104, z105, z106, z107, z108, z109, z110, z111, z112, z113, z114, z115, z116, z117, z118, z119, z120, z121, z122, z128, z132, z200, z240, z255, z372, z390625, z400, z420, z421, z422, z662, z900, z940, z999, z1000, z1024, z2000, z5860, z10000, z12345, z15625, z266240, z1048575, z1064960, z1103515245, z_m1, n_le, n_lt, n_eq, n_bit0, n_bit1, n_sbit0, n_shl, z_ltM, z_Mlt, z_leM, z_Mle, z_eqM, z_Meq, bI0, bI1, bI_01, bI_01t, bI_10, bI_10f, if_true, if_false, eq_self, reduceCtorEq, if_pos, if_neg, rc_65 hB1, rc_118 hB1, l1, show ¬ L ≤ i by omega, show ¬ 5 ≤ i by omega, ks, hVS1, d6, show ¬ vD m ≤ y i by omega, kc, c3]
          rfl
      · rw [decide_eq_true (show 0 < db m (y i) 3 by omega), bI_t] at kc
        rw [if_neg (fun z => c2 z.2.1)]
        refine ⟨S1, ?_, same rfl⟩
        rw [cX4_take_23]
        simp (disch := first | assumption | omega) only [tk_gI, tk_gL, tk_gR, tk_pI, tk_pL, rv_aI, rv_aL, rv_aR, rv_uI, rv_uL, rv_uB, rv_uZ, pu_ckI, pu_ckL, pu_lnI, pu_lnL, tk_rI, tk_rL, Option.bind_some, Option.map_some, rv_lt, tk_ix, z0, z1, z2, z3, z4, z5, z6, z7, z8, z9, z10, z11, z12, z13, z15, z16, z17, z18, z20, z21, z23, z24, z25, z31, z32, z39, z40, z41, z46, z48, z50, z57, z59, z60, z61, z62, z63, z64, z97, z98, z99, z100, z101, z102, z103, z104, z105, z106, z107, z108, z109, z110, z111, z112, z113, z114, z115, z116, z117, z118, z119, z120, z121, z122, z128, z132, z200, z240, z255, z372, z390625, z400, z420, z421, z422, z662, z900, z940, z999, z1000, z1024, z2000, z5860, z10000, z12345, z15625, z266240, z1048575, z1064960, z1103515245, z_m1, n_le, n_lt, n_eq, n_bit0, n_bit1, n_sbit0, n_shl, z_ltM, z_Mlt, z_leM, z_Mle, z_eqM, z_Meq, bI0, bI1, bI_01, bI_01t, bI_10, bI_10f, if_true, if_false, eq_self, reduceCtorEq, if_pos, if_neg, rc_65 hB1, rc_118 hB1, l1, show ¬ L ≤ i by omega, show ¬ 5 ≤ i by omega, ks, hVS1, d6, show ¬ vD m ≤ y i by omega, kc]
        rfl
    · rw [if_neg (fun z => c1 z.1)]
      refine ⟨S1, ?_, same rfl⟩
      rw [cX4_take_23]
      simp (disch := first | assumption | omega) only [tk_gI, tk_gL, tk_gR, tk_pI, tk_pL, rv_aI, rv_aL, rv_aR, rv_uI, rv_uL, rv_uB, rv_uZ, pu_ckI, pu_ckL, pu_lnI, pu_lnL, tk_rI, tk_rL, Option.bind_some, Option.map_some, rv_lt, tk_ix, z0, z1, z2, z3, z4, z5, z6, z7, z8, z9, z10, z11, z12, z13, z15, z16, z17, z18, z20, z21, z23, z24, z25, z31, z32, z39, z40, z41, z46, z48, z50, z57, z59, z60, z61, z62, z63, z64, z97, z98, z99, z100, z101, z102, z103, z104, z105, z106, z107, z108, z109, z110, z111, z112, z113, z114, z115, z116, z117, z118, z119, z120, z121, z122, z128, z132, z200, z240, z255, z372, z390625, z400, z420, z421, z422, z662, z900, z940, z999, z1000, z1024, z2000, z5860, z10000, z12345, z15625, z266240, z1048575, z1064960, z1103515245, z_m1, n_le, n_lt, n_eq, n_bit0, n_bit1, n_sbit0, n_shl, z_ltM, z_Mlt, z_leM, z_Mle, z_eqM, z_Meq, bI0, bI1, bI_01, bI_01t, bI_10, bI_10f, if_true, if_false, eq_self, reduceCtorEq, if_pos, if_neg, rc_65 hB1, rc_118 hB1, l1, show ¬ L ≤ i by omega, show ¬ 5 ≤ i by omega, ks, hVS1, d6, show vD m ≤ y i by omega]
      rfl
theorem m_wish1 (hB : rv_B S) (hM : MR S m) (hk : okm m) {L : Nat} (hL : L ≤ 5) {y : Nat → Nat} (hy : ∀ j, j < L → y j < 256 ∧ S.2.1 190 j = nI (y j)) : ∀ (r q i sn : Nat) (S1 : rvS), i + r = L → r < q → sn < 4096 → rvf [212] S S1 → (∀ j, j < i → S1.2.1 212 j = nI (y j)) → (tkk m y r i sn = true → ∃ S', cX13_orders_29 n q S1 189 (nI L) (nI sn) (nI i) = cX13_orders_107 n n S' 189 (nI L) (nI 0) ∧ rvf [212] S S' ∧ ∀ j, j < L → S'.2.1 212 j = nI (y j)) ∧ (tkk m y r i sn = false → ∃ S', cX13_orders_29 n q S1 189 (nI L) (nI sn) (nI i) = some (iM, S') ∧ rvf [212] S S') := by
  have h12 := hk.2.2.1
  intro r
  induction r with
  | zero =>
    intro q i sn S1 hi hq hs f hg
    obtain ⟨q, rfl⟩ : ∃ q', q = q' + 1 := ⟨q - 1, by omega⟩
    refine ⟨fun _ => ⟨S1, ?_, f, fun j hj => hg j (by omega)⟩, fun z => absurd z (by rw [tkk]; decide)⟩
    rw [cX13_orders_29]
    simp (disch := first | assumption | omega) only [tk_gI, tk_gL, tk_gR, tk_pI, tk_pL, rv_aI, rv_aL, rv_aR, rv_uI, rv_uL, rv_uB, rv_uZ, pu_ckI, pu_ckL, pu_lnI, pu_lnL, tk_rI, tk_rL, Option.bind_some, Option.map_some, rv_lt, tk_ix, z0, z1, z2, z3, z4, z5, z6, z7, z8, z9, z10, z11, z12, z13, z15, z16, z17, z18, z20, z21, z23, z24, z25, z31, z32, z39, z40, z41, z46, z48, z50, z57, z59, z60, z61, z62, z63, z64, z97, z98, z99, z100, z101, z102, z103, z104, z105, z106, z107, z108, z109, z110, z111, z112, z113, z114, z115, z116, z117, z118, z119, z120, z121, z122, z128, z132, z200, z240, z255, z372, z390625, z400, z420, z421, z422, z662, z900, z940, z999, z1000, z1024, z2000, z5860, z10000, z12345, z15625, z266240, z1048575, z1064960, z1103515245, z_m1, n_le, n_lt, n_eq, n_bit0, n_bit1, n_sbit0, n_shl, z_ltM, z_Mlt, z_leM, z_Mle, z_eqM, z_Meq, bI0, bI1, bI_01, bI_01t, bI_10, bI_10f, if_true, if_false, eq_self, reduceCtorEq, if_pos, if_neg, show L ≤ i by omega]
  | succ r ih =>
    intro q i sn S1 hi hq hs f hg
    obtain ⟨q, rfl⟩ : ∃ q', q = q' + 1 := ⟨q - 1, by omega⟩
    have hB1 := f.B hB
    obtain ⟨y1, y2⟩ := hy i (by omega)
    have t1 : S1.2.1 190 i = nI (y i) := (f.row rfl rfl i).trans y2
    obtain ⟨S2, eS2⟩ : ∃ S2, S2 = rv_sI S1 212 i (nI (y i)) := ⟨_, rfl⟩
    have f2 : rvf [212] S1 S2 := by rw [eS2]; exact (rvf.rf _ _).w rfl rfl
    have hB2 := f2.B hB1
    have hM2 := (hM.f f rfl).f f2 rfl
    have g2 : S2.2.1 212 i = nI (y i) := by rw [eS2, rv_sI_eq]
    have ra := rf_of hB1 (show (189, 44, 212) ∈ rv_rf0 by decide)
    have rb := rf_of hB1 (show (189, 1, 190) ∈ rv_rf0 by decide)
    have ra2 := rf_of hB2 (show (189, 44, 212) ∈ rv_rf0 by decide)
    have rnb : rv_ln S1 0 190 = some 940 := hB1.ln rfl rfl
    rw [tkk]
    have no : ∀ {b : Bool}, b = false → b = true → ∃ S', cX13_orders_29 n (q + 1) S1 189 (nI L) (nI sn) (nI i) = cX13_orders_107 n n S' 189 (nI L) (nI 0) ∧ rvf [212] S S' ∧ ∀ j, j < L → S'.2.1 212 j = nI (y j) := fun h z => absurd (h.symm.trans z) nft
    by_cases c1 : y i < vD m
    · have kd := m_isDebt (n := n) hB2 hM2 hk.2.2 c1
      have q4 := (hk.2.2.2.2.2.2.2.2 (y i) c1).2.2.2.2.2
      have o3 := m_ofDebt (n := n) hB2 hM2 (k := y i) (i := 3) (by omega) (by decide)
      by_cases c2 : db m (y i) 3 = 0
      · rw [c2] at o3
        have mh := m_has (n := n) (S := S2) (x := sn) (j := y i) (by omega) (by omega)
        cases c3 : sn.testBit (y i)
        · rw [c3, bI_f] at mh
          rw [if_pos ⟨c1, c2, rfl⟩]
          have hih := ih q (i + 1) (sn ||| 2 ^ y i) S2 (by omega) (by omega) (sn_lt hs (by omega)) (f.tr f2) (fun j hj => by
            rw [eS2]
            by_cases e : j = i
            · subst e; exact rv_sI_eq _ _ _ _
            · rw [rv_sI_k _ _ e]; exact hg j (by omega))
          have top : cX13_orders_29 n (q + 1) S1 189 (nI L) (nI sn) (nI i) = cX13_orders_29 n q S2 189 (nI L) (nI (sn ||| 2 ^ y i)) (nI (i + 1)) := by
            rw [cX13_orders_29]
            simp (disch := first | assumption | omega) only [tk_gI, tk_gL, tk_gR, tk_pI, tk_pL, rv_aI, rv_aL, rv_aR, rv_uI, rv_uL, rv_uB, rv_uZ, pu_ckI, pu_ckL, pu_lnI, pu_lnL, tk_rI, tk_rL, Option.bind_some, Option.map_some, rv_lt, tk_ix, z0, z1, z2, z3, z4, z5, z6, z7, z8, z9, z10, z11, z12, z13, z15, z16, z17, z18, z20, z21, z23, z24, z25, z31, z32, z39, z40, z41, z46, z48, z50, z57, z59, z60, z61, z62, z63, z64, z97, z98, z99, z100, z101, z102, z103, z104, z105, z106, z107, z108, z109, z110, z111, z112, z113, z114, z115, z116, z117, z118, z119, z120, z121, z122, z128, z132, z200, z240, z255, z372, z390625, z400, z420, z421, z422, z662, z900, z940, z999, z1000, z1024, z2000, z5860, z10000, z12345, z15625, z266240, z1048575, z1064960, z1103515245, z_m1, n_le, n_lt, n_eq, n_bit0, n_bit1, n_sbit0, n_shl, z_ltM, z_Mlt, z_leM, z_Mle, z_eqM, z_Meq, bI0, bI1, bI_01, bI_01t, bI_10, bI_10f, if_true, if_false, eq_self, reduceCtorEq, if_pos, if_neg, rc_189 hB1, show ¬ L ≤ i by omega, ra, rb, rnb, rn_212 hB1, t1, ← eS2, rc_189 hB2, ra2, rn_212 hB2, g2, kd, o3, mh, Nat.one_ne_zero, Nat.lt_irrefl, fa_or, nI_add]
          rw [top]
          exact hih
        · rw [c3, bI_t] at mh
          rw [if_neg (fun z => absurd z.2.2 (by decide))]
          refine ⟨no rfl, fun _ => ⟨S2, ?_, f.tr f2⟩⟩
          rw [cX13_orders_29]
          simp (disch := first | assumption | omega) only [tk_gI, tk_gL, tk_gR, tk_pI, tk_pL, rv_aI, rv_aL, rv_aR, rv_uI, rv_uL, rv_uB, rv_uZ, pu_ckI, pu_ckL, pu_lnI, pu_lnL, tk_rI, tk_rL, Option.bind_some, Option.map_some, rv_lt, tk_ix, z0, z1, z2, z3, z4, z5, z6, z7, z8, z9, z10, z11, z12, z13, z15, z16, z17, z18, z20, z21, z23, z24, z25, z31, z32, z39, z40, z41, z46, z48, z50, z57, z59, z60, z61, z62, z63, z64, z97, z98, z99, z100, z101, z102, z103, z104, z105, z106, z107, z108, z109, z110, z111, z112, z113, z114, z115, z116, z117, z118, z119, z120, z121, z122, z128, z132, z200, z240, z255, z372, z390625, z400, z420, z421, z422, z662, z900, z940, z999, z1000, z1024, z2000, z5860, z10000, z12345, z15625, z266240, z1048575, z1064960, z1103515245, z_m1, n_le, n_lt, n_eq, n_bit0, n_bit1, n_sbit0, n_shl, z_ltM, z_Mlt, z_leM, z_Mle, z_eqM, z_Meq, bI0, bI1, bI_01, bI_01t, bI_10, bI_10f, if_true, if_false, eq_self, reduceCtorEq, if_pos, if_neg, rc_189 hB1, show ¬ L ≤ i by omega, ra, rb, rnb, rn_212 hB1, t1, ← eS2, rc_189 hB2, ra2, rn_212 hB2, g2, kd, o3, mh, Nat.one_ne_zero, Nat.lt_irrefl, z_m1]
      · rw [if_neg (fun z => c2 z.2.1)]
        refine ⟨no rfl, fun _ => ⟨S2, ?_, f.tr f2⟩⟩
        have p3 : 0 < db m (y i) 3 := by omega
        rw [cX13_orders_29]
        simp (disch := first | assumption | omega) only [tk_gI, tk_gL, tk_gR, tk_pI, tk_pL, rv_aI, rv_aL, rv_aR, rv_uI, rv_uL, rv_uB, rv_uZ, pu_ckI, pu_ckL, pu_lnI, pu_lnL, tk_rI, tk_rL, Option.bind_some, Option.map_some, rv_lt, tk_ix, z0, z1, z2, z3, z4, z5, z6, z7, z8, z9, z10, z11, z12, z13, z15, z16, z17, z18, z20, z21, z23, z24, z25, z31, z32, z39, z40, z41, z46, z48, z50, z57, z59, z60, z61, z62, z63, z64, z97, z98, z99, z100, z101, z102, z103, z104, z105, z106, z107, z108, z109, z110, z111, z112, z113, z114, z115, z116, z117, z118, z119, z120, z121, z122, z128, z132, z200, z240, z255, z372, z390625, z400, z420, z421, z422, z662, z900, z940, z999, z1000, z1024, z2000, z5860, z10000, z12345, z15625, z266240, z1048575, z1064960, z1103515245, z_m1, n_le, n_lt, n_eq, n_bit0, n_bit1, n_sbit0, n_shl, z_ltM, z_Mlt, z_leM, z_Mle, z_eqM, z_Meq, bI0, bI1, bI_01, bI_01t, bI_10, bI_10f, if_true, if_false, eq_self, reduceCtorEq, if_pos, if_neg, rc_189 hB1, show ¬ L ≤ i by omega, ra, rb, rnb, rn_212 hB1, t1, ← eS2, rc_189 hB2, ra2, rn_212 hB2, g2, kd, o3, p3, Nat.one_ne_zero, z_m1]
    · rw [if_neg (fun z => c1 z.1)]
      refine ⟨no rfl, fun _ => ⟨S2, ?_, f.tr f2⟩⟩
      have kd := m_isDebt0 (n := n) hB2 hM2 (x := nI (y i)) (Or.inr (by rw [n_le (by omega) (by omega)]; omega))
      rw [cX13_orders_29]
      simp (disch := first | assumption | omega) only [tk_gI, tk_gL, tk_gR, tk_pI, tk_pL, rv_aI, rv_aL, rv_aR, rv_uI, rv_uL, rv_uB, rv_uZ, pu_ckI, pu_ckL, pu_lnI, pu_lnL, tk_rI, tk_rL, Option.bind_some, Option.map_some, rv_lt, tk_ix, z0, z1, z2, z3, z4, z5, z6, z7, z8, z9, z10, z11, z12, z13, z15, z16, z17, z18, z20, z21, z23, z24, z25, z31, z32, z39, z40, z41, z46, z48, z50, z57, z59, z60, z61, z62, z63, z64, z97, z98, z99, z100, z101, z102, z103, z104, z105, z106, z107, z108, z109, z110, z111, z112, z113, z114, z115, z116, z117, z118, z119, z120, z121, z122, z128, z132, z200, z240, z255, z372, z390625, z400, z420, z421, z422, z662, z900, z940, z999, z1000, z1024, z2000, z5860, z10000, z12345, z15625, z266240, z1048575, z1064960, z1103515245, z_m1, n_le, n_lt, n_eq, n_bit0, n_bit1, n_sbit0, n_shl, z_ltM, z_Mlt, z_leM, z_Mle, z_eqM, z_Meq, bI0, bI1, bI_01, bI_01t, bI_10, bI_10f, if_true, if_false, eq_self, reduceCtorEq, if_pos, if_neg, rc_189 hB1, show ¬ L ≤ i by omega, ra, rb, rnb, rn_212 hB1, t1, ← eS2, rc_189 hB2, ra2, rn_212 hB2, g2, kd, z_m1]
theorem m_asked (hn : 500 ≤ n) (hB : rv_B S) {L : Nat} (hL : L ≤ 5) {y : Nat → Nat} (hw : ∀ j, j < L → S.2.1 212 j = nI (y j)) : ∃ S', cX13_orders_107 n n S 189 (nI L) (nI 0) = cX13_orders_130 n S' 189 (nI L) ∧ rvf [209] S S' ∧ ∀ j, j < L → S'.2.1 209 j = nI (y j) := by
  refine lp (F := fun q (x : rvS × Int32) => cX13_orders_107 n q x.1 189 (nI L) x.2) (fun i x => x.2 = nI i ∧ rvf [209] S x.1 ∧ ∀ j, j < i → x.1.2.1 209 j = nI (y j)) (fun o => ∃ S', o = cX13_orders_130 n S' 189 (nI L) ∧ rvf [209] S S' ∧ ∀ j, j < L → S'.2.1 209 j = nI (y j)) L (fun i x q hi hx => Or.inr ?_) (fun x q hx => ?_) (i := 0) (x := (S, nI 0)) (q := n) (Nat.zero_le _) ⟨rfl, rvf.rf _ _, fun j h => absurd h (Nat.not_lt_zero j)⟩ (by omega)
  · obtain ⟨S1, x2⟩ := x
    obtain ⟨rfl, f, g⟩ := hx
    have f : rvf [209] S S1 := f
    have g : ∀ j, j < i → S1.2.1 209 j = nI (y j) := g
    have hB1 := f.B hB
    have q1 : S1.2.1 212 i = nI (y i) := (f.row rfl rfl i).trans (hw i hi)
    refine ⟨(rv_sI S1 209 i (nI (y i)), nI (i + 1)), ?_, rfl, f.w rfl rfl, fun j hj => ?_⟩
    · show cX13_orders_107 n (q + 1) S1 189 (nI L) (nI i) = cX13_orders_107 n q _ 189 (nI L) (nI (i + 1))
      rw [cX13_orders_107]
      simp (disch := first | assumption | omega) only [tk_gI, tk_gL, tk_gR, tk_pI, tk_pL, rv_aI, rv_aL, rv_aR, rv_uI, rv_uL, rv_uB, rv_uZ, pu_ckI, pu_ckL, pu_lnI, pu_lnL, tk_rI, tk_rL, Option.bind_some, Option.map_some, rv_lt, tk_ix, z0, z1, z2, z3, z4, z5, z6, z7, z8, z9, z10, z11, z12, z13, z15, z16, z17, z18, z20, z21, z23, z24, z25, z31, z32, z39, z40, z41, z46, z48, z50, z57, z59, z60, z61, z62, z63, z64, z97, z98, z99, z100, z101, z102, z103, z104, z105, z106, z107, z108, z109, z110, z111, z112, z113, z114, z115, z116, z117, z118, z119, z120, z121, z122, z128, z132, z200, z240, z255, z372, z390625, z400, z420, z421, z422, z662, z900, z940, z999, z1000, z1024, z2000, z5860, z10000, z12345, z15625, z266240, z1048575, z1064960, z1103515245, z_m1, n_le, n_lt, n_eq, n_bit0, n_bit1, n_sbit0, n_shl, z_ltM, z_Mlt, z_leM, z_Mle, z_eqM, z_Meq, bI0, bI1, bI_01, bI_01t, bI_10, bI_10f, if_true, if_false, eq_self, reduceCtorEq, if_pos, if_neg, rc_189 hB1, rf_of hB1 (show (189, 38, 209) ∈ rv_rf0 by decide), rf_of hB1 (show (189, 44, 212) ∈ rv_rf0 by decide), rn_209 hB1, rn_212 hB1, nI_add, q1]
    · show (rv_sI S1 209 i _).2.1 209 j = _
      by_cases c : j = i
      · subst c; exact rv_sI_eq _ _ _ _
      · rw [rv_sI_k _ _ c]; exact g j (by omega)
  · obtain ⟨S1, x2⟩ := x
    obtain ⟨rfl, f, g⟩ := hx
    refine ⟨S1, ?_, f, g⟩
    show cX13_orders_107 n (q + 1) S1 189 (nI L) (nI L) = _
    rw [cX13_orders_107]
    simp (disch := first | assumption | omega) only [tk_gI, tk_gL, tk_gR, tk_pI, tk_pL, rv_aI, rv_aL, rv_aR, rv_uI, rv_uL, rv_uB, rv_uZ, pu_ckI, pu_ckL, pu_lnI, pu_lnL, tk_rI, tk_rL, Option.bind_some, Option.map_some, rv_lt, tk_ix, z0, z1, z2, z3, z4, z5, z6, z7, z8, z9, z10, z11, z12, z13, z15, z16, z17, z18, z20, z21, z23, z24, z25, z31, z32, z39, z40, z41, z46, z48, z50, z57, z59, z60, z61, z62, z63, z64, z97, z98, z99, z100, z101, z102, z103, z104, z105, z106, z107, z108, z109, z110, z111, z112, z113, z114, z115, z116, z117, z118, z119, z120, z121, z122, z128, z132, z200, z240, z255, z372, z390625, z400, z420, z421, z422, z662, z900, z940, z999, z1000, z1024, z2000, z5860, z10000, z12345, z15625, z266240, z1048575, z1064960, z1103515245, z_m1, n_le, n_lt, n_eq, n_bit0, n_bit1, n_sbit0, n_shl, z_ltM, z_Mlt, z_leM, z_Mle, z_eqM, z_Meq, bI0, bI1, bI_01, bI_01t, bI_10, bI_10f, if_true, if_false, eq_self, reduceCtorEq, if_pos, if_neg]
theorem m_ord130 (hn : 1100 ≤ n) (hB : rv_B S) (hM : MR S m) (hk : okm m) {N : Nat} (hN : N ≤ 5) {ask : Nat → Nat} (hask : ∀ i, i < N → ask i < vD m) (h209 : ∀ i, i < N → S.2.1 209 i = nI (ask i)) : ∃ S', cX13_orders_130 n S 189 (nI N) = some (mI (TO N (fun p => pye m (p.map ask)) N [] (0, [])).1, S') ∧ rvf (189041 :: 189043 :: 194 :: DM) S S' ∧ R42 S S' ∧ MR S' m ∧ S'.2.1 189 43 = nI N ∧ MRB S' N ask (TO N (fun p => pye m (p.map ask)) N [] (0, [])) := by
  obtain ⟨S1, eS1⟩ : ∃ S1, S1 = rv_sI (rv_sI S 189 41 (nI N)) 189 42 iM := ⟨_, rfl⟩
  have f1 : rvf [189041, 189042] S S1 := by
    rw [eS1]
    exact ((rvf.sI S 189 41 (nI N)).mono rfl).tr ((rvf.sI _ 189 42 iM).mono rfl)
  have hB1 := f1.B hB
  have hM1 := hM.f f1 rfl
  have a41 : S1.2.1 189 41 = nI N := by rw [eS1, rv_sI_k _ _ (by decide), rv_sI_eq]
  have a42 : S1.2.1 189 42 = mI 0 := by rw [eS1, rv_sI_eq, mI_0]
  obtain ⟨S2, e2, f2, g2⟩ := m_copyR (n := n) (by omega) hB1 hM1
  have hB2 := f2.B hB1
  have hM2 := hM1.f f2 rfl
  have pl : MPL S2 m N ask [] := ⟨hB2, g2, (f2.at (a := 189) (k := 41) rfl).trans a41, fun i hi => (f2.row rfl rfl i).trans ((f1.row rfl rfl i).trans (h209 i hi)), fun j hj => absurd hj (Nat.not_lt_zero j), fun x hx => absurd hx List.not_mem_nil⟩
  obtain ⟨S3, e3, o3, M3, b3⟩ := m_try hn hk hN hask N 8 (by omega) [] (0, []) S2 (Nat.zero_add N) pl hM2 ⟨Nat.zero_le 6, (f2.at (a := 189) (k := 42) rfl).trans a42, fun z => absurd z (Nat.not_succ_le_zero 0)⟩
  have hB3 := o3.1.B hB2
  have f4 : rvf [189043] S3 (rv_sI S3 189 43 (nI N)) := rvf.sI S3 189 43 _
  have hB4 := f4.B hB3
  have b4 := MRB_f b3 f4 rfl rfl
  refine ⟨rv_sI S3 189 43 (nI N), ?_, (f1.mono (by decide)).tr ((f2.mono (by decide)).tr ((o3.1.mono (by decide)).tr (f4.mono (by decide)))), (R42.of f1 rfl).tr ((R42.of f2 rfl).tr (o3.2.1.tr (R42.of f4 rfl))), M3.f f4 rfl, rv_sI_eq _ _ _ _, b4⟩
  have e3 : fnX13_tryOrders n 8 S2 189 (nI 0) (nI 0) = some S3 := by
    have : obB N [] = 0 := bs_zero.mpr (fun k _ => rfl)
    have h := e3
    rw [this] at h
    exact h
  rw [cX13_orders_130]
  repeat (first | (conv => (lhs; arg 1; simp (disch := first | assumption | omega) only [tk_gI, tk_gL, tk_gR, tk_pI, tk_pL, rv_aI, rv_aL, rv_aR, rv_uI, rv_uL, rv_uB, rv_uZ, pu_ckI, pu_ckL, pu_lnI, pu_lnL, tk_rI, tk_rL, Option.bind_some, Option.map_some, rv_lt, tk_ix, z0, z1, z2, z3, z4, z5, z6, z7, z8, z9, z10, z11, z12, z13, z15, z16, z17, z18, z20, z21, z23, z24, z25, z31, z32, z39, z40, z41, z46, z48, z50, z57, z59, z60, z61, z62, z63, z64, z97, z98, z99, z100, z101, z102, z103, z104, z105, z106, z107, z108, z109, z110, z111, z112, z113, z114, z115, z116, z117, z118, z119, z120, z121, z122, z128, z132, z200, z240, z255, z372, z390625, z400, z420, z421, z422, z662, z900, z940, z999, z1000, z1024, z2000, z5860, z10000, z12345, z15625, z266240, z1048575, z1064960, z1103515245, z_m1, z_m1, rc_189 hB, ← eS1, rc_189 hB1, e2, rc_189 hB2, e3, rc_189 hB3, b4.2.1])); first | rw [Option.bind_some] | rw [bp_s] | rw [if_true] | rw [if_false] | rw [rv_lt_eq] | rw [if_pos (by omega)] | rw [if_neg (by omega)])
def DR3 : List Nat := DV ++ [65001, 189002, 118005, 122, 189043, 211]
theorem QS.dr {S' : rvS} (h : QS S S' m wd) : QD DR3 S S' m wd := ⟨h.1, h.2.1.mono (by decide), h.2.2⟩
theorem op_orders (hn : 1100 ≤ n) (hV : VI S m wd) {L : Nat} (ht : rv_tp S L) (hO : OV S) : ∃ r S1 S', fnX12_orders n S 64 = some (r, S1) ∧ fnX13_orders n S1 189 = some (r, S') ∧ QD DR3 S S' m wd ∧ OV S' ∧ rv_tp S' 0 := by
  obtain ⟨hB, hR, hL, hk, -⟩ := id hV
  obtain ⟨tL, tc, tm, tb⟩ := ht
  have hC := CS_of hB
  have hv : vb 67 := Or.inl rfl
  have r7 := rf_of hB (show (64, 7, 118) ∈ rv_rf0 by decide)
  obtain ⟨y, hy⟩ : ∃ y : Nat → Nat, ∀ j, j < L → y j < 256 ∧ S.2.1 190 j = nI (y j) ∧ S.2.1 66 j &&& 255 = nI (y j) := by
    refine ⟨fun j => (S.2.1 190 j).toBitVec.toNat, fun j hj => ?_⟩
    obtain ⟨b, b1, b2, b3⟩ := tb j hj
    have e : (S.2.1 190 j).toBitVec.toNat = b := by
      rw [b2]
      show (BitVec.ofNat 32 b).toNat = b
      rw [BitVec.toNat_ofNat, Nat.mod_eq_of_lt (by omega)]
    show (S.2.1 190 j).toBitVec.toNat < 256 ∧ S.2.1 190 j = nI (S.2.1 190 j).toBitVec.toNat ∧ S.2.1 66 j &&& 255 = nI (S.2.1 190 j).toBitVec.toNat
    rw [e]
    exact ⟨b1, b2, b3⟩
  by_cases cL : 1 ≤ L ∧ L ≤ 5
  · obtain ⟨h1, h5⟩ := cL
    obtain ⟨S1, e1, f1, g1⟩ := k_take1 (n := n) hB hR hk h5 tc (fun j hj => ⟨(hy j hj).1, (hy j hj).2.2⟩) L n 0 0 S (Nat.zero_add L) (by omega) (by decide) (rvf.rf _ _) (fun j h => absurd h (Nat.not_lt_zero j))
    have ek : fnX4_take n S 118 65 67 = some (bI (tkk m y L 0 0), S1) := by
      rw [fnX4_take]
      simp (disch := first | assumption | omega) only [tk_gI, tk_gL, tk_gR, tk_pI, tk_pL, rv_aI, rv_aL, rv_aR, rv_uI, rv_uL, rv_uB, rv_uZ, pu_ckI, pu_ckL, pu_lnI, pu_lnL, tk_rI, tk_rL, Option.bind_some, Option.map_some, rv_lt, tk_ix, z0, z1, z2, z3, z4, z5, z6, z7, z8, z9, z10, z11, z12, z13, z15, z16, z17, z18, z20, z21, z23, z24, z25, z31, z32, z39, z40, z41, z46, z48, z50, z57, z59, z60, z61, z62, z63, z64, z97, z98, z99, z100, z101, z102, z103, z104, z105, z106, z107, z108, z109, z110, z111, z112, z113, z114, z115, z116, z117, z118, z119, z120, z121, z122, z128, z132, z200, z240, z255, z372, z390625, z400, z420, z421, z422, z662, z900, z940, z999, z1000, z1024, z2000, z5860, z10000, z12345, z15625, z266240, z1048575, z1064960, z1103515245, z_m1, n_le, n_lt, n_eq, n_bit0, n_bit1, n_sbit0, n_shl, z_ltM, z_Mlt, z_leM, z_Mle, z_eqM, z_Meq, bI0, bI1, bI_01, bI_01t, bI_10, bI_10f, if_true, if_false, eq_self, reduceCtorEq, if_pos, if_neg, rc_65 hB, tc, show ¬ L < 1 by omega, e1]
    have hB1 := f1.B hB
    have f2 : rvf [65001] S1 (rv_sI S1 65 1 (nI 0)) := rvf.sI S1 65 1 _
    obtain ⟨S2, eS2⟩ : ∃ S2, S2 = rv_sI S1 65 1 (nI 0) := ⟨_, rfl⟩
    rw [← eS2] at f2
    have t2 : S2.2.1 65 1 = nI 0 := by rw [eS2, rv_sI_eq]
    have hB2 := f2.B hB1
    have f12 : rvf [118004, 120, 65001] S S2 := (f1.mono rfl).tr (f2.mono rfl)
    have R2 := hR.f f12 hv (Or.inl rfl) (Or.inr (by decide)) (Or.inr (by decide)) (Or.inr (by decide))
    have hC1 := CS_of hB1
    have hC2 := CS_of hB2
    have top : fnX12_orders n S 64 = if bI (tkk m y L 0 0) = 0 then some ((-1 : Int32), S2) else rv_bp (fnX4_best n S2 118 67 108) (fun x S => some (x, S)) := by
      rw [fnX12_orders]
      repeat (first | (conv => (lhs; arg 1; simp (disch := first | assumption | omega) only [tk_gI, tk_gL, tk_gR, tk_pI, tk_pL, rv_aI, rv_aL, rv_aR, rv_uI, rv_uL, rv_uB, rv_uZ, pu_ckI, pu_ckL, pu_lnI, pu_lnL, tk_rI, tk_rL, Option.bind_some, Option.map_some, rv_lt, tk_ix, z0, z1, z2, z3, z4, z5, z6, z7, z8, z9, z10, z11, z12, z13, z15, z16, z17, z18, z20, z21, z23, z24, z25, z31, z32, z39, z40, z41, z46, z48, z50, z57, z59, z60, z61, z62, z63, z64, z97, z98, z99, z100, z101, z102, z103, z104, z105, z106, z107, z108, z109, z110, z111, z112, z113, z114, z115, z116, z117, z118, z119, z120, z121, z122, z128, z132, z200, z240, z255, z372, z390625, z400, z420, z421, z422, z662, z900, z940, z999, z1000, z1024, z2000, z5860, z10000, z12345, z15625, z266240, z1048575, z1064960, z1103515245, z_m1, hC, r7, rc_118 hB, ek, hC1, ← eS2])); first | rw [Option.bind_some] | rw [bp_s] | rw [if_true] | rw [if_false] | rw [rv_lt_eq] | rw [if_pos (by omega)] | rw [if_neg (by omega)])
      have r72 := rf_of hB2 (show (64, 7, 118) ∈ rv_rf0 by decide)
      have r52 := rf_of hB2 (show (64, 5, 108) ∈ rv_rf0 by decide)
      simp only [tk_gR, hC2, r72, r52, rc_118 hB2, Option.bind_some, z0]
    -- the reference, up to the wish
    have mtop : ∀ S3, rv_B S3 → MRL S3 m → S3.2.1 189 2 = nI L → (∀ j, j < L → S3.2.1 190 j = nI (y j)) → ∃ S5, fnX13_orders n S3 189 = cX13_orders_29 n n S5 189 (nI L) (nI 0) (nI 0) ∧ rvf [189000, 189022, 191, 189002] S3 S5 ∧ MR S5 m ∧ R42 S3 S5 ∧ ¬ S5.2.1 189 22 = 0 ∧ S5.2.1 189 2 = nI 0 := fun S3 hB3 hL3 l3 _ => by
      obtain ⟨S4, e4, hB4, f4, hM4, r4, b4⟩ := start_ok (n := n) (by omega) hB3 hL3
      have l4 : S4.2.1 189 2 = nI L := (f4.at (a := 189) (k := 2) rfl).trans l3
      have f5 : rvf [189002] S4 (rv_sI S4 189 2 (nI 0)) := rvf.sI S4 189 2 _
      refine ⟨rv_sI S4 189 2 (nI 0), ?_, (f4.mono rfl).tr (f5.mono rfl), hM4.f f5 rfl, r4.tr (R42.of f5 rfl), by rw [f5.at (a := 189) (k := 22) rfl]; exact b4, rv_sI_eq _ _ _ _⟩
      have i1 : ∀ T, fnX13_isIn n T (nI L) (nI 1) (nI 5) = some (nI 1) := fun T => by
        rw [fnX13_isIn]
        simp (disch := first | assumption | omega) only [z0, z1, z2, z3, z4, z5, z6, z7, z8, z9, z10, z11, z12, z13, z15, z16, z17, z18, z20, z21, z23, z24, z25, z31, z32, z39, z40, z41, z46, z48, z50, z57, z59, z60, z61, z62, z63, z64, z97, z98, z99, z100, z101, z102, z103, z104, z105, z106, z107, z108, z109, z110, z111, z112, z113, z114, z115, z116, z117, z118, z119, z120, z121, z122, z128, z132, z200, z240, z255, z372, z390625, z400, z420, z421, z422, z662, z900, z940, z999, z1000, z1024, z2000, z5860, z10000, z12345, z15625, z266240, z1048575, z1064960, z1103515245, z_m1, n_le, n_lt, n_eq, n_bit0, n_bit1, n_sbit0, n_shl, z_ltM, z_Mlt, z_leM, z_Mle, z_eqM, z_Meq, bI0, bI1, bI_01, bI_01t, bI_10, bI_10f, if_true, if_false, eq_self, reduceCtorEq, if_pos, if_neg, bo_1]
      rw [fnX13_orders]
      repeat (first | (conv => (lhs; arg 1; simp (disch := first | assumption | omega) only [tk_gI, tk_gL, tk_gR, tk_pI, tk_pL, rv_aI, rv_aL, rv_aR, rv_uI, rv_uL, rv_uB, rv_uZ, pu_ckI, pu_ckL, pu_lnI, pu_lnL, tk_rI, tk_rL, Option.bind_some, Option.map_some, rv_lt, tk_ix, z0, z1, z2, z3, z4, z5, z6, z7, z8, z9, z10, z11, z12, z13, z15, z16, z17, z18, z20, z21, z23, z24, z25, z31, z32, z39, z40, z41, z46, z48, z50, z57, z59, z60, z61, z62, z63, z64, z97, z98, z99, z100, z101, z102, z103, z104, z105, z106, z107, z108, z109, z110, z111, z112, z113, z114, z115, z116, z117, z118, z119, z120, z121, z122, z128, z132, z200, z240, z255, z372, z390625, z400, z420, z421, z422, z662, z900, z940, z999, z1000, z1024, z2000, z5860, z10000, z12345, z15625, z266240, z1048575, z1064960, z1103515245, z_m1, n_le, n_lt, n_eq, n_bit0, n_bit1, n_sbit0, n_shl, z_ltM, z_Mlt, z_leM, z_Mle, z_eqM, z_Meq, bI0, bI1, bI_01, bI_01t, bI_10, bI_10f, if_true, if_false, eq_self, reduceCtorEq, rc_189 hB3, e4, rc_189 hB4, fnX13_take, l4, i1])); first | rw [Option.bind_some] | rw [bp_s] | rw [if_true] | rw [if_false] | rw [rv_lt_eq] | rw [if_pos (by omega)] | rw [if_neg (by omega)])
      all_goals rfl
    obtain ⟨S5, e5, f5, M5, r5, b5, t5⟩ := mtop S2 hB2 (hL.f f12 rfl rfl) ((f12.at (a := 189) (k := 2) rfl).trans tm) (fun j hj => (f12.row rfl rfl j).trans (hy j hj).2.1)
    have hB5 := f5.B hB2
    have w := m_wish1 (n := n) hB5 M5 hk h5 (y := y) (fun j hj => ⟨(hy j hj).1, (f5.row rfl rfl j).trans ((f12.row rfl rfl j).trans (hy j hj).2.1)⟩) L n 0 0 S5 (Nat.zero_add L) (by omega) (by decide) (rvf.rf _ _) (fun j h => absurd h (Nat.not_lt_zero j))
    cases ct : tkk m y L 0 0
    · obtain ⟨S6, e6, f6⟩ := w.2 ct
      have fz : rvf [189000, 189022, 191, 189002, 212] S2 S6 := (f5.mono rfl).tr (f6.mono rfl)
      refine ⟨iM, S2, S6, ?_, by rw [e5, e6], QD.two hV f12 fz rfl rfl (by decide) (by decide) R2 (M5.f f6 rfl) (by rw [f6.at (a := 189) (k := 22) rfl]; exact b5) hk rfl rfl (r5.tr (R42.of f6 rfl)), (hO.f f12 rfl rfl rfl rfl).f fz rfl rfl rfl rfl, Nat.zero_le _, (fz.at (a := 65) (k := 1) rfl).trans t2, (f6.at (a := 189) (k := 2) rfl).trans t5, fun j hj => absurd hj (Nat.not_lt_zero j)⟩
      rw [top, ct, if_pos (by decide)]
      rfl
    · obtain ⟨S6, e6, f6, g6⟩ := w.1 ct
      obtain ⟨g4, g120⟩ := g1 ct
      have hask : ∀ i, i < L → y i < vD m := fun i hi => tkk_lt L 0 0 ct i (Nat.zero_le i) (by omega)
      obtain ⟨S3, e3, f3, g5, ob⟩ := k_best hn hB2 R2 hk h5 hask ((f2.at (a := 118) (k := 4) rfl).trans g4) (fun i hi => (f2.row rfl rfl i).trans (g120 i hi))
      have hB3 := f3.B hB2
      have f13 : rvf ([118004, 120, 65001, 118005] ++ DO) S S3 := (f12.mono (by decide)).tr (f3.mono (by decide))
      have R3 := hR.f f13 hv (Or.inl (by decide)) (Or.inr (by decide)) (Or.inr (by decide)) (Or.inr (by decide))
      obtain ⟨S7, e7, f7, M7, r7', b7, t7⟩ := mtop S3 hB3 (hL.f f13 (by decide) (by decide)) ((f13.at (a := 189) (k := 2) (by decide)).trans tm) (fun j hj => (f13.row rfl (by decide) j).trans (hy j hj).2.1)
      have hB7 := f7.B hB3
      have w7 := m_wish1 (n := n) hB7 M7 hk h5 (y := y) (fun j hj => ⟨(hy j hj).1, (f7.row rfl rfl j).trans ((f13.row rfl (by decide) j).trans (hy j hj).2.1)⟩) L n 0 0 S7 (Nat.zero_add L) (by omega) (by decide) (rvf.rf _ _) (fun j h => absurd h (Nat.not_lt_zero j))
      obtain ⟨S8, e8, f8, g8⟩ := w7.1 ct
      have hB8 := f8.B hB7
      obtain ⟨S9, e9, f9, g9⟩ := m_asked (n := n) (by omega) hB8 h5 g8
      have hB9 := f9.B hB8
      have M9 := (M7.f f8 rfl).f f9 rfl
      obtain ⟨S10, e10, f10, r10, M10, g43, mb⟩ := m_ord130 hn hB9 M9 hk h5 hask g9
      have fz : rvf ([189000, 189022, 189002, 212, 209, 189041, 189043, 194] ++ DM) S3 S10 := (f7.mono (by decide)).tr ((f8.mono (by decide)).tr ((f9.mono (by decide)).tr (f10.mono (by decide))))
      have pos := TO_rng (N := L) (ev := fun p => pye m (p.map y)) L 0 (0, []) (Nat.zero_add L)
      refine ⟨mI (TO L (fun p => pye m (p.map y)) L [] (0, [])).1, S3, S10, ?_, by rw [e7, e8, e9, e10], QD.two hV f13 fz (by decide) (by decide) (by decide) (by decide) R3 M10 (by rw [f10.at (a := 189) (k := 22) (by decide), f9.at (a := 189) (k := 22) rfl, f8.at (a := 189) (k := 22) rfl]; exact b7) hk rfl rfl (r7'.tr ((R42.of f8 rfl).tr ((R42.of f9 rfl).tr r10))), ⟨L, h5, (fz.at (a := 118) (k := 5) (by decide)).trans g5, g43, fun j hj => ?_⟩, Nat.zero_le _, (fz.at (a := 65) (k := 1) (by decide)).trans ((f3.at (a := 65) (k := 1) (by decide)).trans t2), (f10.at (a := 189) (k := 2) (by decide)).trans ((f9.at (a := 189) (k := 2) rfl).trans ((f8.at (a := 189) (k := 2) rfl).trans t7)), fun j hj => absurd hj (Nat.not_lt_zero j)⟩
      · rw [top, ct, if_neg (by decide), e3]
        rfl
      · rw [fz.row rfl (by decide)]
        exact (ob.2.2 pos j hj).trans (mb.2.2 pos j hj).symm
  · have f2 : rvf [65001] S (rv_sI S 65 1 (nI 0)) := rvf.sI S 65 1 _
    obtain ⟨S2, eS2⟩ : ∃ S2, S2 = rv_sI S 65 1 (nI 0) := ⟨_, rfl⟩
    rw [← eS2] at f2
    have t2 : S2.2.1 65 1 = nI 0 := by rw [eS2, rv_sI_eq]
    have hB2 := f2.B hB
    have R2 := hR.f f2 hv (Or.inl rfl) (Or.inr (by decide)) (Or.inr (by decide)) (Or.inr (by decide))
    obtain ⟨S4, e4, hB4, f4, hM4, r4, b4⟩ := start_ok (n := n) (by omega) hB2 (hL.f f2 rfl rfl)
    have l4 : S4.2.1 189 2 = nI L := (f4.at (a := 189) (k := 2) rfl).trans ((f2.at (a := 189) (k := 2) rfl).trans tm)
    have f5 : rvf [189002] S4 (rv_sI S4 189 2 (nI 0)) := rvf.sI S4 189 2 _
    have fz : rvf [189000, 189022, 191, 189002] S2 (rv_sI S4 189 2 (nI 0)) := (f4.mono rfl).tr (f5.mono rfl)
    have ek : fnX4_take n S 118 65 67 = some (nI 0, S) := by
      rw [fnX4_take]
      by_cases c : L < 1
      · simp (disch := first | assumption | omega) only [tk_gI, tk_gL, tk_gR, tk_pI, tk_pL, rv_aI, rv_aL, rv_aR, rv_uI, rv_uL, rv_uB, rv_uZ, pu_ckI, pu_ckL, pu_lnI, pu_lnL, tk_rI, tk_rL, Option.bind_some, Option.map_some, rv_lt, tk_ix, z0, z1, z2, z3, z4, z5, z6, z7, z8, z9, z10, z11, z12, z13, z15, z16, z17, z18, z20, z21, z23, z24, z25, z31, z32, z39, z40, z41, z46, z48, z50, z57, z59, z60, z61, z62, z63, z64, z97, z98, z99, z100, z101, z102, z103, z104, z105, z106, z107, z108, z109, z110, z111, z112, z113, z114, z115, z116, z117, z118, z119, z120, z121, z122, z128, z132, z200, z240, z255, z372, z390625, z400, z420, z421, z422, z662, z900, z940, z999, z1000, z1024, z2000, z5860, z10000, z12345, z15625, z266240, z1048575, z1064960, z1103515245, z_m1, n_le, n_lt, n_eq, n_bit0, n_bit1, n_sbit0, n_shl, z_ltM, z_Mlt, z_leM, z_Mle, z_eqM, z_Meq, bI0, bI1, bI_01, bI_01t, bI_10, bI_10f, if_true, if_false, eq_self, reduceCtorEq, if_pos, if_neg, rc_65 hB, tc, c]
      · simp (disch := first | assumption | omega) only [tk_gI, tk_gL, tk_gR, tk_pI, tk_pL, rv_aI, rv_aL, rv_aR, rv_uI, rv_uL, rv_uB, rv_uZ, pu_ckI, pu_ckL, pu_lnI, pu_lnL, tk_rI, tk_rL, Option.bind_some, Option.map_some, rv_lt, tk_ix, z0, z1, z2, z3, z4, z5, z6, z7, z8, z9, z10, z11, z12, z13, z15, z16, z17, z18, z20, z21, z23, z24, z25, z31, z32, z39, z40, z41, z46, z48, z50, z57, z59, z60, z61, z62, z63, z64, z97, z98, z99, z100, z101, z102, z103, z104, z105, z106, z107, z108, z109, z110, z111, z112, z113, z114, z115, z116, z117, z118, z119, z120, z121, z122, z128, z132, z200, z240, z255, z372, z390625, z400, z420, z421, z422, z662, z900, z940, z999, z1000, z1024, z2000, z5860, z10000, z12345, z15625, z266240, z1048575, z1064960, z1103515245, z_m1, n_le, n_lt, n_eq, n_bit0, n_bit1, n_sbit0, n_shl, z_ltM, z_Mlt, z_leM, z_Mle, z_eqM, z_Meq, bI0, bI1, bI_01, bI_01t, bI_10, bI_10f, if_true, if_false, eq_self, reduceCtorEq, if_pos, if_neg, rc_65 hB, tc, c, show ¬ L ≤ 5 by omega]
    refine ⟨iM, S2, rv_sI S4 189 2 (nI 0), ?_, ?_, QD.two hV f2 fz rfl rfl (by decide) (by decide) R2 (hM4.f f5 rfl) (by rw [f5.at (a := 189) (k := 22) rfl]; exact b4) hk rfl rfl (r4.tr (R42.of f5 rfl)), (hO.f f2 rfl rfl rfl rfl).f fz rfl rfl rfl rfl, Nat.zero_le _, (fz.at (a := 65) (k := 1) rfl).trans t2, rv_sI_eq _ _ _ _, fun j hj => absurd hj (Nat.not_lt_zero j)⟩
    · rw [fnX12_orders]
      repeat (first | (conv => (lhs; arg 1; simp (disch := first | assumption | omega) only [tk_gI, tk_gL, tk_gR, tk_pI, tk_pL, rv_aI, rv_aL, rv_aR, rv_uI, rv_uL, rv_uB, rv_uZ, pu_ckI, pu_ckL, pu_lnI, pu_lnL, tk_rI, tk_rL, Option.bind_some, Option.map_some, rv_lt, tk_ix, z0, z1, z2, z3, z4, z5, z6, z7, z8, z9, z10, z11, z12, z13, z15, z16, z17, z18, z20, z21, z23, z24, z25, z31, z32, z39, z40, z41, z46, z48, z50, z57, z59, z60, z61, z62, z63, z64, z97, z98, z99, z100, z101, z102, z103, z104, z105, z106, z107, z108, z109, z110, z111, z112, z113, z114, z115, z116, z117, z118, z119, z120, z121, z122, z128, z132, z200, z240, z255, z372, z390625, z400, z420, z421, z422, z662, z900, z940, z999, z1000, z1024, z2000, z5860, z10000, z12345, z15625, z266240, z1048575, z1064960, z1103515245, z_m1, hC, r7, rc_118 hB, ek, ← eS2])); first | rw [Option.bind_some] | rw [bp_s] | rw [if_true] | rw [if_false] | rw [rv_lt_eq] | rw [if_pos (by omega)] | rw [if_neg (by omega)])
      all_goals first | rfl | (rw [if_pos rfl]; rfl)
    · have i1 : ∀ T, fnX13_isIn n T (nI L) (nI 1) (nI 5) = some (nI 0) := fun T => by
        rw [fnX13_isIn]
        by_cases c : L < 1
        · simp (disch := first | assumption | omega) only [z0, z1, z2, z3, z4, z5, z6, z7, z8, z9, z10, z11, z12, z13, z15, z16, z17, z18, z20, z21, z23, z24, z25, z31, z32, z39, z40, z41, z46, z48, z50, z57, z59, z60, z61, z62, z63, z64, z97, z98, z99, z100, z101, z102, z103, z104, z105, z106, z107, z108, z109, z110, z111, z112, z113, z114, z115, z116, z117, z118, z119, z120, z121, z122, z128, z132, z200, z240, z255, z372, z390625, z400, z420, z421, z422, z662, z900, z940, z999, z1000, z1024, z2000, z5860, z10000, z12345, z15625, z266240, z1048575, z1064960, z1103515245, z_m1, n_le, n_lt, n_eq, n_bit0, n_bit1, n_sbit0, n_shl, z_ltM, z_Mlt, z_leM, z_Mle, z_eqM, z_Meq, bI0, bI1, bI_01, bI_01t, bI_10, bI_10f, if_true, if_false, eq_self, reduceCtorEq, if_pos, if_neg, c, bo_0]
        · simp (disch := first | assumption | omega) only [z0, z1, z2, z3, z4, z5, z6, z7, z8, z9, z10, z11, z12, z13, z15, z16, z17, z18, z20, z21, z23, z24, z25, z31, z32, z39, z40, z41, z46, z48, z50, z57, z59, z60, z61, z62, z63, z64, z97, z98, z99, z100, z101, z102, z103, z104, z105, z106, z107, z108, z109, z110, z111, z112, z113, z114, z115, z116, z117, z118, z119, z120, z121, z122, z128, z132, z200, z240, z255, z372, z390625, z400, z420, z421, z422, z662, z900, z940, z999, z1000, z1024, z2000, z5860, z10000, z12345, z15625, z266240, z1048575, z1064960, z1103515245, z_m1, n_le, n_lt, n_eq, n_bit0, n_bit1, n_sbit0, n_shl, z_ltM, z_Mlt, z_leM, z_Mle, z_eqM, z_Meq, bI0, bI1, bI_01, bI_01t, bI_10, bI_10f, if_true, if_false, eq_self, reduceCtorEq, if_pos, if_neg, c, show 5 < L by omega, bo_0]
      rw [fnX13_orders]
      repeat (first | (conv => (lhs; arg 1; simp (disch := first | assumption | omega) only [tk_gI, tk_gL, tk_gR, tk_pI, tk_pL, rv_aI, rv_aL, rv_aR, rv_uI, rv_uL, rv_uB, rv_uZ, pu_ckI, pu_ckL, pu_lnI, pu_lnL, tk_rI, tk_rL, Option.bind_some, Option.map_some, rv_lt, tk_ix, z0, z1, z2, z3, z4, z5, z6, z7, z8, z9, z10, z11, z12, z13, z15, z16, z17, z18, z20, z21, z23, z24, z25, z31, z32, z39, z40, z41, z46, z48, z50, z57, z59, z60, z61, z62, z63, z64, z97, z98, z99, z100, z101, z102, z103, z104, z105, z106, z107, z108, z109, z110, z111, z112, z113, z114, z115, z116, z117, z118, z119, z120, z121, z122, z128, z132, z200, z240, z255, z372, z390625, z400, z420, z421, z422, z662, z900, z940, z999, z1000, z1024, z2000, z5860, z10000, z12345, z15625, z266240, z1048575, z1064960, z1103515245, z_m1, n_le, n_lt, n_eq, n_bit0, n_bit1, n_sbit0, n_shl, z_ltM, z_Mlt, z_leM, z_Mle, z_eqM, z_Meq, bI0, bI1, bI_01, bI_01t, bI_10, bI_10f, if_true, if_false, eq_self, reduceCtorEq, rc_189 hB2, e4, rc_189 hB4, fnX13_take, l4, i1])); first | rw [Option.bind_some] | rw [bp_s] | rw [if_true] | rw [if_false] | rw [rv_lt_eq] | rw [if_pos (by omega)] | rw [if_neg (by omega)])
      all_goals first | rfl | (rw [if_pos rfl]; rfl)
end
