/-! OPENS of the reference, and both -/
section
variable {n : Nat} {S : rvS} {m m' : Nat → Nat} {wd : Nat → List Nat}
theorem un_or {X b : Nat} (hX : X < 2 ^ 16) (hb : b < 16) (h : X.testBit b = false) : nI (X ||| 2 ^ b) &&& (nI (2 ^ b) ^^^ iM) = nI X := by
  have h1 : X ||| 2 ^ b < 2 ^ 16 := Nat.or_lt_two_pow hX (Nat.pow_lt_pow_right (by decide) hb)
  have e1 := bs_of (x := X ||| 2 ^ b) (n := 16) h1
  have e2 := m_not (fun i => (X ||| 2 ^ b).testBit i) (k := 16) (by decide) (2 ^ b)
  rw [e1] at e2
  rw [e2]
  apply congrArg nI
  rw [← bs_of hX]
  refine bs_cong fun i hi => ?_
  rw [Nat.testBit_or, Nat.testBit_two_pow]
  by_cases c : b = i
  · subst c; rw [bs_of hX, h, decide_eq_true rfl]; rfl
  · rw [decide_eq_false c, Bool.or_false, Bool.not_false, Bool.and_true, bs_of hX]
theorem m_cnt (hn : 50 ≤ n) {K15 : Nat → Int32 → Int32 → Int32 → rvS → Option (Int32 × rvS)} {K25 : Nat → Int32 → Int32 → Int32 → Int32 → rvS → Option (Int32 × rvS)} (hB : rv_B S) (hM : MR S m') (hp : okp m') (hc : okc m') (x1 x2 x3 x4 : Int32) : ∃ S', cX13_opens_84 n K15 K25 n S 189 x1 x2 x3 x4 (nI 0) (nI 0) = cX13_opens_111 n K15 K25 S' 189 x1 x2 x3 x4 (nI (fb_ct (stk m') (vC m'))) ∧ rvf [199] S S' := by
  have h40 := hc.1
  refine lp (F := fun q (x : rvS × Int32 × Int32) => cX13_opens_84 n K15 K25 q x.1 189 x1 x2 x3 x4 x.2.1 x.2.2) (fun i x => x.2 = (nI (fb_ct (stk m') i), nI i) ∧ rvf [199] S x.1) (fun o => ∃ S', o = cX13_opens_111 n K15 K25 S' 189 x1 x2 x3 x4 (nI (fb_ct (stk m') (vC m'))) ∧ rvf [199] S S') (vC m') (fun i x q hi hx => Or.inr ?_) (fun x q hx => ?_) (i := 0) (x := (S, nI 0, nI 0)) (q := n) (Nat.zero_le _) ⟨rfl, rvf.rf _ _⟩ (by omega)
  · obtain ⟨S1, y1, y2⟩ := x
    obtain ⟨hx, f1⟩ := hx
    obtain ⟨rfl, rfl⟩ := Prod.mk.inj hx
    have f1 : rvf [199] S S1 := f1
    have hB1 := f1.B hB
    have hM1 := hM.f f1 rfl
    obtain ⟨S2, e2, f2⟩ := m_isStuck (n := n) hn hB1 hM1 hp hc hi
    refine ⟨(S2, nI (fb_ct (stk m') (i + 1)), nI (i + 1)), ?_, rfl, f1.tr f2⟩
    show cX13_opens_84 n K15 K25 (q + 1) S1 189 x1 x2 x3 x4 (nI (fb_ct (stk m') i)) (nI i) = _
    rw [cX13_opens_84, ct_s]
    repeat (first | (conv => (lhs; arg 1; simp (disch := first | assumption | omega) only [tk_gI, tk_gL, tk_gR, tk_pI, tk_pL, rv_aI, rv_aL, rv_aR, rv_uI, rv_uL, rv_uB, rv_uZ, pu_ckI, pu_ckL, pu_lnI, pu_lnL, tk_rI, tk_rL, Option.bind_some, Option.map_some, rv_lt, tk_ix, z0, z1, z2, z3, z4, z5, z6, z7, z8, z9, z10, z11, z12, z13, z15, z16, z17, z18, z20, z21, z23, z24, z25, z31, z32, z39, z40, z41, z46, z48, z50, z57, z59, z60, z61, z62, z63, z64, z97, z98, z99, z100, z101, z102, z103, z104, z105, z106, z107, z108, z109, z110, z111, z112, z113, z114, z115, z116, z117, z118, z119, z120, z121, z122, z128, z132, z200, z240, z255, z372, z390625, z400, z420, z421, z422, z662, z900, z940, z999, z1000, z1024, z2000, z5860, z10000, z12345, z15625, z266240, z1048575, z1064960, z1103515245, z_m1, n_le, n_lt, n_eq, n_bit0, n_bit1, n_sbit0, n_shl, z_ltM, z_Mlt, z_leM, z_Mle, z_eqM, z_Meq, bI0, bI1, bI_01, bI_01t, bI_10, bI_10f, if_true, if_false, eq_self, reduceCtorEq, rc_189 hB1, m_coins hB1 hM1, e2])); first | rw [Option.bind_some] | rw [bp_s] | rw [if_true] | rw [if_false] | rw [rv_lt_eq] | rw [if_pos (by omega)] | rw [if_neg (by omega)])
    cases stk m' i
    · repeat (first | (conv => (lhs; arg 1; simp (disch := first | assumption | omega) only [n_le, n_lt, n_eq, n_bit0, n_bit1, n_sbit0, n_shl, z_ltM, z_Mlt, z_leM, z_Mle, z_eqM, z_Meq, bI0, bI1, bI_01, bI_01t, bI_10, bI_10f, if_true, if_false, eq_self, reduceCtorEq, z0, z1, z2, z3, z4, z5, z6, z7, z8, z9, z10, z11, z12, z13, z15, z16, z17, z18, z20, z21, z23, z24, z25, z31, z32, z39, z40, z41, z46, z48, z50, z57, z59, z60, z61, z62, z63, z64, z97, z98, z99, z100, z101, z102, z103, z104, z105, z106, z107, z108, z109, z110, z111, z112, z113, z114, z115, z116, z117, z118, z119, z120, z121, z122, z128, z132, z200, z240, z255, z372, z390625, z400, z420, z421, z422, z662, z900, z940, z999, z1000, z1024, z2000, z5860, z10000, z12345, z15625, z266240, z1048575, z1064960, z1103515245, z_m1, nI_add])); first | rw [Option.bind_some] | rw [bp_s] | rw [if_true] | rw [if_false] | rw [rv_lt_eq] | rw [if_pos (by omega)] | rw [if_neg (by omega)])
      simp only [z0, bI0, nI_1, nI_add, rv_lt, decide_true, decide_false, Bool.and_self, Bool.and_true, Bool.true_and, Bool.false_and, Bool.and_false, if_true, if_false, reduceCtorEq]
    · repeat (first | (conv => (lhs; arg 1; simp (disch := first | assumption | omega) only [n_le, n_lt, n_eq, n_bit0, n_bit1, n_sbit0, n_shl, z_ltM, z_Mlt, z_leM, z_Mle, z_eqM, z_Meq, bI0, bI1, bI_01, bI_01t, bI_10, bI_10f, if_true, if_false, eq_self, reduceCtorEq, z0, z1, z2, z3, z4, z5, z6, z7, z8, z9, z10, z11, z12, z13, z15, z16, z17, z18, z20, z21, z23, z24, z25, z31, z32, z39, z40, z41, z46, z48, z50, z57, z59, z60, z61, z62, z63, z64, z97, z98, z99, z100, z101, z102, z103, z104, z105, z106, z107, z108, z109, z110, z111, z112, z113, z114, z115, z116, z117, z118, z119, z120, z121, z122, z128, z132, z200, z240, z255, z372, z390625, z400, z420, z421, z422, z662, z900, z940, z999, z1000, z1024, z2000, z5860, z10000, z12345, z15625, z266240, z1048575, z1064960, z1103515245, z_m1, nI_add])); first | rw [Option.bind_some] | rw [bp_s] | rw [if_true] | rw [if_false] | rw [rv_lt_eq] | rw [if_pos (by omega)] | rw [if_neg (by omega)])
      simp only [z0, bI0, nI_1, nI_add, rv_lt, decide_true, decide_false, Bool.and_self, Bool.and_true, Bool.true_and, Bool.false_and, Bool.and_false, if_true, if_false, reduceCtorEq]
  · obtain ⟨S1, y1, y2⟩ := x
    obtain ⟨hx, f1⟩ := hx
    obtain ⟨rfl, rfl⟩ := Prod.mk.inj hx
    have f1 : rvf [199] S S1 := f1
    have hB1 := f1.B hB
    have hM1 := hM.f f1 rfl
    refine ⟨S1, ?_, f1⟩
    show cX13_opens_84 n K15 K25 (q + 1) S1 189 x1 x2 x3 x4 (nI (fb_ct (stk m') (vC m'))) (nI (vC m')) = _
    rw [cX13_opens_84]
    repeat (first | (conv => (lhs; arg 1; simp (disch := first | assumption | omega) only [tk_gI, tk_gL, tk_gR, tk_pI, tk_pL, rv_aI, rv_aL, rv_aR, rv_uI, rv_uL, rv_uB, rv_uZ, pu_ckI, pu_ckL, pu_lnI, pu_lnL, tk_rI, tk_rL, Option.bind_some, Option.map_some, rv_lt, tk_ix, z0, z1, z2, z3, z4, z5, z6, z7, z8, z9, z10, z11, z12, z13, z15, z16, z17, z18, z20, z21, z23, z24, z25, z31, z32, z39, z40, z41, z46, z48, z50, z57, z59, z60, z61, z62, z63, z64, z97, z98, z99, z100, z101, z102, z103, z104, z105, z106, z107, z108, z109, z110, z111, z112, z113, z114, z115, z116, z117, z118, z119, z120, z121, z122, z128, z132, z200, z240, z255, z372, z390625, z400, z420, z421, z422, z662, z900, z940, z999, z1000, z1024, z2000, z5860, z10000, z12345, z15625, z266240, z1048575, z1064960, z1103515245, z_m1, n_le, n_lt, n_eq, n_bit0, n_bit1, n_sbit0, n_shl, z_ltM, z_Mlt, z_leM, z_Mle, z_eqM, z_Meq, bI0, bI1, bI_01, bI_01t, bI_10, bI_10f, if_true, if_false, eq_self, reduceCtorEq, rc_189 hB1, m_coins hB1 hM1])); first | rw [Option.bind_some] | rw [bp_s] | rw [if_true] | rw [if_false] | rw [rv_lt_eq] | rw [if_pos (by omega)] | rw [if_neg (by omega)])
theorem m_opens (hn : 50 ≤ n) (hB : rv_B S) (hM : MR S m) (hk : okm m) : ∃ S', cX13_opens_15 n n S 189 iM (nI 0) (nI 0) = some ((opA m 4).1, S') ∧ rvf [191, 199] S S' ∧ MR S' m ∧ R42 S S' := by
  have inner : ∀ (K : Nat → Int32 → Int32 → Int32 → rvS → Option (Int32 × rvS)) (a : Nat), a < 4 → ∀ S1, (rvf [191, 199] S S1 ∧ MR S1 m ∧ R42 S S1) → ∃ S', cX13_opens_25 n K n S1 189 (opA m a).1 (nI (opA m a).2) (nI a) (nI (a + 1)) = K 189 (opA m (a + 1)).1 (nI (opA m (a + 1)).2) (nI (a + 1)) S' ∧ (rvf [191, 199] S S' ∧ MR S' m ∧ R42 S S') := by
    intro K a ha S1 f1
    refine lp (F := fun q (x : rvS × Int32 × Int32 × Int32) => cX13_opens_25 n K q x.1 189 x.2.1 x.2.2.1 (nI a) x.2.2.2) (fun i x => x.2 = ((opB m a (opA m a) i).1, nI (opB m a (opA m a) i).2, nI (a + 1 + i)) ∧ (rvf [191, 199] S x.1 ∧ MR x.1 m ∧ R42 S x.1)) (fun r => ∃ S', r = K 189 (opA m (a + 1)).1 (nI (opA m (a + 1)).2) (nI (a + 1)) S' ∧ (rvf [191, 199] S S' ∧ MR S' m ∧ R42 S S')) (3 - a) (fun i x q hi hx => Or.inr ?_) (fun x q hx => ?_) (i := 0) (x := (S1, (opA m a).1, nI (opA m a).2, nI (a + 1))) (q := n) (Nat.zero_le _) ⟨rfl, f1⟩ (by omega)
    · obtain ⟨S2, x1, x2, x3⟩ := x
      obtain ⟨hx, f2, hM2, r2⟩ := hx
      simp only [Prod.mk.injEq] at hx
      obtain ⟨rfl, rfl, rfl⟩ := hx
      have f2 : rvf [191, 199] S S2 := f2
      have hM2 : MR S2 m := hM2
      have hB2 := f2.B hB
      have kn := m_near (n := n) hB2 hM2 hk.1 ha (show a + 1 + i < 4 by omega)
      have le1 := opB_le hk (opA_le hk a) a i
      have le2 := cnt_le hk a (a + 1 + i)
      rw [opB, opS]
      cases cn : nr m a (a + 1 + i)
      · rw [cn] at kn
        have cn2 := hk.1.2.2.2.2.2 a (a + 1 + i) ha (by omega)
        rw [cn] at cn2
        have hab : a ≠ a + 1 + i := by omega
        have hb4 : a + 1 + i < 4 := by omega
        generalize hbd : a + 1 + i = b at *
        have hkj := jn_okm hk ha hb4 hab
        have q1 : S2.2.1 191 (128 + a) = nI (rd m a) := hM2 _ (by omega)
        have q2 : (rv_sI S2 191 (128 + a) (nI (rd m a ||| 2 ^ b))).2.1 191 (128 + b) = nI (rd m b) := by rw [rv_sI_k _ _ (by omega)]; exact hM2 _ (by omega)
        obtain ⟨S3, eS3⟩ : ∃ S3, S3 = rv_sI (rv_sI S2 191 (128 + a) (nI (rd m a ||| 2 ^ b))) 191 (128 + b) (nI (rd m b ||| 2 ^ a)) := ⟨_, rfl⟩
        have f3 : rvf [191] S2 S3 := by rw [eS3]; exact ((rvf.rf _ _).w rfl rfl).w rfl rfl
        have hB3 := f3.B hB2
        have hM3 : MR S3 (jn m a b) := by rw [eS3]; exact (hM2.u _ _).u _ _
        have r3 : R42 S2 S3 := by rw [eS3]; exact (R42.u (fun _ _ => rfl) _ (by omega)).u _ (by omega)
        obtain ⟨S4, e4, f4⟩ := m_cnt (K15 := K) (K25 := fun a0 x1 x2 x3 x4 S => cX13_opens_25 n K q S a0 x1 x2 x3 x4) hn hB3 hM3 hkj.1 hkj.2.1 (opB m a (opA m a) i).1 (nI (opB m a (opA m a) i).2) (nI a) (nI b)
        have hB4 := f4.B hB3
        have hM4 := hM3.f f4 rfl
        have evc : vC (jn m a b) = vC m := jn_off (by omega) ha hb4
        have e4 : cX13_opens_84 n K (fun a0 x1 x2 x3 x4 S => cX13_opens_25 n K q S a0 x1 x2 x3 x4) n S3 189 (opB m a (opA m a) i).1 (nI (opB m a (opA m a) i).2) (nI a) (nI b) (nI 0) (nI 0) = cX13_opens_111 n K (fun a0 x1 x2 x3 x4 S => cX13_opens_25 n K q S a0 x1 x2 x3 x4) S4 189 (opB m a (opA m a) i).1 (nI (opB m a (opA m a) i).2) (nI a) (nI b) (nI (cnt m a b)) := by
          rw [e4, evc]; rfl
        have ra := (hk.1.2.2.2.2.1 a ha).1
        have rb' := (hk.1.2.2.2.2.1 b hb4).1
        have g1 : S4.2.1 191 (128 + a) = nI (rd m a ||| 2 ^ b) := by
          have := hM4 (128 + a) (by omega)
          rw [this]
          have := jn_rd (m := m) (v := a) hab
          rw [if_neg hab, if_pos rfl] at this
          exact congrArg nI this
        have g2 : ∀ v, (rv_sI S4 191 (128 + a) v).2.1 191 (128 + b) = nI (rd m b ||| 2 ^ a) := fun v => by
          rw [rv_sI_k _ _ (by omega)]
          have := hM4 (128 + b) (by omega)
          rw [this]
          have := jn_rd (m := m) (v := b) hab
          rw [if_pos rfl] at this
          exact congrArg nI this
        obtain ⟨S5, eS5⟩ : ∃ S5, S5 = rv_sI (rv_sI S4 191 (128 + a) (nI (rd m a))) 191 (128 + b) (nI (rd m b)) := ⟨_, rfl⟩
        have f5 : rvf [191] S4 S5 := by rw [eS5]; exact ((rvf.rf _ _).w rfl rfl).w rfl rfl
        have hM5 : MR S5 m := by
          rw [eS5]
          have := (hM4.u (128 + a) (rd m a)).u (128 + b) (rd m b)
          intro k hk'
          rw [this k hk']
          unfold u1
          by_cases c1 : k = 128 + b
          · rw [if_pos c1, c1]
          · rw [if_neg c1]
            by_cases c2 : k = 128 + a
            · rw [if_pos c2, c2]
            · rw [if_neg c2]
              unfold jn
              rw [u1_ne _ _ c1, u1_ne _ _ c2]
        have r5 : R42 S4 S5 := by rw [eS5]; exact (R42.u (fun _ _ => rfl) _ (by omega)).u _ (by omega)
        have f25 : rvf [191, 199] S2 S5 := (f3.mono rfl).tr ((f4.mono rfl).tr (f5.mono rfl))
        have all5 : rvf [191, 199] S S5 ∧ MR S5 m ∧ R42 S S5 := ⟨f2.tr f25, hM5, r2.tr (r3.tr ((R42.of f4 rfl).tr r5))⟩
        have u1' := un_or (X := rd m a) (b := b) (by omega) (by omega) cn
        have u2' := un_or (X := rd m b) (b := a) (by omega) (by omega) cn2.symm
        have e111 : cX13_opens_111 n K (fun a0 x1 x2 x3 x4 S => cX13_opens_25 n K q S a0 x1 x2 x3 x4) S4 189 (opB m a (opA m a) i).1 (nI (opB m a (opA m a) i).2) (nI a) (nI b) (nI (cnt m a b)) = if (opB m a (opA m a) i).1 = iM ∨ cnt m a b < (opB m a (opA m a) i).2 then cX13_opens_25 n K q S5 189 (nI (10 * a + b)) (nI (cnt m a b)) (nI a) (nI (b + 1)) else cX13_opens_25 n K q S5 189 (opB m a (opA m a) i).1 (nI (opB m a (opA m a) i).2) (nI a) (nI (b + 1)) := by
          rw [cX13_opens_111]
          simp (disch := first | assumption | omega) only [tk_gI, tk_gL, tk_gR, tk_pI, tk_pL, rv_aI, rv_aL, rv_aR, rv_uI, rv_uL, rv_uB, rv_uZ, pu_ckI, pu_ckL, pu_lnI, pu_lnL, tk_rI, tk_rL, Option.bind_some, Option.map_some, rv_lt, tk_ix, z0, z1, z2, z3, z4, z5, z6, z7, z8, z9, z10, z11, z12, z13, z15, z16, z17, z18, z20, z21, z23, z24, z25, z31, z32, z39, z40, z41, z46, z48, z50, z57, z59, z60, z61, z62, z63, z64, z97, z98, z99, z100, z101, z102, z103, z104, z105, z106, z107, z108, z109, z110, z111, z112, z113, z114, z115, z116, z117, z118, z119, z120, z121, z122, z128, z132, z200, z240, z255, z372, z390625, z400, z420, z421, z422, z662, z900, z940, z999, z1000, z1024, z2000, z5860, z10000, z12345, z15625, z266240, z1048575, z1064960, z1103515245, z_m1, rc_189 hB4, rf_of hB4 (show (189, 14, 191) ∈ rv_rf0 by decide), rn_191 hB4, nI_add, g1, n_shl, u1', g2, u2', ← eS5, cX13_opens_163, z_mul]
          by_cases c1 : (opB m a (opA m a) i).1 = iM
          · rw [if_pos c1, if_pos (Or.inl c1)]
          · rw [if_neg c1]
            by_cases c2 : cnt m a b < (opB m a (opA m a) i).2
            · rw [if_pos (nI_lt c2 (by omega)), if_pos (Or.inr c2)]
            · rw [if_neg (nI_nlt (show (opB m a (opA m a) i).2 ≤ cnt m a b by omega) (by omega)), if_neg (by rintro (z | z) <;> contradiction)]
        have e25 : cX13_opens_25 n K (q + 1) S2 189 (opB m a (opA m a) i).1 (nI (opB m a (opA m a) i).2) (nI a) (nI b) = if (opB m a (opA m a) i).1 = iM ∨ cnt m a b < (opB m a (opA m a) i).2 then cX13_opens_25 n K q S5 189 (nI (10 * a + b)) (nI (cnt m a b)) (nI a) (nI (b + 1)) else cX13_opens_25 n K q S5 189 (opB m a (opA m a) i).1 (nI (opB m a (opA m a) i).2) (nI a) (nI (b + 1)) := by
          rw [cX13_opens_25]
          simp (disch := first | assumption | omega) only [tk_gI, tk_gL, tk_gR, tk_pI, tk_pL, rv_aI, rv_aL, rv_aR, rv_uI, rv_uL, rv_uB, rv_uZ, pu_ckI, pu_ckL, pu_lnI, pu_lnL, tk_rI, tk_rL, Option.bind_some, Option.map_some, rv_lt, tk_ix, z0, z1, z2, z3, z4, z5, z6, z7, z8, z9, z10, z11, z12, z13, z15, z16, z17, z18, z20, z21, z23, z24, z25, z31, z32, z39, z40, z41, z46, z48, z50, z57, z59, z60, z61, z62, z63, z64, z97, z98, z99, z100, z101, z102, z103, z104, z105, z106, z107, z108, z109, z110, z111, z112, z113, z114, z115, z116, z117, z118, z119, z120, z121, z122, z128, z132, z200, z240, z255, z372, z390625, z400, z420, z421, z422, z662, z900, z940, z999, z1000, z1024, z2000, z5860, z10000, z12345, z15625, z266240, z1048575, z1064960, z1103515245, z_m1, n_le, n_lt, n_eq, n_bit0, n_bit1, n_sbit0, n_shl, z_ltM, z_Mlt, z_leM, z_Mle, z_eqM, z_Meq, bI0, bI1, bI_01, bI_01t, bI_10, bI_10f, if_true, if_false, eq_self, reduceCtorEq, if_pos, if_neg, rc_189 hB2, kn, rf_of hB2 (show (189, 14, 191) ∈ rv_rf0 by decide), rn_191 hB2, nI_add, q1, q2, n_shl, fa_or]
          rw [← eS3, e4, e111]
        by_cases cc : (opB m a (opA m a) i).1 = iM ∨ cnt m a b < (opB m a (opA m a) i).2
        · refine ⟨(S5, nI (10 * a + b), nI (cnt m a b), nI (b + 1)), ?_, ?_, all5⟩
          · show cX13_opens_25 n K (q + 1) S2 189 (opB m a (opA m a) i).1 (nI (opB m a (opA m a) i).2) (nI a) (nI b) = _
            rw [e25, if_pos cc]
          · rw [if_neg (by decide), if_pos cc, show a + 1 + (i + 1) = b + 1 by omega]
        · refine ⟨(S5, (opB m a (opA m a) i).1, nI (opB m a (opA m a) i).2, nI (b + 1)), ?_, ?_, all5⟩
          · show cX13_opens_25 n K (q + 1) S2 189 (opB m a (opA m a) i).1 (nI (opB m a (opA m a) i).2) (nI a) (nI b) = _
            rw [e25, if_neg cc]
          · rw [if_neg (by decide), if_neg cc, show a + 1 + (i + 1) = b + 1 by omega]
      · rw [cn] at kn
        refine ⟨(S2, (opB m a (opA m a) i).1, nI (opB m a (opA m a) i).2, nI (a + 1 + (i + 1))), ?_, ?_, f2, hM2, r2⟩
        · show cX13_opens_25 n K (q + 1) S2 189 (opB m a (opA m a) i).1 (nI (opB m a (opA m a) i).2) (nI a) (nI (a + 1 + i)) = _
          rw [cX13_opens_25]
          repeat (first | (conv => (lhs; arg 1; simp (disch := first | assumption | omega) only [tk_gI, tk_gL, tk_gR, tk_pI, tk_pL, rv_aI, rv_aL, rv_aR, rv_uI, rv_uL, rv_uB, rv_uZ, pu_ckI, pu_ckL, pu_lnI, pu_lnL, tk_rI, tk_rL, Option.bind_some, Option.map_some, rv_lt, tk_ix, z0, z1, z2, z3, z4, z5, z6, z7, z8, z9, z10, z11, z12, z13, z15, z16, z17, z18, z20, z21, z23, z24, z25, z31, z32, z39, z40, z41, z46, z48, z50, z57, z59, z60, z61, z62, z63, z64, z97, z98, z99, z100, z101, z102, z103, z104, z105, z106, z107, z108, z109, z110, z111, z112, z113, z114, z115, z116, z117, z118, z119, z120, z121, z122, z128, z132, z200, z240, z255, z372, z390625, z400, z420, z421, z422, z662, z900, z940, z999, z1000, z1024, z2000, z5860, z10000, z12345, z15625, z266240, z1048575, z1064960, z1103515245, z_m1, n_le, n_lt, n_eq, n_bit0, n_bit1, n_sbit0, n_shl, z_ltM, z_Mlt, z_leM, z_Mle, z_eqM, z_Meq, bI0, bI1, bI_01, bI_01t, bI_10, bI_10f, if_true, if_false, eq_self, reduceCtorEq, rc_189 hB2, kn])); first | rw [Option.bind_some] | rw [bp_s] | rw [if_true] | rw [if_false] | rw [rv_lt_eq] | rw [if_pos (by omega)] | rw [if_neg (by omega)])
          simp only [nI_1]
          rfl
        · rw [if_pos rfl]
    · obtain ⟨S2, x1, x2, x3⟩ := x
      obtain ⟨hx, f2⟩ := hx
      simp only [Prod.mk.injEq] at hx
      obtain ⟨rfl, rfl, rfl⟩ := hx
      refine ⟨S2, ?_, f2⟩
      show cX13_opens_25 n K (q + 1) S2 189 (opB m a (opA m a) (3 - a)).1 (nI (opB m a (opA m a) (3 - a)).2) (nI a) (nI (a + 1 + (3 - a))) = _
      rw [show a + 1 + (3 - a) = 4 by omega, cX13_opens_25]
      simp (disch := first | assumption | omega) only [tk_gI, tk_gL, tk_gR, tk_pI, tk_pL, rv_aI, rv_aL, rv_aR, rv_uI, rv_uL, rv_uB, rv_uZ, pu_ckI, pu_ckL, pu_lnI, pu_lnL, tk_rI, tk_rL, Option.bind_some, Option.map_some, rv_lt, tk_ix, z0, z1, z2, z3, z4, z5, z6, z7, z8, z9, z10, z11, z12, z13, z15, z16, z17, z18, z20, z21, z23, z24, z25, z31, z32, z39, z40, z41, z46, z48, z50, z57, z59, z60, z61, z62, z63, z64, z97, z98, z99, z100, z101, z102, z103, z104, z105, z106, z107, z108, z109, z110, z111, z112, z113, z114, z115, z116, z117, z118, z119, z120, z121, z122, z128, z132, z200, z240, z255, z372, z390625, z400, z420, z421, z422, z662, z900, z940, z999, z1000, z1024, z2000, z5860, z10000, z12345, z15625, z266240, z1048575, z1064960, z1103515245, z_m1, n_le, n_lt, n_eq, n_bit0, n_bit1, n_sbit0, n_shl, z_ltM, z_Mlt, z_leM, z_Mle, z_eqM, z_Meq, bI0, bI1, bI_01, bI_01t, bI_10, bI_10f, if_true, if_false, eq_self, reduceCtorEq, if_pos, if_neg, nI_add]
      rfl
  refine lp (F := fun q (x : rvS × Int32 × Int32 × Int32) => cX13_opens_15 n q x.1 189 x.2.1 x.2.2.1 x.2.2.2) (fun i x => x.2 = ((opA m i).1, nI (opA m i).2, nI i) ∧ (rvf [191, 199] S x.1 ∧ MR x.1 m ∧ R42 S x.1)) (fun r => ∃ S', r = some ((opA m 4).1, S') ∧ rvf [191, 199] S S' ∧ MR S' m ∧ R42 S S') 4 (fun i x q hi hx => Or.inr ?_) (fun x q hx => ?_) (i := 0) (x := (S, iM, nI 0, nI 0)) (q := n) (Nat.zero_le _) ⟨rfl, rvf.rf _ _, hM, fun _ _ => rfl⟩ (by omega)
  · obtain ⟨S2, x1, x2, x3⟩ := x
    obtain ⟨hx, f2⟩ := hx
    simp only [Prod.mk.injEq] at hx
    obtain ⟨rfl, rfl, rfl⟩ := hx
    obtain ⟨S3, e3, f3⟩ := inner (fun a0 x1 x2 x3 S => cX13_opens_15 n q S a0 x1 x2 x3) i hi S2 f2
    refine ⟨(S3, (opA m (i + 1)).1, nI (opA m (i + 1)).2, nI (i + 1)), ?_, rfl, f3⟩
    show cX13_opens_15 n (q + 1) S2 189 (opA m i).1 (nI (opA m i).2) (nI i) = _
    rw [cX13_opens_15]
    simp (disch := first | assumption | omega) only [tk_gI, tk_gL, tk_gR, tk_pI, tk_pL, rv_aI, rv_aL, rv_aR, rv_uI, rv_uL, rv_uB, rv_uZ, pu_ckI, pu_ckL, pu_lnI, pu_lnL, tk_rI, tk_rL, Option.bind_some, Option.map_some, rv_lt, tk_ix, z0, z1, z2, z3, z4, z5, z6, z7, z8, z9, z10, z11, z12, z13, z15, z16, z17, z18, z20, z21, z23, z24, z25, z31, z32, z39, z40, z41, z46, z48, z50, z57, z59, z60, z61, z62, z63, z64, z97, z98, z99, z100, z101, z102, z103, z104, z105, z106, z107, z108, z109, z110, z111, z112, z113, z114, z115, z116, z117, z118, z119, z120, z121, z122, z128, z132, z200, z240, z255, z372, z390625, z400, z420, z421, z422, z662, z900, z940, z999, z1000, z1024, z2000, z5860, z10000, z12345, z15625, z266240, z1048575, z1064960, z1103515245, z_m1, n_le, n_lt, n_eq, n_bit0, n_bit1, n_sbit0, n_shl, z_ltM, z_Mlt, z_leM, z_Mle, z_eqM, z_Meq, bI0, bI1, bI_01, bI_01t, bI_10, bI_10f, if_true, if_false, eq_self, reduceCtorEq, if_pos, if_neg, nI_add, e3]
  · obtain ⟨S2, x1, x2, x3⟩ := x
    obtain ⟨hx, f2⟩ := hx
    simp only [Prod.mk.injEq] at hx
    obtain ⟨rfl, rfl, rfl⟩ := hx
    refine ⟨S2, ?_, f2⟩
    show cX13_opens_15 n (q + 1) S2 189 (opA m 4).1 (nI (opA m 4).2) (nI 4) = _
    rw [cX13_opens_15]
    simp (disch := first | assumption | omega) only [tk_gI, tk_gL, tk_gR, tk_pI, tk_pL, rv_aI, rv_aL, rv_aR, rv_uI, rv_uL, rv_uB, rv_uZ, pu_ckI, pu_ckL, pu_lnI, pu_lnL, tk_rI, tk_rL, Option.bind_some, Option.map_some, rv_lt, tk_ix, z0, z1, z2, z3, z4, z5, z6, z7, z8, z9, z10, z11, z12, z13, z15, z16, z17, z18, z20, z21, z23, z24, z25, z31, z32, z39, z40, z41, z46, z48, z50, z57, z59, z60, z61, z62, z63, z64, z97, z98, z99, z100, z101, z102, z103, z104, z105, z106, z107, z108, z109, z110, z111, z112, z113, z114, z115, z116, z117, z118, z119, z120, z121, z122, z128, z132, z200, z240, z255, z372, z390625, z400, z420, z421, z422, z662, z900, z940, z999, z1000, z1024, z2000, z5860, z10000, z12345, z15625, z266240, z1048575, z1064960, z1103515245, z_m1, n_le, n_lt, n_eq, n_bit0, n_bit1, n_sbit0, n_shl, z_ltM, z_Mlt, z_leM, z_Mle, z_eqM, z_Meq, bI0, bI1, bI_01, bI_01t, bI_10, bI_10f, if_true, if_false, eq_self, reduceCtorEq, if_pos, if_neg]
theorem op_opens (hn : 500 ≤ n) (hV : VI S m wd) {o : Nat} {st : List (Nat × Nat × Nat)} (hC : CSn S 67 o st) : ∃ r S1 S', fnX12_opens n S 64 = some (r, S1) ∧ fnX13_opens n S1 189 = some (r, S') ∧ QS S S' m wd ∧ CSn S' 67 o st := by
  obtain ⟨hB, hR, hL, hk, hNC, hNM, hok⟩ := id hV
  obtain ⟨S1, e1, f1⟩ := k_opens (n := n) (by omega) hB hR hk hC
  have hB1 := f1.B hB
  have f1' : rvf [87, 88, 89, 90, 91, 92, 93, 94, 95, 96, 97, 98, 99, 100, 101, 102, 103, 104, 105, 106] S S1 := f1.f (by decide)
  obtain ⟨S2, e2, hB2, f2, hM2, r2, b2⟩ := start_ok hn hB1 (hL.f f1' rfl rfl)
  obtain ⟨S3, e3, f3, hM3, r3⟩ := m_opens (n := n) (by omega) hB2 hM2 hk
  have fz : rvf [189000, 189022, 191, 199] S1 S3 := (f2.mono rfl).tr (f3.mono rfl)
  refine ⟨(opA m 4).1, S1, S3, e1, ?_, QS.two hV f1' fz rfl rfl rfl rfl (CRi hR f1 (by omega)) hM3 (by rw [f3.at (a := 189) (k := 22) rfl]; exact b2) hk rfl rfl (r2.tr r3), ?_⟩
  · rw [fnX13_opens]
    repeat (first | (conv => (lhs; arg 1; simp (disch := first | assumption | omega) only [tk_gI, tk_gL, tk_gR, tk_pI, tk_pL, rv_aI, rv_aL, rv_aR, rv_uI, rv_uL, rv_uB, rv_uZ, pu_ckI, pu_ckL, pu_lnI, pu_lnL, tk_rI, tk_rL, Option.bind_some, Option.map_some, rv_lt, tk_ix, z0, z1, z2, z3, z4, z5, z6, z7, z8, z9, z10, z11, z12, z13, z15, z16, z17, z18, z20, z21, z23, z24, z25, z31, z32, z39, z40, z41, z46, z48, z50, z57, z59, z60, z61, z62, z63, z64, z97, z98, z99, z100, z101, z102, z103, z104, z105, z106, z107, z108, z109, z110, z111, z112, z113, z114, z115, z116, z117, z118, z119, z120, z121, z122, z128, z132, z200, z240, z255, z372, z390625, z400, z420, z421, z422, z662, z900, z940, z999, z1000, z1024, z2000, z5860, z10000, z12345, z15625, z266240, z1048575, z1064960, z1103515245, z_m1, rc_189 hB1, e2])); first | rw [Option.bind_some] | rw [bp_s] | rw [if_true] | rw [if_false] | rw [rv_lt_eq] | rw [if_pos (by omega)] | rw [if_neg (by omega)])
    exact e3
  · have q1 : CSn S1 67 o st := hC.f (fun a haa => (f1.2.2 a (by omega)).1) (fun k => f1.R (by omega) k)
    exact q1.f (fun a haa => funext fun k => fz.row (by rcases haa with rfl | rfl | rfl <;> rfl) (by rcases haa with rfl | rfl | rfl <;> rfl) k) (fun k => fz.rowR rfl rfl k)
end
