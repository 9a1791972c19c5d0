/-! PASS and GOES of the reference; who, count, changed -/
section
variable {n : Nat} {S : rvS} {m : Nat → Nat} {wd : Nat → List Nat}
theorem rvf.w {D : List Nat} {S S0 : rvS} {a k : Nat} {v : Int32} (h : rvf D S S0) (ha : rwb a = true) (hd : D.elem a = true) : rvf D S (rv_sI S0 a k v) := h.tr ((rvf.sIr S0 k v ha).mono (by rw [List.all_cons, hd]; rfl))
def pN (N : Nat) (H : Nat → Nat) : Nat := if H 1 < N then H 1 + 1 else N
def pH (N : Nat) (H : Nat → Nat) (w : Nat) : Nat → Nat
  | 0 => w
  | 1 => pN N H
  | 2 => if 0 < pN N H then H 0 else H 2
  | 3 => if 1 < pN N H then H 2 else H 3
  | 4 => if 2 < pN N H then H 3 else H 4
  | _ => 0
theorem m_pass (hn : 10 ≤ n) (hB : rv_B S) (hM : MR S m) (hc : okc m) {H : Nat → Nat} (hH : ∀ k, k < 5 → S.2.1 199 k = nI (H k)) (h3 : H 1 ≤ 3) (w : Nat) : ∃ S', fnX13_pass n S 189 (nI w) = some S' ∧ rvf [199] S S' ∧ ∀ k, k < 5 → S'.2.1 199 k = nI (pH (vN m) H w k) := by
  have hN := hc.2.1
  have e3 : S.2.1 191 3 = nI (vN m) := hM 3 (by decide)
  have g0 := hH 0 (by decide)
  have g1 := hH 1 (by decide)
  have g2 := hH 2 (by decide)
  have g3 := hH 3 (by decide)
  have g4 := hH 4 (by decide)
  have hq : pN (vN m) H = 0 ∨ pN (vN m) H = 1 ∨ pN (vN m) H = 2 ∨ pN (vN m) H = 3 := by
    unfold pN; split <;> omega
  have e37 : fnX13_pass n S 189 (nI w) = cX13_pass_37 n n S 189 (nI w) (nI (pN (vN m) H)) (nI (pN (vN m) H) - nI 1) := by
    unfold pN
    by_cases c : H 1 < vN m
    · simp (disch := first | assumption | omega) only [fnX13_pass, tk_gI, tk_gL, tk_gR, tk_pI, tk_pL, rv_aI, rv_aL, rv_aR, rv_uI, rv_uL, rv_uB, rv_uZ, pu_ckI, pu_ckL, pu_lnI, pu_lnL, tk_rI, tk_rL, Option.bind_some, Option.map_some, rv_lt, tk_ix, z0, z1, z2, z3, z4, z5, z6, z7, z8, z9, z10, z11, z12, z13, z15, z16, z17, z18, z20, z21, z23, z24, z25, z31, z32, z39, z40, z41, z46, z48, z50, z57, z59, z60, z61, z62, z63, z64, z97, z98, z99, z100, z101, z102, z103, z104, z105, z106, z107, z108, z109, z110, z111, z112, z113, z114, z115, z116, z117, z118, z119, z120, z121, z122, z128, z132, z200, z240, z255, z372, z390625, z400, z420, z421, z422, z662, z900, z940, z999, z1000, z1024, z2000, z5860, z10000, z12345, z15625, z266240, z1048575, z1064960, z1103515245, z_m1, n_le, n_lt, n_eq, n_bit0, n_bit1, n_sbit0, n_shl, z_ltM, z_Mlt, z_leM, z_Mle, z_eqM, z_Meq, bI0, bI1, bI_01, bI_01t, bI_10, bI_10f, if_true, if_false, eq_self, reduceCtorEq, rc_189 hB, rf_of hB (show (189, 24, 199) ∈ rv_rf0 by decide), rf_of hB (show (189, 14, 191) ∈ rv_rf0 by decide), rn_199 hB, rn_191 hB, g1, e3, nI_add]
      rw [if_neg (by omega), if_pos c]
    · simp (disch := first | assumption | omega) only [fnX13_pass, tk_gI, tk_gL, tk_gR, tk_pI, tk_pL, rv_aI, rv_aL, rv_aR, rv_uI, rv_uL, rv_uB, rv_uZ, pu_ckI, pu_ckL, pu_lnI, pu_lnL, tk_rI, tk_rL, Option.bind_some, Option.map_some, rv_lt, tk_ix, z0, z1, z2, z3, z4, z5, z6, z7, z8, z9, z10, z11, z12, z13, z15, z16, z17, z18, z20, z21, z23, z24, z25, z31, z32, z39, z40, z41, z46, z48, z50, z57, z59, z60, z61, z62, z63, z64, z97, z98, z99, z100, z101, z102, z103, z104, z105, z106, z107, z108, z109, z110, z111, z112, z113, z114, z115, z116, z117, z118, z119, z120, z121, z122, z128, z132, z200, z240, z255, z372, z390625, z400, z420, z421, z422, z662, z900, z940, z999, z1000, z1024, z2000, z5860, z10000, z12345, z15625, z266240, z1048575, z1064960, z1103515245, z_m1, n_le, n_lt, n_eq, n_bit0, n_bit1, n_sbit0, n_shl, z_ltM, z_Mlt, z_leM, z_Mle, z_eqM, z_Meq, bI0, bI1, bI_01, bI_01t, bI_10, bI_10f, if_true, if_false, eq_self, reduceCtorEq, rc_189 hB, rf_of hB (show (189, 24, 199) ∈ rv_rf0 by decide), rf_of hB (show (189, 14, 191) ∈ rv_rf0 by decide), rn_199 hB, rn_191 hB, g1, e3, nI_add]
      rw [if_pos (by omega), if_neg c]
  rw [e37]
  have m1 : nI 1 + (-1) = nI 0 := by decide +kernel
  have m2 : nI 2 + (-1) = nI 1 := by decide +kernel
  have z01 : (nI 0 - nI 1 ≤ nI 0) = True := by decide +kernel
  have hread : ∀ S', (∃ S'', cX13_pass_37 n n S 189 (nI w) (nI (pN (vN m) H)) (nI (pN (vN m) H) - nI 1) = some S'' ∧ S'' = S') → rvf [199] S S' → (S'.2.1 199 0 = nI (pH (vN m) H w 0) ∧ S'.2.1 199 1 = nI (pH (vN m) H w 1) ∧ S'.2.1 199 2 = nI (pH (vN m) H w 2) ∧ S'.2.1 199 3 = nI (pH (vN m) H w 3) ∧ S'.2.1 199 4 = nI (pH (vN m) H w 4)) → ∃ S', cX13_pass_37 n n S 189 (nI w) (nI (pN (vN m) H)) (nI (pN (vN m) H) - nI 1) = some S' ∧ rvf [199] S S' ∧ ∀ k, k < 5 → S'.2.1 199 k = nI (pH (vN m) H w k) := by
    rintro S' ⟨S'', h1, rfl⟩ h2 ⟨a0, a1, a2, a3, a4⟩
    refine ⟨S'', h1, h2, fun k hk => ?_⟩
    have : k = 0 ∨ k = 1 ∨ k = 2 ∨ k = 3 ∨ k = 4 := by omega
    rcases this with rfl | rfl | rfl | rfl | rfl
    · exact a0
    · exact a1
    · exact a2
    · exact a3
    · exact a4
  rcases hq with e | e | e | e
  · refine hread (rv_sI (rv_sI S 199 1 (nI 0)) 199 0 (nI w)) ⟨_, ?_, rfl⟩ (((rvf.rf _ _).w rfl rfl).w rfl rfl) ?_
    · rw [e]
      refine un 4 (F := fun z => cX13_pass_37 n z S 189 (nI w) (nI 0) (nI 0 - nI 1)) (fun q => ?_) (by omega)
      show cX13_pass_37 n (q + 4) S 189 (nI w) (nI 0) (nI 0 - nI 1) = _
      simp (disch := first | assumption | omega) only [cX13_pass_37, cX13_pass_63, cX13_pass_79, tk_gI, tk_gL, tk_gR, tk_pI, tk_pL, rv_aI, rv_aL, rv_aR, rv_uI, rv_uL, rv_uB, rv_uZ, pu_ckI, pu_ckL, pu_lnI, pu_lnL, tk_rI, tk_rL, Option.bind_some, Option.map_some, rv_lt, tk_ix, z0, z1, z2, z3, z4, z5, z6, z7, z8, z9, z10, z11, z12, z13, z15, z16, z17, z18, z20, z21, z23, z24, z25, z31, z32, z39, z40, z41, z46, z48, z50, z57, z59, z60, z61, z62, z63, z64, z97, z98, z99, z100, z101, z102, z103, z104, z105, z106, z107, z108, z109, z110, z111, z112, z113, z114, z115, z116, z117, z118, z119, z120, z121, z122, z128, z132, z200, z240, z255, z372, z390625, z400, z420, z421, z422, z662, z900, z940, z999, z1000, z1024, z2000, z5860, z10000, z12345, z15625, z266240, z1048575, z1064960, z1103515245, z_m1, n_le, n_lt, n_eq, n_bit0, n_bit1, n_sbit0, n_shl, z_ltM, z_Mlt, z_leM, z_Mle, z_eqM, z_Meq, bI0, bI1, bI_01, bI_01t, bI_10, bI_10f, if_true, if_false, eq_self, reduceCtorEq, if_pos, if_neg, z01, rc_189 hB, rf_of hB (show (189, 24, 199) ∈ rv_rf0 by decide), rn_199 hB, Nat.le_refl]
    · simp [pH, e, rd_I, g2, g3, g4]
  · refine hread (rv_sI (rv_sI (rv_sI S 199 2 (nI (H 0))) 199 1 (nI 1)) 199 0 (nI w)) ⟨_, ?_, rfl⟩ ((((rvf.rf _ _).w rfl rfl).w rfl rfl).w rfl rfl) ?_
    · rw [e]
      refine un 4 (F := fun z => cX13_pass_37 n z S 189 (nI w) (nI 1) (nI 1 - nI 1)) (fun q => ?_) (by omega)
      show cX13_pass_37 n (q + 4) S 189 (nI w) (nI 1) (nI 1 - nI 1) = _
      simp (disch := first | assumption | omega) only [cX13_pass_37, cX13_pass_63, cX13_pass_79, tk_gI, tk_gL, tk_gR, tk_pI, tk_pL, rv_aI, rv_aL, rv_aR, rv_uI, rv_uL, rv_uB, rv_uZ, pu_ckI, pu_ckL, pu_lnI, pu_lnL, tk_rI, tk_rL, Option.bind_some, Option.map_some, rv_lt, tk_ix, z0, z1, z2, z3, z4, z5, z6, z7, z8, z9, z10, z11, z12, z13, z15, z16, z17, z18, z20, z21, z23, z24, z25, z31, z32, z39, z40, z41, z46, z48, z50, z57, z59, z60, z61, z62, z63, z64, z97, z98, z99, z100, z101, z102, z103, z104, z105, z106, z107, z108, z109, z110, z111, z112, z113, z114, z115, z116, z117, z118, z119, z120, z121, z122, z128, z132, z200, z240, z255, z372, z390625, z400, z420, z421, z422, z662, z900, z940, z999, z1000, z1024, z2000, z5860, z10000, z12345, z15625, z266240, z1048575, z1064960, z1103515245, z_m1, n_le, n_lt, n_eq, n_bit0, n_bit1, n_sbit0, n_shl, z_ltM, z_Mlt, z_leM, z_Mle, z_eqM, z_Meq, bI0, bI1, bI_01, bI_01t, bI_10, bI_10f, if_true, if_false, eq_self, reduceCtorEq, if_pos, if_neg, z_sub, rc_189 hB, rf_of hB (show (189, 24, 199) ∈ rv_rf0 by decide), rn_199 hB, g0]
    · simp [pH, e, rd_I, g2, g3, g4]
  · refine hread (rv_sI (rv_sI (rv_sI (rv_sI S 199 3 (nI (H 2))) 199 2 (nI (H 0))) 199 1 (nI 2)) 199 0 (nI w)) ⟨_, ?_, rfl⟩ (((((rvf.rf _ _).w rfl rfl).w rfl rfl).w rfl rfl).w rfl rfl) ?_
    · rw [e]
      refine un 4 (F := fun z => cX13_pass_37 n z S 189 (nI w) (nI 2) (nI 2 - nI 1)) (fun q => ?_) (by omega)
      show cX13_pass_37 n (q + 4) S 189 (nI w) (nI 2) (nI 2 - nI 1) = _
      have r0 : (rv_sI S 199 3 (nI (H 2))).2.1 199 0 = nI (H 0) := by rw [rv_sI_k _ _ (by decide), g0]
      simp (disch := first | assumption | omega) only [cX13_pass_37, cX13_pass_63, cX13_pass_79, tk_gI, tk_gL, tk_gR, tk_pI, tk_pL, rv_aI, rv_aL, rv_aR, rv_uI, rv_uL, rv_uB, rv_uZ, pu_ckI, pu_ckL, pu_lnI, pu_lnL, tk_rI, tk_rL, Option.bind_some, Option.map_some, rv_lt, tk_ix, z0, z1, z2, z3, z4, z5, z6, z7, z8, z9, z10, z11, z12, z13, z15, z16, z17, z18, z20, z21, z23, z24, z25, z31, z32, z39, z40, z41, z46, z48, z50, z57, z59, z60, z61, z62, z63, z64, z97, z98, z99, z100, z101, z102, z103, z104, z105, z106, z107, z108, z109, z110, z111, z112, z113, z114, z115, z116, z117, z118, z119, z120, z121, z122, z128, z132, z200, z240, z255, z372, z390625, z400, z420, z421, z422, z662, z900, z940, z999, z1000, z1024, z2000, z5860, z10000, z12345, z15625, z266240, z1048575, z1064960, z1103515245, z_m1, n_le, n_lt, n_eq, n_bit0, n_bit1, n_sbit0, n_shl, z_ltM, z_Mlt, z_leM, z_Mle, z_eqM, z_Meq, bI0, bI1, bI_01, bI_01t, bI_10, bI_10f, if_true, if_false, eq_self, reduceCtorEq, if_pos, if_neg, z_sub, nI_add, z_m1, rc_189 hB, rf_of hB (show (189, 24, 199) ∈ rv_rf0 by decide), rn_199 hB, g2, Nat.reduceAdd, Nat.reduceSub, show nI 1 + iM = nI 0 from m1, r0]
    · simp [pH, e, rd_I, g2, g3, g4]
  · refine hread (rv_sI (rv_sI (rv_sI (rv_sI (rv_sI S 199 4 (nI (H 3))) 199 3 (nI (H 2))) 199 2 (nI (H 0))) 199 1 (nI 3)) 199 0 (nI w)) ⟨_, ?_, rfl⟩ ((((((rvf.rf _ _).w rfl rfl).w rfl rfl).w rfl rfl).w rfl rfl).w rfl rfl) ?_
    · rw [e]
      refine un 4 (F := fun z => cX13_pass_37 n z S 189 (nI w) (nI 3) (nI 3 - nI 1)) (fun q => ?_) (by omega)
      show cX13_pass_37 n (q + 4) S 189 (nI w) (nI 3) (nI 3 - nI 1) = _
      have r2 : (rv_sI S 199 4 (nI (H 3))).2.1 199 2 = nI (H 2) := by rw [rv_sI_k _ _ (by decide), g2]
      have r0 : (rv_sI (rv_sI S 199 4 (nI (H 3))) 199 3 (nI (H 2))).2.1 199 0 = nI (H 0) := by rw [rv_sI_k _ _ (by decide), rv_sI_k _ _ (by decide), g0]
      simp (disch := first | assumption | omega) only [cX13_pass_37, cX13_pass_63, cX13_pass_79, tk_gI, tk_gL, tk_gR, tk_pI, tk_pL, rv_aI, rv_aL, rv_aR, rv_uI, rv_uL, rv_uB, rv_uZ, pu_ckI, pu_ckL, pu_lnI, pu_lnL, tk_rI, tk_rL, Option.bind_some, Option.map_some, rv_lt, tk_ix, z0, z1, z2, z3, z4, z5, z6, z7, z8, z9, z10, z11, z12, z13, z15, z16, z17, z18, z20, z21, z23, z24, z25, z31, z32, z39, z40, z41, z46, z48, z50, z57, z59, z60, z61, z62, z63, z64, z97, z98, z99, z100, z101, z102, z103, z104, z105, z106, z107, z108, z109, z110, z111, z112, z113, z114, z115, z116, z117, z118, z119, z120, z121, z122, z128, z132, z200, z240, z255, z372, z390625, z400, z420, z421, z422, z662, z900, z940, z999, z1000, z1024, z2000, z5860, z10000, z12345, z15625, z266240, z1048575, z1064960, z1103515245, z_m1, n_le, n_lt, n_eq, n_bit0, n_bit1, n_sbit0, n_shl, z_ltM, z_Mlt, z_leM, z_Mle, z_eqM, z_Meq, bI0, bI1, bI_01, bI_01t, bI_10, bI_10f, if_true, if_false, eq_self, reduceCtorEq, if_pos, if_neg, z_sub, nI_add, z_m1, rc_189 hB, rf_of hB (show (189, 24, 199) ∈ rv_rf0 by decide), rn_199 hB, g3, Nat.reduceAdd, Nat.reduceSub, show nI 1 + iM = nI 0 from m1, show nI 2 + iM = nI 1 from m2, r0, r2]
    · simp [pH, e, rd_I, g2, g3, g4]
/-- a coin gone to w, as the reference's row has it -/
def mv (m : Nat → Nat) (c w : Nat) : Nat → Nat := fun k => if 133 + 6 * c ≤ k ∧ k < 138 + 6 * c then pH (vN m) (fun i => m (133 + 6 * c + i)) w (k - (133 + 6 * c)) else m k
theorem m_goes (hn : 10 ≤ n) (hB : rv_B S) (hM : MR S m) (hc : okc m) {c : Nat} (h : c < vC m) (w : Nat) : ∃ S', fnX13_goes n S 189 (nI c) (nI w) = some S' ∧ rvf [191, 199] S S' ∧ MR S' (mv m c w) ∧ R42 S S' := by
  have h40 := hc.1
  have h3 := hc.2.1
  obtain ⟨-, -, -, h4, -⟩ := hc.2.2 c h
  obtain ⟨S1, e1, f1, g1⟩ := m_hold hn hB hM (c := c) (by omega)
  have hB1 := f1.B hB
  have hM1 := hM.f f1 rfl
  have e134 : m (133 + 6 * c + 1) = mn m c := congrArg m (by omega)
  obtain ⟨S2, e2, f2, g2⟩ := m_pass hn hB1 hM1 hc (H := fun i => m (133 + 6 * c + i)) g1 (by show m (133 + 6 * c + 1) ≤ 3; omega) w
  have hB2 := f2.B hB1
  have hM2 := hM1.f f2 rfl
  obtain ⟨S3, e3, f3, g3⟩ : ∃ S3, cX13_goes_12 n n S2 189 (nI c) 0 = some S3 ∧ rvf [191] S2 S3 ∧ ∀ k, S3.2.1 191 k = if 133 + 6 * c ≤ k ∧ k < 133 + 6 * c + 5 then S2.2.1 199 (k - (133 + 6 * c)) else S2.2.1 191 k := by
    refine lp (F := fun q (x : rvS × Int32) => cX13_goes_12 n q x.1 189 (nI c) x.2) (fun i x => x.2 = nI i ∧ rvf [191] S2 x.1 ∧ ∀ k, x.1.2.1 191 k = if 133 + 6 * c ≤ k ∧ k < 133 + 6 * c + i then S2.2.1 199 (k - (133 + 6 * c)) else S2.2.1 191 k) (fun o => ∃ S3, o = some S3 ∧ rvf [191] S2 S3 ∧ ∀ k, S3.2.1 191 k = if 133 + 6 * c ≤ k ∧ k < 133 + 6 * c + 5 then S2.2.1 199 (k - (133 + 6 * c)) else S2.2.1 191 k) 5 (fun i x q hi hx => Or.inr ?_) (fun x q hx => ?_) (i := 0) (x := (S2, 0)) (q := n) (Nat.zero_le _) ⟨rfl, rvf.rf _ _, fun k => by rw [if_neg (by omega)]⟩ (by omega)
    · obtain ⟨S1', x2⟩ := x
      obtain ⟨rfl, f, g⟩ := hx
      have f : rvf [191] S2 S1' := f
      have hB1 := f.B hB2
      have r := f.row (a := 199) rfl rfl i
      refine ⟨(rv_sI S1' 191 (133 + 6 * c + i) (S2.2.1 199 i), nI (i + 1)), ?_, rfl, f.w rfl rfl, fun k => ?_⟩
      · show cX13_goes_12 n (q + 1) S1' 189 (nI c) (nI i) = cX13_goes_12 n q _ 189 (nI c) (nI (i + 1))
        have e : 132 + 6 * c + 1 + i = 133 + 6 * c + i := by omega
        rw [cX13_goes_12]
        simp (disch := first | assumption | omega) only [tk_gI, tk_gL, tk_gR, tk_pI, tk_pL, rv_aI, rv_aL, rv_aR, rv_uI, rv_uL, rv_uB, rv_uZ, pu_ckI, pu_ckL, pu_lnI, pu_lnL, tk_rI, tk_rL, Option.bind_some, Option.map_some, rv_lt, tk_ix, z0, z1, z2, z3, z4, z5, z6, z7, z8, z9, z10, z11, z12, z13, z15, z16, z17, z18, z20, z21, z23, z24, z25, z31, z32, z39, z40, z41, z46, z48, z50, z57, z59, z60, z61, z62, z63, z64, z97, z98, z99, z100, z101, z102, z103, z104, z105, z106, z107, z108, z109, z110, z111, z112, z113, z114, z115, z116, z117, z118, z119, z120, z121, z122, z128, z132, z200, z240, z255, z372, z390625, z400, z420, z421, z422, z662, z900, z940, z999, z1000, z1024, z2000, z5860, z10000, z12345, z15625, z266240, z1048575, z1064960, z1103515245, z_m1, n_le, n_lt, n_eq, n_bit0, n_bit1, n_sbit0, n_shl, z_ltM, z_Mlt, z_leM, z_Mle, z_eqM, z_Meq, bI0, bI1, bI_01, bI_01t, bI_10, bI_10f, if_true, if_false, eq_self, reduceCtorEq, if_pos, if_neg, rc_189 hB1, rf_of hB1 (show (189, 24, 199) ∈ rv_rf0 by decide), rf_of hB1 (show (189, 14, 191) ∈ rv_rf0 by decide), rn_199 hB1, rn_191 hB1, nI_add, z_mul, e, r]
      · show (rv_sI S1' 191 (133 + 6 * c + i) _).2.1 191 k = _
        by_cases c1 : k = 133 + 6 * c + i
        · subst c1
          rw [rv_sI_eq, if_pos (by omega), Nat.add_sub_cancel_left]
        · rw [rv_sI_k _ _ c1]
          have := g k
          rw [show (S1', nI i).1.2.1 191 k = S1'.2.1 191 k from rfl] at this
          rw [this]
          by_cases c2 : 133 + 6 * c ≤ k ∧ k < 133 + 6 * c + i
          · rw [if_pos c2, if_pos (by omega)]
          · rw [if_neg c2, if_neg (by omega)]
    · obtain ⟨S1', x2⟩ := x
      obtain ⟨rfl, f, g⟩ := hx
      refine ⟨S1', ?_, f, g⟩
      show cX13_goes_12 n (q + 1) S1' 189 (nI c) (nI 5) = _
      rw [cX13_goes_12]
      simp (disch := first | assumption | omega) only [z0, z1, z2, z3, z4, z5, z6, z7, z8, z9, z10, z11, z12, z13, z15, z16, z17, z18, z20, z21, z23, z24, z25, z31, z32, z39, z40, z41, z46, z48, z50, z57, z59, z60, z61, z62, z63, z64, z97, z98, z99, z100, z101, z102, z103, z104, z105, z106, z107, z108, z109, z110, z111, z112, z113, z114, z115, z116, z117, z118, z119, z120, z121, z122, z128, z132, z200, z240, z255, z372, z390625, z400, z420, z421, z422, z662, z900, z940, z999, z1000, z1024, z2000, z5860, z10000, z12345, z15625, z266240, z1048575, z1064960, z1103515245, z_m1, n_le, n_lt, n_eq, n_bit0, n_bit1, n_sbit0, n_shl, z_ltM, z_Mlt, z_leM, z_Mle, z_eqM, z_Meq, bI0, bI1, bI_01, bI_01t, bI_10, bI_10f, if_true, if_false, eq_self, reduceCtorEq, if_pos, if_neg]
  refine ⟨S3, ?_, ((f1.mono rfl).tr (f2.mono rfl)).tr (f3.mono rfl), fun k hk => ?_, fun k hk => ?_⟩
  · simp (disch := first | assumption | omega) only [fnX13_goes, tk_gI, tk_gL, tk_gR, tk_pI, tk_pL, rv_aI, rv_aL, rv_aR, rv_uI, rv_uL, rv_uB, rv_uZ, pu_ckI, pu_ckL, pu_lnI, pu_lnL, tk_rI, tk_rL, Option.bind_some, Option.map_some, rv_lt, tk_ix, z0, z1, z2, z3, z4, z5, z6, z7, z8, z9, z10, z11, z12, z13, z15, z16, z17, z18, z20, z21, z23, z24, z25, z31, z32, z39, z40, z41, z46, z48, z50, z57, z59, z60, z61, z62, z63, z64, z97, z98, z99, z100, z101, z102, z103, z104, z105, z106, z107, z108, z109, z110, z111, z112, z113, z114, z115, z116, z117, z118, z119, z120, z121, z122, z128, z132, z200, z240, z255, z372, z390625, z400, z420, z421, z422, z662, z900, z940, z999, z1000, z1024, z2000, z5860, z10000, z12345, z15625, z266240, z1048575, z1064960, z1103515245, z_m1, rc_189 hB, e1, rc_189 hB1, e2]
    exact e3
  · rw [g3, mv]
    by_cases c1 : 133 + 6 * c ≤ k ∧ k < 138 + 6 * c
    · rw [if_pos (by omega), if_pos c1, g2 _ (by omega)]
    · rw [if_neg (by omega), if_neg c1]
      exact hM2 k hk
  · rw [g3, if_neg (by omega), f2.row rfl rfl, f1.row rfl rfl]
end
