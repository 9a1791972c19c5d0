/-! LOTS: a day, both sides -/
section
variable {n : Nat} {S : rvS} {m m' : Nat → Nat} {wd : Nat → List Nat}
theorem dpay_lo (hk : okm m) (hW : 0 < vW m) (s : Int32) : ∀ k, k < 132 → (dpay m s).1 k = m k := (dpay_ok hk hW s).2
theorem dbr_lo (s : Int32) (a : Nat) : ∀ k, k ≠ 0 → k < 8 → (dbr m s a).1 k = m k := fun k h0 h8 => by
  rw [dbr]
  split
  · exact br_off h0 (Or.inl (by omega))
  · rfl
theorem dbr_0 (s : Int32) (a : Nat) : vW m ≤ vW (dbr m s a).1 := by
  rw [dbr]
  split
  · show vW m ≤ vW (br m (at_ m a)); rw [br_0]; omega
  · exact Nat.le_refl _
theorem d16_lo (s : Int32) : ∀ k, k < 132 → (d16 m s).1 k = m k := fun k h => by
  rw [d16]
  split
  · rw [dthf]
    split
    · rfl
    · split
      · rfl
      · exact own_off _ _ (by omega)
  · rfl
theorem k_dbr (hn : 50 ≤ n) (hB : rv_B S) (hR : CR S 67 m) (hk : okm m) (hN : NC S 67 m wd) (h6 : m 6 ≤ vW m) {S0 : rvS} (hS0 : rv_B S0) {a : Nat} (ha : a < vW m) (hp0 : fnX3_drawPayment n S0 147 67 = some (nI a, S)) {s : Int32} {t : Nat} (hs : S.2.1 147 0 = s) (h3 : S.2.1 147 3 = nI t) :
    ∃ S', fnX3_passDay n S0 147 67 = cX3_passDay_59 n S' 147 67 ∧ rvf [147, 68, 69, 70, 71, 72, 74] S S' ∧ CR S' 67 (dbr m s a).1 ∧ NC S' 67 (dbr m s a).1 wd ∧ S'.2.1 147 0 = (dbr m s a).2.1 ∧ S'.2.1 147 3 = nI (t + (dbr m s a).2.2) ∧ ∀ k, k ≠ 0 → k ≠ 3 → S'.2.1 147 k = S.2.1 147 k := by
  obtain ⟨hp, hc, hd⟩ := id hk
  have h24 := hp.1
  have hv : vb 67 := Or.inl rfl
  have hVS := VS_of hB hv
  have hu := hp.2.1 a ha
  have l16 := dr_lt s (N := 16) (by decide)
  have d1 := k_draw (n := n) hB hs (N := 16) (by decide) (by decide)
  obtain ⟨S1, eS1⟩ : ∃ S1, S1 = rv_sI S 147 0 (sd s) := ⟨_, rfl⟩
  have f1 : rvf [147] S S1 := by rw [eS1]; exact (rvf.rf _ _).w rfl rfl
  have hB1 := f1.B hB
  have hs1 : S1.2.1 147 0 = sd s := by rw [eS1, rv_sI_eq]
  have R1 := hR.f f1 hv (Or.inl rfl) (Or.inr (by decide)) (Or.inr (by decide)) (Or.inr (by decide))
  have k1 : ∀ k, k ≠ 0 → S1.2.1 147 k = S.2.1 147 k := fun k hk => by rw [eS1, rv_sI_k _ _ hk]
  have N1 : NC S1 67 m wd := fun w hw => (f1.rowL (a := 67 + 5) rfl rfl w).trans (hN w hw)
  rw [← eS1] at d1
  clear eS1
  have hFS1 := FS_of hB1 hv.f
  have hF1 := R1.1
  have kh := k_has (n := n) hFS1 hF1 hp ha
  have g3 : S1.2.1 147 3 = nI t := (k1 3 (by decide)).trans h3
  by_cases c : dr s 16 = 0
  · rw [c] at d1
    by_cases hW : vW m < 24
    · have e : dbr m s a = (br m (at_ m a), sd s, 1) := if_pos ⟨c, hW⟩
      obtain ⟨S2, e2, f2, g2, nm2⟩ := k_add hn hB1 hv.f hF1 hp hW hu
      have f2 : rvf [68, 69, 70, 71, 72, 74] S1 S2 := f2
      have hB2 := f2.B hB1
      have R2 := br_CR R1 hk hW f2 g2
      have f3 : rvf [147] S2 (rv_sI S2 147 3 (nI (t + 1))) := (rvf.rf _ _).w rfl rfl
      have g32 : S2.2.1 147 3 = nI t := (f2.row rfl rfl 3).trans g3
      have R3 := R2.f f3 hv (Or.inl rfl) (Or.inr (by decide)) (Or.inr (by decide)) (Or.inr (by decide))
      have e6 : br m (at_ m a) 6 = m 6 := br_off (by decide) (Or.inl (by omega))
      refine ⟨rv_sI S2 147 3 (nI (t + 1)), ?_, (f1.mono rfl).tr ((f2.mono rfl).tr (f3.mono rfl)), by rw [e]; exact R3, ?_, by rw [e, rv_sI_k _ _ (by decide), f2.row rfl rfl]; exact hs1, by rw [e, rv_sI_eq], fun k h0 h3 => by rw [rv_sI_k _ _ h3, f2.row rfl rfl]; exact k1 k h0⟩
      · rw [fnX3_passDay]
        repeat (first | (conv => (lhs; arg 1; simp (disch := first | assumption | omega) only [tk_gI, tk_gL, tk_gR, tk_pI, tk_pL, rv_aI, rv_aL, rv_aR, rv_uI, rv_uL, rv_uB, rv_uZ, pu_ckI, pu_ckL, pu_lnI, pu_lnL, tk_rI, tk_rL, Option.bind_some, Option.map_some, rv_lt, tk_ix, z0, z1, z2, z3, z4, z5, z6, z7, z8, z9, z10, z11, z12, z13, z15, z16, z17, z18, z20, z21, z23, z24, z25, z31, z32, z39, z40, z41, z46, z48, z50, z57, z59, z60, z61, z62, z63, z64, z97, z98, z99, z100, z101, z102, z103, z104, z105, z106, z107, z108, z109, z110, z111, z112, z113, z114, z115, z116, z117, z118, z119, z120, z121, z122, z128, z132, z200, z240, z255, z372, z390625, z400, z420, z421, z422, z662, z900, z940, z999, z1000, z1024, z2000, z5860, z10000, z12345, z15625, z266240, z1048575, z1064960, z1103515245, z_m1, n_le, n_lt, n_eq, n_bit0, n_bit1, n_sbit0, n_shl, z_ltM, z_Mlt, z_leM, z_Mle, z_eqM, z_Meq, bI0, bI1, bI_01, bI_01t, bI_10, bI_10f, if_true, if_false, eq_self, reduceCtorEq, rc_147 hS0, hp0, hVS, rc_147 hB, d1, hFS1, hF1, kh, ← y0, e2, rc_147 hB2, g32, nI_add])); first | rw [Option.bind_some] | rw [bp_s] | rw [if_true] | rw [if_false] | rw [rv_lt_eq] | rw [if_pos (by omega)] | rw [if_neg (by omega)])
        all_goals rfl
      · rw [e]
        intro w hw
        have hw : w < vW (br m (at_ m a)) := hw
        show _ = if w < br m (at_ m a) 6 then lN (c32 (wd w)) else lN 0
        rw [f3.rowL (a := 67 + 5) rfl rfl, nm2, e6]
        rw [br_0] at hw
        by_cases c : w = vW m
        · rw [if_pos c, if_neg (by omega)]
        · rw [if_neg c]; exact N1 w (by omega)
    · have e : dbr m s a = (m, sd s, 0) := if_neg (fun z => hW z.2)
      have w24 : vW m = 24 := by omega
      have kw : S1.2.1 (67 + 1) 0 = nI 24 := by rw [← w24]; exact hF1.1
      refine ⟨S1, ?_, f1.mono rfl, by rw [e]; exact R1, by rw [e]; exact N1, by rw [e]; exact hs1, by rw [e]; exact g3, fun k h0 _ => k1 k h0⟩
      rw [fnX3_passDay]
      repeat (first | (conv => (lhs; arg 1; simp (disch := first | assumption | omega) only [tk_gI, tk_gL, tk_gR, tk_pI, tk_pL, rv_aI, rv_aL, rv_aR, rv_uI, rv_uL, rv_uB, rv_uZ, pu_ckI, pu_ckL, pu_lnI, pu_lnL, tk_rI, tk_rL, Option.bind_some, Option.map_some, rv_lt, tk_ix, z0, z1, z2, z3, z4, z5, z6, z7, z8, z9, z10, z11, z12, z13, z15, z16, z17, z18, z20, z21, z23, z24, z25, z31, z32, z39, z40, z41, z46, z48, z50, z57, z59, z60, z61, z62, z63, z64, z97, z98, z99, z100, z101, z102, z103, z104, z105, z106, z107, z108, z109, z110, z111, z112, z113, z114, z115, z116, z117, z118, z119, z120, z121, z122, z128, z132, z200, z240, z255, z372, z390625, z400, z420, z421, z422, z662, z900, z940, z999, z1000, z1024, z2000, z5860, z10000, z12345, z15625, z266240, z1048575, z1064960, z1103515245, z_m1, n_le, n_lt, n_eq, n_bit0, n_bit1, n_sbit0, n_shl, z_ltM, z_Mlt, z_leM, z_Mle, z_eqM, z_Meq, bI0, bI1, bI_01, bI_01t, bI_10, bI_10f, if_true, if_false, eq_self, reduceCtorEq, rc_147 hS0, hp0, hVS, rc_147 hB, d1, hFS1, kw])); first | rw [Option.bind_some] | rw [bp_s] | rw [if_true] | rw [if_false] | rw [rv_lt_eq] | rw [if_pos (by omega)] | rw [if_neg (by omega)])
      all_goals rfl
  · have e : dbr m s a = (m, sd s, 0) := if_neg (fun z => c z.1)
    refine ⟨S1, ?_, f1.mono rfl, by rw [e]; exact R1, by rw [e]; exact N1, by rw [e]; exact hs1, by rw [e]; exact g3, fun k h0 _ => k1 k h0⟩
    rw [fnX3_passDay]
    repeat (first | (conv => (lhs; arg 1; simp (disch := first | assumption | omega) only [tk_gI, tk_gL, tk_gR, tk_pI, tk_pL, rv_aI, rv_aL, rv_aR, rv_uI, rv_uL, rv_uB, rv_uZ, pu_ckI, pu_ckL, pu_lnI, pu_lnL, tk_rI, tk_rL, Option.bind_some, Option.map_some, rv_lt, tk_ix, z0, z1, z2, z3, z4, z5, z6, z7, z8, z9, z10, z11, z12, z13, z15, z16, z17, z18, z20, z21, z23, z24, z25, z31, z32, z39, z40, z41, z46, z48, z50, z57, z59, z60, z61, z62, z63, z64, z97, z98, z99, z100, z101, z102, z103, z104, z105, z106, z107, z108, z109, z110, z111, z112, z113, z114, z115, z116, z117, z118, z119, z120, z121, z122, z128, z132, z200, z240, z255, z372, z390625, z400, z420, z421, z422, z662, z900, z940, z999, z1000, z1024, z2000, z5860, z10000, z12345, z15625, z266240, z1048575, z1064960, z1103515245, z_m1, n_le, n_lt, n_eq, n_bit0, n_bit1, n_sbit0, n_shl, z_ltM, z_Mlt, z_leM, z_Mle, z_eqM, z_Meq, bI0, bI1, bI_01, bI_01t, bI_10, bI_10f, if_true, if_false, eq_self, reduceCtorEq, rc_147 hS0, hp0, hVS, rc_147 hB, d1, if_neg c])); first | rw [Option.bind_some] | rw [bp_s] | rw [if_true] | rw [if_false] | rw [rv_lt_eq] | rw [if_pos (by omega)] | rw [if_neg (by omega)])
    all_goals rfl
/-- a state of days: the valley, the seed, gone, refused, births, thefts -/
abbrev DSt := (Nat → Nat) × Int32 × Nat × Nat × Nat × Nat
def dy1 (X : DSt) : DSt :=
  let P := dpay X.1 X.2.1
  let B := dbr P.1 P.2.1 (dr X.2.1 (vW X.1))
  let T := d16 B.1 B.2.1
  (T.1, T.2.1, X.2.2.1 + P.2.2.1, X.2.2.2.1 + P.2.2.2, X.2.2.2.2.1 + B.2.2, X.2.2.2.2.2 + T.2.2)
theorem dy1_e {X : DSt} {P B T} (eP : P = dpay X.1 X.2.1) (eB : B = dbr P.1 P.2.1 (dr X.2.1 (vW X.1))) (eT : T = d16 B.1 B.2.1) : dy1 X = (T.1, T.2.1, X.2.2.1 + P.2.2.1, X.2.2.2.1 + P.2.2.2, X.2.2.2.2.1 + B.2.2, X.2.2.2.2.2 + T.2.2) := by
  subst eT; subst eB; subst eP; rfl
/-- what stays as days pass -/
def DOK (m X : Nat → Nat) : Prop := okm X ∧ 0 < vW X ∧ vC X = vC m ∧ X 6 = m 6
def DSC (S : rvS) (X : DSt) : Prop := CR S 67 X.1 ∧ S.2.1 147 0 = X.2.1 ∧ S.2.1 147 1 = nI X.2.2.1 ∧ S.2.1 147 2 = nI X.2.2.2.1 ∧ S.2.1 147 3 = nI X.2.2.2.2.1 ∧ S.2.1 147 4 = nI X.2.2.2.2.2
def DSM (S : rvS) (X : DSt) : Prop := MR S X.1 ∧ S.2.1 189 49 = X.2.1 ∧ S.2.1 189 50 = nI X.2.2.1 ∧ S.2.1 189 51 = nI X.2.2.2.1 ∧ S.2.1 189 52 = nI X.2.2.2.2.1 ∧ S.2.1 189 53 = nI X.2.2.2.2.2
theorem dy1_ok {X : DSt} (h : DOK m X.1) (hC : 0 < vC m) : DOK m (dy1 X).1 := by
  obtain ⟨hk, hW, eC, e6⟩ := h
  obtain ⟨P, eP⟩ : ∃ P, P = dpay X.1 X.2.1 := ⟨_, rfl⟩
  obtain ⟨B, eB⟩ : ∃ B, B = dbr P.1 P.2.1 (dr X.2.1 (vW X.1)) := ⟨_, rfl⟩
  obtain ⟨T, eT⟩ : ∃ T, T = d16 B.1 B.2.1 := ⟨_, rfl⟩
  have e := dy1_e eP eB eT
  obtain ⟨okP, loP⟩ := dpay_ok hk hW X.2.1
  rw [← eP] at okP loP
  have la := dr_lt X.2.1 hW
  have WP : vW P.1 = vW X.1 := loP 0 (by decide)
  have hu := okP.1.2.1 (dr X.2.1 (vW X.1)) (by omega)
  have okB := dbr_ok okP hu P.2.1
  have loB := dbr_lo (m := P.1) P.2.1 (dr X.2.1 (vW X.1))
  have WB := dbr_0 (m := P.1) P.2.1 (dr X.2.1 (vW X.1))
  rw [← eB] at okB loB WB
  have CB : vC B.1 = vC m := (loB 1 (by decide) (by decide)).trans ((loP 1 (by decide)).trans eC)
  have okT := d16_ok okB (by omega) (by omega) B.2.1
  have loT := d16_lo (m := B.1) B.2.1
  rw [← eT] at okT loT
  rw [e]
  refine ⟨okT, ?_, (loT 1 (by decide)).trans CB, (loT 6 (by decide)).trans ((loB 6 (by decide) (by decide)).trans ((loP 6 (by decide)).trans e6))⟩
  show 0 < vW T.1
  rw [show vW T.1 = vW B.1 from loT 0 (by decide)]
  omega
theorem k_day (hn : 50 ≤ n) (hB : rv_B S) {X : DSt} (hX : DSC S X) (hO : DOK m X.1) (hC0 : 0 < vC m) (hN : NC S 67 X.1 wd) : ∃ S', fnX3_passDay n S 147 67 = some S' ∧ rvf [147, 68, 69, 70, 71, 72, 74, 77, 78] S S' ∧ DSC S' (dy1 X) ∧ NC S' 67 (dy1 X).1 wd := by
  obtain ⟨hk, hW, eC, e6⟩ := hO
  obtain ⟨hR, s0, s1, s2, s3, s4⟩ := hX
  have la := dr_lt X.2.1 hW
  obtain ⟨P, eP⟩ : ∃ P, P = dpay X.1 X.2.1 := ⟨_, rfl⟩
  obtain ⟨S1, e1, f1, R1, p0, p1, p2, p3, p4⟩ := k_dpay67 hn hB hR hk hW s0 s1 s2
  obtain ⟨okP, loP⟩ := dpay_ok hk hW X.2.1
  rw [← eP] at okP loP R1 p0 p1 p2
  have hB1 := f1.B hB
  have WP : vW P.1 = vW X.1 := loP 0 (by decide)
  have EP6 : P.1 6 = X.1 6 := loP 6 (by decide)
  have N1 : NC S1 67 P.1 wd := fun w hw => by
    rw [f1.rowL (a := 67 + 5) rfl rfl, EP6]
    exact hN w (by rw [← WP]; exact hw)
  obtain ⟨a, ea⟩ : ∃ a, a = dr X.2.1 (vW X.1) := ⟨_, rfl⟩
  rw [← ea] at e1 la
  obtain ⟨B, eB⟩ : ∃ B, B = dbr P.1 P.2.1 a := ⟨_, rfl⟩
  have h6 := okP.2.2.2.2.2.2.2.1
  obtain ⟨S2, e2, f2, R2, N2, b0, b3, bk⟩ := k_dbr hn hB1 R1 okP N1 h6 hB (a := a) (by omega) e1 p0 (p3.trans s3)
  have hu := okP.1.2.1 a (by omega)
  have okB := dbr_ok okP hu P.2.1
  have loB := dbr_lo (m := P.1) P.2.1 a
  have WB := dbr_0 (m := P.1) P.2.1 a
  rw [← eB] at R2 N2 b0 b3 okB loB WB
  have hB2 := f2.B hB1
  have CB : vC B.1 = vC m := (loB 1 (by decide) (by decide)).trans ((loP 1 (by decide)).trans eC)
  obtain ⟨T, eT⟩ : ∃ T, T = d16 B.1 B.2.1 := ⟨_, rfl⟩
  obtain ⟨S3, e3, f3, R3, t0, t4, tk⟩ := k_d16 hn hB2 R2 okB (by omega) (by omega) b0 ((bk 4 (by decide) (by decide)).trans (p4.trans s4))
  have loT := d16_lo (m := B.1) B.2.1
  rw [← eT] at R3 t0 t4 loT
  have e := dy1_e eP (by rw [← ea]; exact eB) eT
  rw [e]
  have EB0 : T.1 0 = B.1 0 := loT 0 (by decide)
  have EB6 : T.1 6 = B.1 6 := loT 6 (by decide)
  refine ⟨S3, e2.trans e3, (f1.mono rfl).tr ((f2.mono rfl).tr (f3.mono rfl)), ⟨R3, t0, ?_, ?_, ?_, t4⟩, fun w hw => ?_⟩
  · exact (tk 1 (by decide) (by decide)).trans ((bk 1 (by decide) (by decide)).trans p1)
  · exact (tk 2 (by decide) (by decide)).trans ((bk 2 (by decide) (by decide)).trans p2)
  · exact (tk 3 (by decide) (by decide)).trans b3
  · rw [f3.rowL (a := 67 + 5) rfl rfl]
    have hw : w < T.1 0 := hw
    show _ = if w < T.1 6 then _ else _
    rw [EB6]
    exact N2 w (by show w < B.1 0; omega)
theorem m_day (hn : 50 ≤ n) (hB : rv_B S) {X : DSt} (hX : DSM S X) (hO : DOK m X.1) (hC0 : 0 < vC m) : ∃ S', fnX13_day n S 189 (nI 1) = some S' ∧ rvf [189049, 189050, 189051, 189052, 189053, 191, 199] S S' ∧ DSM S' (dy1 X) ∧ R42 S S' := by
  obtain ⟨hk, hW, eC, e6⟩ := hO
  obtain ⟨hM, s0, s1, s2, s3, s4⟩ := hX
  have la := dr_lt X.2.1 hW
  obtain ⟨P, eP⟩ : ∃ P, P = dpay X.1 X.2.1 := ⟨_, rfl⟩
  obtain ⟨S1, e1, f1, M1, r1, p0, p1, p2⟩ := m_dpay hn hB hM hk hW s0 s1 s2 (nI 1)
  obtain ⟨okP, loP⟩ := dpay_ok hk hW X.2.1
  rw [← eP] at okP loP M1 p0 p1 p2
  have hB1 := f1.B hB
  have WP : vW P.1 = vW X.1 := loP 0 (by decide)
  obtain ⟨a, ea⟩ : ∃ a, a = dr X.2.1 (vW X.1) := ⟨_, rfl⟩
  rw [← ea] at e1 la
  obtain ⟨B, eB⟩ : ∃ B, B = dbr P.1 P.2.1 a := ⟨_, rfl⟩
  have hu := okP.1.2.1 a (by omega)
  obtain ⟨S2, e2, f2, M2, r2, b0, b3⟩ := m_dbr hn hB1 M1 okP (a := a) (by omega) hu p0 ((f1.at (a := 189) (k := 52) rfl).trans s3)
  have okB := dbr_ok okP hu P.2.1
  have loB := dbr_lo (m := P.1) P.2.1 a
  have WB := dbr_0 (m := P.1) P.2.1 a
  rw [← eB] at M2 b0 b3 okB loB WB
  have hB2 := f2.B hB1
  have CB : vC B.1 = vC m := (loB 1 (by decide) (by decide)).trans ((loP 1 (by decide)).trans eC)
  obtain ⟨T, eT⟩ : ∃ T, T = d16 B.1 B.2.1 := ⟨_, rfl⟩
  obtain ⟨S3, e3, f3, M3, r3, t0, t4⟩ := m_d16 hn hB2 M2 okB (by omega) (by omega) b0 ((f2.at (a := 189) (k := 53) rfl).trans ((f1.at (a := 189) (k := 53) rfl).trans s4))
  rw [← eT] at M3 t0 t4
  have e := dy1_e eP (by rw [← ea]; exact eB) eT
  rw [e]
  refine ⟨S3, e1.trans (e2.trans e3), (f1.mono rfl).tr ((f2.mono rfl).tr (f3.mono rfl)), ⟨M3, t0, ?_, ?_, ?_, t4⟩, r1.tr (r2.tr r3)⟩
  · exact (f3.at (a := 189) (k := 50) rfl).trans ((f2.at (a := 189) (k := 50) rfl).trans p1)
  · exact (f3.at (a := 189) (k := 51) rfl).trans ((f2.at (a := 189) (k := 51) rfl).trans p2)
  · exact (f3.at (a := 189) (k := 52) rfl).trans b3
end
