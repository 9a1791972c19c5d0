/-! THE SEARCH: the reference's -/
section
variable {n : Nat} {S : rvS} {m : Nat → Nat} {s0 : St}
abbrev RD : List Nat := [199, 205, 206, 189035, 189037]
/-- the code of a place -/
abbrev cQ (c : Cf) (i : Nat) : Nat := cd (c.2.1 i).1 (c.2.1 i).2
/-- the reference's queue, and from where each was come to -/
def RQ (S : rvS) (c : Cf) : Prop := S.2.1 189 35 = nI c.1 ∧ (∀ i, i < c.1 → S.2.1 206 i = nI (cQ c i)) ∧ (∀ i, i < c.1 → S.2.1 205 (cQ c i) = nI (cQ c (c.2.2 i))) ∧ ∀ x, x < 390625 → (∀ i, i < c.1 → cQ c i ≠ x) → S.2.1 205 x = iM
theorem RQ.f {D : List Nat} {S' : rvS} {c : Cf} (h : RQ S c) (f : rvf D S S') (h1 : D.elem 205 = false) (h2 : D.elem 206 = false) (h3 : D.elem 189035 = false) : RQ S' c := ⟨(f.at (a := 189) (k := 35) h3).trans h.1, fun i hi => (f.row rfl h2 i).trans (h.2.1 i hi), fun i hi => (f.row rfl h1 _).trans (h.2.2.1 i hi), fun x hx hn => (f.row rfl h1 x).trans (h.2.2.2 x hx hn)⟩
theorem cQ_lt (hp : okp m) {c : Cf} (hb : BI m s0 c) {i : Nat} (hi : i < c.1) : cQ c i < 375000 := cd_lt hp (hb.2.2.2.1 i hi).1.1 (hb.2.2.2.1 i hi).1.2
theorem cQ_inj (hp : okp m) {c : Cf} {i : Nat} {s : St} (h1 : okS m (c.2.1 i)) (h2 : okS m s) (e : cQ c i = cd s.1 s.2) : c.2.1 i = s := by
  obtain ⟨a, b⟩ := cd_inj hp h1.2 h2.2 e
  exact Prod.ext a b
theorem RQ_push (hp : okp m) {c : Cf} (hb : BI m s0 c) (hQ : RQ S c) {h : Nat} (hh : h < c.1) {s : St} (hs : okS m s) (hno : inC c s = false) : RQ (rv_sI (rv_sI (rv_sI S 205 (cd s.1 s.2) (nI (cQ c h))) 206 c.1 (nI (cd s.1 s.2))) 189 35 (nI (c.1 + 1))) (pushC c s h) := by
  obtain ⟨q1, q2, q3, q4⟩ := hQ
  obtain ⟨-, x2⟩ := push_ext c s h
  obtain ⟨y1, y2⟩ := push_new c s h
  have new : ∀ i, i < c.1 → cQ c i ≠ cd s.1 s.2 := fun i hi e => by
    have := cQ_inj hp (hb.2.2.2.1 i hi).1 hs e
    have h2 := inC_iff.mpr ⟨i, hi, this⟩
    rw [hno] at h2
    exact absurd h2 (by decide)
  have old : ∀ i, i < c.1 → cQ (pushC c s h) i = cQ c i := fun i hi => by rw [cQ, (x2 i hi).1]
  have last : cQ (pushC c s h) c.1 = cd s.1 s.2 := by rw [cQ, y1]
  have hP : ∀ i, i < c.1 → c.2.2 i < c.1 := fun i hi => by
    by_cases e : i = 0
    · rw [e, hb.2.2.1]; omega
    · have := BI_P hb i (by omega) hi
      omega
  refine ⟨by rw [rv_sI_eq]; rfl, fun i hi => ?_, fun i hi => ?_, fun x hx hno' => ?_⟩
  · have hi : i < c.1 + 1 := hi
    rw [rv_sI_a _ _ _ (by decide)]
    by_cases e : i = c.1
    · rw [e, rv_sI_eq, last]
    · rw [rv_sI_k _ _ e, rv_sI_a _ _ _ (by decide), old i (by omega)]
      exact q2 i (by omega)
  · have hi : i < c.1 + 1 := hi
    rw [rv_sI_a _ _ _ (by decide), rv_sI_a _ _ _ (by decide)]
    by_cases e : i = c.1
    · rw [e, last, rv_sI_eq, y2, old h hh]
    · rw [old i (by omega), (x2 i (by omega)).2, old _ (hP i (by omega)), rv_sI_k _ _ (new i (by omega))]
      exact q3 i (by omega)
  · rw [rv_sI_a _ _ _ (by decide), rv_sI_a _ _ _ (by decide)]
    have h1 := hno' c.1 (by show c.1 < c.1 + 1; omega)
    rw [last] at h1
    rw [rv_sI_k _ _ (fun z => h1 z.symm)]
    exact q4 x hx fun i hi e => hno' i (by show i < c.1 + 1; omega) ((old i hi).trans e)
theorem RQ_no (hp : okp m) {c : Cf} (hb : BI m s0 c) (hQ : RQ S c) {s : St} (hs : okS m s) : (inC c s = false → S.2.1 205 (cd s.1 s.2) = iM) ∧ (inC c s = true → ∃ y, y < 375000 ∧ S.2.1 205 (cd s.1 s.2) = nI y) := by
  constructor
  · intro hno
    have lt := cd_lt hp hs.1 hs.2
    refine hQ.2.2.2 _ (by omega) fun i hi e => ?_
    have h2 := inC_iff.mpr ⟨i, hi, cQ_inj hp (hb.2.2.2.1 i hi).1 hs e⟩
    rw [hno] at h2
    exact absurd h2 (by decide)
  · intro hin
    obtain ⟨i, hi, e⟩ := inC_iff.mp hin
    have h1 := hQ.2.2.1 i hi
    rw [cQ, e] at h1
    have hP : c.2.2 i < c.1 := by
      by_cases e : i = 0
      · rw [e, hb.2.2.1]; omega
      · have := BI_P hb i (by omega) hi
        omega
    exact ⟨_, cQ_lt hp hb hP, h1⟩
theorem m_rstep (hn : 10 ≤ n) (hB : rv_B S) (hM : MR S m) (hk : okm m) {c : Cf} (hb : BI m s0 c) (hcap : c.1 ≤ 255640) (hQ : RQ S c) {h j q : Nat} (hh : h < c.1) (hj : j < vW m) (x2 x3 : Int32) (K : Nat → Int32 → Int32 → Int32 → rvS → Option (Int32 × rvS)) {s : St} (es : s = nx m (c.2.1 h) j) :
    (gok m (c.2.1 h) j → nI (cd s.1 s.2) = x3 → ∃ S', cX13_reach_72 n K (q + 1) S 189 x2 x3 (nI h) (nI j) = some (nI (cd s.1 s.2), S') ∧ rvf RD S S' ∧ RQ S' c ∧ S'.2.1 189 37 = nI (cQ c h)) ∧
    (gok m (c.2.1 h) j → nI (cd s.1 s.2) ≠ x3 → inC c s = false → nI j = x2 → ∃ S', cX13_reach_72 n K (q + 1) S 189 x2 x3 (nI h) (nI j) = some (nI (cd s.1 s.2), S') ∧ rvf RD S S' ∧ RQ S' (pushC c s h)) ∧
    ((gok m (c.2.1 h) j → nI (cd s.1 s.2) ≠ x3) → (gok m (c.2.1 h) j → inC c s = false → nI j ≠ x2) → ∃ S', cX13_reach_72 n K (q + 1) S 189 x2 x3 (nI h) (nI j) = cX13_reach_72 n K q S' 189 x2 x3 (nI h) (nI (j + 1)) ∧ rvf RD S S' ∧ RQ S' (stp m h c j)) := by
  obtain ⟨hp, hc, hd⟩ := id hk
  have h24 := hp.1
  obtain ⟨ho, hl⟩ := (hb.2.2.2.1 h hh).1
  have hs : okS m s := by rw [es]; exact nx_ok hk ⟨ho, hl⟩ hj
  have lt := cd_lt hp hs.1 hs.2
  have r205 := rf_of hB (show (189, 31, 205) ∈ rv_rf0 by decide)
  have r206 := rf_of hB (show (189, 32, 206) ∈ rv_rf0 by decide)
  have q206 := hQ.2.1 h hh
  obtain ⟨S1, e1, f1, H1⟩ := m_uncode (n := n) hn hB hp ho hl
  have hB1 := f1.B hB
  have hM1 := hM.f f1 rfl
  have hQ1 := hQ.f f1 rfl rfl rfl
  have kw := m_whyNot (n := n) hn hB1 hM1 hp H1 ho hl hj
  have wl := wy_le m (c.2.1 h).1 (c.2.1 h).2 j
  have hhb : h < 390625 := by omega
  have wj : vW m ≤ j ↔ False := iff_false_intro (by omega)
  by_cases cg : gok m (c.2.1 h) j
  · have cg' : wy m (c.2.1 h).1 (c.2.1 h).2 j = 0 := cg
    rw [cg'] at kw
    obtain ⟨S2, e2, f2, H2⟩ := m_passL (n := n) hn hB1 hM1 hc H1 (by omega) hl.1 (hl.all hp) j
    have hB2 := f2.B hB1
    have hQ2 := hQ1.f f2 rfl rfl rfl
    have H2 : HR S2 s.1 s.2 := by rw [es]; exact H2
    have kc := m_code (n := n) hn hB2 hp H2 hs.1 hs.2
    have f12 : rvf RD S S2 := (f1.mono rfl).tr (f2.mono rfl)
    have r205' := rf_of hB2 (show (189, 31, 205) ∈ rv_rf0 by decide)
    have r206' := rf_of hB2 (show (189, 32, 206) ∈ rv_rf0 by decide)
    have q206' := hQ2.2.1 h hh
    have q35' := hQ2.1
    obtain ⟨n1, n2⟩ := RQ_no hp hb hQ2 hs
    have w1 : ∀ x v, (rv_sI S2 205 x v).2.1 189 35 = nI c.1 := fun x v => by rw [rv_sI_a _ _ _ (by decide), q35']
    have w2 : ∀ x v y w, (rv_sI (rv_sI S2 205 x v) 206 y w).2.1 189 35 = nI c.1 := fun x v y w => by rw [rv_sI_a _ _ _ (by decide), w1]
    have estp : stp m h c j = if inC c s = true then c else pushC c s h := by rw [stp, if_pos cg, es]
    refine ⟨fun _ h3 => ?_, fun _ h3 hin h2 => ?_, fun a1 a2 => ?_⟩
    · refine ⟨rv_sI S2 189 37 (nI (cQ c h)), ?_, f12.tr ((rvf.sI S2 189 37 _).mono rfl), hQ2.f (rvf.sI S2 189 37 _) rfl rfl rfl, rv_sI_eq _ _ _ _⟩
      rw [cX13_reach_72]
      repeat (first | (conv => (lhs; arg 1; simp (disch := first | assumption | omega) only [tk_gI, tk_gL, tk_gR, tk_pI, tk_pL, rv_aI, rv_aL, rv_aR, rv_uI, rv_uL, rv_uB, rv_uZ, pu_ckI, pu_ckL, pu_lnI, pu_lnL, tk_rI, tk_rL, Option.bind_some, Option.map_some, rv_lt, tk_ix, z0, z1, z2, z3, z4, z5, z6, z7, z8, z9, z10, z11, z12, z13, z15, z16, z17, z18, z20, z21, z23, z24, z25, z31, z32, z39, z40, z41, z46, z48, z50, z57, z59, z60, z61, z62, z63, z64, z97, z98, z99, z100, z101, z102, z103, z104, z105, z106, z107, z108, z109, z110, z111, z112, z113, z114, z115, z116, z117, z118, z119, z120, z121, z122, z128, z132, z200, z240, z255, z372, z390625, z400, z420, z421, z422, z662, z900, z940, z999, z1000, z1024, z2000, z5860, z10000, z12345, z15625, z266240, z1048575, z1064960, z1103515245, z_m1, n_le, n_lt, n_eq, n_bit0, n_bit1, n_sbit0, n_shl, z_ltM, z_Mlt, z_leM, z_Mle, z_eqM, z_Meq, bI0, bI1, bI_01, bI_01t, bI_10, bI_10f, if_true, if_false, eq_self, reduceCtorEq, wj, r206, rn_206 hB, q206, rc_189 hB, m_whos hB hM, e1, rc_189 hB1, kw, e2, rc_189 hB2, kc])); first | rw [Option.bind_some] | rw [bp_s] | rw [if_true] | rw [if_false] | rw [rv_lt_eq] | rw [if_pos (by omega)] | rw [if_neg (by omega)])
      rw [cX13_reach_122]
      repeat (first | (conv => (lhs; arg 1; simp (disch := first | assumption | omega) only [tk_gI, tk_gL, tk_gR, tk_pI, tk_pL, rv_aI, rv_aL, rv_aR, rv_uI, rv_uL, rv_uB, rv_uZ, pu_ckI, pu_ckL, pu_lnI, pu_lnL, tk_rI, tk_rL, Option.bind_some, Option.map_some, rv_lt, tk_ix, z0, z1, z2, z3, z4, z5, z6, z7, z8, z9, z10, z11, z12, z13, z15, z16, z17, z18, z20, z21, z23, z24, z25, z31, z32, z39, z40, z41, z46, z48, z50, z57, z59, z60, z61, z62, z63, z64, z97, z98, z99, z100, z101, z102, z103, z104, z105, z106, z107, z108, z109, z110, z111, z112, z113, z114, z115, z116, z117, z118, z119, z120, z121, z122, z128, z132, z200, z240, z255, z372, z390625, z400, z420, z421, z422, z662, z900, z940, z999, z1000, z1024, z2000, z5860, z10000, z12345, z15625, z266240, z1048575, z1064960, z1103515245, z_m1, n_le, n_lt, n_eq, n_bit0, n_bit1, n_sbit0, n_shl, z_ltM, z_Mlt, z_leM, z_Mle, z_eqM, z_Meq, bI0, bI1, bI_01, bI_01t, bI_10, bI_10f, if_true, if_false, eq_self, reduceCtorEq, r206', rn_206 hB2, q206', rc_189 hB2])); first | rw [Option.bind_some] | rw [bp_s] | rw [if_true] | rw [if_false] | rw [rv_lt_eq] | rw [if_pos (by omega)] | rw [if_neg (by omega)])
    · have r39 := n1 hin
      obtain ⟨S5, eS5⟩ : ∃ S5, S5 = rv_sI (rv_sI (rv_sI S2 205 (cd s.1 s.2) (nI (cQ c h))) 206 c.1 (nI (cd s.1 s.2))) 189 35 (nI (c.1 + 1)) := ⟨_, rfl⟩
      have f5 : rvf RD S2 S5 := by
        rw [eS5]
        exact (((rvf.rf RD S2).w rfl rfl).w rfl rfl).tr ((rvf.sI _ 189 35 _).mono rfl)
      refine ⟨S5, ?_, f12.tr f5, by rw [eS5]; exact RQ_push hp hb hQ2 hh hs hin⟩
      rw [cX13_reach_72]
      repeat (first | (conv => (lhs; arg 1; simp (disch := first | assumption | omega) only [tk_gI, tk_gL, tk_gR, tk_pI, tk_pL, rv_aI, rv_aL, rv_aR, rv_uI, rv_uL, rv_uB, rv_uZ, pu_ckI, pu_ckL, pu_lnI, pu_lnL, tk_rI, tk_rL, Option.bind_some, Option.map_some, rv_lt, tk_ix, z0, z1, z2, z3, z4, z5, z6, z7, z8, z9, z10, z11, z12, z13, z15, z16, z17, z18, z20, z21, z23, z24, z25, z31, z32, z39, z40, z41, z46, z48, z50, z57, z59, z60, z61, z62, z63, z64, z97, z98, z99, z100, z101, z102, z103, z104, z105, z106, z107, z108, z109, z110, z111, z112, z113, z114, z115, z116, z117, z118, z119, z120, z121, z122, z128, z132, z200, z240, z255, z372, z390625, z400, z420, z421, z422, z662, z900, z940, z999, z1000, z1024, z2000, z5860, z10000, z12345, z15625, z266240, z1048575, z1064960, z1103515245, z_m1, n_le, n_lt, n_eq, n_bit0, n_bit1, n_sbit0, n_shl, z_ltM, z_Mlt, z_leM, z_Mle, z_eqM, z_Meq, bI0, bI1, bI_01, bI_01t, bI_10, bI_10f, if_true, if_false, eq_self, reduceCtorEq, wj, r206, rn_206 hB, q206, rc_189 hB, m_whos hB hM, e1, rc_189 hB1, kw, e2, rc_189 hB2, kc])); first | rw [Option.bind_some] | rw [bp_s] | rw [if_true] | rw [if_false] | rw [rv_lt_eq] | rw [if_pos (by omega)] | rw [if_neg (by omega)])
      repeat (first | (conv => (lhs; arg 1; simp (disch := first | assumption | omega) only [tk_gI, tk_gL, tk_gR, tk_pI, tk_pL, rv_aI, rv_aL, rv_aR, rv_uI, rv_uL, rv_uB, rv_uZ, pu_ckI, pu_ckL, pu_lnI, pu_lnL, tk_rI, tk_rL, Option.bind_some, Option.map_some, rv_lt, tk_ix, z0, z1, z2, z3, z4, z5, z6, z7, z8, z9, z10, z11, z12, z13, z15, z16, z17, z18, z20, z21, z23, z24, z25, z31, z32, z39, z40, z41, z46, z48, z50, z57, z59, z60, z61, z62, z63, z64, z97, z98, z99, z100, z101, z102, z103, z104, z105, z106, z107, z108, z109, z110, z111, z112, z113, z114, z115, z116, z117, z118, z119, z120, z121, z122, z128, z132, z200, z240, z255, z372, z390625, z400, z420, z421, z422, z662, z900, z940, z999, z1000, z1024, z2000, z5860, z10000, z12345, z15625, z266240, z1048575, z1064960, z1103515245, z_m1, n_le, n_lt, n_eq, n_bit0, n_bit1, n_sbit0, n_shl, z_ltM, z_Mlt, z_leM, z_Mle, z_eqM, z_Meq, bI0, bI1, bI_01, bI_01t, bI_10, bI_10f, if_true, if_false, eq_self, reduceCtorEq, r205', r206', rn_205 hB2, r39, rc_189 hB2, q206', rn_206 hB2, w1, w2, nI_add, ← eS5])); first | rw [Option.bind_some] | rw [bp_s] | rw [if_true] | rw [if_false] | rw [rv_lt_eq] | rw [if_pos (by omega)] | rw [if_neg (by omega)])
    · by_cases h3 : nI (cd s.1 s.2) = x3
      · exact absurd h3 (a1 cg)
      · cases hin : inC c s
        · have r39 := n1 hin
          have a2' := a2 cg hin
          obtain ⟨S5, eS5⟩ : ∃ S5, S5 = rv_sI (rv_sI (rv_sI S2 205 (cd s.1 s.2) (nI (cQ c h))) 206 c.1 (nI (cd s.1 s.2))) 189 35 (nI (c.1 + 1)) := ⟨_, rfl⟩
          have f5 : rvf RD S2 S5 := by
            rw [eS5]
            exact (((rvf.rf RD S2).w rfl rfl).w rfl rfl).tr ((rvf.sI _ 189 35 _).mono rfl)
          rw [hin] at estp
          rw [if_neg (show ¬ false = true by decide)] at estp
          refine ⟨S5, ?_, f12.tr f5, by rw [estp, eS5]; exact RQ_push hp hb hQ2 hh hs hin⟩
          rw [cX13_reach_72]
          repeat (first | (conv => (lhs; arg 1; simp (disch := first | assumption | omega) only [tk_gI, tk_gL, tk_gR, tk_pI, tk_pL, rv_aI, rv_aL, rv_aR, rv_uI, rv_uL, rv_uB, rv_uZ, pu_ckI, pu_ckL, pu_lnI, pu_lnL, tk_rI, tk_rL, Option.bind_some, Option.map_some, rv_lt, tk_ix, z0, z1, z2, z3, z4, z5, z6, z7, z8, z9, z10, z11, z12, z13, z15, z16, z17, z18, z20, z21, z23, z24, z25, z31, z32, z39, z40, z41, z46, z48, z50, z57, z59, z60, z61, z62, z63, z64, z97, z98, z99, z100, z101, z102, z103, z104, z105, z106, z107, z108, z109, z110, z111, z112, z113, z114, z115, z116, z117, z118, z119, z120, z121, z122, z128, z132, z200, z240, z255, z372, z390625, z400, z420, z421, z422, z662, z900, z940, z999, z1000, z1024, z2000, z5860, z10000, z12345, z15625, z266240, z1048575, z1064960, z1103515245, z_m1, n_le, n_lt, n_eq, n_bit0, n_bit1, n_sbit0, n_shl, z_ltM, z_Mlt, z_leM, z_Mle, z_eqM, z_Meq, bI0, bI1, bI_01, bI_01t, bI_10, bI_10f, if_true, if_false, eq_self, reduceCtorEq, wj, r206, rn_206 hB, q206, rc_189 hB, m_whos hB hM, e1, rc_189 hB1, kw, e2, rc_189 hB2, kc])); first | rw [Option.bind_some] | rw [bp_s] | rw [if_true] | rw [if_false] | rw [rv_lt_eq] | rw [if_pos (by omega)] | rw [if_neg (by omega)])
          repeat (first | (conv => (lhs; arg 1; simp (disch := first | assumption | omega) only [tk_gI, tk_gL, tk_gR, tk_pI, tk_pL, rv_aI, rv_aL, rv_aR, rv_uI, rv_uL, rv_uB, rv_uZ, pu_ckI, pu_ckL, pu_lnI, pu_lnL, tk_rI, tk_rL, Option.bind_some, Option.map_some, rv_lt, tk_ix, z0, z1, z2, z3, z4, z5, z6, z7, z8, z9, z10, z11, z12, z13, z15, z16, z17, z18, z20, z21, z23, z24, z25, z31, z32, z39, z40, z41, z46, z48, z50, z57, z59, z60, z61, z62, z63, z64, z97, z98, z99, z100, z101, z102, z103, z104, z105, z106, z107, z108, z109, z110, z111, z112, z113, z114, z115, z116, z117, z118, z119, z120, z121, z122, z128, z132, z200, z240, z255, z372, z390625, z400, z420, z421, z422, z662, z900, z940, z999, z1000, z1024, z2000, z5860, z10000, z12345, z15625, z266240, z1048575, z1064960, z1103515245, z_m1, n_le, n_lt, n_eq, n_bit0, n_bit1, n_sbit0, n_shl, z_ltM, z_Mlt, z_leM, z_Mle, z_eqM, z_Meq, bI0, bI1, bI_01, bI_01t, bI_10, bI_10f, if_true, if_false, eq_self, reduceCtorEq, r205', r206', rn_205 hB2, r39, rc_189 hB2, q206', rn_206 hB2, w1, w2, nI_add, ← eS5])); first | rw [Option.bind_some] | rw [bp_s] | rw [if_true] | rw [if_false] | rw [rv_lt_eq] | rw [if_pos (by omega)] | rw [if_neg (by omega)])
          rw [z1, nI_add]
        · obtain ⟨y, y1, y2⟩ := n2 hin
          rw [hin, if_pos rfl] at estp
          refine ⟨S2, ?_, f12, by rw [estp]; exact hQ2⟩
          rw [cX13_reach_72]
          repeat (first | (conv => (lhs; arg 1; simp (disch := first | assumption | omega) only [tk_gI, tk_gL, tk_gR, tk_pI, tk_pL, rv_aI, rv_aL, rv_aR, rv_uI, rv_uL, rv_uB, rv_uZ, pu_ckI, pu_ckL, pu_lnI, pu_lnL, tk_rI, tk_rL, Option.bind_some, Option.map_some, rv_lt, tk_ix, z0, z1, z2, z3, z4, z5, z6, z7, z8, z9, z10, z11, z12, z13, z15, z16, z17, z18, z20, z21, z23, z24, z25, z31, z32, z39, z40, z41, z46, z48, z50, z57, z59, z60, z61, z62, z63, z64, z97, z98, z99, z100, z101, z102, z103, z104, z105, z106, z107, z108, z109, z110, z111, z112, z113, z114, z115, z116, z117, z118, z119, z120, z121, z122, z128, z132, z200, z240, z255, z372, z390625, z400, z420, z421, z422, z662, z900, z940, z999, z1000, z1024, z2000, z5860, z10000, z12345, z15625, z266240, z1048575, z1064960, z1103515245, z_m1, n_le, n_lt, n_eq, n_bit0, n_bit1, n_sbit0, n_shl, z_ltM, z_Mlt, z_leM, z_Mle, z_eqM, z_Meq, bI0, bI1, bI_01, bI_01t, bI_10, bI_10f, if_true, if_false, eq_self, reduceCtorEq, wj, r206, rn_206 hB, q206, rc_189 hB, m_whos hB hM, e1, rc_189 hB1, kw, e2, rc_189 hB2, kc])); first | rw [Option.bind_some] | rw [bp_s] | rw [if_true] | rw [if_false] | rw [rv_lt_eq] | rw [if_pos (by omega)] | rw [if_neg (by omega)])
          repeat (first | (conv => (lhs; arg 1; simp (disch := first | assumption | omega) only [tk_gI, tk_gL, tk_gR, tk_pI, tk_pL, rv_aI, rv_aL, rv_aR, rv_uI, rv_uL, rv_uB, rv_uZ, pu_ckI, pu_ckL, pu_lnI, pu_lnL, tk_rI, tk_rL, Option.bind_some, Option.map_some, rv_lt, tk_ix, z0, z1, z2, z3, z4, z5, z6, z7, z8, z9, z10, z11, z12, z13, z15, z16, z17, z18, z20, z21, z23, z24, z25, z31, z32, z39, z40, z41, z46, z48, z50, z57, z59, z60, z61, z62, z63, z64, z97, z98, z99, z100, z101, z102, z103, z104, z105, z106, z107, z108, z109, z110, z111, z112, z113, z114, z115, z116, z117, z118, z119, z120, z121, z122, z128, z132, z200, z240, z255, z372, z390625, z400, z420, z421, z422, z662, z900, z940, z999, z1000, z1024, z2000, z5860, z10000, z12345, z15625, z266240, z1048575, z1064960, z1103515245, z_m1, n_le, n_lt, n_eq, n_bit0, n_bit1, n_sbit0, n_shl, z_ltM, z_Mlt, z_leM, z_Mle, z_eqM, z_Meq, bI0, bI1, bI_01, bI_01t, bI_10, bI_10f, if_true, if_false, eq_self, reduceCtorEq, r205', rn_205 hB2, y2, rc_189 hB2])); first | rw [Option.bind_some] | rw [bp_s] | rw [if_true] | rw [if_false] | rw [rv_lt_eq] | rw [if_pos (by omega)] | rw [if_neg (by omega)])
          rw [z1, nI_add]
  · have estp : stp m h c j = c := by rw [stp, if_neg cg]
    have cg' : ¬ wy m (c.2.1 h).1 (c.2.1 h).2 j = 0 := cg
    refine ⟨fun z => absurd z cg, fun z => absurd z cg, fun _ _ => ⟨S1, ?_, f1.mono rfl, by rw [estp]; exact hQ1⟩⟩
    rw [cX13_reach_72]
    repeat (first | (conv => (lhs; arg 1; simp (disch := first | assumption | omega) only [tk_gI, tk_gL, tk_gR, tk_pI, tk_pL, rv_aI, rv_aL, rv_aR, rv_uI, rv_uL, rv_uB, rv_uZ, pu_ckI, pu_ckL, pu_lnI, pu_lnL, tk_rI, tk_rL, Option.bind_some, Option.map_some, rv_lt, tk_ix, z0, z1, z2, z3, z4, z5, z6, z7, z8, z9, z10, z11, z12, z13, z15, z16, z17, z18, z20, z21, z23, z24, z25, z31, z32, z39, z40, z41, z46, z48, z50, z57, z59, z60, z61, z62, z63, z64, z97, z98, z99, z100, z101, z102, z103, z104, z105, z106, z107, z108, z109, z110, z111, z112, z113, z114, z115, z116, z117, z118, z119, z120, z121, z122, z128, z132, z200, z240, z255, z372, z390625, z400, z420, z421, z422, z662, z900, z940, z999, z1000, z1024, z2000, z5860, z10000, z12345, z15625, z266240, z1048575, z1064960, z1103515245, z_m1, n_le, n_lt, n_eq, n_bit0, n_bit1, n_sbit0, n_shl, z_ltM, z_Mlt, z_leM, z_Mle, z_eqM, z_Meq, bI0, bI1, bI_01, bI_01t, bI_10, bI_10f, if_true, if_false, eq_self, reduceCtorEq, wj, r206, rn_206 hB, q206, rc_189 hB, m_whos hB hM, e1, rc_189 hB1, kw, cg'])); first | rw [Option.bind_some] | rw [bp_s] | rw [if_true] | rw [if_false] | rw [rv_lt_eq] | rw [if_pos (by omega)] | rw [if_neg (by omega)])
    rw [nI_add]
end
