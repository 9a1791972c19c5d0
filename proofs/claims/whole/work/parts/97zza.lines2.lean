/-! VALLEY TEXTS: fee, dead, stranger -/
section
variable {n : Nat} {C R : rvS} {b : Nat → Nat} {L M a : Nat} {T : Tk} {m : Nat → Nat} {wd : Nat → List Nat} {f0 f1 f2 : Bool}
theorem iw_ne {k j : Nat} (h : iw T k = true) (hj : j ≠ k) : iw T j = false := by
  obtain ⟨h1, h2⟩ := iw_2 h
  unfold iw
  rw [decide_eq_true h1, h2, decide_eq_false (fun z => hj z.symm)]
  rfl
/-- fee -/
theorem vt_fee (hn : 1000 ≤ n) (h : VT C R a b L M T m wd) (hf : FLG C R a f0 f1 f2) (hw : iw T 6 = true) : RES C R a b L M T.2.1 (fnX10_readFee n C a) (fnX13_readLine n R 189) (fun R' => cX13_readLine_215 n R' 189 1) := by
  obtain ⟨hK, ha, hD⟩ := id h
  obtain ⟨hB, hB2, hTC, hTR, hC, hR, hT, hL⟩ := id hK
  obtain ⟨k2, k3⟩ := iw_2 hw
  have ck := ha.ck
  have r0 := ha.2.2.2.1
  have r1 := ha.2.2.2.2
  have c65 := rc_65 hB
  have hv : vb 87 := Or.inr (Or.inl rfl)
  have mw0 : fnX13_isWord n R 189 (0 : Int32) = some (bI (iw T 0)) := m_isWord (n := n) hB2 hR hT (k := 0) (by decide)
  have mw : fnX13_isWord n R 189 (6 : Int32) = some (bI (iw T 6)) := m_isWord (n := n) hB2 hR hT (k := 6) (by decide)
  rw [hw] at mw
  rw [iw_ne hw (by decide)] at mw0
  have ref : ∀ X, (rv_bp (fnX13_readOnce n R 189 (nI 1)) fun x122_ S123_ => if x122_ = 0 then cX13_readLine_94 n S123_ 189 else (rv_ck S123_ 11 189).bind fun u127_ => rv_bp (fnX13_readNumber n S123_ 189 (nI 1) (nI 99)) fun x130_ S131_ => if x130_ = 0 then cX13_readLine_94 n S131_ 189 else cX13_readLine_95 n S131_ 189 (1 : Int32)) = X → fnX13_readLine n R 189 = X := fun X hX => by
    rw [fnX13_readLine]
    repeat (first | (conv => (lhs; arg 1; simp (disch := first | assumption | omega) only [tk_gI, tk_gL, tk_gR, tk_pI, tk_pL, rv_aI, rv_aL, rv_aR, rv_uI, rv_uL, rv_uB, rv_uZ, pu_ckI, pu_ckL, pu_lnI, pu_lnL, tk_rI, tk_rL, Option.bind_some, Option.map_some, rv_lt, tk_ix, rc_189 hB2, mw0])); first | rw [Option.bind_some] | rw [bp_s] | rw [if_true] | rw [if_false] | rw [rv_lt_eq] | rw [if_pos (by omega)] | rw [if_neg (by omega)])
    rw [if_pos (show bI false = 0 from rfl)]
    repeat (first | (conv => (lhs; arg 1; simp (disch := first | assumption | omega) only [tk_gI, tk_gL, tk_gR, tk_pI, tk_pL, rv_aI, rv_aL, rv_aR, rv_uI, rv_uL, rv_uB, rv_uZ, pu_ckI, pu_ckL, pu_lnI, pu_lnL, tk_rI, tk_rL, Option.bind_some, Option.map_some, rv_lt, tk_ix, rc_189 hB2, mw])); first | rw [Option.bind_some] | rw [bp_s] | rw [if_true] | rw [if_false] | rw [rv_lt_eq] | rw [if_pos (by omega)] | rw [if_neg (by omega)])
    rw [if_neg (show ¬ bI true = 0 by decide), rc_189 hB2, Option.bind_some]
    exact hX
  have e94 : ∀ S, cX13_readLine_94 n S 189 = some (0, S) := fun S => by
    rw [cX13_readLine_94, cX13_readLine_95, if_pos rfl, cX13_readLine_215, if_pos rfl]
  cases f1
  · obtain ⟨C1, eC1⟩ : ∃ C1, C1 = rv_sI C a 6 (1 : Int32) := ⟨_, rfl⟩
    obtain ⟨R1, eR1⟩ : ∃ R1, R1 = rv_sI R 189 23 (nI (b3 f0 true f2)) := ⟨_, rfl⟩
    have fw1 : FrA a [6] C C1 := by rw [eC1]; exact FrA.w ha 6 _
    have h1 : VT C1 R1 a b L M T m wd := by rw [eC1, eR1]; exact vt_r23 (vt_w3 h 6 _) _
    have fl1 : FLG C1 R1 a f0 true f2 := by
      rw [eC1, eR1]
      exact ⟨(rv_sI_k _ _ (by decide) _).trans hf.1, rv_sI_eq _ _ _ _, (rv_sI_k _ _ (by decide) _).trans hf.2.2.1, rv_sI_eq _ _ _ _⟩
    have fr1 : rvf DRv R R1 := by rw [eR1]; exact (rvf.sI R 189 23 _).mono rfl
    obtain ⟨C2, R2, T2, e3, e4, fa2, fr2, h2, nxh2⟩ := vt_next (n := n) hn h1
    obtain ⟨C3, R3, fa3, fr3, h3⟩ := vt_takes (n := n) hn h2 (lo := 1) (hi := 99) (by decide) (by decide)
    have mo := m_once (n := n) hB2 hf.2.2.2 (k := 1) (by decide)
    rw [b3_t1, if_neg (by decide), b3_s1, ← eR1, e4, Option.bind_some] at mo
    have ck2 := h2.2.1.ck
    have pre : ∀ X, (rv_bp (fnX10_takesNumber n C2 a (nI 1) (nI 99)) fun x17_ S18_ => if x17_ = 0 then some ((0 : Int32), S18_) else (rv_gR S18_ 9 a 1).bind fun a22_ => (rv_gI S18_ 9 a 3).bind fun x24_ => (rv_pI S18_ 8 a22_ 8 x24_).bind fun S26_ => some ((1 : Int32), S26_)) = X → fnX10_readFee n C a = X := fun X hX => by
      have rr1 : C1.2.2.2 a 0 = some 65 := h1.2.1.2.2.2.1
      rw [fnX10_readFee]
      repeat (first | (conv => (lhs; arg 1; simp (disch := first | assumption | omega) only [tk_gI, tk_gL, tk_gR, tk_pI, tk_pL, rv_aI, rv_aL, rv_aR, rv_uI, rv_uL, rv_uB, rv_uZ, pu_ckI, pu_ckL, pu_lnI, pu_lnL, tk_rI, tk_rL, Option.bind_some, Option.map_some, rv_lt, tk_ix, ck, hf.2.1])); first | rw [Option.bind_some] | rw [bp_s] | rw [if_true] | rw [if_false] | rw [rv_lt_eq] | rw [if_pos (by omega)] | rw [if_neg (by omega)])
      rw [if_pos (show bI false = 0 from rfl)]
      repeat (first | (conv => (lhs; arg 1; simp (disch := first | assumption | omega) only [tk_gI, tk_gL, tk_gR, tk_pI, tk_pL, rv_aI, rv_aL, rv_aR, rv_uI, rv_uL, rv_uB, rv_uZ, pu_ckI, pu_ckL, pu_lnI, pu_lnL, tk_rI, tk_rL, Option.bind_some, Option.map_some, rv_lt, tk_ix, ck])); first | rw [Option.bind_some] | rw [bp_s] | rw [if_true] | rw [if_false] | rw [rv_lt_eq] | rw [if_pos (by omega)] | rw [if_neg (by omega)])
      rw [← eC1]
      repeat (first | (conv => (lhs; arg 1; simp (disch := first | assumption | omega) only [tk_gI, tk_gL, tk_gR, tk_pI, tk_pL, rv_aI, rv_aL, rv_aR, rv_uI, rv_uL, rv_uB, rv_uZ, pu_ckI, pu_ckL, pu_lnI, pu_lnL, tk_rI, tk_rL, Option.bind_some, Option.map_some, rv_lt, tk_ix, h1.2.1.ck, rr1, rc_65 h1.1.1])); first | rw [Option.bind_some] | rw [bp_s] | rw [if_true] | rw [if_false] | rw [rv_lt_eq] | rw [if_pos (by omega)] | rw [if_neg (by omega)])
      rw [e3, Option.bind_some, ck2, Option.bind_some]
      exact hX
    rcases h3 with ⟨e5, e6, g⟩ | ⟨v, T3, v1, v2, e5, e6, g3, g13, h4, nxh4⟩
    · refine ⟨C3, R3, (fw1.v.tr fa2.v).tr fa3.v, (fr1.tr (fr2.mono rfl)).tr (fr3.mono rfl), Or.inl ⟨pre _ ?_, ref _ ?_, g⟩⟩
      · rw [e5, bp_s, if_pos rfl]
      · rw [mo, bp_s, if_neg (by decide), rc_189 h2.1.2.1, Option.bind_some, e6, bp_s, if_pos rfl, e94]
    · have d4 := h4.2.2.fee ⟨v1, v2⟩
      have fc4 : rvf [87] C3 (rv_sI C3 87 8 (nI v)) := rvf.sIr _ _ _ rfl
      have fr4 : rvf [192] R3 (rv_sI R3 192 4 (nI v)) := rvf.sIr _ _ _ rfl
      refine ⟨rv_sI C3 87 8 (nI v), rv_sI R3 192 4 (nI v), ((fw1.v.tr fa2.v).tr fa3.v).tr (rvfV fc4 rfl), ((fr1.tr (fr2.mono rfl)).tr (fr3.mono rfl)).tr (fr4.mono rfl), Or.inr ⟨pre _ ?_, ref _ ?_, T3, _, _, f0, true, f2, ⟨(h4.1.fc fc4 rfl).fr fr4 rfl, h4.2.1, d4⟩, ?_, ?_, _, nxh2.2.1, nxh4.2.2, nxh4.1⟩⟩
      · rw [e5, bp_s, if_neg (by decide)]
        have hVS3 := VS_of h4.1.1 hv
        repeat (first | (conv => (lhs; arg 1; simp (disch := first | assumption | omega) only [tk_gI, tk_gL, tk_gR, tk_pI, tk_pL, rv_aI, rv_aL, rv_aR, rv_uI, rv_uL, rv_uB, rv_uZ, pu_ckI, pu_ckL, pu_lnI, pu_lnL, tk_rI, tk_rL, Option.bind_some, Option.map_some, rv_lt, tk_ix, h4.2.1.ck, h4.2.1.2.2.2.2, hVS3, g3])); first | rw [Option.bind_some] | rw [bp_s] | rw [if_true] | rw [if_false] | rw [rv_lt_eq] | rw [if_pos (by omega)] | rw [if_neg (by omega)])
      · rw [mo, bp_s, if_neg (by decide), rc_189 h2.1.2.1, Option.bind_some, e6, bp_s, if_neg (by decide), cX13_readLine_95, if_neg (by decide)]
        repeat (first | (conv => (lhs; arg 1; simp (disch := first | assumption | omega) only [tk_gI, tk_gL, tk_gR, tk_pI, tk_pL, rv_aI, rv_aL, rv_aR, rv_uI, rv_uL, rv_uB, rv_uZ, pu_ckI, pu_ckL, pu_lnI, pu_lnL, tk_rI, tk_rL, Option.bind_some, Option.map_some, rv_lt, tk_ix, z4, rc_189 h4.1.2.1, rf_of h4.1.2.1 (show (189, 15, 192) ∈ rv_rf0 by decide), rn_192 h4.1.2.1, g13])); first | rw [Option.bind_some] | rw [bp_s] | rw [if_true] | rw [if_false] | rw [rv_lt_eq] | rw [if_pos (by omega)] | rw [if_neg (by omega)])
      · exact ((fl1.f fa2 fr2 rfl rfl rfl rfl).f fa3 fr3 rfl rfl rfl rfl).wx (by have := h4.2.1.1; omega) (by decide)
      · have e2 : C3.2.1 a 2 = C.2.1 a 2 := (fa3.2.2 2 rfl).trans ((fa2.2.2 2 rfl).trans (fw1.2.2 2 rfl))
        rw [rv_sI_a _ _ _ (by have := h4.2.1.1; omega)]
        exact e2
  · refine vt_bad (n := n) h (f := 3) (by decide) (Or.inr ⟨by omega, by omega⟩) (rvf.rf _ _) (rvf.rf _ _) (fun C' e => ?_) (fun R' e => ref _ ?_)
    · rw [fnX10_readFee]
      repeat (first | (conv => (lhs; arg 1; simp (disch := first | assumption | omega) only [tk_gI, tk_gL, tk_gR, tk_pI, tk_pL, rv_aI, rv_aL, rv_aR, rv_uI, rv_uL, rv_uB, rv_uZ, pu_ckI, pu_ckL, pu_lnI, pu_lnL, tk_rI, tk_rL, Option.bind_some, Option.map_some, rv_lt, tk_ix, ck, hf.2.1])); first | rw [Option.bind_some] | rw [bp_s] | rw [if_true] | rw [if_false] | rw [rv_lt_eq] | rw [if_pos (by omega)] | rw [if_neg (by omega)])
      rw [if_neg (show ¬ bI true = 0 by decide)]
      repeat (first | (conv => (lhs; arg 1; simp (disch := first | assumption | omega) only [tk_gI, tk_gL, tk_gR, tk_pI, tk_pL, rv_aI, rv_aL, rv_aR, rv_uI, rv_uL, rv_uB, rv_uZ, pu_ckI, pu_ckL, pu_lnI, pu_lnL, tk_rI, tk_rL, Option.bind_some, Option.map_some, rv_lt, tk_ix, ck, r0, c65])); first | rw [Option.bind_some] | rw [bp_s] | rw [if_true] | rw [if_false] | rw [rv_lt_eq] | rw [if_pos (by omega)] | rw [if_neg (by omega)])
      rw [z3, e, bp_s]
      rfl
    · have mo := m_once (n := n) hB2 hf.2.2.2 (k := 1) (by decide)
      rw [b3_t1, if_pos rfl, e, bp_s] at mo
      have mo : fnX13_readOnce n R 189 (nI 1) = some (0, R') := mo
      rw [mo, bp_s, if_pos rfl, e94]
/-- the law of dead names -/
theorem vt_dead (hn : 1000 ≤ n) (h : VT C R a b L M T m wd) (hf : FLG C R a f0 f1 f2) (hw : iw T 7 = true) : RES C R a b L M T.2.1 (fnX10_readLaw n C a) (fnX13_readDead n R 189) (fun R' => some (1, R')) := by
  obtain ⟨hK, ha, hD⟩ := id h
  obtain ⟨hB, hB2, hTC, hTR, hC, hR, hT, hL⟩ := id hK
  obtain ⟨k2, k3⟩ := iw_2 hw
  have ck := ha.ck
  have r0 := ha.2.2.2.1
  have r1 := ha.2.2.2.2
  have c65 := rc_65 hB
  have hv : vb 87 := Or.inr (Or.inl rfl)
  have mo := m_once (n := n) hB2 hf.2.2.2 (k := 2) (by decide)
  have mo : fnX13_readOnce n R 189 (2 : Int32) = _ := mo
  rw [b3_t2] at mo
  cases f2
  · obtain ⟨C1, eC1⟩ : ∃ C1, C1 = rv_sI C a 7 (1 : Int32) := ⟨_, rfl⟩
    obtain ⟨R1, eR1⟩ : ∃ R1, R1 = rv_sI R 189 23 (nI (b3 f0 f1 true)) := ⟨_, rfl⟩
    have fw1 : FrA a [7] C C1 := by rw [eC1]; exact FrA.w ha 7 _
    have h1 : VT C1 R1 a b L M T m wd := by rw [eC1, eR1]; exact vt_r23 (vt_w3 h 7 _) _
    have fl1 : FLG C1 R1 a f0 f1 true := by
      rw [eC1, eR1]
      exact ⟨(rv_sI_k _ _ (by decide) _).trans hf.1, (rv_sI_k _ _ (by decide) _).trans hf.2.1, rv_sI_eq _ _ _ _, rv_sI_eq _ _ _ _⟩
    have fr1 : rvf DRv R R1 := by rw [eR1]; exact (rvf.sI R 189 23 _).mono rfl
    obtain ⟨C2, R2, T2, e3, e4, fa2, fr2, h2, nxh2⟩ := vt_next (n := n) hn h1
    rw [if_neg (by decide), b3_s2, ← eR1, e4, Option.bind_some] at mo
    have ck2 := h2.2.1.ck
    have rr0 := h2.2.1.2.2.2.1
    have rr1 := h2.2.1.2.2.2.2
    have c652 := rc_65 h2.1.1
    have hB22 := h2.1.2.1
    have hT2 := h2.1.2.2.2.2.2.2.1
    have kw := fun w (hw : w < 23) => k_isWord (n := n) h2.1.1 h2.1.2.2.2.2.1 hT2 hw
    have mw := fun w (hw : w < 22) => m_isWord (n := n) hB22 h2.1.2.2.2.2.2.1 hT2 hw
    have mw8 : fnX13_isWord n R2 189 (8 : Int32) = _ := mw 8 (by decide)
    have mw9 : fnX13_isWord n R2 189 (9 : Int32) = _ := mw 9 (by decide)
    have mw10 : fnX13_isWord n R2 189 (10 : Int32) = _ := mw 10 (by decide)
    have good : ∀ v, v ≤ 2 → ∃ C' R', rvf (DVc ++ [a]) C C' ∧ rvf DRv R R' ∧ cX10_readLaw_109 n (rv_sI C2 87 9 (nI v)) a = some (1, C') ∧ cX13_readDead_50 n R2 189 (nI v) = some (1, R') ∧ GD C C' R' a b L M T.2.1 := fun v hv2 => by
      have d4 := h2.2.2.law hv2
      have fc4 : rvf [87] C2 (rv_sI C2 87 9 (nI v)) := rvf.sIr _ _ _ rfl
      have fr4 : rvf [192] R2 (rv_sI R2 192 5 (nI v)) := rvf.sIr _ _ _ rfl
      have h4 : VT (rv_sI C2 87 9 (nI v)) (rv_sI R2 192 5 (nI v)) a b L M T2 (u1 m 5 v) wd := ⟨(h2.1.fc fc4 rfl).fr fr4 rfl, h2.2.1, d4⟩
      obtain ⟨C5, R5, T5, e5, e6, fa5, fr5, h5, nxh5⟩ := vt_next (n := n) hn h4
      have nM : ¬ nI v = -1 := fun z => by
        have := z_eqM (a := v) (by omega)
        rw [← this]
        exact z
      refine ⟨C5, R5, ((fw1.v.tr fa2.v).tr (rvfV fc4 rfl)).tr fa5.v, ((fr1.tr (fr2.mono rfl)).tr (fr4.mono rfl)).tr (fr5.mono rfl), ?_, ?_, T5, _, _, f0, f1, true, h5, ?_, ?_, _, nxh2.2.1, nxh5.2.2, nxh5.1⟩
      · rw [cX10_readLaw_109]
        repeat (first | (conv => (lhs; arg 1; simp (disch := first | assumption | omega) only [tk_gI, tk_gL, tk_gR, tk_pI, tk_pL, rv_aI, rv_aL, rv_aR, rv_uI, rv_uL, rv_uB, rv_uZ, pu_ckI, pu_ckL, pu_lnI, pu_lnL, tk_rI, tk_rL, Option.bind_some, Option.map_some, rv_lt, tk_ix, ck2, rr0, c652])); first | rw [Option.bind_some] | rw [bp_s] | rw [if_true] | rw [if_false] | rw [rv_lt_eq] | rw [if_pos (by omega)] | rw [if_neg (by omega)])
        rw [e5]
        rfl
      · rw [cX13_readDead_50, if_neg nM]
        repeat (first | (conv => (lhs; arg 1; simp (disch := first | assumption | omega) only [tk_gI, tk_gL, tk_gR, tk_pI, tk_pL, rv_aI, rv_aL, rv_aR, rv_uI, rv_uL, rv_uB, rv_uZ, pu_ckI, pu_ckL, pu_lnI, pu_lnL, tk_rI, tk_rL, Option.bind_some, Option.map_some, rv_lt, tk_ix, z5, rc_189 hB22, rf_of hB22 (show (189, 15, 192) ∈ rv_rf0 by decide), rn_192 hB22])); first | rw [Option.bind_some] | rw [bp_s] | rw [if_true] | rw [if_false] | rw [rv_lt_eq] | rw [if_pos (by omega)] | rw [if_neg (by omega)])
        rw [e6]
        rfl
      · exact ((fl1.f fa2 fr2 rfl rfl rfl rfl).wx (by have := h2.2.1.1; omega) (by decide)).f fa5 fr5 rfl rfl rfl rfl
      · rw [fa5.2.2 2 rfl, rv_sI_a _ _ _ (by have := h2.2.1.1; omega), fa2.2.2 2 rfl, fw1.2.2 2 rfl]
    have pre : ∀ X, ((fnX8_isWord n C2 65 8).bind fun x19_ => if x19_ = 0 then ((rv_gR C2 9 a 0).bind fun a22_ => (rv_ck C2 7 a22_).bind fun u24_ => (fnX8_isWord n C2 a22_ 9).bind fun x27_ => if x27_ = 0 then ((rv_gR C2 9 a 0).bind fun a30_ => (rv_ck C2 7 a30_).bind fun u32_ => (fnX8_isWord n C2 a30_ 10).bind fun x35_ => if x35_ = 0 then ((rv_gR C2 9 a 0).bind fun a38_ => (rv_ck C2 7 a38_).bind fun u40_ => rv_bp (fnX8_fail n C2 a38_ (1 : Int32)) fun x43_ S44_ => (rv_bo x43_).bind fun b_ => some (b_, S44_)) else ((rv_gR C2 9 a 1).bind fun a47_ => (rv_pI C2 8 a47_ 9 (2 : Int32)).bind fun S49_ => cX10_readLaw_109 n S49_ a)) else ((rv_gR C2 9 a 1).bind fun a51_ => (rv_pI C2 8 a51_ 9 (1 : Int32)).bind fun S53_ => cX10_readLaw_109 n S53_ a)) else ((rv_gR C2 9 a 1).bind fun a55_ => (rv_pI C2 8 a55_ 9 (0 : Int32)).bind fun S57_ => cX10_readLaw_109 n S57_ a)) = X → fnX10_readLaw n C a = X := fun X hX => by
      have rr1 : C1.2.2.2 a 0 = some 65 := h1.2.1.2.2.2.1
      rw [fnX10_readLaw]
      repeat (first | (conv => (lhs; arg 1; simp (disch := first | assumption | omega) only [tk_gI, tk_gL, tk_gR, tk_pI, tk_pL, rv_aI, rv_aL, rv_aR, rv_uI, rv_uL, rv_uB, rv_uZ, pu_ckI, pu_ckL, pu_lnI, pu_lnL, tk_rI, tk_rL, Option.bind_some, Option.map_some, rv_lt, tk_ix, ck, hf.2.2.1])); first | rw [Option.bind_some] | rw [bp_s] | rw [if_true] | rw [if_false] | rw [rv_lt_eq] | rw [if_pos (by omega)] | rw [if_neg (by omega)])
      rw [if_pos (show bI false = 0 from rfl)]
      repeat (first | (conv => (lhs; arg 1; simp (disch := first | assumption | omega) only [tk_gI, tk_gL, tk_gR, tk_pI, tk_pL, rv_aI, rv_aL, rv_aR, rv_uI, rv_uL, rv_uB, rv_uZ, pu_ckI, pu_ckL, pu_lnI, pu_lnL, tk_rI, tk_rL, Option.bind_some, Option.map_some, rv_lt, tk_ix, ck])); first | rw [Option.bind_some] | rw [bp_s] | rw [if_true] | rw [if_false] | rw [rv_lt_eq] | rw [if_pos (by omega)] | rw [if_neg (by omega)])
      rw [← eC1]
      repeat (first | (conv => (lhs; arg 1; simp (disch := first | assumption | omega) only [tk_gI, tk_gL, tk_gR, tk_pI, tk_pL, rv_aI, rv_aL, rv_aR, rv_uI, rv_uL, rv_uB, rv_uZ, pu_ckI, pu_ckL, pu_lnI, pu_lnL, tk_rI, tk_rL, Option.bind_some, Option.map_some, rv_lt, tk_ix, h1.2.1.ck, rr1, rc_65 h1.1.1])); first | rw [Option.bind_some] | rw [bp_s] | rw [if_true] | rw [if_false] | rw [rv_lt_eq] | rw [if_pos (by omega)] | rw [if_neg (by omega)])
      rw [e3, Option.bind_some]
      repeat (first | (conv => (lhs; arg 1; simp (disch := first | assumption | omega) only [tk_gI, tk_gL, tk_gR, tk_pI, tk_pL, rv_aI, rv_aL, rv_aR, rv_uI, rv_uL, rv_uB, rv_uZ, pu_ckI, pu_ckL, pu_lnI, pu_lnL, tk_rI, tk_rL, Option.bind_some, Option.map_some, rv_lt, tk_ix, ck2, rr0, c652])); first | rw [Option.bind_some] | rw [bp_s] | rw [if_true] | rw [if_false] | rw [rv_lt_eq] | rw [if_pos (by omega)] | rw [if_neg (by omega)])
      exact hX
    have ref : ∀ X, ((fnX13_isWord n R2 189 (8 : Int32)).bind fun x12_ => if x12_ = 0 then ((rv_ck R2 11 189).bind fun u15_ => (fnX13_isWord n R2 189 (9 : Int32)).bind fun x18_ => if x18_ = 0 then ((rv_ck R2 11 189).bind fun u21_ => (fnX13_isWord n R2 189 (10 : Int32)).bind fun x24_ => if x24_ = 0 then cX13_readDead_50 n R2 189 (-1 : Int32) else cX13_readDead_50 n R2 189 (2 : Int32)) else cX13_readDead_50 n R2 189 (1 : Int32)) else cX13_readDead_50 n R2 189 (0 : Int32)) = X → fnX13_readDead n R 189 = X := fun X hX => by
      rw [fnX13_readDead, rc_189 hB2, Option.bind_some, mo, bp_s, if_neg (by decide), rc_189 hB22, Option.bind_some]
      rw [rc_189 hB22] at hX
      exact hX
    have hVS2 := VS_of h2.1.1 hv
    cases i8 : iw T2 8
    · have kw8 := kw 8 (by decide)
      rw [i8] at kw8 mw8
      cases i9 : iw T2 9
      · have kw9 := kw 9 (by decide)
        rw [i9] at kw9 mw9
        cases i10 : iw T2 10
        · have kw10 := kw 10 (by decide)
          rw [i10] at kw10 mw10
          refine vt_bad (n := n) h2 (f := 1) (by decide) (Or.inl rfl) (fw1.v.tr fa2.v) (fr1.tr (fr2.mono rfl)) (fun C' e => pre _ ?_) (fun R' e => ref _ ?_)
          · rw [kw8, Option.bind_some, if_pos (show bI false = 0 from rfl)]
            repeat (first | (conv => (lhs; arg 1; simp (disch := first | assumption | omega) only [tk_gI, tk_gL, tk_gR, tk_pI, tk_pL, rv_aI, rv_aL, rv_aR, rv_uI, rv_uL, rv_uB, rv_uZ, pu_ckI, pu_ckL, pu_lnI, pu_lnL, tk_rI, tk_rL, Option.bind_some, Option.map_some, rv_lt, tk_ix, ck2, rr0, c652, kw9])); first | rw [Option.bind_some] | rw [bp_s] | rw [if_true] | rw [if_false] | rw [rv_lt_eq] | rw [if_pos (by omega)] | rw [if_neg (by omega)])
            rw [if_pos (show bI false = 0 from rfl)]
            repeat (first | (conv => (lhs; arg 1; simp (disch := first | assumption | omega) only [tk_gI, tk_gL, tk_gR, tk_pI, tk_pL, rv_aI, rv_aL, rv_aR, rv_uI, rv_uL, rv_uB, rv_uZ, pu_ckI, pu_ckL, pu_lnI, pu_lnL, tk_rI, tk_rL, Option.bind_some, Option.map_some, rv_lt, tk_ix, ck2, rr0, c652, kw10])); first | rw [Option.bind_some] | rw [bp_s] | rw [if_true] | rw [if_false] | rw [rv_lt_eq] | rw [if_pos (by omega)] | rw [if_neg (by omega)])
            rw [if_pos (show bI false = 0 from rfl)]
            repeat (first | (conv => (lhs; arg 1; simp (disch := first | assumption | omega) only [tk_gI, tk_gL, tk_gR, tk_pI, tk_pL, rv_aI, rv_aL, rv_aR, rv_uI, rv_uL, rv_uB, rv_uZ, pu_ckI, pu_ckL, pu_lnI, pu_lnL, tk_rI, tk_rL, Option.bind_some, Option.map_some, rv_lt, tk_ix, ck2, rr0, c652])); first | rw [Option.bind_some] | rw [bp_s] | rw [if_true] | rw [if_false] | rw [rv_lt_eq] | rw [if_pos (by omega)] | rw [if_neg (by omega)])
            rw [z1, e, bp_s]
            rfl
          · rw [mw8, Option.bind_some, if_pos (show bI false = 0 from rfl), rc_189 hB22, Option.bind_some, mw9, Option.bind_some, if_pos (show bI false = 0 from rfl), Option.bind_some, mw10, Option.bind_some, if_pos (show bI false = 0 from rfl), cX13_readDead_50, if_pos rfl, rc_189 hB22, Option.bind_some, z1, e, bp_s]
            rfl
        · have kw10 := kw 10 (by decide)
          rw [i10] at kw10 mw10
          obtain ⟨C', R', g1, g2, g3, g4, g5⟩ := good 2 (by decide)
          refine ⟨C', R', g1, g2, Or.inr ⟨pre _ ?_, ref _ ?_, g5⟩⟩
          · rw [kw8, Option.bind_some, if_pos (show bI false = 0 from rfl)]
            repeat (first | (conv => (lhs; arg 1; simp (disch := first | assumption | omega) only [tk_gI, tk_gL, tk_gR, tk_pI, tk_pL, rv_aI, rv_aL, rv_aR, rv_uI, rv_uL, rv_uB, rv_uZ, pu_ckI, pu_ckL, pu_lnI, pu_lnL, tk_rI, tk_rL, Option.bind_some, Option.map_some, rv_lt, tk_ix, ck2, rr0, c652, kw9])); first | rw [Option.bind_some] | rw [bp_s] | rw [if_true] | rw [if_false] | rw [rv_lt_eq] | rw [if_pos (by omega)] | rw [if_neg (by omega)])
            rw [if_pos (show bI false = 0 from rfl)]
            repeat (first | (conv => (lhs; arg 1; simp (disch := first | assumption | omega) only [tk_gI, tk_gL, tk_gR, tk_pI, tk_pL, rv_aI, rv_aL, rv_aR, rv_uI, rv_uL, rv_uB, rv_uZ, pu_ckI, pu_ckL, pu_lnI, pu_lnL, tk_rI, tk_rL, Option.bind_some, Option.map_some, rv_lt, tk_ix, ck2, rr0, c652, kw10])); first | rw [Option.bind_some] | rw [bp_s] | rw [if_true] | rw [if_false] | rw [rv_lt_eq] | rw [if_pos (by omega)] | rw [if_neg (by omega)])
            rw [if_neg (show ¬ bI true = 0 by decide)]
            repeat (first | (conv => (lhs; arg 1; simp (disch := first | assumption | omega) only [tk_gI, tk_gL, tk_gR, tk_pI, tk_pL, rv_aI, rv_aL, rv_aR, rv_uI, rv_uL, rv_uB, rv_uZ, pu_ckI, pu_ckL, pu_lnI, pu_lnL, tk_rI, tk_rL, Option.bind_some, Option.map_some, rv_lt, tk_ix, ck2, rr1, hVS2])); first | rw [Option.bind_some] | rw [bp_s] | rw [if_true] | rw [if_false] | rw [rv_lt_eq] | rw [if_pos (by omega)] | rw [if_neg (by omega)])
            exact g3
          · rw [mw8, Option.bind_some, if_pos (show bI false = 0 from rfl), rc_189 hB22, Option.bind_some, mw9, Option.bind_some, if_pos (show bI false = 0 from rfl), Option.bind_some, mw10, Option.bind_some, if_neg (show ¬ bI true = 0 by decide)]
            exact g4
      · have kw9 := kw 9 (by decide)
        rw [i9] at kw9 mw9
        obtain ⟨C', R', g1, g2, g3, g4, g5⟩ := good 1 (by decide)
        refine ⟨C', R', g1, g2, Or.inr ⟨pre _ ?_, ref _ ?_, g5⟩⟩
        · rw [kw8, Option.bind_some, if_pos (show bI false = 0 from rfl)]
          repeat (first | (conv => (lhs; arg 1; simp (disch := first | assumption | omega) only [tk_gI, tk_gL, tk_gR, tk_pI, tk_pL, rv_aI, rv_aL, rv_aR, rv_uI, rv_uL, rv_uB, rv_uZ, pu_ckI, pu_ckL, pu_lnI, pu_lnL, tk_rI, tk_rL, Option.bind_some, Option.map_some, rv_lt, tk_ix, ck2, rr0, c652, kw9])); first | rw [Option.bind_some] | rw [bp_s] | rw [if_true] | rw [if_false] | rw [rv_lt_eq] | rw [if_pos (by omega)] | rw [if_neg (by omega)])
          rw [if_neg (show ¬ bI true = 0 by decide)]
          repeat (first | (conv => (lhs; arg 1; simp (disch := first | assumption | omega) only [tk_gI, tk_gL, tk_gR, tk_pI, tk_pL, rv_aI, rv_aL, rv_aR, rv_uI, rv_uL, rv_uB, rv_uZ, pu_ckI, pu_ckL, pu_lnI, pu_lnL, tk_rI, tk_rL, Option.bind_some, Option.map_some, rv_lt, tk_ix, ck2, rr1, hVS2])); first | rw [Option.bind_some] | rw [bp_s] | rw [if_true] | rw [if_false] | rw [rv_lt_eq] | rw [if_pos (by omega)] | rw [if_neg (by omega)])
          exact g3
        · rw [mw8, Option.bind_some, if_pos (show bI false = 0 from rfl), rc_189 hB22, Option.bind_some, mw9, Option.bind_some, if_neg (show ¬ bI true = 0 by decide)]
          exact g4
    · have kw8 := kw 8 (by decide)
      rw [i8] at kw8 mw8
      obtain ⟨C', R', g1, g2, g3, g4, g5⟩ := good 0 (by decide)
      refine ⟨C', R', g1, g2, Or.inr ⟨pre _ ?_, ref _ ?_, g5⟩⟩
      · rw [kw8, Option.bind_some, if_neg (show ¬ bI true = 0 by decide)]
        repeat (first | (conv => (lhs; arg 1; simp (disch := first | assumption | omega) only [tk_gI, tk_gL, tk_gR, tk_pI, tk_pL, rv_aI, rv_aL, rv_aR, rv_uI, rv_uL, rv_uB, rv_uZ, pu_ckI, pu_ckL, pu_lnI, pu_lnL, tk_rI, tk_rL, Option.bind_some, Option.map_some, rv_lt, tk_ix, ck2, rr1, hVS2])); first | rw [Option.bind_some] | rw [bp_s] | rw [if_true] | rw [if_false] | rw [rv_lt_eq] | rw [if_pos (by omega)] | rw [if_neg (by omega)])
        exact g3
      · rw [mw8, Option.bind_some, if_neg (show ¬ bI true = 0 by decide)]
        exact g4
  · refine vt_bad (n := n) h (f := 3) (by decide) (Or.inr ⟨by omega, by omega⟩) (rvf.rf _ _) (rvf.rf _ _) (fun C' e => ?_) (fun R' e => ?_)
    · rw [fnX10_readLaw]
      repeat (first | (conv => (lhs; arg 1; simp (disch := first | assumption | omega) only [tk_gI, tk_gL, tk_gR, tk_pI, tk_pL, rv_aI, rv_aL, rv_aR, rv_uI, rv_uL, rv_uB, rv_uZ, pu_ckI, pu_ckL, pu_lnI, pu_lnL, tk_rI, tk_rL, Option.bind_some, Option.map_some, rv_lt, tk_ix, ck, hf.2.2.1])); first | rw [Option.bind_some] | rw [bp_s] | rw [if_true] | rw [if_false] | rw [rv_lt_eq] | rw [if_pos (by omega)] | rw [if_neg (by omega)])
      rw [if_neg (show ¬ bI true = 0 by decide)]
      repeat (first | (conv => (lhs; arg 1; simp (disch := first | assumption | omega) only [tk_gI, tk_gL, tk_gR, tk_pI, tk_pL, rv_aI, rv_aL, rv_aR, rv_uI, rv_uL, rv_uB, rv_uZ, pu_ckI, pu_ckL, pu_lnI, pu_lnL, tk_rI, tk_rL, Option.bind_some, Option.map_some, rv_lt, tk_ix, ck, r0, c65])); first | rw [Option.bind_some] | rw [bp_s] | rw [if_true] | rw [if_false] | rw [rv_lt_eq] | rw [if_pos (by omega)] | rw [if_neg (by omega)])
      rw [z3, e, bp_s]
      rfl
    · rw [if_pos rfl, e, bp_s] at mo
      have mo : fnX13_readOnce n R 189 (2 : Int32) = some (0, R') := mo
      rw [fnX13_readDead, rc_189 hB2, Option.bind_some, mo, bp_s, if_pos rfl]
/-- a stranger -/
theorem vt_str (hn : 1000 ≤ n) (h : VT C R a b L M T m wd) (hf : FLG C R a f0 f1 f2) : RES C R a b L M T.2.1 (fnX10_readStranger n C a) (fnX13_readStranger n R 189) (fun R' => some (1, R')) := by
  obtain ⟨hK, ha, hD⟩ := id h
  obtain ⟨hB, hB2, hTC, hTR, hC, hR, hT, hL⟩ := id hK
  have ck := ha.ck
  have r0 := ha.2.2.2.1
  have c65 := rc_65 hB
  have hv : vb 87 := Or.inr (Or.inl rfl)
  obtain ⟨C2, R2, T2, e3, e4, fa2, fr2, h2, nxh2⟩ := vt_next (n := n) hn h
  obtain ⟨C3, R3, fa3, fr3, h3⟩ := vt_who (n := n) hn h2
  have ck2 := h2.2.1.ck
  have hB22 := h2.1.2.1
  have pre : ∀ X, (rv_bp (fnX10_seesWho n C2 a) fun x12_ S13_ => if x12_ = 0 then some ((0 : Int32), S13_) else (rv_gR S13_ 9 a 1).bind fun a17_ => (rv_gR S13_ 8 a17_ 0).bind fun a19_ => (rv_gI S13_ 9 a 4).bind fun x21_ => (rv_ck S13_ 0 a19_).bind fun u23_ => (fnX1_isStranger n S13_ a19_ x21_).bind fun x26_ => if x26_ = 0 then ((rv_gR S13_ 9 a 1).bind fun a29_ => (rv_gR S13_ 8 a29_ 0).bind fun a31_ => (rv_gI S13_ 0 a31_ 2).bind fun x33_ => (rv_gI S13_ 9 a 4).bind fun x35_ => (rv_pI S13_ 0 a31_ 2 (x33_ ||| ((1 : Int32) <<< (x35_ &&& 31)))).bind fun S37_ => (rv_gR S37_ 9 a 0).bind fun a39_ => (rv_ck S37_ 7 a39_).bind fun u41_ => (fnX8_next n S37_ a39_).bind fun S44_ => some ((1 : Int32), S44_)) else ((rv_gR S13_ 9 a 0).bind fun a47_ => (rv_ck S13_ 7 a47_).bind fun u49_ => rv_bp (fnX8_fail n S13_ a47_ (3 : Int32)) fun x52_ S53_ => (rv_bo x52_).bind fun b_ => some (b_, S53_))) = X → fnX10_readStranger n C a = X := fun X hX => by
    rw [fnX10_readStranger]
    repeat (first | (conv => (lhs; arg 1; simp (disch := first | assumption | omega) only [tk_gI, tk_gL, tk_gR, tk_pI, tk_pL, rv_aI, rv_aL, rv_aR, rv_uI, rv_uL, rv_uB, rv_uZ, pu_ckI, pu_ckL, pu_lnI, pu_lnL, tk_rI, tk_rL, Option.bind_some, Option.map_some, rv_lt, tk_ix, ck, r0, c65])); first | rw [Option.bind_some] | rw [bp_s] | rw [if_true] | rw [if_false] | rw [rv_lt_eq] | rw [if_pos (by omega)] | rw [if_neg (by omega)])
    rw [e3, Option.bind_some, ck2, Option.bind_some]
    exact hX
  have ref : ∀ X, (rv_bp (fnX13_isToldWho n R2 189) fun x10_ S11_ => if x10_ = 0 then some ((0 : Int32), S11_) else (rv_gR S11_ 11 189 15).bind fun a15_ => (rv_gI S11_ 11 189 13).bind fun x17_ => (rv_aI S11_ 0 a15_ (((8 : Int32) + ((5 : Int32) * x17_)) + (3 : Int32))).bind fun x19_ => if x19_ ≤ 0 then ((rv_gR S11_ 11 189 15).bind fun a22_ => (rv_gI S11_ 11 189 13).bind fun x24_ => (rv_uI S11_ a22_ (((8 : Int32) + ((5 : Int32) * x24_)) + (3 : Int32)) (1 : Int32)).bind fun S26_ => (rv_ck S26_ 11 189).bind fun u28_ => (fnX13_go n S26_ 189).bind fun S31_ => some ((1 : Int32), S31_)) else ((rv_ck S11_ 11 189).bind fun u34_ => rv_bp (fnX13_bad n S11_ 189 (3 : Int32)) fun x37_ S38_ => (rv_bo x37_).bind fun b_ => some (b_, S38_))) = X → fnX13_readStranger n R 189 = X := fun X hX => by
    rw [fnX13_readStranger, rc_189 hB2, Option.bind_some, e4, Option.bind_some, rc_189 hB22, Option.bind_some]
    exact hX
  rcases h3 with ⟨e5, e6, g⟩ | ⟨w, w2, kd2, e5, e6, g4, g13, h4⟩
  · refine ⟨C3, R3, fa2.v.tr fa3.v, (fr2.mono rfl).tr (fr3.mono rfl), Or.inl ⟨pre _ ?_, ref _ ?_, g⟩⟩
    · rw [e5, bp_s, if_pos rfl]
    · rw [e6, bp_s, if_pos rfl]
  · obtain ⟨hp, hc, hd⟩ := id h4.2.2.2.2.2.2.1
    have h24 := hp.1
    have h16 := h4.2.2.2.2.2.2.2.1
    have hB3 := h4.1.1
    have hB4 := h4.1.2.1
    have hVS3 := VS_of hB3 hv
    have hFS3 := FS_of hB3 hv.f
    have hF := h4.2.2.1.1
    have ks : fnX1_isStranger n C3 88 (nI w) = _ := k_isStranger (n := n) hFS3 hF hp w2
    have c88 : rv_ck C3 0 88 = some () := rc_88 hB3
    have s2 : C3.2.1 88 2 = nI (bs (fun w => decide (0 < sg m w)) (vW m)) := hF.2.2.1
    have ms := h4.2.2.2.2.1 (11 + 5 * w) (by omega)
    have z35 : nI 8 + nI 5 * nI w + nI 3 = nI (11 + 5 * w) := by
      rw [z_mul, nI_add, nI_add]
      exact congrArg nI (by omega)
    have r15 := rf_of hB4 (show (189, 15, 192) ∈ rv_rf0 by decide)
    have ck3 := h4.2.1.ck
    have q0 := h4.2.1.2.2.2.1
    have q1 := h4.2.1.2.2.2.2
    have s01 := (hp.2.2.1 w w2).2.2
    have ea : m (11 + 5 * w) = sg m w := rfl
    by_cases c : 0 < sg m w
    · refine vt_bad (n := n) h4 (f := 3) (by decide) (Or.inr ?_) (fa2.v.tr fa3.v) ((fr2.mono rfl).tr (fr3.mono rfl)) (fun C' e => pre _ ?_) (fun R' e => ref _ ?_)
      · exact ⟨by omega, by omega⟩
      · rw [e5, bp_s, if_neg (by decide)]
        rw [decide_eq_true c] at ks
        repeat (first | (conv => (lhs; arg 1; simp (disch := first | assumption | omega) only [tk_gI, tk_gL, tk_gR, tk_pI, tk_pL, rv_aI, rv_aL, rv_aR, rv_uI, rv_uL, rv_uB, rv_uZ, pu_ckI, pu_ckL, pu_lnI, pu_lnL, tk_rI, tk_rL, Option.bind_some, Option.map_some, rv_lt, tk_ix, ck3, q1, hVS3, g4, c88, ks])); first | rw [Option.bind_some] | rw [bp_s] | rw [if_true] | rw [if_false] | rw [rv_lt_eq] | rw [if_pos (by omega)] | rw [if_neg (by omega)])
        rw [if_neg (show ¬ bI true = 0 by decide)]
        repeat (first | (conv => (lhs; arg 1; simp (disch := first | assumption | omega) only [tk_gI, tk_gL, tk_gR, tk_pI, tk_pL, rv_aI, rv_aL, rv_aR, rv_uI, rv_uL, rv_uB, rv_uZ, pu_ckI, pu_ckL, pu_lnI, pu_lnL, tk_rI, tk_rL, Option.bind_some, Option.map_some, rv_lt, tk_ix, ck3, q0, rc_65 hB3])); first | rw [Option.bind_some] | rw [bp_s] | rw [if_true] | rw [if_false] | rw [rv_lt_eq] | rw [if_pos (by omega)] | rw [if_neg (by omega)])
        rw [z3, e, bp_s]
        rfl
      · rw [e6, bp_s, if_neg (by decide)]
        repeat (first | (conv => (lhs; arg 1; simp (disch := first | assumption | omega) only [tk_gI, tk_gL, tk_gR, tk_pI, tk_pL, rv_aI, rv_aL, rv_aR, rv_uI, rv_uL, rv_uB, rv_uZ, pu_ckI, pu_ckL, pu_lnI, pu_lnL, tk_rI, tk_rL, Option.bind_some, Option.map_some, rv_lt, tk_ix, z8, z5, z3, z35, rc_189 hB4, r15, rn_192 hB4, g13, ms])); first | rw [Option.bind_some] | rw [bp_s] | rw [if_true] | rw [if_false] | rw [rv_lt_eq] | rw [if_pos (by omega)] | rw [if_neg (by omega)])
        rw [if_neg (show ¬ nI (m (11 + 5 * w)) ≤ 0 by rw [z0, n_le (by omega) (by omega)]; omega), rc_189 hB4, Option.bind_some, z3, e, bp_s]
        rfl
    · have d4 := h4.2.2.str w2
      obtain ⟨C4, eC4⟩ : ∃ C4, C4 = rv_sI C3 88 2 (nI (bs (fun w => decide (0 < sg m w)) (vW m) ||| 2 ^ w)) := ⟨_, rfl⟩
      obtain ⟨R4, eR4⟩ : ∃ R4, R4 = rv_sI R3 192 (11 + 5 * w) (nI 1) := ⟨_, rfl⟩
      have fc4 : rvf [88] C3 C4 := by rw [eC4]; exact rvf.sIr _ _ _ rfl
      have fr4 : rvf [192] R3 R4 := by rw [eR4]; exact rvf.sIr _ _ _ rfl
      have h5 : VT C4 R4 a b L M T2 (u1 m (11 + 5 * w) 1) wd := by
        have i4 : isVT C4 a := by rw [eC4]; exact h4.2.1
        rw [← eC4, ← eR4] at d4
        exact ⟨(h4.1.fc fc4 rfl).fr fr4 rfl, i4, d4⟩
      obtain ⟨C5, R5, T5, e7, e8, fa5, fr5, h6, nxh6⟩ := vt_next (n := n) hn h5
      have ck4 := h5.2.1.ck
      have q04 := h5.2.1.2.2.2.1
      refine ⟨C5, R5, ((fa2.v.tr fa3.v).tr (rvfV fc4 rfl)).tr fa5.v, (((fr2.mono rfl).tr (fr3.mono rfl)).tr (fr4.mono rfl)).tr (fr5.mono rfl), Or.inr ⟨pre _ ?_, ref _ ?_, T5, _, _, f0, f1, f2, h6, ?_, ?_, _, nxh2.2.1, nxh6.2.2, nxh6.1⟩⟩
      · rw [e5, bp_s, if_neg (by decide)]
        rw [decide_eq_false c] at ks
        repeat (first | (conv => (lhs; arg 1; simp (disch := first | assumption | omega) only [tk_gI, tk_gL, tk_gR, tk_pI, tk_pL, rv_aI, rv_aL, rv_aR, rv_uI, rv_uL, rv_uB, rv_uZ, pu_ckI, pu_ckL, pu_lnI, pu_lnL, tk_rI, tk_rL, Option.bind_some, Option.map_some, rv_lt, tk_ix, ck3, q1, hVS3, g4, c88, ks])); first | rw [Option.bind_some] | rw [bp_s] | rw [if_true] | rw [if_false] | rw [rv_lt_eq] | rw [if_pos (by omega)] | rw [if_neg (by omega)])
        rw [if_pos (show bI false = 0 from rfl)]
        have s31 : (1 : Int32) <<< (nI w &&& 31) = nI (2 ^ w) := z_shl (by omega)
        repeat (first | (conv => (lhs; arg 1; simp (disch := first | assumption | omega) only [tk_gI, tk_gL, tk_gR, tk_pI, tk_pL, rv_aI, rv_aL, rv_aR, rv_uI, rv_uL, rv_uB, rv_uZ, pu_ckI, pu_ckL, pu_lnI, pu_lnL, tk_rI, tk_rL, Option.bind_some, Option.map_some, rv_lt, tk_ix, s31, fa_or, ck3, q1, hVS3, g4, c88, s2])); first | rw [Option.bind_some] | rw [bp_s] | rw [if_true] | rw [if_false] | rw [rv_lt_eq] | rw [if_pos (by omega)] | rw [if_neg (by omega)])
        rw [← eC4]
        repeat (first | (conv => (lhs; arg 1; simp (disch := first | assumption | omega) only [tk_gI, tk_gL, tk_gR, tk_pI, tk_pL, rv_aI, rv_aL, rv_aR, rv_uI, rv_uL, rv_uB, rv_uZ, pu_ckI, pu_ckL, pu_lnI, pu_lnL, tk_rI, tk_rL, Option.bind_some, Option.map_some, rv_lt, tk_ix, ck4, q04, rc_65 h5.1.1])); first | rw [Option.bind_some] | rw [bp_s] | rw [if_true] | rw [if_false] | rw [rv_lt_eq] | rw [if_pos (by omega)] | rw [if_neg (by omega)])
        rw [e7]
        rfl
      · rw [e6, bp_s, if_neg (by decide)]
        repeat (first | (conv => (lhs; arg 1; simp (disch := first | assumption | omega) only [tk_gI, tk_gL, tk_gR, tk_pI, tk_pL, rv_aI, rv_aL, rv_aR, rv_uI, rv_uL, rv_uB, rv_uZ, pu_ckI, pu_ckL, pu_lnI, pu_lnL, tk_rI, tk_rL, Option.bind_some, Option.map_some, rv_lt, tk_ix, z8, z5, z3, z35, rc_189 hB4, r15, rn_192 hB4, g13, ms])); first | rw [Option.bind_some] | rw [bp_s] | rw [if_true] | rw [if_false] | rw [rv_lt_eq] | rw [if_pos (by omega)] | rw [if_neg (by omega)])
        rw [if_pos (show nI (m (11 + 5 * w)) ≤ 0 by rw [z0, n_le (by omega) (by omega)]; omega)]
        repeat (first | (conv => (lhs; arg 1; simp (disch := first | assumption | omega) only [tk_gI, tk_gL, tk_gR, tk_pI, tk_pL, rv_aI, rv_aL, rv_aR, rv_uI, rv_uL, rv_uB, rv_uZ, pu_ckI, pu_ckL, pu_lnI, pu_lnL, tk_rI, tk_rL, Option.bind_some, Option.map_some, rv_lt, tk_ix, z8, z5, z3, z1, z35, rc_189 hB4, r15, rn_192 hB4, g13])); first | rw [Option.bind_some] | rw [bp_s] | rw [if_true] | rw [if_false] | rw [rv_lt_eq] | rw [if_pos (by omega)] | rw [if_neg (by omega)])
        rw [← eR4, e8]
        rfl
      · refine FLG.f ?_ fa5 fr5 rfl rfl rfl rfl
        rw [eC4, eR4]
        exact ((hf.f fa2 fr2 rfl rfl rfl rfl).f fa3 fr3 rfl rfl rfl rfl).wx (by have := h4.2.1.1; omega) (by decide)
      · rw [fa5.2.2 2 rfl, eC4, rv_sI_a _ _ _ (by have := h4.2.1.1; omega), fa3.2.2 2 rfl, fa2.2.2 2 rfl]
end
