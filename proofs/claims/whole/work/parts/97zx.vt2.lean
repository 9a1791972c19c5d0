/-! VALLEY TEXTS: numbers taken, people seen -/
section
variable {n : Nat} {C R : rvS} {b : Nat → Nat} {L M a : Nat} {T : Tk} {m : Nat → Nat} {wd : Nat → List Nat}
theorem vt_takes (hn : 1000 ≤ n) (h : VT C R a b L M T m wd) {lo hi : Nat} (hlo : lo ≤ 999) (hhi : hi ≤ 999) : ∃ C' R', FrA a [3] C C' ∧ rvf DRt R R' ∧ ((fnX10_takesNumber n C a (nI lo) (nI hi) = some (0, C') ∧ fnX13_readNumber n R 189 (nI lo) (nI hi) = some (0, R') ∧ FL C' R') ∨ (∃ v T', lo ≤ v ∧ v ≤ hi ∧ fnX10_takesNumber n C a (nI lo) (nI hi) = some (1, C') ∧ fnX13_readNumber n R 189 (nI lo) (nI hi) = some (1, R') ∧ C'.2.1 a 3 = nI v ∧ R'.2.1 189 13 = nI v ∧ VT C' R' a b L M T' m wd ∧ NXT b L M T T')) := by
  obtain ⟨C1, R1, fa, fr, h1⟩ := vt_sees (n := n) hn h hlo hhi
  have ck := h.2.1.ck
  have hB2 := h.1.2.1
  rcases h1 with ⟨e1, e2, g⟩ | ⟨v, v1, v2, -, e1, e2, g3, g13, hV⟩
  · refine ⟨C1, R1, fa, fr, Or.inl ⟨?_, ?_, g⟩⟩
    · rw [fnX10_takesNumber, ck, Option.bind_some, e1, bp_s, if_pos rfl]
      rfl
    · rw [fnX13_readNumber, rc_189 hB2, Option.bind_some, e2, bp_s, if_pos rfl]
  · obtain ⟨C2, R2, T', e3, e4, fa2, fr2, hV2, nx⟩ := vt_next (n := n) hn hV
    have ck1 := hV.2.1.ck
    have r0 := hV.2.1.2.2.2.1
    have c65 := rc_65 hV.1.1
    refine ⟨C2, R2, fa.tr fa2, fr.tr (fr2.mono rfl), Or.inr ⟨v, T', v1, v2, ?_, ?_, ?_, ?_, hV2, nx⟩⟩
    · rw [fnX10_takesNumber, ck, Option.bind_some, e1, bp_s, if_neg (by decide)]
      repeat (first | (conv => (lhs; arg 1; simp (disch := first | assumption | omega) only [tk_gI, tk_gL, tk_gR, tk_pI, tk_pL, rv_aI, rv_aL, rv_aR, rv_uI, rv_uL, rv_uB, rv_uZ, pu_ckI, pu_ckL, pu_lnI, pu_lnL, tk_rI, tk_rL, Option.bind_some, Option.map_some, rv_lt, tk_ix, ck1, r0, c65])); first | rw [Option.bind_some] | rw [bp_s] | rw [if_true] | rw [if_false] | rw [rv_lt_eq] | rw [if_pos (by omega)] | rw [if_neg (by omega)])
      rw [e3, Option.bind_some]
      rfl
    · rw [fnX13_readNumber, rc_189 hB2, Option.bind_some, e2, bp_s, if_neg (by decide), rc_189 hV.1.2.1, Option.bind_some, e4, Option.bind_some]
    · rw [fa2.2.2 3 rfl]; exact g3
    · rw [fr2.at (a := 189) (k := 13) rfl]; exact g13
/-- people seen -/
theorem vt_who (hn : 1000 ≤ n) (h : VT C R a b L M T m wd) : ∃ C' R', FrA a [4] C C' ∧ rvf DRt R R' ∧ ((fnX10_seesWho n C a = some (0, C') ∧ fnX13_isToldWho n R 189 = some (0, R') ∧ FL C' R') ∨ (∃ w, w < vW m ∧ T.2.2.1 = 2 ∧ fnX10_seesWho n C a = some (1, C') ∧ fnX13_isToldWho n R 189 = some (1, R') ∧ C'.2.1 a 4 = nI w ∧ R'.2.1 189 13 = nI w ∧ VT C' R' a b L M T m wd)) := by
  obtain ⟨hK, ha, hD⟩ := id h
  obtain ⟨hB, hB2, hTC, hTR, hC, hR, hT, hL⟩ := id hK
  obtain ⟨d1, d2, d3, d4, hk, h16, h6, hz, hw⟩ := id hD
  have ck := ha.ck
  have r0 := ha.2.2.2.1
  have r1 := ha.2.2.2.2
  have c65 := rc_65 hB
  have r19 := rf_of hB2 (show (189, 19, 196) ∈ rv_rf0 by decide)
  have r15 := rf_of hB2 (show (189, 15, 192) ∈ rv_rf0 by decide)
  have kw := k_isWord (n := n) hB hC hT (w := 22) (by decide)
  have mw := m_isName (n := n) (by omega) hB2 hR hT
  by_cases c : iw T 22 = true
  · obtain ⟨c2, c3⟩ := iw_2 c
    have hl := hT.2.2.2.2.2 c2
    have e7 := (hC.2.2.2.2 c2).1
    have e12 := hR.2.2.2.2.2 c2
    rw [c] at kw mw
    have hv : vb 87 := Or.inr (Or.inl rfl)
    have hVS := VS_of hB hv
    have hF0 : C.2.1 88 0 = nI (vW m) := d1.1.1
    have kf := k_find (n := n) (C := C) (wd := wd) (by omega) hB hv.f (N := vW m) (N1 := vW m) (by omega) (Nat.le_refl _) hF0 (fun w hw2 => by rw [if_pos hw2]; exact d2 w hw2) hw hl
    have kf : fnX1_find n C 88 _ = _ := kf
    have w0 := d3 0 (by decide)
    have mf := m_find (n := n) (R := R) (wd := wd) (by omega) (row := 196) (N := vW m) (rn_196 hB2) (by omega) (by decide) (by omega) d4 hw hl
    have c88 : rv_ck C 0 88 = some () := rc_88 hB
    have gcl : ∀ X x, fdF wd T.2.2.2.2 (vW m) 0 = x → ((rv_gI (rv_sI C a 4 (fI x)) 9 a 4).bind fun x24_ => if x24_ = (-1 : Int32) then ((rv_gR (rv_sI C a 4 (fI x)) 9 a 0).bind fun a27_ => (rv_ck (rv_sI C a 4 (fI x)) 7 a27_).bind fun u29_ => rv_bp (fnX8_fail n (rv_sI C a 4 (fI x)) a27_ (3 : Int32)) fun x32_ S33_ => if x32_ = 0 then some ((0 : Int32), S33_) else some ((1 : Int32), S33_)) else some ((1 : Int32), rv_sI C a 4 (fI x))) = X → fnX10_seesWho n C a = X := fun X x hx hX => by
      rw [fnX10_seesWho]
      repeat (first | (conv => (lhs; arg 1; simp (disch := first | assumption | omega) only [tk_gI, tk_gL, tk_gR, tk_pI, tk_pL, rv_aI, rv_aL, rv_aR, rv_uI, rv_uL, rv_uB, rv_uZ, pu_ckI, pu_ckL, pu_lnI, pu_lnL, tk_rI, tk_rL, Option.bind_some, Option.map_some, rv_lt, tk_ix, ck, r0, c65, kw])); first | rw [Option.bind_some] | rw [bp_s] | rw [if_true] | rw [if_false] | rw [rv_lt_eq] | rw [if_pos (by omega)] | rw [if_neg (by omega)])
      rw [if_neg (by decide)]
      repeat (first | (conv => (lhs; arg 1; simp (disch := first | assumption | omega) only [tk_gI, tk_gL, tk_gR, tk_pI, tk_pL, rv_aI, rv_aL, rv_aR, rv_uI, rv_uL, rv_uB, rv_uZ, pu_ckI, pu_ckL, pu_lnI, pu_lnL, tk_rI, tk_rL, Option.bind_some, Option.map_some, rv_lt, tk_ix, ck, r0, r1, c65, hVS, e7])); first | rw [Option.bind_some] | rw [bp_s] | rw [if_true] | rw [if_false] | rw [rv_lt_eq] | rw [if_pos (by omega)] | rw [if_neg (by omega)])
      rw [c88, Option.bind_some, kf, Option.bind_some, hx, tk_pI, ck, Option.map_some, Option.bind_some]
      exact hX
    have gmr : ∀ X x, fdF wd T.2.2.2.2 (vW m) 0 = x → ((rv_gI (rv_sI R 189 13 (fI x)) 11 189 13).bind fun x20_ => if x20_ = (-1 : Int32) then ((rv_ck (rv_sI R 189 13 (fI x)) 11 189).bind fun u23_ => rv_bp (fnX13_bad n (rv_sI R 189 13 (fI x)) 189 (3 : Int32)) fun x26_ S27_ => if x26_ = 0 then some ((0 : Int32), S27_) else some ((1 : Int32), S27_)) else some ((1 : Int32), rv_sI R 189 13 (fI x))) = X → fnX13_isToldWho n R 189 = X := fun X x hx hX => by
      rw [fnX13_isToldWho, rc_189 hB2, Option.bind_some, mw, Option.bind_some, if_neg (by decide)]
      repeat (first | (conv => (lhs; arg 1; simp (disch := first | assumption | omega) only [tk_gI, tk_gL, tk_gR, tk_pI, tk_pL, rv_aI, rv_aL, rv_aR, rv_uI, rv_uL, rv_uB, rv_uZ, pu_ckI, pu_ckL, pu_lnI, pu_lnL, tk_rI, tk_rL, Option.bind_some, Option.map_some, rv_lt, tk_ix, z0, rc_189 hB2, r19, r15, rn_192 hB2, w0, e12])); first | rw [Option.bind_some] | rw [bp_s] | rw [if_true] | rw [if_false] | rw [rv_lt_eq] | rw [if_pos (by omega)] | rw [if_neg (by omega)])
      rw [mf, Option.bind_some, hx, tk_pI, rc_189 hB2, Option.map_some, Option.bind_some]
      exact hX
    have hv2 := vt_w3 h 4
    have fw := FrA.w ha 4
    cases hx : fdF wd T.2.2.2.2 (vW m) 0 with
    | none =>
      have hv3 := vt_r13 (hv2 (fI none)) (fI none)
      obtain ⟨C', R', e1, e2, fa, fr, g⟩ := vt_fail (n := n) hv3 (f := 3) (by decide) (Or.inr ⟨by omega, by omega⟩)
      have s4 : (rv_sI C a 4 (fI none)).2.1 a 4 = iM := rv_sI_eq _ _ _ _
      have s13 : (rv_sI R 189 13 (fI none)).2.1 189 13 = iM := rv_sI_eq _ _ _ _
      refine ⟨C', R', ((fw _).tr fa).mono rfl, ((rvf.sI R 189 13 _).mono rfl).tr fr, Or.inl ⟨gcl _ none hx ?_, gmr _ none hx ?_, g⟩⟩
      · repeat (first | (conv => (lhs; arg 1; simp (disch := first | assumption | omega) only [tk_gI, tk_gL, tk_gR, tk_pI, tk_pL, rv_aI, rv_aL, rv_aR, rv_uI, rv_uL, rv_uB, rv_uZ, pu_ckI, pu_ckL, pu_lnI, pu_lnL, tk_rI, tk_rL, Option.bind_some, Option.map_some, rv_lt, tk_ix, ck, s4])); first | rw [Option.bind_some] | rw [bp_s] | rw [if_true] | rw [if_false] | rw [rv_lt_eq] | rw [if_pos (by omega)] | rw [if_neg (by omega)])
        rw [if_pos (show iM = -1 from rfl)]
        repeat (first | (conv => (lhs; arg 1; simp (disch := first | assumption | omega) only [tk_gI, tk_gL, tk_gR, tk_pI, tk_pL, rv_aI, rv_aL, rv_aR, rv_uI, rv_uL, rv_uB, rv_uZ, pu_ckI, pu_ckL, pu_lnI, pu_lnL, tk_rI, tk_rL, Option.bind_some, Option.map_some, rv_lt, tk_ix, ck, r0, c65])); first | rw [Option.bind_some] | rw [bp_s] | rw [if_true] | rw [if_false] | rw [rv_lt_eq] | rw [if_pos (by omega)] | rw [if_neg (by omega)])
        rw [z3, e1, bp_s, if_pos rfl]
      · repeat (first | (conv => (lhs; arg 1; simp (disch := first | assumption | omega) only [tk_gI, tk_gL, tk_gR, tk_pI, tk_pL, rv_aI, rv_aL, rv_aR, rv_uI, rv_uL, rv_uB, rv_uZ, pu_ckI, pu_ckL, pu_lnI, pu_lnL, tk_rI, tk_rL, Option.bind_some, Option.map_some, rv_lt, tk_ix, rc_189 hB2, s13])); first | rw [Option.bind_some] | rw [bp_s] | rw [if_true] | rw [if_false] | rw [rv_lt_eq] | rw [if_pos (by omega)] | rw [if_neg (by omega)])
        rw [if_pos (show iM = -1 from rfl)]
        repeat (first | (conv => (lhs; arg 1; simp (disch := first | assumption | omega) only [tk_gI, tk_gL, tk_gR, tk_pI, tk_pL, rv_aI, rv_aL, rv_aR, rv_uI, rv_uL, rv_uB, rv_uZ, pu_ckI, pu_ckL, pu_lnI, pu_lnL, tk_rI, tk_rL, Option.bind_some, Option.map_some, rv_lt, tk_ix, rc_189 hB2])); first | rw [Option.bind_some] | rw [bp_s] | rw [if_true] | rw [if_false] | rw [rv_lt_eq] | rw [if_pos (by omega)] | rw [if_neg (by omega)])
        rw [z3, e2, bp_s, if_pos rfl]
    | some w =>
      obtain ⟨-, w2, -⟩ := fdF_lt _ _ _ hx
      have hv3 := vt_r13 (hv2 (nI w)) (nI w)
      have s4 : (rv_sI C a 4 (fI (some w))).2.1 a 4 = nI w := rv_sI_eq _ _ _ _
      have s13 : (rv_sI R 189 13 (fI (some w))).2.1 189 13 = nI w := rv_sI_eq _ _ _ _
      have nM : ¬ nI w = -1 := fun z => by
        have := z_eqM (a := w) (by omega)
        rw [← this]
        exact z
      refine ⟨rv_sI C a 4 (nI w), rv_sI R 189 13 (nI w), fw _, (rvf.sI R 189 13 _).mono rfl, Or.inr ⟨w, by omega, c2, gcl _ (some w) hx ?_, gmr _ (some w) hx ?_, rv_sI_eq _ _ _ _, rv_sI_eq _ _ _ _, hv3⟩⟩
      · repeat (first | (conv => (lhs; arg 1; simp (disch := first | assumption | omega) only [tk_gI, tk_gL, tk_gR, tk_pI, tk_pL, rv_aI, rv_aL, rv_aR, rv_uI, rv_uL, rv_uB, rv_uZ, pu_ckI, pu_ckL, pu_lnI, pu_lnL, tk_rI, tk_rL, Option.bind_some, Option.map_some, rv_lt, tk_ix, ck, s4])); first | rw [Option.bind_some] | rw [bp_s] | rw [if_true] | rw [if_false] | rw [rv_lt_eq] | rw [if_pos (by omega)] | rw [if_neg (by omega)])
        rfl
      · repeat (first | (conv => (lhs; arg 1; simp (disch := first | assumption | omega) only [tk_gI, tk_gL, tk_gR, tk_pI, tk_pL, rv_aI, rv_aL, rv_aR, rv_uI, rv_uL, rv_uB, rv_uZ, pu_ckI, pu_ckL, pu_lnI, pu_lnL, tk_rI, tk_rL, Option.bind_some, Option.map_some, rv_lt, tk_ix, rc_189 hB2, s13])); first | rw [Option.bind_some] | rw [bp_s] | rw [if_true] | rw [if_false] | rw [rv_lt_eq] | rw [if_pos (by omega)] | rw [if_neg (by omega)])
        rfl
  · have cf : iw T 22 = false := by
      cases e : iw T 22
      · rfl
      · exact absurd e c
    rw [cf] at kw mw
    obtain ⟨C', R', e1, e2, fa, fr, g⟩ := vt_fail (n := n) h (f := 1) (by decide) (Or.inl rfl)
    refine ⟨C', R', fa.mono rfl, fr, Or.inl ⟨?_, ?_, g⟩⟩
    · rw [fnX10_seesWho]
      repeat (first | (conv => (lhs; arg 1; simp (disch := first | assumption | omega) only [tk_gI, tk_gL, tk_gR, tk_pI, tk_pL, rv_aI, rv_aL, rv_aR, rv_uI, rv_uL, rv_uB, rv_uZ, pu_ckI, pu_ckL, pu_lnI, pu_lnL, tk_rI, tk_rL, Option.bind_some, Option.map_some, rv_lt, tk_ix, ck, r0, c65, kw])); first | rw [Option.bind_some] | rw [bp_s] | rw [if_true] | rw [if_false] | rw [rv_lt_eq] | rw [if_pos (by omega)] | rw [if_neg (by omega)])
      rw [if_pos (show bI false = 0 from rfl)]
      repeat (first | (conv => (lhs; arg 1; simp (disch := first | assumption | omega) only [tk_gI, tk_gL, tk_gR, tk_pI, tk_pL, rv_aI, rv_aL, rv_aR, rv_uI, rv_uL, rv_uB, rv_uZ, pu_ckI, pu_ckL, pu_lnI, pu_lnL, tk_rI, tk_rL, Option.bind_some, Option.map_some, rv_lt, tk_ix, ck, r0, c65])); first | rw [Option.bind_some] | rw [bp_s] | rw [if_true] | rw [if_false] | rw [rv_lt_eq] | rw [if_pos (by omega)] | rw [if_neg (by omega)])
      rw [z1, e1, bp_s]
      rfl
    · rw [fnX13_isToldWho, rc_189 hB2, Option.bind_some, mw, Option.bind_some, if_pos (show bI false = 0 from rfl)]
      repeat (first | (conv => (lhs; arg 1; simp (disch := first | assumption | omega) only [tk_gI, tk_gL, tk_gR, tk_pI, tk_pL, rv_aI, rv_aL, rv_aR, rv_uI, rv_uL, rv_uB, rv_uZ, pu_ckI, pu_ckL, pu_lnI, pu_lnL, tk_rI, tk_rL, Option.bind_some, Option.map_some, rv_lt, tk_ix, rc_189 hB2])); first | rw [Option.bind_some] | rw [bp_s] | rw [if_true] | rw [if_false] | rw [rv_lt_eq] | rw [if_pos (by omega)] | rw [if_neg (by omega)])
      rw [z1, e2, bp_s]
      rfl
end
