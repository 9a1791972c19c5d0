/-! VALLEY TEXTS: lines of one kind: rim, fee, dead, stranger -/
section
variable {n : Nat} {C R : rvS} {b : Nat → Nat} {L M a : Nat} {T : Tk} {m : Nat → Nat} {wd : Nat → List Nat} {f0 f1 f2 : Bool}
abbrev DVc : List Nat := [65003, 65004, 65005, 65006, 65007, 65008, 65009, 65010, 87, 88, 89, 90, 91, 92, 93, 94, 95, 96, 97, 98, 104, 105, 106]
abbrev DRv : List Nat := [189005, 189006, 189007, 189008, 189009, 189010, 189011, 189012, 189013, 189023, 192, 196]
/-- what was told once -/
def FLG (C R : rvS) (a : Nat) (f0 f1 f2 : Bool) : Prop := C.2.1 a 5 = bI f0 ∧ C.2.1 a 6 = bI f1 ∧ C.2.1 a 7 = bI f2 ∧ R.2.1 189 23 = nI (b3 f0 f1 f2)
/-- after a good line -/
def GD (C C' R' : rvS) (a : Nat) (b : Nat → Nat) (L M p0 : Nat) : Prop := ∃ T m wd f0 f1 f2, VT C' R' a b L M T m wd ∧ FLG C' R' a f0 f1 f2 ∧ C'.2.1 a 2 = C.2.1 a 2 ∧ ∃ p, p0 ≤ p ∧ p ≤ L ∧ T = tq_nx b L M p
/-- both sides fail at the same place, or both go on -/
def RES (C R : rvS) (a : Nat) (b : Nat → Nat) (L M p0 : Nat) (x y : Option (Int32 × rvS)) (K : rvS → Option (Int32 × rvS)) : Prop := ∃ C' R', rvf (DVc ++ [a]) C C' ∧ rvf DRv R R' ∧ ((x = some (0, C') ∧ y = some (0, R') ∧ FL C' R') ∨ (x = some (1, C') ∧ y = K R' ∧ GD C C' R' a b L M p0))
theorem FrA.v {ks : List Nat} {C' : rvS} (h : FrA a ks C C') : rvf (DVc ++ [a]) C C' := h.1.mono (List.all_eq_true.mpr fun d hd => List.elem_iff.mpr (by
  rcases List.mem_append.mp hd with z | z
  · refine List.mem_append.mpr (Or.inl ?_)
    simp only [List.mem_cons, List.not_mem_nil, or_false] at z ⊢
    omega
  · exact List.mem_append.mpr (Or.inr z)))
theorem rvfV {D : List Nat} {C' : rvS} (f : rvf D C C') (h : D.all (fun d => DVc.elem d) = true) : rvf (DVc ++ [a]) C C' := mono_a f h
theorem FLG.f {ks D : List Nat} {C' R' : rvS} (h : FLG C R a f0 f1 f2) (fa : FrA a ks C C') (fr : rvf D R R') (h5 : ks.elem 5 = false) (h6 : ks.elem 6 = false) (h7 : ks.elem 7 = false) (hd : D.elem 189023 = false) : FLG C' R' a f0 f1 f2 := by
  obtain ⟨q1, q2, q3, q4⟩ := h
  exact ⟨by rw [fa.2.2 5 h5]; exact q1, by rw [fa.2.2 6 h6]; exact q2, by rw [fa.2.2 7 h7]; exact q3, by rw [fr.at (a := 189) (k := 23) hd]; exact q4⟩
theorem FLG.wx (h : FLG C R a f0 f1 f2) {x k y j : Nat} {v u : Int32} (hx : a ≠ x) (hy : 189 ≠ y) : FLG (rv_sI C x k v) (rv_sI R y j u) a f0 f1 f2 := by
  obtain ⟨q1, q2, q3, q4⟩ := h
  exact ⟨(rv_sI_a _ _ _ hx _).trans q1, (rv_sI_a _ _ _ hx _).trans q2, (rv_sI_a _ _ _ hx _).trans q3, (rv_sI_a _ _ _ hy _).trans q4⟩
theorem m_once (hB : rv_B R) (hF : R.2.1 189 23 = nI (b3 f0 f1 f2)) {k : Nat} (hk : k < 3) : fnX13_readOnce n R 189 (nI k) = if (b3 f0 f1 f2).testBit k = true then (rv_bp (fnX13_bad n R 189 (nI 3)) fun x20_ S21_ => (rv_bo x20_).bind fun b_ => some (b_, S21_)) else ((fnX13_go n (rv_sI R 189 23 (nI (b3 f0 f1 f2 ||| 2 ^ k))) 189).bind fun S14_ => some ((1 : Int32), S14_)) := by
  have h8 : b3 f0 f1 f2 < 8 := by cases f0 <;> cases f1 <;> cases f2 <;> decide
  rw [fnX13_readOnce]
  repeat (first | (conv => (lhs; arg 1; simp (disch := first | assumption | omega) only [tk_gI, tk_gL, tk_gR, tk_pI, tk_pL, rv_aI, rv_aL, rv_aR, rv_uI, rv_uL, rv_uB, rv_uZ, pu_ckI, pu_ckL, pu_lnI, pu_lnL, tk_rI, tk_rL, Option.bind_some, Option.map_some, rv_lt, tk_ix, rc_189 hB, hF])); first | rw [Option.bind_some] | rw [bp_s] | rw [if_true] | rw [if_false] | rw [rv_lt_eq] | rw [if_pos (by omega)] | rw [if_neg (by omega)])
  have e : fnX13_has n R (nI (b3 f0 f1 f2)) (nI k) = some (bI ((b3 f0 f1 f2).testBit k)) := by
    rw [fnX13_has, z1, z31]
    simp (disch := first | assumption | omega) only [n_bit1]
    cases (b3 f0 f1 f2).testBit k <;> rfl
  rw [e, Option.bind_some]
  by_cases c : (b3 f0 f1 f2).testBit k = true
  · rw [if_pos c, c, if_neg (show ¬ bI true = 0 by decide), rc_189 hB, Option.bind_some, z3]
  · rw [if_neg c]
    have cf : (b3 f0 f1 f2).testBit k = false := by
      cases h : (b3 f0 f1 f2).testBit k
      · rfl
      · exact absurd h c
    rw [cf, if_pos (show bI false = 0 from rfl)]
    repeat (first | (conv => (lhs; arg 1; simp (disch := first | assumption | omega) only [tk_gI, tk_gL, tk_gR, tk_pI, tk_pL, rv_aI, rv_aL, rv_aR, rv_uI, rv_uL, rv_uB, rv_uZ, pu_ckI, pu_ckL, pu_lnI, pu_lnL, tk_rI, tk_rL, Option.bind_some, Option.map_some, rv_lt, tk_ix, rc_189 hB, hF])); first | rw [Option.bind_some] | rw [bp_s] | rw [if_true] | rw [if_false] | rw [rv_lt_eq] | rw [if_pos (by omega)] | rw [if_neg (by omega)])
    rw [z1, z31, n_shl (by omega), fa_or]
theorem b3_t0 : (b3 f0 f1 f2).testBit 0 = f0 := by cases f0 <;> cases f1 <;> cases f2 <;> rfl
theorem b3_t1 : (b3 f0 f1 f2).testBit 1 = f1 := by cases f0 <;> cases f1 <;> cases f2 <;> rfl
theorem b3_t2 : (b3 f0 f1 f2).testBit 2 = f2 := by cases f0 <;> cases f1 <;> cases f2 <;> rfl
theorem b3_s0 : b3 false f1 f2 ||| 2 ^ 0 = b3 true f1 f2 := by cases f1 <;> cases f2 <;> rfl
theorem b3_s1 : b3 f0 false f2 ||| 2 ^ 1 = b3 f0 true f2 := by cases f0 <;> cases f2 <;> rfl
theorem b3_s2 : b3 f0 f1 false ||| 2 ^ 2 = b3 f0 f1 true := by cases f0 <;> cases f1 <;> rfl
theorem vt_r23 (h : VT C R a b L M T m wd) (v : Int32) : VT C (rv_sI R 189 23 v) a b L M T m wd := ⟨h.1.fr (rvf.sI R 189 23 v) rfl, h.2.1, h.2.2.fr (rvf.sI R 189 23 v) rfl rfl⟩
/-- both fail at this token -/
theorem vt_bad (h : VT C R a b L M T m wd) {f : Nat} (hf : f ≤ 4) (h1 : f = 1 ∨ (T.2.2.1 ≠ 1 ∧ T.2.2.1 ≠ 46)) {C0 R0 : rvS} (g1 : rvf (DVc ++ [a]) C0 C) (g2 : rvf DRv R0 R) {x y : Option (Int32 × rvS)} {K : rvS → Option (Int32 × rvS)} (hx : ∀ C', fnX8_fail n C 65 (nI f) = some (0, C') → x = some (0, C')) (hy : ∀ R', fnX13_bad n R 189 (nI f) = some (0, R') → y = some (0, R')) {p0 : Nat} : RES C0 R0 a b L M p0 x y K := by
  obtain ⟨C', R', e1, e2, fa, fr, g⟩ := vt_fail (n := n) h hf h1
  exact ⟨C', R', g1.tr fa.v, g2.tr (fr.mono rfl), Or.inl ⟨hx _ e1, hy _ e2, g⟩⟩
/-- rim -/
theorem vt_rim (hn : 1000 ≤ n) (h : VT C R a b L M T m wd) (hf : FLG C R a f0 f1 f2) (hw : iw T 0 = true) : RES C R a b L M T.2.1 (fnX10_readRim n C a) (fnX13_readLine n R 189) (fun R' => cX13_readLine_215 n R' 189 1) := by
  obtain ⟨hK, ha, hD⟩ := id h
  obtain ⟨hB, hB2, hTC, hTR, hC, hR, hT, hL⟩ := id hK
  obtain ⟨k2, k3⟩ := iw_2 hw
  have ck := ha.ck
  have r0 := ha.2.2.2.1
  have r1 := ha.2.2.2.2
  have c65 := rc_65 hB
  have hv : vb 87 := Or.inr (Or.inl rfl)
  have hVS := VS_of hB hv
  have p0 : C.2.1 95 0 = nI (vC m) := hD.1.2.1.1
  have c95 : rv_ck C 5 95 = some () := rc_95 hB
  have w1 := hD.2.2.1 1 (by decide)
  have h40 := hD.2.2.2.2.1.2.1.1
  have r15 := rf_of hB2 (show (189, 15, 192) ∈ rv_rf0 by decide)
  have mw : fnX13_isWord n R 189 (0 : Int32) = some (bI (iw T 0)) := m_isWord (n := n) hB2 hR hT (k := 0) (by decide)
  rw [hw] at mw
  have h41 : m 1 ≤ 40 := h40
  have e20 : ∀ C', fnX8_fail n C 65 (nI 3) = some (0, C') → cX10_readRim_20 n C a = some (0, C') := fun C' e => by
    rw [cX10_readRim_20]
    repeat (first | (conv => (lhs; arg 1; simp (disch := first | assumption | omega) only [tk_gI, tk_gL, tk_gR, tk_pI, tk_pL, rv_aI, rv_aL, rv_aR, rv_uI, rv_uL, rv_uB, rv_uZ, pu_ckI, pu_ckL, pu_lnI, pu_lnL, tk_rI, tk_rL, Option.bind_some, Option.map_some, rv_lt, tk_ix, ck, r0, c65])); first | rw [Option.bind_some] | rw [bp_s] | rw [if_true] | rw [if_false] | rw [rv_lt_eq] | rw [if_pos (by omega)] | rw [if_neg (by omega)])
    rw [z3, e, bp_s]
    rfl
  have ref : ∀ X, (if vC m ≤ 0 then (rv_bp (fnX13_readOnce n R 189 (nI 0)) fun x122_ S123_ => if x122_ = 0 then cX13_readLine_44 n S123_ 189 else (rv_ck S123_ 11 189).bind fun u127_ => rv_bp (fnX13_readNumber n S123_ 189 (nI 0) (nI 3)) fun x130_ S131_ => if x130_ = 0 then cX13_readLine_44 n S131_ 189 else cX13_readLine_45 n S131_ 189 (1 : Int32)) else (rv_bp (fnX13_bad n R 189 (nI 3)) fun x138_ S139_ => (rv_bo x138_).bind fun b_ => some (b_, S139_))) = X → fnX13_readLine n R 189 = X := fun X hX => by
    rw [fnX13_readLine]
    repeat (first | (conv => (lhs; arg 1; simp (disch := first | assumption | omega) only [tk_gI, tk_gL, tk_gR, tk_pI, tk_pL, rv_aI, rv_aL, rv_aR, rv_uI, rv_uL, rv_uB, rv_uZ, pu_ckI, pu_ckL, pu_lnI, pu_lnL, tk_rI, tk_rL, Option.bind_some, Option.map_some, rv_lt, tk_ix, rc_189 hB2, mw])); first | rw [Option.bind_some] | rw [bp_s] | rw [if_true] | rw [if_false] | rw [rv_lt_eq] | rw [if_pos (by omega)] | rw [if_neg (by omega)])
    rw [if_neg (show ¬ bI true = 0 by decide)]
    repeat (first | (conv => (lhs; arg 1; simp (disch := first | assumption | omega) only [tk_gI, tk_gL, tk_gR, tk_pI, tk_pL, rv_aI, rv_aL, rv_aR, rv_uI, rv_uL, rv_uB, rv_uZ, pu_ckI, pu_ckL, pu_lnI, pu_lnL, tk_rI, tk_rL, Option.bind_some, Option.map_some, rv_lt, tk_ix, z1, rc_189 hB2, r15, rn_192 hB2, w1])); first | rw [Option.bind_some] | rw [bp_s] | rw [if_true] | rw [if_false] | rw [rv_lt_eq] | rw [if_pos (by omega)] | rw [if_neg (by omega)])
    by_cases c : vC m ≤ 0
    · rw [if_pos c] at hX
      rw [if_pos (show nI (m 1) ≤ 0 by rw [z0, n_le (by omega) (by omega)]; exact c), rc_189 hB2, Option.bind_some]
      exact hX
    · rw [if_neg c] at hX
      rw [if_neg (show ¬ nI (m 1) ≤ 0 by rw [z0, n_le (by omega) (by omega)]; exact c), rc_189 hB2, Option.bind_some]
      exact hX
  have e44 : ∀ S, cX13_readLine_44 n S 189 = some (0, S) := fun S => by
    rw [cX13_readLine_44, cX13_readLine_45, if_pos rfl, cX13_readLine_215, if_pos rfl]
  cases f0
  · by_cases c : vC m ≤ 0
    · have c0 : vC m = 0 := by omega
      obtain ⟨C1, eC1⟩ : ∃ C1, C1 = rv_sI C a 5 (1 : Int32) := ⟨_, rfl⟩
      obtain ⟨R1, eR1⟩ : ∃ R1, R1 = rv_sI R 189 23 (nI (b3 true f1 f2)) := ⟨_, rfl⟩
      have fw1 : FrA a [5] C C1 := by rw [eC1]; exact FrA.w ha 5 _
      have h1 : VT C1 R1 a b L M T m wd := by rw [eC1, eR1]; exact vt_r23 (vt_w3 h 5 _) _
      have fl1 : FLG C1 R1 a true f1 f2 := by
        rw [eC1, eR1]
        exact ⟨rv_sI_eq _ _ _ _, (rv_sI_k _ _ (by decide) _).trans hf.2.1, (rv_sI_k _ _ (by decide) _).trans hf.2.2.1, rv_sI_eq _ _ _ _⟩
      have fr1 : rvf DRv R R1 := by rw [eR1]; exact (rvf.sI R 189 23 _).mono rfl
      obtain ⟨C2, R2, T2, e3, e4, fa2, fr2, h2, nxh2⟩ := vt_next (n := n) hn h1
      obtain ⟨C3, R3, fa3, fr3, h3⟩ := vt_takes (n := n) hn h2 (lo := 0) (hi := 3) (by decide) (by decide)
      have mo := m_once (n := n) hB2 hf.2.2.2 (k := 0) (by decide)
      rw [b3_t0, if_neg (by decide), b3_s0, ← eR1, e4, Option.bind_some] at mo
      have ck2 := h2.2.1.ck
      have pre : ∀ X, (rv_bp (fnX10_takesNumber n C2 a (nI 0) (nI 3)) fun x24_ S25_ => if x24_ = 0 then some ((0 : Int32), S25_) else (rv_gR S25_ 9 a 1).bind fun a29_ => (rv_gR S25_ 8 a29_ 1).bind fun a31_ => (rv_gI S25_ 9 a 3).bind fun x33_ => (rv_pI S25_ 5 a31_ 1 x33_).bind fun S35_ => some ((1 : Int32), S35_)) = X → fnX10_readRim n C a = X := fun X hX => by
        have rr1 : C1.2.2.2 a 0 = some 65 := h1.2.1.2.2.2.1
        rw [fnX10_readRim]
        repeat (first | (conv => (lhs; arg 1; simp (disch := first | assumption | omega) only [tk_gI, tk_gL, tk_gR, tk_pI, tk_pL, rv_aI, rv_aL, rv_aR, rv_uI, rv_uL, rv_uB, rv_uZ, pu_ckI, pu_ckL, pu_lnI, pu_lnL, tk_rI, tk_rL, Option.bind_some, Option.map_some, rv_lt, tk_ix, ck, hf.1])); first | rw [Option.bind_some] | rw [bp_s] | rw [if_true] | rw [if_false] | rw [rv_lt_eq] | rw [if_pos (by omega)] | rw [if_neg (by omega)])
        rw [if_pos (show bI false = 0 from rfl)]
        repeat (first | (conv => (lhs; arg 1; simp (disch := first | assumption | omega) only [tk_gI, tk_gL, tk_gR, tk_pI, tk_pL, rv_aI, rv_aL, rv_aR, rv_uI, rv_uL, rv_uB, rv_uZ, pu_ckI, pu_ckL, pu_lnI, pu_lnL, tk_rI, tk_rL, Option.bind_some, Option.map_some, rv_lt, tk_ix, ck, r1, hVS, c95, p0])); first | rw [Option.bind_some] | rw [bp_s] | rw [if_true] | rw [if_false] | rw [rv_lt_eq] | rw [if_pos (by omega)] | rw [if_neg (by omega)])
        rw [if_pos (by rw [z0, n_le (by omega) (by omega)]; exact c)]
        repeat (first | (conv => (lhs; arg 1; simp (disch := first | assumption | omega) only [tk_gI, tk_gL, tk_gR, tk_pI, tk_pL, rv_aI, rv_aL, rv_aR, rv_uI, rv_uL, rv_uB, rv_uZ, pu_ckI, pu_ckL, pu_lnI, pu_lnL, tk_rI, tk_rL, Option.bind_some, Option.map_some, rv_lt, tk_ix, ck])); first | rw [Option.bind_some] | rw [bp_s] | rw [if_true] | rw [if_false] | rw [rv_lt_eq] | rw [if_pos (by omega)] | rw [if_neg (by omega)])
        rw [← eC1]
        repeat (first | (conv => (lhs; arg 1; simp (disch := first | assumption | omega) only [tk_gI, tk_gL, tk_gR, tk_pI, tk_pL, rv_aI, rv_aL, rv_aR, rv_uI, rv_uL, rv_uB, rv_uZ, pu_ckI, pu_ckL, pu_lnI, pu_lnL, tk_rI, tk_rL, Option.bind_some, Option.map_some, rv_lt, tk_ix, h1.2.1.ck, rr1, rc_65 h1.1.1])); first | rw [Option.bind_some] | rw [bp_s] | rw [if_true] | rw [if_false] | rw [rv_lt_eq] | rw [if_pos (by omega)] | rw [if_neg (by omega)])
        rw [e3, Option.bind_some, ck2, Option.bind_some, z0, z3]
        rw [z0] at hX
        exact hX
      rcases h3 with ⟨e5, e6, g⟩ | ⟨v, T3, v1, v2, e5, e6, g3, g13, h4, nxh4⟩
      · refine ⟨C3, R3, (fw1.v.tr fa2.v).tr fa3.v, (fr1.tr (fr2.mono rfl)).tr (fr3.mono rfl), Or.inl ⟨pre _ ?_, ref _ ?_, g⟩⟩
        · rw [e5, bp_s, if_pos rfl]
        · rw [if_pos c, mo, bp_s, if_neg (by decide), rc_189 h2.1.2.1, Option.bind_some, e6, bp_s, if_pos rfl, e44]
      · have d4 := h4.2.2.rim c0 v2
        have fc4 : rvf [95] C3 (rv_sI C3 95 1 (nI v)) := rvf.sIr _ _ _ rfl
        have fr4 : rvf [192] R3 (rv_sI R3 192 3 (nI v)) := rvf.sIr _ _ _ rfl
        refine ⟨rv_sI C3 95 1 (nI v), rv_sI R3 192 3 (nI v), ((fw1.v.tr fa2.v).tr fa3.v).tr (rvfV fc4 rfl), ((fr1.tr (fr2.mono rfl)).tr (fr3.mono rfl)).tr (fr4.mono rfl), Or.inr ⟨pre _ ?_, ref _ ?_, T3, _, _, true, f1, f2, ⟨(h4.1.fc fc4 rfl).fr fr4 rfl, h4.2.1, d4⟩, ?_, ?_, _, nxh2.2.1, nxh4.2.2, nxh4.1⟩⟩
        · rw [e5, bp_s, if_neg (by decide)]
          have hVS3 := VS_of h4.1.1 hv
          repeat (first | (conv => (lhs; arg 1; simp (disch := first | assumption | omega) only [tk_gI, tk_gL, tk_gR, tk_pI, tk_pL, rv_aI, rv_aL, rv_aR, rv_uI, rv_uL, rv_uB, rv_uZ, pu_ckI, pu_ckL, pu_lnI, pu_lnL, tk_rI, tk_rL, Option.bind_some, Option.map_some, rv_lt, tk_ix, h4.2.1.ck, h4.2.1.2.2.2.2, hVS3, g3, rc_95 h4.1.1])); first | rw [Option.bind_some] | rw [bp_s] | rw [if_true] | rw [if_false] | rw [rv_lt_eq] | rw [if_pos (by omega)] | rw [if_neg (by omega)])
        · rw [if_pos c, mo, bp_s, if_neg (by decide), rc_189 h2.1.2.1, Option.bind_some, e6, bp_s, if_neg (by decide), cX13_readLine_45, if_neg (by decide)]
          repeat (first | (conv => (lhs; arg 1; simp (disch := first | assumption | omega) only [tk_gI, tk_gL, tk_gR, tk_pI, tk_pL, rv_aI, rv_aL, rv_aR, rv_uI, rv_uL, rv_uB, rv_uZ, pu_ckI, pu_ckL, pu_lnI, pu_lnL, tk_rI, tk_rL, Option.bind_some, Option.map_some, rv_lt, tk_ix, z3, rc_189 h4.1.2.1, rf_of h4.1.2.1 (show (189, 15, 192) ∈ rv_rf0 by decide), rn_192 h4.1.2.1, g13])); first | rw [Option.bind_some] | rw [bp_s] | rw [if_true] | rw [if_false] | rw [rv_lt_eq] | rw [if_pos (by omega)] | rw [if_neg (by omega)])
        · have q := (fl1.f fa2 fr2 rfl rfl rfl rfl).f fa3 fr3 rfl rfl rfl rfl
          exact q.wx (by have := h4.2.1.1; omega) (by decide)
        · have e2 : C3.2.1 a 2 = C.2.1 a 2 := (fa3.2.2 2 rfl).trans ((fa2.2.2 2 rfl).trans (fw1.2.2 2 rfl))
          rw [rv_sI_a _ _ _ (by have := h4.2.1.1; omega)]
          exact e2
    · refine vt_bad (n := n) h (f := 3) (by decide) (Or.inr ⟨by omega, by omega⟩) (rvf.rf _ _) (rvf.rf _ _) (fun C' e => ?_) (fun R' e => ref _ ?_)
      · rw [fnX10_readRim]
        repeat (first | (conv => (lhs; arg 1; simp (disch := first | assumption | omega) only [tk_gI, tk_gL, tk_gR, tk_pI, tk_pL, rv_aI, rv_aL, rv_aR, rv_uI, rv_uL, rv_uB, rv_uZ, pu_ckI, pu_ckL, pu_lnI, pu_lnL, tk_rI, tk_rL, Option.bind_some, Option.map_some, rv_lt, tk_ix, ck, hf.1])); first | rw [Option.bind_some] | rw [bp_s] | rw [if_true] | rw [if_false] | rw [rv_lt_eq] | rw [if_pos (by omega)] | rw [if_neg (by omega)])
        rw [if_pos (show bI false = 0 from rfl)]
        repeat (first | (conv => (lhs; arg 1; simp (disch := first | assumption | omega) only [tk_gI, tk_gL, tk_gR, tk_pI, tk_pL, rv_aI, rv_aL, rv_aR, rv_uI, rv_uL, rv_uB, rv_uZ, pu_ckI, pu_ckL, pu_lnI, pu_lnL, tk_rI, tk_rL, Option.bind_some, Option.map_some, rv_lt, tk_ix, ck, r1, hVS, c95, p0])); first | rw [Option.bind_some] | rw [bp_s] | rw [if_true] | rw [if_false] | rw [rv_lt_eq] | rw [if_pos (by omega)] | rw [if_neg (by omega)])
        rw [if_neg (by rw [z0, n_le (by omega) (by omega)]; exact c)]
        exact e20 _ e
      · rw [if_neg c, e, bp_s]; rfl
  · refine vt_bad (n := n) h (f := 3) (by decide) (Or.inr ⟨by omega, by omega⟩) (rvf.rf _ _) (rvf.rf _ _) (fun C' e => ?_) (fun R' e => ref _ ?_)
    · rw [fnX10_readRim]
      repeat (first | (conv => (lhs; arg 1; simp (disch := first | assumption | omega) only [tk_gI, tk_gL, tk_gR, tk_pI, tk_pL, rv_aI, rv_aL, rv_aR, rv_uI, rv_uL, rv_uB, rv_uZ, pu_ckI, pu_ckL, pu_lnI, pu_lnL, tk_rI, tk_rL, Option.bind_some, Option.map_some, rv_lt, tk_ix, ck, hf.1])); first | rw [Option.bind_some] | rw [bp_s] | rw [if_true] | rw [if_false] | rw [rv_lt_eq] | rw [if_pos (by omega)] | rw [if_neg (by omega)])
      rw [if_neg (show ¬ bI true = 0 by decide)]
      exact e20 _ e
    · by_cases c : vC m ≤ 0
      · have mo := m_once (n := n) hB2 hf.2.2.2 (k := 0) (by decide)
        rw [b3_t0, if_pos rfl, e, bp_s] at mo
        have mo : fnX13_readOnce n R 189 (nI 0) = some (0, R') := mo
        rw [if_pos c, mo, bp_s, if_pos rfl, e44]
      · rw [if_neg c, e, bp_s]; rfl
end
