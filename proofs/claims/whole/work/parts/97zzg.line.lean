/-! VALLEY TEXTS: any line; all lines -/
section
variable {n : Nat} {S C R : rvS} {b : Nat → Nat} {L M a : Nat} {T : Tk} {m mc : Nat → Nat} {wd : Nat → List Nat} {f0 f1 f2 : Bool}
theorem RES.map {p0 : Nat} {x y x2 y2 : Option (Int32 × rvS)} {K K2 : rvS → Option (Int32 × rvS)} (h : RES C R a b L M p0 x y K) (hx : ∀ v C', (v = 0 ∨ v = 1) → x = some (v, C') → x2 = some (v, C')) (hy0 : ∀ R', y = some (0, R') → y2 = some (0, R')) (hy1 : ∀ R', y = K R' → y2 = K2 R') : RES C R a b L M p0 x2 y2 K2 := by
  obtain ⟨C', R', f, g, h'⟩ := h
  refine ⟨C', R', f, g, ?_⟩
  rcases h' with ⟨h1, h2, h3⟩ | ⟨h1, h2, h3⟩
  · exact Or.inl ⟨hx 0 C' (Or.inl rfl) h1, hy0 R' h2, h3⟩
  · exact Or.inr ⟨hx 1 C' (Or.inr rfl) h1, hy1 R' h2, h3⟩
theorem bo_01 {v : Int32} (h : v = 0 ∨ v = 1) : rv_bo v = some v := if_pos h
theorem sw_hi : ∀ w, w < 23 → 8 ≤ w → rv_sw w ≠ 1 ∧ rv_sw w ≠ 2 ∧ rv_sw w ≠ 3 ∧ rv_sw w ≠ 4 ∧ rv_sw w ≠ 5 ∧ rv_sw w ≠ 6 ∧ rv_sw w ≠ 7 ∧ rv_sw w ≠ 8 := by decide +kernel
theorem vt_line (hn : 1000 ≤ n) (h : VT C R a b L M T m wd) (hf : FLG C R a f0 f1 f2) : RES C R a b L M T.2.1 (fnX10_readLine n C a) (fnX13_readLine n R 189) (fun R' => cX13_readLine_215 n R' 189 1) := by
  obtain ⟨hK, ha, hD⟩ := id h
  obtain ⟨hB, hB2, hTC, hTR, hC, hR, hT, hL⟩ := id hK
  have ck := ha.ck
  have r0 := ha.2.2.2.1
  have c65 := rc_65 hB
  have c189 := rc_189 hB2
  have h64 := hT.2.2.1
  have mw0 : fnX13_isWord n R 189 (0 : Int32) = some (bI (iw T 0)) := m_isWord (n := n) hB2 hR hT (k := 0) (by decide)
  have mw1 : fnX13_isWord n R 189 (1 : Int32) = some (bI (iw T 1)) := m_isWord (n := n) hB2 hR hT (k := 1) (by decide)
  have mw2 : fnX13_isWord n R 189 (2 : Int32) = some (bI (iw T 2)) := m_isWord (n := n) hB2 hR hT (k := 2) (by decide)
  have mw3 : fnX13_isWord n R 189 (3 : Int32) = some (bI (iw T 3)) := m_isWord (n := n) hB2 hR hT (k := 3) (by decide)
  have mw4 : fnX13_isWord n R 189 (4 : Int32) = some (bI (iw T 4)) := m_isWord (n := n) hB2 hR hT (k := 4) (by decide)
  have mw5 : fnX13_isWord n R 189 (5 : Int32) = some (bI (iw T 5)) := m_isWord (n := n) hB2 hR hT (k := 5) (by decide)
  have mw6 : fnX13_isWord n R 189 (6 : Int32) = some (bI (iw T 6)) := m_isWord (n := n) hB2 hR hT (k := 6) (by decide)
  have mw7 : fnX13_isWord n R 189 (7 : Int32) = some (bI (iw T 7)) := m_isWord (n := n) hB2 hR hT (k := 7) (by decide)
  have bT : ¬ bI true = 0 := by decide
  have bF : bI false = 0 := rfl
  have e215 : ∀ S, cX13_readLine_215 n S 189 0 = some (0, S) := fun S => by rw [cX13_readLine_215, if_pos rfl]
  by_cases kd : T.2.2.1 = 2
  · obtain ⟨w, ew⟩ : ∃ w, wo T.2.2.2.2 = w := ⟨_, rfl⟩
    have w23 : w < 23 := by rw [← ew]; exact wo_lt _
    have iwt : iw T w = true := by
      unfold iw
      rw [decide_eq_true kd, decide_eq_true ew]; rfl
    have iwf : ∀ j, j ≠ w → iw T j = false := fun j hj => iw_ne iwt hj
    have e8 : C.2.2.2 65 8 = some w := by rw [(hC.2.2.2.2 kd).2, ew]
    have pre : ∀ X, (if rv_sw w = 1 then ((rv_ck C 9 a).bind fun u18_ => rv_bp (fnX10_readRim n C a) fun x21_ S22_ => (rv_bo x21_).bind fun b_ => some (b_, S22_)) else if rv_sw w = 2 then ((rv_ck C 9 a).bind fun u26_ => rv_bp (fnX10_readWho n C a) fun x29_ S30_ => (rv_bo x29_).bind fun b_ => some (b_, S30_)) else if rv_sw w = 3 then ((rv_ck C 9 a).bind fun u34_ => rv_bp (fnX10_readRoad n C a) fun x37_ S38_ => (rv_bo x37_).bind fun b_ => some (b_, S38_)) else if rv_sw w = 4 then ((rv_ck C 9 a).bind fun u42_ => rv_bp (fnX10_readCoin n C a) fun x45_ S46_ => (rv_bo x45_).bind fun b_ => some (b_, S46_)) else if rv_sw w = 5 then ((rv_ck C 9 a).bind fun u50_ => rv_bp (fnX10_readDebt n C a) fun x53_ S54_ => (rv_bo x53_).bind fun b_ => some (b_, S54_)) else if rv_sw w = 6 then ((rv_ck C 9 a).bind fun u58_ => rv_bp (fnX10_readStranger n C a) fun x61_ S62_ => (rv_bo x61_).bind fun b_ => some (b_, S62_)) else if rv_sw w = 7 then ((rv_ck C 9 a).bind fun u66_ => rv_bp (fnX10_readFee n C a) fun x69_ S70_ => (rv_bo x69_).bind fun b_ => some (b_, S70_)) else if rv_sw w = 8 then ((rv_ck C 9 a).bind fun u74_ => rv_bp (fnX10_readLaw n C a) fun x77_ S78_ => (rv_bo x77_).bind fun b_ => some (b_, S78_)) else ((rv_gR C 9 a 0).bind fun a81_ => (rv_ck C 7 a81_).bind fun u83_ => rv_bp (fnX8_fail n C a81_ (1 : Int32)) fun x86_ S87_ => (rv_bo x86_).bind fun b_ => some (b_, S87_))) = X → fnX10_readLine n C a = X := fun X hX => by
      rw [fnX10_readLine]
      repeat (first | (conv => (lhs; arg 1; simp (disch := first | assumption | omega) only [tk_gI, tk_gL, tk_gR, tk_pI, tk_pL, rv_aI, rv_aL, rv_aR, rv_uI, rv_uL, rv_uB, rv_uZ, pu_ckI, pu_ckL, pu_lnI, pu_lnL, tk_rI, tk_rL, Option.bind_some, Option.map_some, rv_lt, tk_ix, ck, r0, c65, hC.2.2.1])); first | rw [Option.bind_some] | rw [bp_s] | rw [if_true] | rw [if_false] | rw [rv_lt_eq] | rw [if_pos (by omega)] | rw [if_neg (by omega)])
      rw [if_pos (show nI T.2.2.1 = 2 by rw [kd]; rfl)]
      repeat (first | (conv => (lhs; arg 1; simp (disch := first | assumption | omega) only [tk_gI, tk_gL, tk_gR, tk_pI, tk_pL, rv_aI, rv_aL, rv_aR, rv_uI, rv_uL, rv_uB, rv_uZ, pu_ckI, pu_ckL, pu_lnI, pu_lnL, tk_rI, tk_rL, Option.bind_some, Option.map_some, rv_lt, tk_ix, ck, r0, c65, e8, wd_23 w23, ix_23 w23])); first | rw [Option.bind_some] | rw [bp_s] | rw [if_true] | rw [if_false] | rw [rv_lt_eq] | rw [if_pos (by omega)] | rw [if_neg (by omega)])
      exact hX
    have cls : ∀ (F : Option (Int32 × rvS)) v C', (v = 0 ∨ v = 1) → F = some (v, C') → ((rv_ck C 9 a).bind fun u => rv_bp F fun x S => (rv_bo x).bind fun b_ => some (b_, S)) = some (v, C') := fun F v C' hv e => by
      rw [ck, Option.bind_some, e, bp_s, bo_01 hv]; rfl
    by_cases w8 : w < 8
    · have : w = 0 ∨ w = 1 ∨ w = 2 ∨ w = 3 ∨ w = 4 ∨ w = 5 ∨ w = 6 ∨ w = 7 := by omega
      rcases this with rfl | rfl | rfl | rfl | rfl | rfl | rfl | rfl
      · refine (vt_rim (n := n) hn h hf iwt).map (fun v C' hv e => pre _ ?_) (fun R' e => e) (fun R' e => e)
        rw [if_pos (show rv_sw 0 = 1 by rfl)]
        exact cls _ v C' hv e
      · rw [iwf 0 (by decide)] at mw0
        rw [iwf 6 (by decide)] at mw6
        rw [iwt] at mw1
        have ref : ∀ X, ((rv_ck R 11 189).bind fun u91_ => rv_bp (fnX13_readWho n R 189) fun x94_ S95_ => cX13_readLine_215 n S95_ 189 x94_) = X → fnX13_readLine n R 189 = X := fun X hX => by
          rw [fnX13_readLine, c189, Option.bind_some, mw0, Option.bind_some, if_pos bF, Option.bind_some, mw6, Option.bind_some, if_pos bF, Option.bind_some, mw1, Option.bind_some, if_neg bT]
          rw [c189] at hX
          exact hX
        refine (vt_whoL (n := n) hn h hf kd).map (fun v C' hv e => pre _ ?_) (fun R' e => ref _ ?_) (fun R' e => ref _ ?_)
        · rw [if_neg (show ¬ rv_sw 1 = 1 by decide), if_pos (show rv_sw 1 = 2 by rfl)]
          exact cls _ v C' hv e
        · rw [c189, Option.bind_some, e, bp_s, e215]
        · rw [c189, Option.bind_some, e, bp_s]
      · rw [iwf 0 (by decide)] at mw0
        rw [iwf 6 (by decide)] at mw6
        rw [iwf 1 (by decide)] at mw1
        rw [iwt] at mw2
        have ref : ∀ X, ((rv_ck R 11 189).bind fun u91_ => rv_bp (fnX13_readRoad n R 189) fun x94_ S95_ => cX13_readLine_215 n S95_ 189 x94_) = X → fnX13_readLine n R 189 = X := fun X hX => by
          rw [fnX13_readLine, c189, Option.bind_some, mw0, Option.bind_some, if_pos bF, Option.bind_some, mw6, Option.bind_some, if_pos bF, Option.bind_some, mw1, Option.bind_some, if_pos bF, Option.bind_some, mw2, Option.bind_some, if_neg bT]
          rw [c189] at hX
          exact hX
        refine (vt_road (n := n) hn h hf).map (fun v C' hv e => pre _ ?_) (fun R' e => ref _ ?_) (fun R' e => ref _ ?_)
        · rw [if_neg (show ¬ rv_sw 2 = 1 by decide), if_neg (show ¬ rv_sw 2 = 2 by decide), if_pos (show rv_sw 2 = 3 by rfl)]
          exact cls _ v C' hv e
        · rw [c189, Option.bind_some, e, bp_s, e215]
        · rw [c189, Option.bind_some, e, bp_s]
      · rw [iwf 0 (by decide)] at mw0
        rw [iwf 6 (by decide)] at mw6
        rw [iwf 1 (by decide)] at mw1
        rw [iwf 2 (by decide)] at mw2
        rw [iwt] at mw3
        have ref : ∀ X, ((rv_ck R 11 189).bind fun u91_ => rv_bp (fnX13_readCoin n R 189) fun x94_ S95_ => cX13_readLine_215 n S95_ 189 x94_) = X → fnX13_readLine n R 189 = X := fun X hX => by
          rw [fnX13_readLine, c189, Option.bind_some, mw0, Option.bind_some, if_pos bF, Option.bind_some, mw6, Option.bind_some, if_pos bF, Option.bind_some, mw1, Option.bind_some, if_pos bF, Option.bind_some, mw2, Option.bind_some, if_pos bF, Option.bind_some, mw3, Option.bind_some, if_neg bT]
          rw [c189] at hX
          exact hX
        refine (vt_coin (n := n) hn h hf kd).map (fun v C' hv e => pre _ ?_) (fun R' e => ref _ ?_) (fun R' e => ref _ ?_)
        · rw [if_neg (show ¬ rv_sw 3 = 1 by decide), if_neg (show ¬ rv_sw 3 = 2 by decide), if_neg (show ¬ rv_sw 3 = 3 by decide), if_pos (show rv_sw 3 = 4 by rfl)]
          exact cls _ v C' hv e
        · rw [c189, Option.bind_some, e, bp_s, e215]
        · rw [c189, Option.bind_some, e, bp_s]
      · rw [iwf 0 (by decide)] at mw0
        rw [iwf 6 (by decide)] at mw6
        rw [iwf 1 (by decide)] at mw1
        rw [iwf 2 (by decide)] at mw2
        rw [iwf 3 (by decide)] at mw3
        rw [iwt] at mw4
        have ref : ∀ X, ((rv_ck R 11 189).bind fun u91_ => rv_bp (fnX13_readOwes n R 189) fun x94_ S95_ => cX13_readLine_215 n S95_ 189 x94_) = X → fnX13_readLine n R 189 = X := fun X hX => by
          rw [fnX13_readLine, c189, Option.bind_some, mw0, Option.bind_some, if_pos bF, Option.bind_some, mw6, Option.bind_some, if_pos bF, Option.bind_some, mw1, Option.bind_some, if_pos bF, Option.bind_some, mw2, Option.bind_some, if_pos bF, Option.bind_some, mw3, Option.bind_some, if_pos bF, Option.bind_some, mw4, Option.bind_some, if_neg bT]
          rw [c189] at hX
          exact hX
        refine (vt_debt (n := n) hn h hf kd).map (fun v C' hv e => pre _ ?_) (fun R' e => ref _ ?_) (fun R' e => ref _ ?_)
        · rw [if_neg (show ¬ rv_sw 4 = 1 by decide), if_neg (show ¬ rv_sw 4 = 2 by decide), if_neg (show ¬ rv_sw 4 = 3 by decide), if_neg (show ¬ rv_sw 4 = 4 by decide), if_pos (show rv_sw 4 = 5 by rfl)]
          exact cls _ v C' hv e
        · rw [c189, Option.bind_some, e, bp_s, e215]
        · rw [c189, Option.bind_some, e, bp_s]
      · rw [iwf 0 (by decide)] at mw0
        rw [iwf 6 (by decide)] at mw6
        rw [iwf 1 (by decide)] at mw1
        rw [iwf 2 (by decide)] at mw2
        rw [iwf 3 (by decide)] at mw3
        rw [iwf 4 (by decide)] at mw4
        rw [iwt] at mw5
        have ref : ∀ X, ((rv_ck R 11 189).bind fun u91_ => rv_bp (fnX13_readStranger n R 189) fun x94_ S95_ => cX13_readLine_215 n S95_ 189 x94_) = X → fnX13_readLine n R 189 = X := fun X hX => by
          rw [fnX13_readLine, c189, Option.bind_some, mw0, Option.bind_some, if_pos bF, Option.bind_some, mw6, Option.bind_some, if_pos bF, Option.bind_some, mw1, Option.bind_some, if_pos bF, Option.bind_some, mw2, Option.bind_some, if_pos bF, Option.bind_some, mw3, Option.bind_some, if_pos bF, Option.bind_some, mw4, Option.bind_some, if_pos bF, Option.bind_some, mw5, Option.bind_some, if_neg bT]
          rw [c189] at hX
          exact hX
        refine (vt_str (n := n) hn h hf).map (fun v C' hv e => pre _ ?_) (fun R' e => ref _ ?_) (fun R' e => ref _ ?_)
        · rw [if_neg (show ¬ rv_sw 5 = 1 by decide), if_neg (show ¬ rv_sw 5 = 2 by decide), if_neg (show ¬ rv_sw 5 = 3 by decide), if_neg (show ¬ rv_sw 5 = 4 by decide), if_neg (show ¬ rv_sw 5 = 5 by decide), if_pos (show rv_sw 5 = 6 by rfl)]
          exact cls _ v C' hv e
        · rw [c189, Option.bind_some, e, bp_s, e215]
        · rw [c189, Option.bind_some, e, bp_s]
      · refine (vt_fee (n := n) hn h hf iwt).map (fun v C' hv e => pre _ ?_) (fun R' e => e) (fun R' e => e)
        rw [if_neg (show ¬ rv_sw 6 = 1 by decide), if_neg (show ¬ rv_sw 6 = 2 by decide), if_neg (show ¬ rv_sw 6 = 3 by decide), if_neg (show ¬ rv_sw 6 = 4 by decide), if_neg (show ¬ rv_sw 6 = 5 by decide), if_neg (show ¬ rv_sw 6 = 6 by decide), if_pos (show rv_sw 6 = 7 by rfl)]
        exact cls _ v C' hv e
      · rw [iwf 0 (by decide)] at mw0
        rw [iwf 6 (by decide)] at mw6
        rw [iwf 1 (by decide)] at mw1
        rw [iwf 2 (by decide)] at mw2
        rw [iwf 3 (by decide)] at mw3
        rw [iwf 4 (by decide)] at mw4
        rw [iwf 5 (by decide)] at mw5
        rw [iwt] at mw7
        have ref : ∀ X, ((rv_ck R 11 189).bind fun u91_ => rv_bp (fnX13_readDead n R 189) fun x94_ S95_ => cX13_readLine_214 n S95_ 189 x94_) = X → fnX13_readLine n R 189 = X := fun X hX => by
          rw [fnX13_readLine, c189, Option.bind_some, mw0, Option.bind_some, if_pos bF, Option.bind_some, mw6, Option.bind_some, if_pos bF, Option.bind_some, mw1, Option.bind_some, if_pos bF, Option.bind_some, mw2, Option.bind_some, if_pos bF, Option.bind_some, mw3, Option.bind_some, if_pos bF, Option.bind_some, mw4, Option.bind_some, if_pos bF, Option.bind_some, mw5, Option.bind_some, if_pos bF, Option.bind_some, mw7, Option.bind_some, if_neg bT]
          rw [c189] at hX
          exact hX
        refine (vt_dead (n := n) hn h hf iwt).map (fun v C' hv e => pre _ ?_) (fun R' e => ref _ ?_) (fun R' e => ref _ ?_)
        · rw [if_neg (show ¬ rv_sw 7 = 1 by decide), if_neg (show ¬ rv_sw 7 = 2 by decide), if_neg (show ¬ rv_sw 7 = 3 by decide), if_neg (show ¬ rv_sw 7 = 4 by decide), if_neg (show ¬ rv_sw 7 = 5 by decide), if_neg (show ¬ rv_sw 7 = 6 by decide), if_neg (show ¬ rv_sw 7 = 7 by decide), if_pos (show rv_sw 7 = 8 by rfl)]
          exact cls _ v C' hv e
        · rw [c189, Option.bind_some, e, bp_s, cX13_readLine_214, e215]
        · rw [c189, Option.bind_some, e, bp_s, cX13_readLine_214]
    · obtain ⟨s1, s2, s3, s4, s5, s6, s7, s8⟩ := sw_hi w w23 (by omega)
      rw [iwf 0 (by omega)] at mw0
      rw [iwf 6 (by omega)] at mw6
      rw [iwf 1 (by omega)] at mw1
      rw [iwf 2 (by omega)] at mw2
      rw [iwf 3 (by omega)] at mw3
      rw [iwf 4 (by omega)] at mw4
      rw [iwf 5 (by omega)] at mw5
      rw [iwf 7 (by omega)] at mw7
      refine vt_bad (n := n) h (f := 1) (by decide) (Or.inl rfl) (rvf.rf _ _) (rvf.rf _ _) (fun C' e => pre _ ?_) (fun R' e => ?_)
      · rw [if_neg s1, if_neg s2, if_neg s3, if_neg s4, if_neg s5, if_neg s6, if_neg s7, if_neg s8]
        repeat (first | (conv => (lhs; arg 1; simp (disch := first | assumption | omega) only [tk_gI, tk_gL, tk_gR, tk_pI, tk_pL, rv_aI, rv_aL, rv_aR, rv_uI, rv_uL, rv_uB, rv_uZ, pu_ckI, pu_ckL, pu_lnI, pu_lnL, tk_rI, tk_rL, Option.bind_some, Option.map_some, rv_lt, tk_ix, ck, r0, c65])); first | rw [Option.bind_some] | rw [bp_s] | rw [if_true] | rw [if_false] | rw [rv_lt_eq] | rw [if_pos (by omega)] | rw [if_neg (by omega)])
        rw [z1, e, bp_s]
        rfl
      · have e : fnX13_bad n R 189 (1 : Int32) = some (0, R') := e
        rw [fnX13_readLine, c189, Option.bind_some, mw0, Option.bind_some, if_pos bF, Option.bind_some, mw6, Option.bind_some, if_pos bF, Option.bind_some, mw1, Option.bind_some, if_pos bF, Option.bind_some, mw2, Option.bind_some, if_pos bF, Option.bind_some, mw3, Option.bind_some, if_pos bF, Option.bind_some, mw4, Option.bind_some, if_pos bF, Option.bind_some, mw5, Option.bind_some, if_pos bF, Option.bind_some, mw7, Option.bind_some, if_pos bF, Option.bind_some, e, bp_s, cX13_readLine_214, e215]
  · have iwf : ∀ j, iw T j = false := fun j => by
      unfold iw
      rw [decide_eq_false kd]; rfl
    rw [iwf] at mw0 mw1 mw2 mw3 mw4 mw5 mw6 mw7
    refine vt_bad (n := n) h (f := 1) (by decide) (Or.inl rfl) (rvf.rf _ _) (rvf.rf _ _) (fun C' e => ?_) (fun R' e => ?_)
    · rw [fnX10_readLine]
      repeat (first | (conv => (lhs; arg 1; simp (disch := first | assumption | omega) only [tk_gI, tk_gL, tk_gR, tk_pI, tk_pL, rv_aI, rv_aL, rv_aR, rv_uI, rv_uL, rv_uB, rv_uZ, pu_ckI, pu_ckL, pu_lnI, pu_lnL, tk_rI, tk_rL, Option.bind_some, Option.map_some, rv_lt, tk_ix, ck, r0, c65, hC.2.2.1])); first | rw [Option.bind_some] | rw [bp_s] | rw [if_true] | rw [if_false] | rw [rv_lt_eq] | rw [if_pos (by omega)] | rw [if_neg (by omega)])
      rw [if_neg (show ¬ nI T.2.2.1 = 2 by rw [z2, n_eq (by omega) (by omega)]; exact kd)]
      repeat (first | (conv => (lhs; arg 1; simp (disch := first | assumption | omega) only [tk_gI, tk_gL, tk_gR, tk_pI, tk_pL, rv_aI, rv_aL, rv_aR, rv_uI, rv_uL, rv_uB, rv_uZ, pu_ckI, pu_ckL, pu_lnI, pu_lnL, tk_rI, tk_rL, Option.bind_some, Option.map_some, rv_lt, tk_ix, ck, r0, c65])); first | rw [Option.bind_some] | rw [bp_s] | rw [if_true] | rw [if_false] | rw [rv_lt_eq] | rw [if_pos (by omega)] | rw [if_neg (by omega)])
      rw [z1, e, bp_s]
      rfl
    · have e : fnX13_bad n R 189 (1 : Int32) = some (0, R') := e
      rw [fnX13_readLine, c189, Option.bind_some, mw0, Option.bind_some, if_pos bF, Option.bind_some, mw6, Option.bind_some, if_pos bF, Option.bind_some, mw1, Option.bind_some, if_pos bF, Option.bind_some, mw2, Option.bind_some, if_pos bF, Option.bind_some, mw3, Option.bind_some, if_pos bF, Option.bind_some, mw4, Option.bind_some, if_pos bF, Option.bind_some, mw5, Option.bind_some, if_pos bF, Option.bind_some, mw7, Option.bind_some, if_pos bF, Option.bind_some, e, bp_s, cX13_readLine_214, e215]
/-- what all lines come to -/
def LNS (n q q' i : Nat) (C R : rvS) (a : Nat) (b : Nat → Nat) (L M : Nat) : Prop := ∃ C' R', rvf (DVc ++ [a]) C C' ∧ rvf DRv R R' ∧ ((cX10_read_9 n q C a (nI i) = some (0, C') ∧ cX13_valley_21 n q' R 189 (nI i) = some ((-1 : Int32) - R'.2.1 189 11, R') ∧ FL C' R') ∨ ∃ i' T' m' wd', cX10_read_9 n q C a (nI i) = some (1, C') ∧ cX13_valley_21 n q' R 189 (nI i) = cX13_valley_48 n R' 189 (nI i') ∧ i' ≤ 500 ∧ C'.2.1 a 2 = nI i' ∧ VT C' R' a b L M T' m' wd')
/-- no line begins here -/
theorem vt_stop (hn : 1000 ≤ n) {i q q' : Nat} (h : VT C R a b L M T m wd) (hl : C.2.1 a 2 = nI i) (h2i : 2 * i ≤ T.2.1) (kd : ¬ T.2.2.1 = 2) : LNS n (q + 1) (q' + 1) i C R a b L M := by
  have hTL := h.1.2.2.2.2.2.2.2.1
  have h9 := h.1.2.2.1.1
  have ck := h.2.1.ck
  have r0 := h.2.1.2.2.2.1
  have c65 := rc_65 h.1.1
  have hB2 := h.1.2.1
  have c189 := rc_189 hB2
  have hC := h.1.2.2.2.2.1
  have hR := h.1.2.2.2.2.2.1
  have hT := h.1.2.2.2.2.2.2.1
  have h64 := hT.2.2.1
  have hr := rkd_lt T.2.2.1
  by_cases k0 : T.2.2.1 = 0
  · refine ⟨C, R, rvf.rf _ _, rvf.rf _ _, Or.inr ⟨i, T, m, wd, ?_, ?_, by omega, hl, h⟩⟩
    · rw [cX10_read_9, if_neg (by rw [z900, n_le (by omega) (by omega)]; omega)]
      repeat (first | (conv => (lhs; arg 1; simp (disch := first | assumption | omega) only [tk_gI, tk_gL, tk_gR, tk_pI, tk_pL, rv_aI, rv_aL, rv_aR, rv_uI, rv_uL, rv_uB, rv_uZ, pu_ckI, pu_ckL, pu_lnI, pu_lnL, tk_rI, tk_rL, Option.bind_some, Option.map_some, rv_lt, tk_ix, ck, r0, c65, hC.2.2.1])); first | rw [Option.bind_some] | rw [bp_s] | rw [if_true] | rw [if_false] | rw [rv_lt_eq] | rw [if_pos (by omega)] | rw [if_neg (by omega)])
      rw [if_pos (show nI T.2.2.1 = 0 by rw [k0]; rfl)]
    · rw [cX13_valley_21]
      repeat (first | (conv => (lhs; arg 1; simp (disch := first | assumption | omega) only [tk_gI, tk_gL, tk_gR, tk_pI, tk_pL, rv_aI, rv_aL, rv_aR, rv_uI, rv_uL, rv_uB, rv_uZ, pu_ckI, pu_ckL, pu_lnI, pu_lnL, tk_rI, tk_rL, Option.bind_some, Option.map_some, rv_lt, tk_ix, rc_189 hB2, hR.2.2.1])); first | rw [Option.bind_some] | rw [bp_s] | rw [if_true] | rw [if_false] | rw [rv_lt_eq] | rw [if_pos (by omega)] | rw [if_neg (by omega)])
      rw [if_pos (show nI (rkd T.2.2.1) = 0 by rw [k0]; rfl)]
  · obtain ⟨C', R', e3, e4, fa2, fr2, g⟩ := vt_fail (n := n) h (f := 1) (by decide) (Or.inl rfl)
    have mw0 : fnX13_isWord n R 189 (0 : Int32) = some (bI (iw T 0)) := m_isWord (n := n) hB2 hR hT (k := 0) (by decide)
    have mw1 : fnX13_isWord n R 189 (1 : Int32) = some (bI (iw T 1)) := m_isWord (n := n) hB2 hR hT (k := 1) (by decide)
    have mw2 : fnX13_isWord n R 189 (2 : Int32) = some (bI (iw T 2)) := m_isWord (n := n) hB2 hR hT (k := 2) (by decide)
    have mw3 : fnX13_isWord n R 189 (3 : Int32) = some (bI (iw T 3)) := m_isWord (n := n) hB2 hR hT (k := 3) (by decide)
    have mw4 : fnX13_isWord n R 189 (4 : Int32) = some (bI (iw T 4)) := m_isWord (n := n) hB2 hR hT (k := 4) (by decide)
    have mw5 : fnX13_isWord n R 189 (5 : Int32) = some (bI (iw T 5)) := m_isWord (n := n) hB2 hR hT (k := 5) (by decide)
    have mw6 : fnX13_isWord n R 189 (6 : Int32) = some (bI (iw T 6)) := m_isWord (n := n) hB2 hR hT (k := 6) (by decide)
    have mw7 : fnX13_isWord n R 189 (7 : Int32) = some (bI (iw T 7)) := m_isWord (n := n) hB2 hR hT (k := 7) (by decide)
    have bF : bI false = 0 := rfl
    have iwf : ∀ j, iw T j = false := fun j => by
      unfold iw
      rw [decide_eq_false kd]; rfl
    rw [iwf] at mw0 mw1 mw2 mw3 mw4 mw5 mw6 mw7
    have e215 : ∀ S, cX13_readLine_215 n S 189 0 = some (0, S) := fun S => by rw [cX13_readLine_215, if_pos rfl]
    have e4' : fnX13_bad n R 189 (1 : Int32) = some (0, R') := e4
    have eR : fnX13_readLine n R 189 = some (0, R') := by
      rw [fnX13_readLine, c189, Option.bind_some, mw0, Option.bind_some, if_pos bF, Option.bind_some, mw6, Option.bind_some, if_pos bF, Option.bind_some, mw1, Option.bind_some, if_pos bF, Option.bind_some, mw2, Option.bind_some, if_pos bF, Option.bind_some, mw3, Option.bind_some, if_pos bF, Option.bind_some, mw4, Option.bind_some, if_pos bF, Option.bind_some, mw5, Option.bind_some, if_pos bF, Option.bind_some, mw7, Option.bind_some, if_pos bF, Option.bind_some, e4', bp_s, cX13_readLine_214, e215]
    have eC : fnX10_readLine n C a = some (0, C') := by
      rw [fnX10_readLine]
      repeat (first | (conv => (lhs; arg 1; simp (disch := first | assumption | omega) only [tk_gI, tk_gL, tk_gR, tk_pI, tk_pL, rv_aI, rv_aL, rv_aR, rv_uI, rv_uL, rv_uB, rv_uZ, pu_ckI, pu_ckL, pu_lnI, pu_lnL, tk_rI, tk_rL, Option.bind_some, Option.map_some, rv_lt, tk_ix, ck, r0, c65, hC.2.2.1])); first | rw [Option.bind_some] | rw [bp_s] | rw [if_true] | rw [if_false] | rw [rv_lt_eq] | rw [if_pos (by omega)] | rw [if_neg (by omega)])
      rw [if_neg (show ¬ nI T.2.2.1 = 2 by rw [z2, n_eq (by omega) (by omega)]; exact kd)]
      repeat (first | (conv => (lhs; arg 1; simp (disch := first | assumption | omega) only [tk_gI, tk_gL, tk_gR, tk_pI, tk_pL, rv_aI, rv_aL, rv_aR, rv_uI, rv_uL, rv_uB, rv_uZ, pu_ckI, pu_ckL, pu_lnI, pu_lnL, tk_rI, tk_rL, Option.bind_some, Option.map_some, rv_lt, tk_ix, ck, r0, c65])); first | rw [Option.bind_some] | rw [bp_s] | rw [if_true] | rw [if_false] | rw [rv_lt_eq] | rw [if_pos (by omega)] | rw [if_neg (by omega)])
      rw [z1, e3, bp_s]
      rfl
    refine ⟨C', R', fa2.v, fr2.mono rfl, Or.inl ⟨?_, ?_, g⟩⟩
    · rw [cX10_read_9, if_neg (by rw [z900, n_le (by omega) (by omega)]; omega)]
      repeat (first | (conv => (lhs; arg 1; simp (disch := first | assumption | omega) only [tk_gI, tk_gL, tk_gR, tk_pI, tk_pL, rv_aI, rv_aL, rv_aR, rv_uI, rv_uL, rv_uB, rv_uZ, pu_ckI, pu_ckL, pu_lnI, pu_lnL, tk_rI, tk_rL, Option.bind_some, Option.map_some, rv_lt, tk_ix, ck, r0, c65, hC.2.2.1])); first | rw [Option.bind_some] | rw [bp_s] | rw [if_true] | rw [if_false] | rw [rv_lt_eq] | rw [if_pos (by omega)] | rw [if_neg (by omega)])
      rw [if_neg (show ¬ nI T.2.2.1 = 0 by rw [z0, n_eq (by omega) (by omega)]; exact k0), ck, Option.bind_some, eC, bp_s, if_pos rfl]
    · rw [cX13_valley_21]
      repeat (first | (conv => (lhs; arg 1; simp (disch := first | assumption | omega) only [tk_gI, tk_gL, tk_gR, tk_pI, tk_pL, rv_aI, rv_aL, rv_aR, rv_uI, rv_uL, rv_uB, rv_uZ, pu_ckI, pu_ckL, pu_lnI, pu_lnL, tk_rI, tk_rL, Option.bind_some, Option.map_some, rv_lt, tk_ix, rc_189 hB2, hR.2.2.1])); first | rw [Option.bind_some] | rw [bp_s] | rw [if_true] | rw [if_false] | rw [rv_lt_eq] | rw [if_pos (by omega)] | rw [if_neg (by omega)])
      rw [if_neg (show ¬ nI (rkd T.2.2.1) = 0 by rw [z0, n_eq (by omega) (by omega), rkd_0e]; exact k0), rc_189 hB2, Option.bind_some, eR, bp_s, if_pos rfl, ri_189 (fr2.B hB2), Option.bind_some]
theorem vt_lines (hn : 1000 ≤ n) : ∀ r i q q' (C R : rvS) (T : Tk) (m : Nat → Nat) (wd : Nat → List Nat) (f0 f1 f2 : Bool), L ≤ 2 * i + r → r < q → r < q' → VT C R a b L M T m wd → FLG C R a f0 f1 f2 → C.2.1 a 2 = nI i → 2 * i ≤ T.2.1 → (T.2.2.1 = 2 → 2 * i + 1 ≤ T.2.1) → LNS n q q' i C R a b L M := by
  intro r
  induction r with
  | zero =>
    intro i q q' C R T m wd f0 f1 f2 hr hq hq' h hf hl h2i h2t
    obtain ⟨q, rfl⟩ : ∃ z, q = z + 1 := ⟨q - 1, by omega⟩
    obtain ⟨q', rfl⟩ : ∃ z, q' = z + 1 := ⟨q' - 1, by omega⟩
    have hTL := h.1.2.2.2.2.2.2.2.1
    exact vt_stop hn h hl h2i (fun z => by have := h2t z; omega)
  | succ r ih =>
    intro i q q' C R T m wd f0 f1 f2 hr hq hq' h hf hl h2i h2t
    obtain ⟨q, rfl⟩ : ∃ z, q = z + 1 := ⟨q - 1, by omega⟩
    obtain ⟨q', rfl⟩ : ∃ z, q' = z + 1 := ⟨q' - 1, by omega⟩
    by_cases kd : T.2.2.1 = 2
    · have hTL := h.1.2.2.2.2.2.2.2.1
      have h9 := h.1.2.2.1.1
      have h2j := h2t kd
      obtain ⟨C1, R1, fc, fr, h1⟩ := vt_line (n := n) hn h hf
      have ck := h.2.1.ck
      have r0 := h.2.1.2.2.2.1
      have c65 := rc_65 h.1.1
      have hB2 := h.1.2.1
      have hC := h.1.2.2.2.2.1
      have hR := h.1.2.2.2.2.2.1
      have pre : ∀ X, (rv_bp (fnX10_readLine n C a) fun x10_ S11_ => if x10_ = 0 then some ((0 : Int32), S11_) else (rv_gR S11_ 9 a 0).bind fun a15_ => (rv_gI S11_ 7 a15_ 4).bind fun x17_ => if x17_ = (59 : Int32) then ((rv_gR S11_ 9 a 0).bind fun a20_ => (rv_ck S11_ 7 a20_).bind fun u22_ => (fnX8_next n S11_ a20_).bind fun S25_ => (rv_gI S25_ 9 a 2).bind fun x28_ => (rv_pI S25_ 9 a 2 (x28_ + (1 : Int32))).bind fun S30_ => rv_lt (nI i + (1)) fun x32_ => cX10_read_9 n q S30_ a x32_) else cX10_read_47 n S11_ a) = X → cX10_read_9 n (q + 1) C a (nI i) = X := fun X hX => by
        rw [cX10_read_9, if_neg (by rw [z900, n_le (by omega) (by omega)]; omega)]
        repeat (first | (conv => (lhs; arg 1; simp (disch := first | assumption | omega) only [tk_gI, tk_gL, tk_gR, tk_pI, tk_pL, rv_aI, rv_aL, rv_aR, rv_uI, rv_uL, rv_uB, rv_uZ, pu_ckI, pu_ckL, pu_lnI, pu_lnL, tk_rI, tk_rL, Option.bind_some, Option.map_some, rv_lt, tk_ix, ck, r0, c65, hC.2.2.1])); first | rw [Option.bind_some] | rw [bp_s] | rw [if_true] | rw [if_false] | rw [rv_lt_eq] | rw [if_pos (by omega)] | rw [if_neg (by omega)])
        rw [if_neg (show ¬ nI T.2.2.1 = 0 by rw [kd]; decide), ck, Option.bind_some]
        exact hX
      have ref : ∀ X, (rv_bp (fnX13_readLine n R 189) fun x7_ S8_ => if x7_ = 0 then ((rv_gI S8_ 11 189 11).bind fun x14_ => some ((-1 : Int32) - x14_, S8_)) else rv_lt (nI i + (1)) fun x12_ => cX13_valley_21 n q' S8_ 189 x12_) = X → cX13_valley_21 n (q' + 1) R 189 (nI i) = X := fun X hX => by
        rw [cX13_valley_21]
        repeat (first | (conv => (lhs; arg 1; simp (disch := first | assumption | omega) only [tk_gI, tk_gL, tk_gR, tk_pI, tk_pL, rv_aI, rv_aL, rv_aR, rv_uI, rv_uL, rv_uB, rv_uZ, pu_ckI, pu_ckL, pu_lnI, pu_lnL, tk_rI, tk_rL, Option.bind_some, Option.map_some, rv_lt, tk_ix, rc_189 hB2, hR.2.2.1])); first | rw [Option.bind_some] | rw [bp_s] | rw [if_true] | rw [if_false] | rw [rv_lt_eq] | rw [if_pos (by omega)] | rw [if_neg (by omega)])
        rw [if_neg (show ¬ nI (rkd T.2.2.1) = 0 by rw [kd]; decide), rc_189 hB2, Option.bind_some]
        exact hX
      rcases h1 with ⟨e1, e2, g⟩ | ⟨e1, e2, T1, m1, wd1, g0, g1, g2, h3, hf1, hl1, p, p1, p2, p3⟩
      · refine ⟨C1, R1, fc, fr, Or.inl ⟨pre _ ?_, ref _ ?_, g⟩⟩
        · rw [e1, bp_s, if_pos rfl]
        · rw [e2, bp_s, if_pos rfl, ri_189 (fr.B hB2), Option.bind_some]
      · have ck1 := h3.2.1.ck
        have q01 := h3.2.1.2.2.2.1
        have c651 := rc_65 h3.1.1
        have hB12 := h3.1.2.1
        have k1C := h3.1.2.2.2.2.1
        have hT1 := h3.1.2.2.2.2.2.2.1
        have h64 := hT1.2.2.1
        have ms : fnX13_isSign n R1 189 (59 : Int32) = _ := m_isSign (n := n) hB12 h3.1.2.2.2.2.2.1 hT1 (c := 59) (by decide) (by decide) (by decide)
        have e215 : cX13_readLine_215 n R1 189 1 = rv_bp (fnX13_readEnd n R1 189) fun x5_ S6_ => if x5_ = 0 then some ((0 : Int32), S6_) else some ((1 : Int32), S6_) := by
          rw [cX13_readLine_215, if_neg (by decide), rc_189 hB12, Option.bind_some]
        have e2 : fnX13_readLine n R 189 = cX13_readLine_215 n R1 189 1 := e2; rw [e215] at e2
        by_cases k59 : T1.2.2.1 = 59
        · obtain ⟨C2, R2, T2, e3, e4, fa2, fr2, h4, nx4⟩ := vt_next (n := n) hn h3
          have hl2 : C2.2.1 a 2 = nI i := (fa2.2.2 2 rfl).trans (hl1.trans hl)
          obtain ⟨C3, eC3⟩ : ∃ C3, C3 = rv_sI C2 a 2 (nI (i + 1)) := ⟨_, rfl⟩
          have fw3 : FrA a [2] C2 C3 := by rw [eC3]; exact FrA.w h4.2.1 2 _
          have h5 : VT C3 R2 a b L M T2 m1 wd1 := by rw [eC3]; exact vt_w3 h4 2 _
          have f5 : FLG C3 R2 a g0 g1 g2 := (hf1.f fa2 fr2 rfl rfl rfl rfl).f fw3 (rvf.rf [] R2) rfl rfl rfl rfl
          have hl3 : C3.2.1 a 2 = nI (i + 1) := by rw [eC3]; exact rv_sI_eq _ _ _ _
          have t1 : p < T1.2.1 := by
            have := (tx_mono (b := b) (M := M) p2).2
            rw [← p3] at this
            exact this (by omega) (by omega)
          have t2 : T1.2.1 ≤ T2.2.1 := nx4.2.1
          have t3 : T2.2.2.1 = 2 → T1.2.1 < T2.2.1 := fun z => by
            have := (tx_mono (b := b) (M := M) nx4.2.2).2
            rw [← nx4.1] at this
            exact this (by omega) (by omega)
          obtain ⟨C', R', fc', fr', res⟩ := ih (i + 1) q q' C3 R2 T2 m1 wd1 g0 g1 g2 (by omega) (by omega) (by omega) h5 f5 hl3 (by omega) (fun z => by have := t3 z; omega)
          have eE : fnX13_readEnd n R1 189 = some (1, R2) := by
            rw [fnX13_readEnd, rc_189 hB12, Option.bind_some, ms, Option.bind_some, decide_eq_true k59, if_neg (show ¬ bI true = 0 by decide), Option.bind_some, e4, Option.bind_some]
          rw [eE, bp_s, if_neg (by decide)] at e2
          have cl : cX10_read_9 n (q + 1) C a (nI i) = cX10_read_9 n q C3 a (nI (i + 1)) := pre _ (by
            rw [e1, bp_s, if_neg (by decide)]
            repeat (first | (conv => (lhs; arg 1; simp (disch := first | assumption | omega) only [tk_gI, tk_gL, tk_gR, tk_pI, tk_pL, rv_aI, rv_aL, rv_aR, rv_uI, rv_uL, rv_uB, rv_uZ, pu_ckI, pu_ckL, pu_lnI, pu_lnL, tk_rI, tk_rL, Option.bind_some, Option.map_some, rv_lt, tk_ix, ck1, q01, c651, k1C.2.2.1])); first | rw [Option.bind_some] | rw [bp_s] | rw [if_true] | rw [if_false] | rw [rv_lt_eq] | rw [if_pos (by omega)] | rw [if_neg (by omega)])
            rw [if_pos (show nI T1.2.2.1 = 59 by rw [k59, z59])]
            repeat (first | (conv => (lhs; arg 1; simp (disch := first | assumption | omega) only [tk_gI, tk_gL, tk_gR, tk_pI, tk_pL, rv_aI, rv_aL, rv_aR, rv_uI, rv_uL, rv_uB, rv_uZ, pu_ckI, pu_ckL, pu_lnI, pu_lnL, tk_rI, tk_rL, Option.bind_some, Option.map_some, rv_lt, tk_ix, ck1, q01, c651, k1C.2.2.1])); first | rw [Option.bind_some] | rw [bp_s] | rw [if_true] | rw [if_false] | rw [rv_lt_eq] | rw [if_pos (by omega)] | rw [if_neg (by omega)])
            rw [e3, Option.bind_some]
            repeat (first | (conv => (lhs; arg 1; simp (disch := first | assumption | omega) only [tk_gI, tk_gL, tk_gR, tk_pI, tk_pL, rv_aI, rv_aL, rv_aR, rv_uI, rv_uL, rv_uB, rv_uZ, pu_ckI, pu_ckL, pu_lnI, pu_lnL, tk_rI, tk_rL, Option.bind_some, Option.map_some, rv_lt, tk_ix, h4.2.1.ck, hl2])); first | rw [Option.bind_some] | rw [bp_s] | rw [if_true] | rw [if_false] | rw [rv_lt_eq] | rw [if_pos (by omega)] | rw [if_neg (by omega)])
            rw [show nI i + (1 : Int32) = nI (i + 1) by rw [z1, nI_add], ← eC3])
          have rf : cX13_valley_21 n (q' + 1) R 189 (nI i) = cX13_valley_21 n q' R2 189 (nI (i + 1)) := ref _ (by
            rw [e2, bp_s, if_neg (by decide), rv_lt_eq, z1, nI_add])
          unfold LNS
          rw [cl, rf]
          exact ⟨C', R', ((fc.tr fa2.v).tr fw3.v).tr fc', (fr.tr (fr2.mono rfl)).tr fr', res⟩
        · obtain ⟨C', R', e3, e4, fa2, fr2, g⟩ := vt_fail (n := n) h3 (f := 1) (by decide) (Or.inl rfl)
          have eE : fnX13_readEnd n R1 189 = some (0, R') := by
            rw [fnX13_readEnd, rc_189 hB12, Option.bind_some, ms, Option.bind_some, decide_eq_false k59, if_pos (show bI false = 0 from rfl), Option.bind_some, z1, e4, bp_s]
            rfl
          rw [eE, bp_s, if_pos rfl] at e2
          refine ⟨C', R', fc.tr fa2.v, fr.tr (fr2.mono rfl), Or.inl ⟨pre _ ?_, ref _ ?_, g⟩⟩
          · rw [e1, bp_s, if_neg (by decide)]
            repeat (first | (conv => (lhs; arg 1; simp (disch := first | assumption | omega) only [tk_gI, tk_gL, tk_gR, tk_pI, tk_pL, rv_aI, rv_aL, rv_aR, rv_uI, rv_uL, rv_uB, rv_uZ, pu_ckI, pu_ckL, pu_lnI, pu_lnL, tk_rI, tk_rL, Option.bind_some, Option.map_some, rv_lt, tk_ix, ck1, q01, c651, k1C.2.2.1])); first | rw [Option.bind_some] | rw [bp_s] | rw [if_true] | rw [if_false] | rw [rv_lt_eq] | rw [if_pos (by omega)] | rw [if_neg (by omega)])
            rw [if_neg (show ¬ nI T1.2.2.1 = 59 by rw [z59, n_eq (by omega) (by omega)]; exact k59), cX10_read_47]
            repeat (first | (conv => (lhs; arg 1; simp (disch := first | assumption | omega) only [tk_gI, tk_gL, tk_gR, tk_pI, tk_pL, rv_aI, rv_aL, rv_aR, rv_uI, rv_uL, rv_uB, rv_uZ, pu_ckI, pu_ckL, pu_lnI, pu_lnL, tk_rI, tk_rL, Option.bind_some, Option.map_some, rv_lt, tk_ix, ck1, q01, c651])); first | rw [Option.bind_some] | rw [bp_s] | rw [if_true] | rw [if_false] | rw [rv_lt_eq] | rw [if_pos (by omega)] | rw [if_neg (by omega)])
            rw [z1, e3, bp_s]
            rfl
          · rw [e2, bp_s, if_pos rfl, ri_189 (fr2.B hB12), Option.bind_some]
    · exact vt_stop hn h hl h2i kd
end
