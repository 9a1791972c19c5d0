/-! SENTENCE: its leaves -/
section
variable {n d : Nat} {S C R C0 R0 : rvS} {b : Nat → Nat} {L q N o wi : Nat} {T : Tk} {m : Nat → Nat} {wd : Nat → List Nat} {st : List SayT}
theorem leaf_den {w s a k : Nat} (h0 : R.2.1 216 (4 * k) = nI (50 + w)) (h : (14 ≤ w ∧ w ≤ 16 ∧ a < q ∧ R.2.1 216 (4 * k + 1) = nI a) ∨ (w = 17 ∨ w = 18) ∨ (19 ≤ w ∧ w ≤ 21 ∧ a < 1000 ∧ (s = 60 ∨ s = 61 ∨ s = 62) ∧ R.2.1 216 (4 * k + 2) = nI a ∧ R.2.1 216 (4 * k + 3) = nI s)) : DenN q (k + 1) (ndt R) 1 k [(w, s, a)] := by
  obtain ⟨k1, k2, k3, k4⟩ := ndt_k (R := R) k
  refine ⟨Nat.lt_succ_self _, Or.inl ⟨w, s, a, rfl, k1.trans h0, ?_⟩⟩
  rw [k2, k3, k4]
  exact h
theorem len1 (t : SayT) : (st ++ [t]).length = st.length + 1 := by rw [List.length_append, List.length_singleton]
theorem e50 (w : Nat) : (50 : Int32) + nI w = nI (50 + w) := by rw [z50, nI_add]
theorem bd_plain {w : Nat} (hw : w = 17 ∨ w = 18) (h : SV C R b L T q N wd st o wi) (hst : st.length + 2 ≤ 2 * o) : RSN C R b L q N wd st o wi 1 ((fnX7_put n C 99 w (0 : Int32) (0 : Int32)).bind fun S90_ => some ((1 : Int32), S90_)) (rv_bp (fnX13_lays n R 189 ((50 : Int32) + nI w) (0 : Int32) (0 : Int32) (0 : Int32)) fun x4_ S5_ => (rv_pI S5_ 11 189 59 x4_).bind fun S8_ => some ((1 : Int32), S8_)) := by
  obtain ⟨C3, R3, e3, e4, f3, g3, h3, ⟨n1, n2, n3, n4⟩, p3⟩ := sv_put (n := n) h (by omega) (w := w) (s := 0) (a := 0) (by omega) (nI (50 + w)) (nI 0) (nI 0) (nI 0)
  have e3 : fnX7_put n C 99 w (0 : Int32) (0 : Int32) = some C3 := e3
  have e4 : fnX13_lays n R 189 (nI (50 + w)) (0 : Int32) (0 : Int32) (0 : Int32) = some (nI st.length, R3) := e4
  have f9 := rvf.sI R3 189 59 (nI st.length)
  refine ⟨C3, rv_sI R3 189 59 (nI st.length), f3.mono rfl, (g3.mono rfl).tr (f9.mono rfl), Or.inr ⟨T, [(w, 0, 0)], 0, st.length, 1, ?_, ?_, h3.fr f9 rfl rfl, Nat.le_refl 2, rv_sI_eq _ _ _ _, ?_, p3⟩⟩
  · rw [e3, Option.bind_some]
  · rw [e50, e4, bp_s, tk_pI, rc_189 h3.1.2.1, Option.map_some, Option.bind_some]
  · rw [ndt_f f9 rfl, len1]
    exact leaf_den n1 (Or.inr (Or.inl hw))
theorem bd_named (hn : 1000 ≤ n) {w : Nat} (hw : 14 ≤ w ∧ w ≤ 16) (h : SV C R b L T q N wd st o wi) (hst : st.length + 2 ≤ 2 * o) : RSN C R b L q N wd st o wi 1 (fnX7_readOfWho n C 99 65 68 w) (fnX13_readNamed n R 189 (nI w)) := by
  obtain ⟨hB, hB2, hTC, hTR, hC, hR, hT, hL⟩ := id h.1
  obtain ⟨n1, n2, n3, n4, m1, m2, m3, m4⟩ := id h.2.2.2.2.2
  have c65 := rc_65 hB
  have c68 := rc_68 hB
  have c99 : rv_ck C 6 99 = some () := (SS_of hB (Or.inr (Or.inl rfl) : vb 87)).1
  have r18 := rf_of hB2 (show (189, 18, 195) ∈ rv_rf0 by decide)
  have r14 := rf_of hB2 (show (189, 14, 191) ∈ rv_rf0 by decide)
  have kw : fnX8_isWord n C 65 22 = some (bI (iw T 22)) := k_isWord (n := n) hB hC hT (w := 22) (by decide)
  have mw := m_isName (n := n) (by omega) hB2 hR hT
  by_cases c : iw T 22 = true
  · obtain ⟨c2, c3⟩ := iw_2 c
    have hl := hT.2.2.2.2.2 c2
    have e7 := (hC.2.2.2.2 c2).1
    have e12 := hR.2.2.2.2.2 c2
    rw [c] at kw mw
    have kf := k_find (n := n) (C := C) (wd := wd) (by omega) hB (f := 68) (Or.inl rfl : fb 68) (N := N) (N1 := q) n2 n3 n1 n4 m4 hl
    have mf := m_find (n := n) (R := R) (wd := wd) (by omega) (row := 195) (N := q) (rn_195 hB2) m2 (by decide) (by omega) m3 m4 hl
    obtain ⟨x, hx⟩ : ∃ x, x = fdF wd T.2.2.2.2 q 0 := ⟨_, rfl⟩
    rw [← hx] at kf mf
    have cl : ∀ X, (if fI x = (-1 : Int32) then rv_bp (fnX8_fail n C 65 (3 : Int32)) (fun x30_ S31_ => (rv_bo x30_).bind fun b_ => some (b_, S31_)) else (fnX7_put n C 99 w (0 : Int32) (fI x)).bind fun S18_ => (rv_ck S18_ 7 65).bind fun u21_ => (fnX8_next n S18_ 65).bind fun S24_ => some ((1 : Int32), S24_)) = X → fnX7_readOfWho n C 99 65 68 w = X := fun X hX => by
      rw [fnX7_readOfWho, c65, Option.bind_some, kw, Option.bind_some, if_neg (show ¬ bI true = 0 by decide), tk_gL, c65, Option.map_some, Option.bind_some, e7, c68, Option.bind_some, kf, Option.bind_some, c99]
      exact hX
    have rf : ∀ X, (if fI x = (-1 : Int32) then rv_bp (fnX13_bad n R 189 (3 : Int32)) (fun x37_ S38_ => (rv_bo x37_).bind fun b_ => some (b_, S38_)) else rv_bp (fnX13_lays n R 189 ((50 : Int32) + nI w) (fI x) (0 : Int32) (0 : Int32)) fun x22_ S23_ => (rv_pI S23_ 11 189 59 x22_).bind fun S26_ => (rv_ck S26_ 11 189).bind fun u28_ => (fnX13_go n S26_ 189).bind fun S31_ => some ((1 : Int32), S31_)) = X → fnX13_readNamed n R 189 (nI w) = X := fun X hX => by
      rw [fnX13_readNamed, rc_189 hB2, Option.bind_some, mw, Option.bind_some, if_neg (show ¬ bI true = 0 by decide)]
      repeat (first | (conv => (lhs; arg 1; simp (disch := first | assumption | omega) only [tk_gI, tk_gL, tk_gR, tk_pI, tk_pL, rv_aI, rv_aL, rv_aR, rv_uI, rv_uL, rv_uB, rv_uZ, pu_ckI, pu_ckL, pu_lnI, pu_lnL, tk_rI, tk_rL, Option.bind_some, Option.map_some, rv_lt, tk_ix, z6, rc_189 hB2, r18, r14, rn_191 hB2, m1, e12])); first | rw [Option.bind_some] | rw [bp_s] | rw [if_true] | rw [if_false] | rw [rv_lt_eq] | rw [if_pos (by omega)] | rw [if_neg (by omega)])
      rw [mf, Option.bind_some]
      exact hX
    cases x with
    | none =>
      refine sv_bad (n := n) h (f := 3) (by decide) (Or.inr ⟨by omega, by omega⟩) (rvf.rf _ _) (rvf.rf _ _) (fun C' e => cl _ ?_) (fun R' e => rf _ ?_)
      · have e : fnX8_fail n C 65 (3 : Int32) = some (0, C') := e
        rw [if_pos (show fI none = -1 from rfl), e, bp_s]
        rfl
      · have e : fnX13_bad n R 189 (3 : Int32) = some (0, R') := e
        rw [if_pos (show fI none = -1 from rfl), e, bp_s]
        rfl
    | some a =>
      obtain ⟨-, a2, -⟩ := fdF_lt _ _ _ hx.symm
      have a2 : a < q := by omega
      have nM : ¬ fI (some a) = -1 := fun z => by
        have := z_eqM (a := a) (by omega)
        rw [← this]
        exact z
      obtain ⟨C3, R3, e3, e4, f3, g3, h3, ⟨n1, n2, n3, n4⟩, p3⟩ := sv_put (n := n) h (by omega) (w := w) (s := 0) (a := a) (by omega) (nI (50 + w)) (nI a) (nI 0) (nI 0)
      have e3 : fnX7_put n C 99 w (0 : Int32) (fI (some a)) = some C3 := e3
      have e4 : fnX13_lays n R 189 (nI (50 + w)) (fI (some a)) (0 : Int32) (0 : Int32) = some (nI st.length, R3) := e4
      have f9 := rvf.sI R3 189 59 (nI st.length)
      have h4 := h3.fr f9 rfl rfl
      obtain ⟨C5, R5, T5, e5, e6, f5, g5, h5⟩ := sv_next (n := n) hn h4
      have g35 : rvf [189059, 189005, 189006, 189007, 189008, 189009, 189012] R3 R5 := (f9.mono rfl).tr (g5.mono rfl)
      refine ⟨C5, R5, (f3.mono rfl).tr (f5.mono rfl), (g3.mono rfl).tr (g35.mono rfl), Or.inr ⟨T5, [(w, 0, a)], 0, st.length, 1, cl _ ?_, rf _ ?_, h5, Nat.le_refl 2, ?_, ?_, fun i hi => (g35.row (a := 216) rfl rfl i).trans (p3 i hi)⟩⟩
      · rw [if_neg nM, e3, Option.bind_some, rc_65 h3.1.1, Option.bind_some, e5, Option.bind_some]
      · rw [if_neg nM, e50, e4, bp_s, tk_pI, rc_189 h3.1.2.1, Option.map_some, Option.bind_some, rc_189 h4.1.2.1, Option.bind_some, e6, Option.bind_some]
      · rw [g5.at (a := 189) (k := 59) rfl, rv_sI_eq]
      · rw [ndt_f g35 rfl, len1]
        exact leaf_den n1 (Or.inl ⟨hw.1, hw.2, a2, n2⟩)
  · have c : iw T 22 = false := by
      cases e : iw T 22
      · rfl
      · exact absurd e c
    rw [c] at kw mw
    refine sv_bad (n := n) h (f := 1) (by decide) (Or.inl rfl) (rvf.rf _ _) (rvf.rf _ _) (fun C' e => ?_) (fun R' e => ?_)
    · have e : fnX8_fail n C 65 (1 : Int32) = some (0, C') := e
      rw [fnX7_readOfWho, c65, Option.bind_some, kw, Option.bind_some, if_pos (show bI false = 0 from rfl), Option.bind_some, e, bp_s]
      rfl
    · have e : fnX13_bad n R 189 (1 : Int32) = some (0, R') := e
      rw [fnX13_readNamed, rc_189 hB2, Option.bind_some, mw, Option.bind_some, if_pos (show bI false = 0 from rfl), Option.bind_some, e, bp_s]
      rfl
theorem bd_compare (hn : 1000 ≤ n) {w : Nat} (hw : 19 ≤ w ∧ w ≤ 21) (h : SV C R b L T q N wd st o wi) (hst : st.length + 2 ≤ 2 * o) : RSN C R b L q N wd st o wi 1 (fnX7_readOfNumber n C 99 65 w) (fnX13_readCompare n R 189 (nI w)) := by
  obtain ⟨hB, hB2, hTC, hTR, hC, hR, hT, hL⟩ := id h.1
  have c65 := rc_65 hB
  have h64 := hT.2.2.1
  have e4 := hC.2.2.1
  have m60 : fnX13_isSign n R 189 (60 : Int32) = some (bI (decide (T.2.2.1 = 60))) := m_isSign (n := n) hB2 hR hT (c := 60) (by decide) (by decide) (by decide)
  have m61 : fnX13_isSign n R 189 (61 : Int32) = some (bI (decide (T.2.2.1 = 61))) := m_isSign (n := n) hB2 hR hT (c := 61) (by decide) (by decide) (by decide)
  have m62 : fnX13_isSign n R 189 (62 : Int32) = some (bI (decide (T.2.2.1 = 62))) := m_isSign (n := n) hB2 hR hT (c := 62) (by decide) (by decide) (by decide)
  have cl0 : fnX7_readOfNumber n C 99 65 w = if T.2.2.1 = 60 then cX7_readOfNumber_29 n C 99 65 w (nI T.2.2.1) else if T.2.2.1 = 61 then cX7_readOfNumber_29 n C 99 65 w (nI T.2.2.1) else if T.2.2.1 = 62 then cX7_readOfNumber_29 n C 99 65 w (nI T.2.2.1) else (rv_ck C 7 65).bind fun u6_ => rv_bp (fnX8_fail n C 65 (1 : Int32)) fun x9_ S10_ => (rv_bo x9_).bind fun b_ => some (b_, S10_) := by
    rw [fnX7_readOfNumber, tk_gI, c65, Option.map_some, Option.bind_some, e4, z60, z61, z62]
    simp (disch := first | assumption | omega) only [n_eq]
  by_cases c : T.2.2.1 = 60 ∨ T.2.2.1 = 61 ∨ T.2.2.1 = 62
  · have cl1 : fnX7_readOfNumber n C 99 65 w = cX7_readOfNumber_29 n C 99 65 w (nI T.2.2.1) := by
      rw [cl0]
      by_cases c0 : T.2.2.1 = 60
      · rw [if_pos c0]
      · rw [if_neg c0]
        by_cases c1 : T.2.2.1 = 61
        · rw [if_pos c1]
        · rw [if_neg c1, if_pos (by omega)]
    have rf1 : fnX13_readCompare n R 189 (nI w) = cX13_readCompare_33 n R 189 (nI w) := by
      rw [fnX13_readCompare, rc_189 hB2, Option.bind_some, m60, Option.bind_some]
      by_cases c0 : T.2.2.1 = 60
      · rw [decide_eq_true c0, if_neg (show ¬ bI true = 0 by decide)]
      · rw [decide_eq_false c0, if_pos (show bI false = 0 from rfl), Option.bind_some, m61, Option.bind_some]
        by_cases c1 : T.2.2.1 = 61
        · rw [decide_eq_true c1, if_neg (show ¬ bI true = 0 by decide)]
        · rw [decide_eq_false c1, if_pos (show bI false = 0 from rfl), Option.bind_some, m62, Option.bind_some, decide_eq_true (show T.2.2.1 = 62 by omega), if_neg (show ¬ bI true = 0 by decide)]
    have e9 := hR.2.2.2.1 (by omega) (by omega)
    obtain ⟨C1, R1, T1, e5, e6, f1, g1, h1⟩ := sv_next (n := n) hn h
    obtain ⟨hB1, hB12, hTC1, hTR1, hC1, hR1, hT1, hL1⟩ := id h1.1
    have h641 := hT1.2.2.1
    have hr1 := rkd_lt T1.2.2.1
    have cl : ∀ X, (if T1.2.2.1 = 3 then (rv_gI C1 7 65 6).bind fun x10_ => (rv_ck C1 6 99).bind fun u12_ => (fnX7_put n C1 99 w (nI T.2.2.1) x10_).bind fun S15_ => (rv_ck S15_ 7 65).bind fun u18_ => (fnX8_next n S15_ 65).bind fun S21_ => some ((1 : Int32), S21_) else rv_bp (fnX8_fail n C1 65 (1 : Int32)) fun x27_ S28_ => (rv_bo x27_).bind fun b_ => some (b_, S28_)) = X → fnX7_readOfNumber n C 99 65 w = X := fun X hX => by
      rw [cl1, cX7_readOfNumber_29, c65, Option.bind_some, e5, Option.bind_some, tk_gI, rc_65 hB1, Option.map_some, Option.bind_some, hC1.2.2.1, z3]
      simp (disch := first | assumption | omega) only [n_eq]
      exact hX
    have rf : ∀ X, (rv_bp (fnX13_readNumber n R1 189 (0 : Int32) (999 : Int32)) fun x12_ S13_ => if x12_ = 0 then some ((0 : Int32), S13_) else (rv_gI S13_ 11 189 13).bind fun x17_ => (rv_ck S13_ 11 189).bind fun u19_ => rv_bp (fnX13_lays n S13_ 189 ((50 : Int32) + nI w) (0 : Int32) x17_ (nI T.2.2.1)) fun x22_ S23_ => (rv_pI S23_ 11 189 59 x22_).bind fun S26_ => some ((1 : Int32), S26_)) = X → fnX13_readCompare n R 189 (nI w) = X := fun X hX => by
      rw [rf1, cX13_readCompare_33, tk_gI, rc_189 hB2, Option.map_some, Option.bind_some, Option.bind_some, e9, e6, Option.bind_some, rc_189 hB12, Option.bind_some]
      exact hX
    by_cases c3 : T1.2.2.1 = 3
    · have h999 := hT1.2.2.2.2.1 c3
      obtain ⟨v, hv⟩ : ∃ v, v = T1.2.2.2.1 := ⟨_, rfl⟩
      have e6' := hC1.2.2.2.1 c3
      have e8' := hR1.2.2.2.2.1 c3
      rw [← hv] at h999 e6' e8'
      have f13 := rvf.sI R1 189 13 (nI v)
      have isN : fnX13_isNumber n R1 189 (0 : Int32) (999 : Int32) = some (1, rv_sI R1 189 13 (nI v)) := by
        rw [fnX13_isNumber, tk_gI, rc_189 hB12, Option.map_some, Option.bind_some, hR1.2.2.1, if_pos (by rw [(rkd_s (by decide)).mpr c3]; rfl), tk_gI, rc_189 hB12, Option.map_some, Option.bind_some, e8', fnX13_isIn, z0, z999]
        simp (disch := first | assumption | omega) only [n_lt]
        rw [if_neg (by omega), if_neg (by omega), Option.bind_some, if_neg (by decide), Option.bind_some, tk_pI, rc_189 hB12, Option.map_some, Option.bind_some]
      obtain ⟨C2, e2, f2, g2⟩ := k_putS (n := n) hB1 h1.2.1 (by have := h1.2.2.2.2.1; omega) (w := w) (s := T.2.2.1) (a := v) (by omega)
      have kx2 : KX C2 (rv_sI R1 189 13 (nI v)) b L 200 T1 := (h1.1.fc f2 rfl).fr f13 rfl
      obtain ⟨C3, R3, T3, e3, e7, f3, g3, kx3, -⟩ := lk_next (n := n) hn kx2
      have g13 : rvf [189013, 189005, 189006, 189007, 189008, 189009, 189012] R1 R3 := (f13.mono rfl).tr (g3.mono rfl)
      have b56 : R3.2.1 189 56 = nI st.length := (g13.at (a := 189) (k := 56) rfl).trans h1.2.2.1.1
      obtain ⟨R4, e10, g4, q1, y1, y2, y3, y4, y5⟩ := m_laysN (n := n) kx3.2.1 (k := st.length) (by have := h1.2.2.2.2.1; omega) b56 (nI (50 + w)) (nI 0) (nI v) (nI T.2.2.1)
      have e10 : fnX13_lays n R3 189 (nI (50 + w)) (0 : Int32) (nI v) (nI T.2.2.1) = some (nI st.length, R4) := e10
      have f9 := rvf.sI R4 189 59 (nI st.length)
      have g15 : rvf [189013, 189005, 189006, 189007, 189008, 189009, 189012, 189056, 189059, 216] R1 (rv_sI R4 189 59 (nI st.length)) := ((g13.mono rfl).tr (g4.mono rfl)).tr (f9.mono rfl)
      have g45 : rvf [189056, 189059, 216] R3 (rv_sI R4 189 59 (nI st.length)) := (g4.mono rfl).tr (f9.mono rfl)
      have ho := h1.2.2.2.2.1
      have x13 : R3.2.1 189 13 = nI v := (g3.at (a := 189) (k := 13) rfl).trans (rv_sI_eq _ _ _ _)
      refine ⟨C3, rv_sI R4 189 59 (nI st.length), ((f1.mono rfl).tr (f2.mono rfl)).tr (f3.mono rfl), (g1.mono rfl).tr (g15.mono rfl), Or.inr ⟨T3, [(w, T.2.2.1, v)], 0, st.length, 1, cl _ ?_, rf _ ?_, ⟨kx3.fr g45 rfl, g2.mv f3 rfl, ⟨?_, ?_, ?_⟩, ?_, ho, ((h1.2.2.2.2.2.fc f2 rfl rfl).fc f3 rfl rfl).fr g15 rfl rfl⟩, Nat.le_refl 2, rv_sI_eq _ _ _ _, ?_, fun i hi => ?_⟩⟩
      · rw [if_pos c3, tk_gI, rc_65 hB1, Option.map_some, Option.bind_some, e6', show rv_ck C1 6 99 = some () from (SS_of hB1 (Or.inr (Or.inl rfl) : vb 87)).1, Option.bind_some, e2, Option.bind_some, rc_65 kx2.1, Option.bind_some, e3, Option.bind_some]
      · have eN : fnX13_readNumber n R1 189 (0 : Int32) (999 : Int32) = some (1, R3) := by
          rw [fnX13_readNumber, rc_189 hB12, Option.bind_some, isN, bp_s, if_neg (by decide), rc_189 kx2.2.1, Option.bind_some, e7, Option.bind_some]
        rw [eN, bp_s, if_neg (by decide), tk_gI, rc_189 kx3.2.1, Option.map_some, Option.bind_some, Option.bind_some, x13, e50, e10, bp_s, tk_pI, rc_189 (g4.B kx3.2.1), Option.map_some, Option.bind_some]
      · rw [f9.at (a := 189) (k := 56) rfl, q1, len1]
      · rw [g15.at (a := 189) (k := 57) rfl]; exact h1.2.2.1.2.1
      · rw [g15.at (a := 189) (k := 58) rfl]; exact h1.2.2.1.2.2
      · rw [len1]; omega
      · rw [ndt_f f9 rfl, len1]
        exact leaf_den y1 (Or.inr (Or.inr ⟨hw.1, hw.2, by omega, c, y3, y4⟩))
      · have p1 : R3.2.1 216 i = R1.2.1 216 i := g13.row (a := 216) rfl rfl i
        have p2 : R1.2.1 216 i = R.2.1 216 i := g1.row (a := 216) rfl rfl i
        exact ((y5 i hi).trans p1).trans p2
    · refine sv_bad (n := n) h1 (f := 1) (by decide) (Or.inl rfl) (f1.mono rfl) (g1.mono rfl) (fun C' e => cl _ ?_) (fun R' e => rf _ ?_)
      · have e : fnX8_fail n C1 65 (1 : Int32) = some (0, C') := e
        rw [if_neg c3, e, bp_s]
        rfl
      · have e : fnX13_bad n R1 189 (1 : Int32) = some (0, R') := e
        have nN : ¬ nI (rkd T1.2.2.1) = 3 := by
          rw [z3, n_eq (by omega) (by omega), rkd_s (by decide)]
          exact c3
        have isN : fnX13_isNumber n R1 189 (0 : Int32) (999 : Int32) = some (0, R') := by
          rw [fnX13_isNumber, tk_gI, rc_189 hB12, Option.map_some, Option.bind_some, hR1.2.2.1, if_neg nN, Option.bind_some, e, bp_s]
          rfl
        rw [fnX13_readNumber, rc_189 hB12, Option.bind_some, isN, bp_s, if_pos rfl]
        rfl
  · have n0 : ¬ T.2.2.1 = 60 := fun z => c (Or.inl z)
    have n1 : ¬ T.2.2.1 = 61 := fun z => c (Or.inr (Or.inl z))
    have n2 : ¬ T.2.2.1 = 62 := fun z => c (Or.inr (Or.inr z))
    refine sv_bad (n := n) h (f := 1) (by decide) (Or.inl rfl) (rvf.rf _ _) (rvf.rf _ _) (fun C' e => ?_) (fun R' e => ?_)
    · have e : fnX8_fail n C 65 (1 : Int32) = some (0, C') := e
      rw [cl0, if_neg n0, if_neg n1, if_neg n2, c65, Option.bind_some, e, bp_s]
      rfl
    · have e : fnX13_bad n R 189 (1 : Int32) = some (0, R') := e
      rw [fnX13_readCompare, rc_189 hB2, Option.bind_some, m60, Option.bind_some, decide_eq_false n0, if_pos (show bI false = 0 from rfl), Option.bind_some, m61, Option.bind_some, decide_eq_false n1, if_pos (show bI false = 0 from rfl), Option.bind_some, m62, Option.bind_some, decide_eq_false n2, if_pos (show bI false = 0 from rfl), Option.bind_some, e, bp_s]
      rfl
end
