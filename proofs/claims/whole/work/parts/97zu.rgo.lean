/-! TEXTS: the reference's next token -/
section
variable {n : Nat} {C R : rvS} {b : Nat → Nat} {L M : Nat}
abbrev DU : List Nat := [189005, 189006, 189007, 189008, 189009, 189012]
theorem l_mul (a c : Nat) : lN a * lN c = lN (a * c) := (Int64.ofNat_mul a c).symm
theorem l_sub {a c : Nat} (h : c ≤ a) : lN a - lN c = lN (a - c) := by
  have e : lN a = lN (a - c) + lN c := by
    rw [l_add]
    exact congrArg lN (by omega)
  rw [e, Int64.add_sub_cancel]
theorem TXR.f {D : List Nat} {R' : rvS} (h : TXR R b L M) (f : rvf D R R') (hd : D.elem 189003 = false) (hd2 : D.elem 189004 = false) (hd3 : D.elem 190 = false) : TXR R' b L M := by
  obtain ⟨h1, h2, h3, h4, h5⟩ := h
  exact ⟨h1, h2, by rw [f.at (a := 189) (k := 3) hd]; exact h3, by rw [f.at (a := 189) (k := 4) hd2]; exact h4, fun j hj => ⟨(h5 j hj).1, by rw [f.row (a := 190) rfl hd3 j]; exact (h5 j hj).2⟩⟩
theorem m_isLetter {x : Nat} (hx : x < 256) : fnX13_isLetter n R (nI x) = some (bI (tq_lt x)) := by
  rw [fnX13_isLetter, z97, z122]
  simp (disch := first | assumption | omega) only [n_lt]
  unfold tq_lt
  by_cases c1 : x < 97
  · rw [if_pos c1, decide_eq_false (by omega)]; rfl
  · rw [if_neg c1, decide_eq_true (by omega)]
    by_cases c2 : 122 < x
    · rw [if_pos c2, decide_eq_false (by omega)]; rfl
    · rw [if_neg c2, decide_eq_true (by omega)]; rfl
theorem m_isDigit {x : Nat} (hx : x < 256) : fnX13_isDigit n R (nI x) = some (bI (tq_dg x)) := by
  rw [fnX13_isDigit, z48, z57]
  simp (disch := first | assumption | omega) only [n_lt]
  unfold tq_dg
  by_cases c1 : x < 48
  · rw [if_pos c1, decide_eq_false (by omega)]; rfl
  · rw [if_neg c1, decide_eq_true (by omega)]
    by_cases c2 : 57 < x
    · rw [if_pos c2, decide_eq_false (by omega)]; rfl
    · rw [if_neg c2, decide_eq_true (by omega)]; rfl
theorem m_tapeAt (hB : rv_B R) (hT : TXR R b L M) {p : Nat} (hp : p ≤ L) : fnX13_tapeAt n R 189 (nI p) = some (nI (if p < L then b p else 0)) := by
  obtain ⟨h1, -, h3, -, h5⟩ := hT
  have r1 := rf_of hB (show (189, 1, 190) ∈ rv_rf0 by decide)
  rw [fnX13_tapeAt]
  repeat (first | (conv => (lhs; arg 1; simp (disch := first | assumption | omega) only [tk_gI, tk_gL, tk_gR, tk_pI, tk_pL, rv_aI, rv_aL, rv_aR, rv_uI, rv_uL, rv_uB, rv_uZ, pu_ckI, pu_ckL, pu_lnI, pu_lnL, tk_rI, tk_rL, Option.bind_some, Option.map_some, rv_lt, tk_ix, rc_189 hB, h3])); first | rw [Option.bind_some] | rw [bp_s] | rw [if_true] | rw [if_false] | rw [rv_lt_eq] | rw [if_pos (by omega)] | rw [if_neg (by omega)])
  by_cases c : p < L
  · rw [if_pos c, if_neg (by rw [n_le (by omega) (by omega)]; omega)]
    have h6 := (h5 p c).2
    repeat (first | (conv => (lhs; arg 1; simp (disch := first | assumption | omega) only [tk_gI, tk_gL, tk_gR, tk_pI, tk_pL, rv_aI, rv_aL, rv_aR, rv_uI, rv_uL, rv_uB, rv_uZ, pu_ckI, pu_ckL, pu_lnI, pu_lnL, tk_rI, tk_rL, Option.bind_some, Option.map_some, rv_lt, tk_ix, rc_189 hB, r1, rn_190 hB, h6])); first | rw [Option.bind_some] | rw [bp_s] | rw [if_true] | rw [if_false] | rw [rv_lt_eq] | rw [if_pos (by omega)] | rw [if_neg (by omega)])
  · rw [if_neg c, if_pos (by rw [n_le (by omega) (by omega)]; omega)]
    rfl
/-- what the reference has gathered of a run -/
def IVR (S : rvS) (l : List Nat) : Prop := (l.all tq_lt = true → l.length ≤ 8 → S.2.2.1 189 12 = lN (c27 (l.map (fun x => x - 96)))) ∧ (l.all tq_dg = true → l.length ≤ 3 → S.2.1 189 8 = nI (tq_dec l))
theorem all_lf {l : List Nat} (lf : Bool) (hr : ∀ x ∈ l, tq_rn x = true) (hx : ∃ x ∈ l, tq_lt x = lf) : tq_kd l = if l.all (fun x => tq_lt x == lf) = true then (if lf = true then (if l.length ≤ 8 then 2 else 1) else (if l.length ≤ 3 then 3 else 1)) else 1 := by
  unfold tq_kd
  have ha : ∀ (p q : Nat → Bool), (∀ x ∈ l, p x = q x) → l.all p = l.all q := fun p q h => by
    cases e : l.all q
    · cases e2 : l.all p
      · rfl
      · have : l.all q = true := List.all_eq_true.mpr (fun x hx => by rw [← h x hx]; exact List.all_eq_true.mp e2 x hx)
        rw [this] at e; exact absurd e (by decide)
    · exact List.all_eq_true.mpr (fun x hx => by rw [h x hx]; exact List.all_eq_true.mp e x hx)
  obtain ⟨x, hx, hxl⟩ := hx
  cases lf
  · have n1 : ¬ l.all tq_lt = true := fun h => by
      have := List.all_eq_true.mp h x hx
      rw [hxl] at this; exact absurd this (by decide)
    have e1 : l.all (fun x => tq_lt x == false) = l.all tq_dg := ha _ _ (fun y hy => by
      have h1 := hr y hy
      unfold tq_rn at h1
      cases e : tq_lt y
      · rw [e, Bool.false_or] at h1; rw [h1]; rfl
      · have := tq_lt_i.mp e
        have d : tq_dg y = false := by
          cases d : tq_dg y
          · rfl
          · have := tq_dg_i.mp d; omega
        rw [d]; rfl)
    rw [if_neg (fun h => n1 h.1), e1]
    by_cases c : l.all tq_dg = true
    · rw [if_pos c, if_neg (show ¬ false = true by decide)]
      by_cases c3 : l.length ≤ 3
      · rw [if_pos ⟨c, c3⟩, if_pos c3]
      · rw [if_neg (fun h => c3 h.2), if_neg c3]
    · rw [if_neg c, if_neg (fun h => c h.1)]
  · have n1 : ¬ l.all tq_dg = true := fun h => by
      have := tq_dg_i.mp (List.all_eq_true.mp h x hx)
      have := tq_lt_i.mp hxl
      omega
    have e1 : l.all (fun x => tq_lt x == true) = l.all tq_lt := ha _ _ (fun y hy => by cases tq_lt y <;> rfl)
    rw [e1, if_neg (c := l.all tq_dg = true ∧ l.length ≤ 3) (fun h => n1 h.1)]
    by_cases c : l.all tq_lt = true
    · rw [if_pos c, if_pos rfl]
      by_cases c3 : l.length ≤ 8
      · rw [if_pos ⟨c, c3⟩, if_pos c3]
      · rw [if_neg (fun h => c3 h.2), if_neg c3]
    · rw [if_neg c, if_neg (fun h => c h.1)]
theorem m_goEnd (hB : rv_B R) {l : List Nat} {lf : Bool} {q0 : Nat} (h940 : q0 + l.length ≤ 940) (hr : ∀ x ∈ l, tq_rn x = true) (hx : ∃ x ∈ l, tq_lt x = lf) (h5 : R.2.1 189 5 = nI (q0 + l.length)) (h6 : R.2.1 189 6 = nI q0) (hI : IVR R l) : ∃ R', cX13_go_350 n R 189 (bI lf) (bI (l.all (fun x => tq_lt x == lf))) = some R' ∧ rvf DU R R' ∧ KR R' (q0, q0 + l.length, tq_kd l, tq_dec l, l.map (fun x => x - 96)) := by
  have ek := all_lf lf hr hx
  have k3 : tq_kd l < 4 := by
    unfold tq_kd
    split
    · decide
    · split <;> decide
  have rk : rkd (tq_kd l) = tq_kd l := by
    unfold rkd
    rw [if_neg (by omega), if_neg (by omega)]
  have big : ∀ v : Nat, v = tq_kd l → rv_pI R 11 189 7 (nI v) = some (rv_sI R 189 7 (nI v)) ∧ rvf DU R (rv_sI R 189 7 (nI v)) ∧ KR (rv_sI R 189 7 (nI v)) (q0, q0 + l.length, tq_kd l, tq_dec l, l.map (fun x => x - 96)) := fun v hv => by
    refine ⟨rp_189 hB _ _, (rvf.sI R 189 7 _).mono rfl, (rv_sI_k _ _ (by decide) _).trans h5, (rv_sI_k _ _ (by decide) _).trans h6, ?_, fun h => ?_, fun h => ?_, fun h => ?_⟩
    · rw [rv_sI_eq, hv]
      exact congrArg nI rk.symm
    · have h : 4 ≤ tq_kd l := h
      omega
    · have h : tq_kd l = 3 := h
      rw [rv_sI_k _ _ (by decide)]
      unfold tq_kd at h
      split at h
      · exact absurd h (by decide)
      · split at h
        · rename_i g; exact hI.2 g.1 g.2
        · exact absurd h (by decide)
    · have h : tq_kd l = 2 := h
      show R.2.2.1 189 12 = _
      unfold tq_kd at h
      split at h
      · rename_i g; exact hI.1 g.1 g.2
      · split at h <;> exact absurd h (by decide)
  by_cases c : l.all (fun x => tq_lt x == lf) = true
  · rw [if_pos c] at ek
    rw [c]
    have es : nI (q0 + l.length) - nI q0 = nI l.length := by
      rw [z_sub (by omega)]
      exact congrArg nI (by omega)
    have top : ∀ X, (if bI lf = 0 then cX13_go_374 n R (bI lf) 189 (nI l.length) (3 : Int32) else cX13_go_374 n R (bI lf) 189 (nI l.length) (8 : Int32)) = X → cX13_go_350 n R 189 (bI lf) (bI true) = X := fun X hX => by
      rw [cX13_go_350, if_neg (show ¬ bI true = 0 by decide)]
      repeat (first | (conv => (lhs; arg 1; simp (disch := first | assumption | omega) only [tk_gI, tk_gL, tk_gR, tk_pI, tk_pL, rv_aI, rv_aL, rv_aR, rv_uI, rv_uL, rv_uB, rv_uZ, pu_ckI, pu_ckL, pu_lnI, pu_lnL, tk_rI, tk_rL, Option.bind_some, Option.map_some, rv_lt, tk_ix, rc_189 hB, h5, h6])); first | rw [Option.bind_some] | rw [bp_s] | rw [if_true] | rw [if_false] | rw [rv_lt_eq] | rw [if_pos (by omega)] | rw [if_neg (by omega)])
      rw [es]
      exact hX
    cases lf
    · rw [if_neg (by decide)] at ek
      rw [if_pos (show bI false = 0 from rfl)] at top
      by_cases c3 : l.length ≤ 3
      · rw [if_pos c3] at ek
        obtain ⟨e, g⟩ := big 3 ek.symm
        refine ⟨_, top _ ?_, g⟩
        rw [cX13_go_374, z3, if_pos (by rw [n_le (by omega) (by omega)]; exact c3), if_pos (show bI false = 0 from rfl), e]; rfl
      · rw [if_neg c3] at ek
        obtain ⟨e, g⟩ := big 1 ek.symm
        refine ⟨_, top _ ?_, g⟩
        rw [cX13_go_374, z3, if_neg (by rw [n_le (by omega) (by omega)]; exact c3), z1, e]; rfl
    · rw [if_pos rfl] at ek
      rw [if_neg (show ¬ bI true = 0 by decide)] at top
      by_cases c3 : l.length ≤ 8
      · rw [if_pos c3] at ek
        obtain ⟨e, g⟩ := big 2 ek.symm
        refine ⟨_, top _ ?_, g⟩
        rw [cX13_go_374, z8, if_pos (by rw [n_le (by omega) (by omega)]; exact c3), if_neg (show ¬ bI true = 0 by decide), z2, e]; rfl
      · rw [if_neg c3] at ek
        obtain ⟨e, g⟩ := big 1 ek.symm
        refine ⟨_, top _ ?_, g⟩
        rw [cX13_go_374, z8, if_neg (by rw [n_le (by omega) (by omega)]; exact c3), z1, e]; rfl
  · rw [if_neg c] at ek
    have cf : l.all (fun x => tq_lt x == lf) = false := by
      cases h : l.all (fun x => tq_lt x == lf)
      · rfl
      · exact absurd h c
    obtain ⟨e, g⟩ := big 1 ek.symm
    refine ⟨_, ?_, g⟩
    rw [cX13_go_350, cf, if_pos (show bI false = 0 from rfl), z1, e]; rfl
/-- one byte more -/
theorem m_go243 (hB : rv_B R) (hT : TXR R b L M) {l : List Nat} {lf : Bool} {q0 p : Nat} (hp : p < L) (e0 : p = q0 + l.length) (h5 : R.2.1 189 5 = nI p) (h6 : R.2.1 189 6 = nI q0) (hI : IVR R l) (hrn : tq_rn (b p) = true) (K : Nat → Int32 → Int32 → rvS → Option rvS) : ∃ R2, cX13_go_243 n K R 189 (bI lf) (bI (l.all (fun x => tq_lt x == lf))) = K 189 (bI lf) (bI ((l ++ [b p]).all (fun x => tq_lt x == lf))) R2 ∧ rvf DU R R2 ∧ R2.2.1 189 5 = nI (p + 1) ∧ R2.2.1 189 6 = nI q0 ∧ IVR R2 (l ++ [b p]) := by
  have hL := hT.1
  obtain ⟨hb, h190⟩ := hT.2.2.2.2 p hp
  have r1 := rf_of hB (show (189, 1, 190) ∈ rv_rf0 by decide)
  have kl := m_isLetter (n := n) (R := R) hb
  have es : nI p - nI q0 = nI l.length := by
    rw [z_sub (by omega)]
    exact congrArg nI (by omega)
  obtain ⟨R1, eR1⟩ : ∃ R1, R1 = if l.length < 8 then rv_sL R 189 12 (((27 : Int64) * R.2.2.1 189 12 + (nI (b p)).toInt64) - (96 : Int64)) else R := ⟨_, rfl⟩
  have f1 : rvf DU R R1 := by
    rw [eR1]
    split
    · exact (rvf.sL R 189 12 _).mono rfl
    · exact rvf.rf _ _
  have hB1 := f1.B hB
  have g15 : R1.2.1 189 5 = nI p := by
    rw [eR1]
    split <;> exact h5
  have g16 : R1.2.1 189 6 = nI q0 := by
    rw [eR1]
    split <;> exact h6
  have g18 : R1.2.1 189 8 = R.2.1 189 8 := by
    rw [eR1]
    split <;> rfl
  obtain ⟨R3, eR3⟩ : ∃ R3, R3 = if l.length < 3 then rv_sI R1 189 8 (((10 : Int32) * R1.2.1 189 8 + nI (b p)) - (48 : Int32)) else R1 := ⟨_, rfl⟩
  have f3 : rvf DU R1 R3 := by
    rw [eR3]
    split
    · exact (rvf.sI R1 189 8 _).mono rfl
    · exact rvf.rf _ _
  have hB3 := f3.B hB1
  have g35 : R3.2.1 189 5 = nI p := by
    rw [eR3]
    split
    · exact (rv_sI_k _ _ (by decide) _).trans g15
    · exact g15
  have g36 : R3.2.1 189 6 = nI q0 := by
    rw [eR3]
    split
    · exact (rv_sI_k _ _ (by decide) _).trans g16
    · exact g16
  have g3L : R3.2.2.1 = R1.2.2.1 := by
    rw [eR3]
    split <;> rfl
  have e307 : ∀ t, cX13_go_307 n K R1 189 (bI lf) t (nI (b p)) = K 189 (bI lf) t (rv_sI R3 189 5 (nI (p + 1))) := fun t => by
    have e337 : cX13_go_337 n K R3 189 (bI lf) t = K 189 (bI lf) t (rv_sI R3 189 5 (nI (p + 1))) := by
      rw [cX13_go_337]
      repeat (first | (conv => (lhs; arg 1; simp (disch := first | assumption | omega) only [tk_gI, tk_gL, tk_gR, tk_pI, tk_pL, rv_aI, rv_aL, rv_aR, rv_uI, rv_uL, rv_uB, rv_uZ, pu_ckI, pu_ckL, pu_lnI, pu_lnL, tk_rI, tk_rL, Option.bind_some, Option.map_some, rv_lt, tk_ix, rc_189 hB3, g35])); first | rw [Option.bind_some] | rw [bp_s] | rw [if_true] | rw [if_false] | rw [rv_lt_eq] | rw [if_pos (by omega)] | rw [if_neg (by omega)])
      rw [z1, nI_add]
    rw [cX13_go_307]
    repeat (first | (conv => (lhs; arg 1; simp (disch := first | assumption | omega) only [tk_gI, tk_gL, tk_gR, tk_pI, tk_pL, rv_aI, rv_aL, rv_aR, rv_uI, rv_uL, rv_uB, rv_uZ, pu_ckI, pu_ckL, pu_lnI, pu_lnL, tk_rI, tk_rL, Option.bind_some, Option.map_some, rv_lt, tk_ix, rc_189 hB1, g15, g16])); first | rw [Option.bind_some] | rw [bp_s] | rw [if_true] | rw [if_false] | rw [rv_lt_eq] | rw [if_pos (by omega)] | rw [if_neg (by omega)])
    rw [es, z3]
    simp (disch := first | assumption | omega) only [n_le]
    by_cases c : 3 ≤ l.length
    · rw [if_pos c]
      rw [eR3, if_neg (by omega)] at e337 ⊢
      exact e337
    · rw [if_neg c]
      repeat (first | (conv => (lhs; arg 1; simp (disch := first | assumption | omega) only [tk_gI, tk_gL, tk_gR, tk_pI, tk_pL, rv_aI, rv_aL, rv_aR, rv_uI, rv_uL, rv_uB, rv_uZ, pu_ckI, pu_ckL, pu_lnI, pu_lnL, tk_rI, tk_rL, Option.bind_some, Option.map_some, rv_lt, tk_ix, rc_189 hB1])); first | rw [Option.bind_some] | rw [bp_s] | rw [if_true] | rw [if_false] | rw [rv_lt_eq] | rw [if_pos (by omega)] | rw [if_neg (by omega)])
      rw [eR3, if_pos (by omega)] at e337 ⊢
      exact e337
  have e272 : ∀ t, cX13_go_272 n K R 189 (bI lf) (nI (b p)) t = K 189 (bI lf) t (rv_sI R3 189 5 (nI (p + 1))) := fun t => by
    have e := e307 t
    rw [cX13_go_272]
    repeat (first | (conv => (lhs; arg 1; simp (disch := first | assumption | omega) only [tk_gI, tk_gL, tk_gR, tk_pI, tk_pL, rv_aI, rv_aL, rv_aR, rv_uI, rv_uL, rv_uB, rv_uZ, pu_ckI, pu_ckL, pu_lnI, pu_lnL, tk_rI, tk_rL, Option.bind_some, Option.map_some, rv_lt, tk_ix, rc_189 hB, h5, h6])); first | rw [Option.bind_some] | rw [bp_s] | rw [if_true] | rw [if_false] | rw [rv_lt_eq] | rw [if_pos (by omega)] | rw [if_neg (by omega)])
    rw [es, z8]
    simp (disch := first | assumption | omega) only [n_le]
    by_cases c : 8 ≤ l.length
    · rw [if_pos c]
      have : R1 = R := by rw [eR1, if_neg (by omega)]
      rw [this] at e
      exact e
    · rw [if_neg c]
      repeat (first | (conv => (lhs; arg 1; simp (disch := first | assumption | omega) only [tk_gI, tk_gL, tk_gR, tk_pI, tk_pL, rv_aI, rv_aL, rv_aR, rv_uI, rv_uL, rv_uB, rv_uZ, pu_ckI, pu_ckL, pu_lnI, pu_lnL, tk_rI, tk_rL, Option.bind_some, Option.map_some, rv_lt, tk_ix, rc_189 hB])); first | rw [Option.bind_some] | rw [bp_s] | rw [if_true] | rw [if_false] | rw [rv_lt_eq] | rw [if_pos (by omega)] | rw [if_neg (by omega)])
      have : R1 = rv_sL R 189 12 (((27 : Int64) * R.2.2.1 189 12 + (nI (b p)).toInt64) - (96 : Int64)) := by rw [eR1, if_pos (by omega)]
      rw [this] at e
      exact e
  refine ⟨rv_sI R3 189 5 (nI (p + 1)), ?_, (f1.tr f3).tr ((rvf.sI R3 189 5 _).mono rfl), rv_sI_eq _ _ _ _, (rv_sI_k _ _ (by decide) _).trans g36, fun h h8 => ?_, fun h h3 => ?_⟩
  · rw [cX13_go_243]
    repeat (first | (conv => (lhs; arg 1; simp (disch := first | assumption | omega) only [tk_gI, tk_gL, tk_gR, tk_pI, tk_pL, rv_aI, rv_aL, rv_aR, rv_uI, rv_uL, rv_uB, rv_uZ, pu_ckI, pu_ckL, pu_lnI, pu_lnL, tk_rI, tk_rL, Option.bind_some, Option.map_some, rv_lt, tk_ix, rc_189 hB, h5, r1, rn_190 hB, h190])); first | rw [Option.bind_some] | rw [bp_s] | rw [if_true] | rw [if_false] | rw [rv_lt_eq] | rw [if_pos (by omega)] | rw [if_neg (by omega)])
    rw [all_app]
    by_cases c : l.all (fun x => tq_lt x == lf) = true
    · rw [c, if_neg (show ¬ bI true = 0 by decide), kl, Option.bind_some]
      by_cases c2 : tq_lt (b p) = lf
      · rw [if_pos (by rw [c2]), z1, e272, c2]
        cases lf <;> rfl
      · have : ¬ bI (tq_lt (b p)) = bI lf := fun z => c2 (by
          cases h1 : tq_lt (b p) <;> cases lf <;> first | rfl | (rw [h1] at z; exact absurd z (by decide)))
        rw [if_neg this, cX13_go_271, z0, e272]
        have : (tq_lt (b p) == lf) = false := by
          cases h1 : tq_lt (b p) <;> cases lf <;> first | rfl | exact absurd h1 c2
        rw [this]
        rfl
    · have cf : l.all (fun x => tq_lt x == lf) = false := by
        cases h : l.all (fun x => tq_lt x == lf)
        · rfl
        · exact absurd h c
      rw [cf, if_pos (show bI false = 0 from rfl), cX13_go_271, z0, e272]
      rfl
  · rw [all_app, Bool.and_eq_true] at h
    rw [List.length_append, List.length_singleton] at h8
    have d1 := tq_lt_i.mp h.2
    show R3.2.2.1 189 12 = _
    rw [g3L, eR1, if_pos (by omega), rv_sL_eq, hI.1 h.1 (by omega), y27, y96, l_mul, n_l (by omega), l_add, l_sub (by omega), List.map_append]
    show _ = lN (c27 (l.map (fun x => x - 96) ++ [b p - 96]))
    rw [c27_app]
    exact congrArg lN (by omega)
  · rw [all_app, Bool.and_eq_true] at h
    rw [List.length_append, List.length_singleton] at h3
    have d1 := tq_dg_i.mp h.2
    rw [rv_sI_k _ _ (by decide), eR3, if_pos (by omega), rv_sI_eq, g18, hI.2 h.1 (by omega), z10, z48, z_mul, nI_add, z_sub (by omega), dec_app]
    exact congrArg nI (by omega)
theorem m_goLoop {lf : Bool} {q0 : Nat} : ∀ r q p l (R : rvS), p + r = L → r < q → p = q0 + l.length → rv_B R → TXR R b L M → R.2.1 189 5 = nI p → R.2.1 189 6 = nI q0 → (∀ x ∈ l, tq_rn x = true) → (∃ x ∈ l ++ tq_run b p r, tq_lt x = lf) → IVR R l → ∃ R', cX13_go_215 n q R 189 (bI lf) (bI (l.all (fun x => tq_lt x == lf))) = some R' ∧ rvf DU R R' ∧ KR R' (q0, p + (tq_run b p r).length, tq_kd (l ++ tq_run b p r), tq_dec (l ++ tq_run b p r), (l ++ tq_run b p r).map (fun x => x - 96)) := by
  intro r
  induction r with
  | zero =>
    intro q p l R hp hq e0 hB hT h5 h6 hr hx hI
    obtain ⟨q, rfl⟩ : ∃ q', q = q' + 1 := ⟨q - 1, by omega⟩
    have hL := hT.1
    have e : l ++ tq_run b p 0 = l := List.append_nil l
    rw [e] at hx ⊢
    have kt := m_tapeAt (n := n) hB hT (p := p) (by omega)
    rw [if_neg (by omega)] at kt
    have kl := m_isLetter (n := n) (R := R) (x := 0) (by decide)
    have kd := m_isDigit (n := n) (R := R) (x := 0) (by decide)
    rw [e0] at h5
    obtain ⟨R', e1, f1, g⟩ := m_goEnd (n := n) (lf := lf) hB (by omega) hr hx h5 h6 hI
    refine ⟨R', ?_, f1, ?_⟩
    · rw [cX13_go_215]
      rw [e0] at kt
      repeat (first | (conv => (lhs; arg 1; simp (disch := first | assumption | omega) only [tk_gI, tk_gL, tk_gR, tk_pI, tk_pL, rv_aI, rv_aL, rv_aR, rv_uI, rv_uL, rv_uB, rv_uZ, pu_ckI, pu_ckL, pu_lnI, pu_lnL, tk_rI, tk_rL, Option.bind_some, Option.map_some, rv_lt, tk_ix, rc_189 hB, h5, kt, kl])); first | rw [Option.bind_some] | rw [bp_s] | rw [if_true] | rw [if_false] | rw [rv_lt_eq] | rw [if_pos (by omega)] | rw [if_neg (by omega)])
      rw [if_pos (show bI (tq_lt 0) = 0 by decide)]
      repeat (first | (conv => (lhs; arg 1; simp (disch := first | assumption | omega) only [tk_gI, tk_gL, tk_gR, tk_pI, tk_pL, rv_aI, rv_aL, rv_aR, rv_uI, rv_uL, rv_uB, rv_uZ, pu_ckI, pu_ckL, pu_lnI, pu_lnL, tk_rI, tk_rL, Option.bind_some, Option.map_some, rv_lt, tk_ix, rc_189 hB, h5, kt, kd])); first | rw [Option.bind_some] | rw [bp_s] | rw [if_true] | rw [if_false] | rw [rv_lt_eq] | rw [if_pos (by omega)] | rw [if_neg (by omega)])
      rw [if_pos (show bI (tq_dg 0) = 0 by decide)]
      exact e1
    · show KR R' (q0, p + 0, _)
      rw [Nat.add_zero, e0]
      exact g
  | succ r ih =>
    intro q p l R hp hq e0 hB hT h5 h6 hr hx hI
    obtain ⟨q, rfl⟩ : ∃ q', q = q' + 1 := ⟨q - 1, by omega⟩
    have hL := hT.1
    have hb := (hT.2.2.2.2 p (by omega)).1
    have kt := m_tapeAt (n := n) hB hT (p := p) (by omega)
    rw [if_pos (by omega)] at kt
    have kl := m_isLetter (n := n) (R := R) hb
    have kd := m_isDigit (n := n) (R := R) hb
    by_cases c : tq_rn (b p) = true
    · have er : tq_run b p (r + 1) = b p :: tq_run b (p + 1) r := by rw [tq_run, if_pos c]
      have ea : l ++ tq_run b p (r + 1) = (l ++ [b p]) ++ tq_run b (p + 1) r := by rw [er, List.append_assoc]; rfl
      rw [ea] at hx ⊢
      have hr2 : ∀ x ∈ l ++ [b p], tq_rn x = true := fun x hx => by
        rcases List.mem_append.mp hx with hx | hx
        · exact hr x hx
        · rw [List.mem_singleton.mp hx]; exact c
      obtain ⟨R2, e2, f2, g5, g6, hI2⟩ := m_go243 (n := n) (lf := lf) hB hT (p := p) (by omega) e0 h5 h6 hI c (fun a0 x2 x3 S => cX13_go_215 n q S a0 x2 x3)
      obtain ⟨R', e1, f1, g⟩ := ih q (p + 1) (l ++ [b p]) R2 (by omega) (by omega) (by rw [List.length_append, List.length_singleton]; omega) (f2.B hB) (hT.f f2 rfl rfl rfl) g5 g6 hr2 hx hI2
      refine ⟨R', ?_, f2.tr f1, ?_⟩
      · have go : cX13_go_215 n (q + 1) R 189 (bI lf) (bI (l.all (fun x => tq_lt x == lf))) = cX13_go_243 n (fun a0 x2 x3 S => cX13_go_215 n q S a0 x2 x3) R 189 (bI lf) (bI (l.all (fun x => tq_lt x == lf))) := by
          rw [cX13_go_215]
          repeat (first | (conv => (lhs; arg 1; simp (disch := first | assumption | omega) only [tk_gI, tk_gL, tk_gR, tk_pI, tk_pL, rv_aI, rv_aL, rv_aR, rv_uI, rv_uL, rv_uB, rv_uZ, pu_ckI, pu_ckL, pu_lnI, pu_lnL, tk_rI, tk_rL, Option.bind_some, Option.map_some, rv_lt, tk_ix, rc_189 hB, h5, kt, kl])); first | rw [Option.bind_some] | rw [bp_s] | rw [if_true] | rw [if_false] | rw [rv_lt_eq] | rw [if_pos (by omega)] | rw [if_neg (by omega)])
          cases cl : tq_lt (b p)
          · have dg : tq_dg (b p) = true := by
              unfold tq_rn at c
              rw [cl, Bool.false_or] at c
              exact c
            rw [dg] at kd
            rw [if_pos (show bI false = 0 from rfl)]
            repeat (first | (conv => (lhs; arg 1; simp (disch := first | assumption | omega) only [tk_gI, tk_gL, tk_gR, tk_pI, tk_pL, rv_aI, rv_aL, rv_aR, rv_uI, rv_uL, rv_uB, rv_uZ, pu_ckI, pu_ckL, pu_lnI, pu_lnL, tk_rI, tk_rL, Option.bind_some, Option.map_some, rv_lt, tk_ix, rc_189 hB, h5, kt, kd])); first | rw [Option.bind_some] | rw [bp_s] | rw [if_true] | rw [if_false] | rw [rv_lt_eq] | rw [if_pos (by omega)] | rw [if_neg (by omega)])
            rw [if_neg (show ¬ bI true = 0 by decide)]
          · rw [if_neg (show ¬ bI true = 0 by decide)]
        rw [go, e2]
        exact e1
      · rw [er, List.length_cons]
        rw [show p + ((tq_run b (p + 1) r).length + 1) = p + 1 + (tq_run b (p + 1) r).length by omega]
        exact g
    · have er : tq_run b p (r + 1) = [] := by rw [tq_run, if_neg c]
      rw [er, List.append_nil] at hx ⊢
      have c1 : tq_lt (b p) = false ∧ tq_dg (b p) = false := by
        unfold tq_rn at c
        cases h1 : tq_lt (b p) <;> cases h2 : tq_dg (b p) <;> first | exact ⟨rfl, rfl⟩ | (rw [h1, h2] at c; exact absurd rfl c)
      rw [c1.1] at kl
      rw [c1.2] at kd
      have h5' := h5
      rw [e0] at h5'
      obtain ⟨R', e1, f1, g⟩ := m_goEnd (n := n) (lf := lf) hB (by omega) hr hx h5' h6 hI
      refine ⟨R', ?_, f1, ?_⟩
      · rw [cX13_go_215]
        repeat (first | (conv => (lhs; arg 1; simp (disch := first | assumption | omega) only [tk_gI, tk_gL, tk_gR, tk_pI, tk_pL, rv_aI, rv_aL, rv_aR, rv_uI, rv_uL, rv_uB, rv_uZ, pu_ckI, pu_ckL, pu_lnI, pu_lnL, tk_rI, tk_rL, Option.bind_some, Option.map_some, rv_lt, tk_ix, rc_189 hB, h5, kt, kl])); first | rw [Option.bind_some] | rw [bp_s] | rw [if_true] | rw [if_false] | rw [rv_lt_eq] | rw [if_pos (by omega)] | rw [if_neg (by omega)])
        rw [if_pos (show bI false = 0 from rfl)]
        repeat (first | (conv => (lhs; arg 1; simp (disch := first | assumption | omega) only [tk_gI, tk_gL, tk_gR, tk_pI, tk_pL, rv_aI, rv_aL, rv_aR, rv_uI, rv_uL, rv_uB, rv_uZ, pu_ckI, pu_ckL, pu_lnI, pu_lnL, tk_rI, tk_rL, Option.bind_some, Option.map_some, rv_lt, tk_ix, rc_189 hB, h5, kt, kd])); first | rw [Option.bind_some] | rw [bp_s] | rw [if_true] | rw [if_false] | rw [rv_lt_eq] | rw [if_pos (by omega)] | rw [if_neg (by omega)])
        rw [if_pos (show bI false = 0 from rfl)]
        exact e1
      · show KR R' (q0, p + 0, _)
        rw [Nat.add_zero, e0]
        exact g
theorem m_go198 (hn : 1000 ≤ n) {q : Nat} (hB : rv_B R) (hT : TXR R b L M) (h5 : R.2.1 189 5 = nI q) (hq : q < L) (h6 : R.2.1 189 6 = nI q) (c2 : tq_rn (b q) = true) : ∃ R', cX13_go_198 n R 189 (nI (b q)) = some R' ∧ rvf DU R R' ∧ KR R' (q, q + (tq_run b q (L - q)).length, tq_kd (tq_run b q (L - q)), tq_dec (tq_run b q (L - q)), (tq_run b q (L - q)).map (fun x => x - 96)) := by
  have hL := hT.1
  have hb := (hT.2.2.2.2 q hq).1
  have kl := m_isLetter (n := n) (R := R) hb
  obtain ⟨R2, eR2⟩ : ∃ R2, R2 = rv_sI (rv_sL R 189 12 (0 : Int64)) 189 8 (0 : Int32) := ⟨_, rfl⟩
  have f2 : rvf DU R R2 := by
    rw [eR2]
    exact ((rvf.sL R 189 12 _).mono rfl).tr ((rvf.sI _ 189 8 _).mono rfl)
  have hB2 := f2.B hB
  have g5 : R2.2.1 189 5 = nI q := by rw [eR2, rv_sI_k _ _ (by decide)]; exact h5
  have g6 : R2.2.1 189 6 = nI q := by rw [eR2, rv_sI_k _ _ (by decide)]; exact h6
  have hI2 : IVR R2 [] := by
    refine ⟨fun _ _ => ?_, fun _ _ => ?_⟩
    · rw [eR2]; exact rv_sL_eq _ _ _ _
    · rw [eR2, rv_sI_eq]; rfl
  have hx : ∃ x ∈ [] ++ tq_run b q (L - q), tq_lt x = tq_lt (b q) := by
    refine ⟨b q, ?_, rfl⟩
    rw [show L - q = (L - q - 1) + 1 by omega, tq_run, if_pos c2]
    exact List.mem_cons_self
  obtain ⟨R', e1, f1, g⟩ := m_goLoop (n := n) (b := b) (L := L) (M := M) (lf := tq_lt (b q)) (q0 := q) (L - q) n q [] R2 (by omega) (by omega) rfl hB2 (hT.f f2 rfl rfl rfl) g5 g6 (fun x hx => by cases hx) hx hI2
  rw [List.nil_append] at g
  refine ⟨R', ?_, f2.tr f1, g⟩
  have e1 : cX13_go_215 n n R2 189 (bI (tq_lt (b q))) (1 : Int32) = some R' := e1
  rw [cX13_go_198, kl, Option.bind_some]
  repeat (first | (conv => (lhs; arg 1; simp (disch := first | assumption | omega) only [tk_gI, tk_gL, tk_gR, tk_pI, tk_pL, rv_aI, rv_aL, rv_aR, rv_uI, rv_uL, rv_uB, rv_uZ, pu_ckI, pu_ckL, pu_lnI, pu_lnL, tk_rI, tk_rL, Option.bind_some, Option.map_some, rv_lt, tk_ix, rc_189 hB])); first | rw [Option.bind_some] | rw [bp_s] | rw [if_true] | rw [if_false] | rw [rv_lt_eq] | rw [if_pos (by omega)] | rw [if_neg (by omega)])
  rw [← eR2, e1]
theorem m_go96 (hn : 1000 ≤ n) {q : Nat} (hB : rv_B R) (hT : TXR R b L M) (h5 : R.2.1 189 5 = nI q) (hq : q ≤ L) (h6 : R.2.1 189 6 = nI q) : ∃ R', cX13_go_96 n R 189 = some R' ∧ rvf DU R R' ∧ KR R' (if L ≤ q then (q, q, 0, 0, []) else if tq_rn (b q) = true then (q, q + (tq_run b q (L - q)).length, tq_kd (tq_run b q (L - q)), tq_dec (tq_run b q (L - q)), (tq_run b q (L - q)).map (fun x => x - 96)) else (q, q + 1, if tq_mk (b q) = true then b q else 1, 0, [])) := by
  have hL := hT.1
  have r1 := rf_of hB (show (189, 1, 190) ∈ rv_rf0 by decide)
  by_cases c1 : L ≤ q
  · rw [if_pos c1]
    refine ⟨rv_sI R 189 7 (nI 0), ?_, (rvf.sI R 189 7 _).mono rfl, ?_⟩
    · rw [cX13_go_96]
      repeat (first | (conv => (lhs; arg 1; simp (disch := first | assumption | omega) only [tk_gI, tk_gL, tk_gR, tk_pI, tk_pL, rv_aI, rv_aL, rv_aR, rv_uI, rv_uL, rv_uB, rv_uZ, pu_ckI, pu_ckL, pu_lnI, pu_lnL, tk_rI, tk_rL, Option.bind_some, Option.map_some, rv_lt, tk_ix, rc_189 hB, h5, hT.2.2.1])); first | rw [Option.bind_some] | rw [bp_s] | rw [if_true] | rw [if_false] | rw [rv_lt_eq] | rw [if_pos (by omega)] | rw [if_neg (by omega)])
      rw [if_neg (by rw [n_lt (by omega) (by omega)]; omega)]
      repeat (first | (conv => (lhs; arg 1; simp (disch := first | assumption | omega) only [tk_gI, tk_gL, tk_gR, tk_pI, tk_pL, rv_aI, rv_aL, rv_aR, rv_uI, rv_uL, rv_uB, rv_uZ, pu_ckI, pu_ckL, pu_lnI, pu_lnL, tk_rI, tk_rL, Option.bind_some, Option.map_some, rv_lt, tk_ix, z0, z1, z2, z3, z4, z5, z6, z7, z8, z9, z10, z11, z12, z13, z15, z16, z17, z18, z20, z21, z23, z24, z25, z31, z32, z39, z40, z41, z46, z48, z50, z57, z59, z60, z61, z62, z63, z64, z97, z98, z99, z100, z101, z102, z103, z104, z105, z106, z107, z108, z109, z110, z111, z112, z113, z114, z115, z116, z117, z118, z119, z120, z121, z122, z128, z132, z200, z240, z255, z372, z390625, z400, z420, z421, z422, z662, z900, z940, z999, z1000, z1024, z2000, z5860, z10000, z12345, z15625, z266240, z1048575, z1064960, z1103515245, z_m1, rc_189 hB])); first | rw [Option.bind_some] | rw [bp_s] | rw [if_true] | rw [if_false] | rw [rv_lt_eq] | rw [if_pos (by omega)] | rw [if_neg (by omega)])
    · exact ⟨(rv_sI_k _ _ (by decide) _).trans h5, (rv_sI_k _ _ (by decide) _).trans h6, rv_sI_eq _ _ _ _, fun h => absurd (show 4 ≤ 0 from h) (by decide), fun h => absurd (show 0 = 3 from h) (by decide), fun h => absurd (show 0 = 2 from h) (by decide)⟩
  · rw [if_neg c1]
    obtain ⟨hb, h190⟩ := hT.2.2.2.2 q (by omega)
    have kl := m_isLetter (n := n) (R := R) hb
    have kd := m_isDigit (n := n) (R := R) hb
    by_cases c2 : tq_rn (b q) = true
    · rw [if_pos c2]
      obtain ⟨R', e1, g⟩ := m_go198 (n := n) hn hB hT h5 (by omega) h6 c2
      refine ⟨R', ?_, g⟩
      rw [cX13_go_96]
      repeat (first | (conv => (lhs; arg 1; simp (disch := first | assumption | omega) only [tk_gI, tk_gL, tk_gR, tk_pI, tk_pL, rv_aI, rv_aL, rv_aR, rv_uI, rv_uL, rv_uB, rv_uZ, pu_ckI, pu_ckL, pu_lnI, pu_lnL, tk_rI, tk_rL, Option.bind_some, Option.map_some, rv_lt, tk_ix, rc_189 hB, h5, hT.2.2.1])); first | rw [Option.bind_some] | rw [bp_s] | rw [if_true] | rw [if_false] | rw [rv_lt_eq] | rw [if_pos (by omega)] | rw [if_neg (by omega)])
      rw [if_pos (by rw [n_lt (by omega) (by omega)]; omega)]
      repeat (first | (conv => (lhs; arg 1; simp (disch := first | assumption | omega) only [tk_gI, tk_gL, tk_gR, tk_pI, tk_pL, rv_aI, rv_aL, rv_aR, rv_uI, rv_uL, rv_uB, rv_uZ, pu_ckI, pu_ckL, pu_lnI, pu_lnL, tk_rI, tk_rL, Option.bind_some, Option.map_some, rv_lt, tk_ix, rc_189 hB, h5, r1, rn_190 hB, h190, kl])); first | rw [Option.bind_some] | rw [bp_s] | rw [if_true] | rw [if_false] | rw [rv_lt_eq] | rw [if_pos (by omega)] | rw [if_neg (by omega)])
      cases cl : tq_lt (b q)
      · have dg : tq_dg (b q) = true := by
          unfold tq_rn at c2
          rw [cl, Bool.false_or] at c2
          exact c2
        rw [if_pos (show bI false = 0 from rfl), kd, dg, Option.bind_some, if_neg (show ¬ bI true = 0 by decide)]
        exact e1
      · rw [if_neg (show ¬ bI true = 0 by decide)]
        exact e1
    · have c3 : tq_lt (b q) = false ∧ tq_dg (b q) = false := by
        unfold tq_rn at c2
        cases h1 : tq_lt (b q) <;> cases h2 : tq_dg (b q) <;> first | exact ⟨rfl, rfl⟩ | (rw [h1, h2] at c2; exact absurd rfl c2)
      rw [if_neg c2]
      rw [c3.1] at kl
      rw [c3.2] at kd
      have fin : ∀ v w : Nat, v = rkd w → w < 64 → (w = 1 ∨ w = b q) → ∃ R', cX13_go_179 n R 189 (nI (b q)) 189 (nI v) = some R' ∧ rvf DU R R' ∧ (w ≠ 2 → w ≠ 3 → KR R' (q, q + 1, w, 0, [])) := fun v w hv hw hw2 => by
        refine ⟨rv_sI (rv_sI (rv_sI R 189 7 (nI v)) 189 9 (nI (b q))) 189 5 (nI (q + 1)), ?_, (((rvf.sI R 189 7 _).mono rfl).tr ((rvf.sI _ 189 9 _).mono rfl)).tr ((rvf.sI _ 189 5 _).mono rfl), fun n2 n3 => ?_⟩
        · rw [cX13_go_179]
          have s5 : (rv_sI (rv_sI R 189 7 (nI v)) 189 9 (nI (b q))).2.1 189 5 = nI q := by rw [rv_sI_k _ _ (by decide), rv_sI_k _ _ (by decide)]; exact h5
          repeat (first | (conv => (lhs; arg 1; simp (disch := first | assumption | omega) only [tk_gI, tk_gL, tk_gR, tk_pI, tk_pL, rv_aI, rv_aL, rv_aR, rv_uI, rv_uL, rv_uB, rv_uZ, pu_ckI, pu_ckL, pu_lnI, pu_lnL, tk_rI, tk_rL, Option.bind_some, Option.map_some, rv_lt, tk_ix, rc_189 hB, s5])); first | rw [Option.bind_some] | rw [bp_s] | rw [if_true] | rw [if_false] | rw [rv_lt_eq] | rw [if_pos (by omega)] | rw [if_neg (by omega)])
          rw [z1, nI_add]
        · refine ⟨rv_sI_eq _ _ _ _, ?_, ?_, fun h h2 => ?_, fun h => absurd h n3, fun h => absurd h n2⟩
          · rw [rv_sI_k _ _ (by decide), rv_sI_k _ _ (by decide), rv_sI_k _ _ (by decide)]; exact h6
          · rw [rv_sI_k _ _ (by decide), rv_sI_k _ _ (by decide), rv_sI_eq, hv]
          · rw [rv_sI_k _ _ (by decide), rv_sI_eq]
            have h : 4 ≤ w := h
            exact congrArg nI (by show b q = w; omega)
      have q46 : ¬ b q = 46 → tq_mk (b q) = true → ∃ R', cX13_go_174 n R 189 (nI (b q)) 189 = some R' ∧ rvf DU R R' ∧ KR R' (q, q + 1, if tq_mk (b q) = true then b q else 1, 0, []) := fun h hm => by
        have hc := tq_mk_c hm
        obtain ⟨R', e, f, g⟩ := fin 4 (b q) (by unfold rkd; rw [if_neg h, if_pos (by omega)]) (by omega) (Or.inr rfl)
        rw [if_pos hm]
        exact ⟨R', by rw [cX13_go_174, z4]; exact e, f, g (by omega) (by omega)⟩
      have q1 : (b q = 46 ∨ tq_mk (b q) = false) → ∃ R', cX13_go_179 n R 189 (nI (b q)) 189 (1 : Int32) = some R' ∧ rvf DU R R' ∧ KR R' (q, q + 1, if tq_mk (b q) = true then b q else 1, 0, []) := fun h => by
        rw [z1]
        by_cases hm : tq_mk (b q) = true
        · have h46 : b q = 46 := by
            rcases h with h | h
            · exact h
            · rw [h] at hm; exact absurd hm (by decide)
          obtain ⟨R', e, f, g⟩ := fin 1 (b q) (by rw [h46]; rfl) (by omega) (Or.inr rfl)
          rw [if_pos hm]
          exact ⟨R', e, f, g (by omega) (by omega)⟩
        · obtain ⟨R', e, f, g⟩ := fin 1 1 rfl (by decide) (Or.inl rfl)
          rw [if_neg hm]
          exact ⟨R', e, f, g (by decide) (by decide)⟩
      have top : ∀ X, (if b q = 59 then cX13_go_174 n R 189 (nI (b q)) 189 else if b q = 60 then cX13_go_174 n R 189 (nI (b q)) 189 else if b q = 61 then cX13_go_174 n R 189 (nI (b q)) 189 else if b q = 62 then cX13_go_174 n R 189 (nI (b q)) 189 else if b q = 40 then cX13_go_174 n R 189 (nI (b q)) 189 else if b q = 41 then cX13_go_174 n R 189 (nI (b q)) 189 else cX13_go_179 n R 189 (nI (b q)) 189 (1 : Int32)) = X → cX13_go_96 n R 189 = X := fun X hX => by
        rw [cX13_go_96]
        repeat (first | (conv => (lhs; arg 1; simp (disch := first | assumption | omega) only [tk_gI, tk_gL, tk_gR, tk_pI, tk_pL, rv_aI, rv_aL, rv_aR, rv_uI, rv_uL, rv_uB, rv_uZ, pu_ckI, pu_ckL, pu_lnI, pu_lnL, tk_rI, tk_rL, Option.bind_some, Option.map_some, rv_lt, tk_ix, rc_189 hB, h5, hT.2.2.1])); first | rw [Option.bind_some] | rw [bp_s] | rw [if_true] | rw [if_false] | rw [rv_lt_eq] | rw [if_pos (by omega)] | rw [if_neg (by omega)])
        rw [if_pos (by rw [n_lt (by omega) (by omega)]; omega)]
        repeat (first | (conv => (lhs; arg 1; simp (disch := first | assumption | omega) only [tk_gI, tk_gL, tk_gR, tk_pI, tk_pL, rv_aI, rv_aL, rv_aR, rv_uI, rv_uL, rv_uB, rv_uZ, pu_ckI, pu_ckL, pu_lnI, pu_lnL, tk_rI, tk_rL, Option.bind_some, Option.map_some, rv_lt, tk_ix, rc_189 hB, h5, r1, rn_190 hB, h190, kl])); first | rw [Option.bind_some] | rw [bp_s] | rw [if_true] | rw [if_false] | rw [rv_lt_eq] | rw [if_pos (by omega)] | rw [if_neg (by omega)])
        rw [if_pos (show bI false = 0 from rfl), kd, Option.bind_some, if_pos (show bI false = 0 from rfl), z59, z60, z61, z62, z40, z41]
        simp (disch := first | assumption | omega) only [n_eq]
        exact hX
      suffices hs : ∃ R', (if b q = 59 then cX13_go_174 n R 189 (nI (b q)) 189 else if b q = 60 then cX13_go_174 n R 189 (nI (b q)) 189 else if b q = 61 then cX13_go_174 n R 189 (nI (b q)) 189 else if b q = 62 then cX13_go_174 n R 189 (nI (b q)) 189 else if b q = 40 then cX13_go_174 n R 189 (nI (b q)) 189 else if b q = 41 then cX13_go_174 n R 189 (nI (b q)) 189 else cX13_go_179 n R 189 (nI (b q)) 189 (1 : Int32)) = some R' ∧ rvf DU R R' ∧ KR R' (q, q + 1, if tq_mk (b q) = true then b q else 1, 0, []) by
        obtain ⟨R', e1, g⟩ := hs
        exact ⟨R', top _ e1, g⟩
      by_cases d1 : b q = 59
      · rw [if_pos d1]; exact q46 (by omega) (by rw [d1]; rfl)
      · rw [if_neg d1]
        by_cases d2 : b q = 60
        · rw [if_pos d2]; exact q46 (by omega) (by rw [d2]; rfl)
        · rw [if_neg d2]
          by_cases d3 : b q = 61
          · rw [if_pos d3]; exact q46 (by omega) (by rw [d3]; rfl)
          · rw [if_neg d3]
            by_cases d4 : b q = 62
            · rw [if_pos d4]; exact q46 (by omega) (by rw [d4]; rfl)
            · rw [if_neg d4]
              by_cases d5 : b q = 40
              · rw [if_pos d5]; exact q46 (by omega) (by rw [d5]; rfl)
              · rw [if_neg d5]
                by_cases d6 : b q = 41
                · rw [if_pos d6]; exact q46 (by omega) (by rw [d6]; rfl)
                · rw [if_neg d6]
                  refine q1 ?_
                  by_cases d7 : b q = 46
                  · exact Or.inl d7
                  · right
                    cases h : tq_mk (b q)
                    · rfl
                    · have := tq_mk_c h; omega
theorem m_go (hn : 1000 ≤ n) {p : Nat} (hB : rv_B R) (hT : TXR R b L M) (h5 : R.2.1 189 5 = nI p) (hp : p ≤ L) : ∃ R', fnX13_go n R 189 = some R' ∧ rvf DU R R' ∧ KR R' (tq_nx b L M p) := by
  have hL := hT.1
  have hM := hT.2.1
  have e52 : ∀ q (R : rvS), q ≤ L → rv_B R → TXR R b L M → R.2.1 189 5 = nI q → ∃ R', cX13_go_52 n R 189 = some R' ∧ rvf DU R R' ∧ KR R' (if M < L ∧ M ≤ q then (M, q, 1, 0, []) else if L ≤ q then (q, q, 0, 0, []) else if tq_rn (b q) = true then (q, q + (tq_run b q (L - q)).length, tq_kd (tq_run b q (L - q)), tq_dec (tq_run b q (L - q)), (tq_run b q (L - q)).map (fun x => x - 96)) else (q, q + 1, if tq_mk (b q) = true then b q else 1, 0, [])) := fun q R hq hB hT h5 => by
    obtain ⟨R2, eR2⟩ : ∃ R2, R2 = rv_sI R 189 6 (nI q) := ⟨_, rfl⟩
    have f2 : rvf DU R R2 := by
      rw [eR2]
      exact (rvf.sI R 189 6 _).mono rfl
    have hB2 := f2.B hB
    have hT2 := hT.f f2 rfl rfl rfl
    have g5 : R2.2.1 189 5 = nI q := by rw [eR2, rv_sI_k _ _ (by decide)]; exact h5
    have g6 : R2.2.1 189 6 = nI q := by rw [eR2, rv_sI_eq]
    have top : ∀ X, (if nI L ≤ nI M then cX13_go_96 n R2 189 else if nI q < nI M then cX13_go_96 n R2 189 else some (rv_sI (rv_sI R2 189 6 (nI M)) 189 7 (nI 1))) = X → cX13_go_52 n R 189 = X := fun X hX => by
      rw [cX13_go_52]
      repeat (first | (conv => (lhs; arg 1; simp (disch := first | assumption | omega) only [tk_gI, tk_gL, tk_gR, tk_pI, tk_pL, rv_aI, rv_aL, rv_aR, rv_uI, rv_uL, rv_uB, rv_uZ, pu_ckI, pu_ckL, pu_lnI, pu_lnL, tk_rI, tk_rL, Option.bind_some, Option.map_some, rv_lt, tk_ix, rc_189 hB, h5])); first | rw [Option.bind_some] | rw [bp_s] | rw [if_true] | rw [if_false] | rw [rv_lt_eq] | rw [if_pos (by omega)] | rw [if_neg (by omega)])
      rw [← eR2, hT2.2.2.1, hT2.2.2.2.1, ← hX]
      by_cases c1 : nI L ≤ nI M
      · rw [if_pos c1, if_pos c1]
      · rw [if_neg c1, if_neg c1]
        repeat (first | (conv => (lhs; arg 1; simp (disch := first | assumption | omega) only [tk_gI, tk_gL, tk_gR, tk_pI, tk_pL, rv_aI, rv_aL, rv_aR, rv_uI, rv_uL, rv_uB, rv_uZ, pu_ckI, pu_ckL, pu_lnI, pu_lnL, tk_rI, tk_rL, Option.bind_some, Option.map_some, rv_lt, tk_ix, rc_189 hB2, g6, hT2.2.2.2.1])); first | rw [Option.bind_some] | rw [bp_s] | rw [if_true] | rw [if_false] | rw [rv_lt_eq] | rw [if_pos (by omega)] | rw [if_neg (by omega)])
        by_cases c2 : nI q < nI M
        · rw [if_pos c2, if_pos c2]
        · rw [if_neg c2, if_neg c2]
          repeat (first | (conv => (lhs; arg 1; simp (disch := first | assumption | omega) only [tk_gI, tk_gL, tk_gR, tk_pI, tk_pL, rv_aI, rv_aL, rv_aR, rv_uI, rv_uL, rv_uB, rv_uZ, pu_ckI, pu_ckL, pu_lnI, pu_lnL, tk_rI, tk_rL, Option.bind_some, Option.map_some, rv_lt, tk_ix, rc_189 hB2, g6, hT2.2.2.2.1])); first | rw [Option.bind_some] | rw [bp_s] | rw [if_true] | rw [if_false] | rw [rv_lt_eq] | rw [if_pos (by omega)] | rw [if_neg (by omega)])
          rw [z1]
    obtain ⟨R', e1, f1, k1⟩ := m_go96 (n := n) hn hB2 hT2 g5 hq g6
    by_cases c : M < L ∧ M ≤ q
    · rw [if_pos c]
      refine ⟨rv_sI (rv_sI R2 189 6 (nI M)) 189 7 (nI 1), top _ ?_, (f2.tr ((rvf.sI R2 189 6 _).mono rfl)).tr ((rvf.sI _ 189 7 _).mono rfl), ?_⟩
      · rw [if_neg (by rw [n_le (by omega) (by omega)]; omega), if_neg (by rw [n_lt (by omega) (by omega)]; omega)]
      · refine ⟨?_, ?_, rv_sI_eq _ _ _ _, fun h => absurd (show 4 ≤ 1 from h) (by decide), fun h => absurd (show 1 = 3 from h) (by decide), fun h => absurd (show 1 = 2 from h) (by decide)⟩
        · rw [rv_sI_k _ _ (by decide), rv_sI_k _ _ (by decide)]; exact g5
        · rw [rv_sI_k _ _ (by decide), rv_sI_eq]
    · rw [if_neg c]
      refine ⟨R', top _ ?_, f2.tr f1, k1⟩
      by_cases c1 : L ≤ M
      · rw [if_pos (by rw [n_le (by omega) (by omega)]; exact c1)]; exact e1
      · rw [if_neg (by rw [n_le (by omega) (by omega)]; exact c1), if_pos (by rw [n_lt (by omega) (by omega)]; omega)]; exact e1
  have key : ∀ r p q (R : rvS), p + r = L → r < q → rv_B R → TXR R b L M → R.2.1 189 5 = nI p → ∃ R', cX13_go_0 n q R 189 = some R' ∧ rvf DU R R' ∧ KR R' (if M < L ∧ M ≤ tq_skp b p r then (M, tq_skp b p r, 1, 0, []) else if L ≤ tq_skp b p r then (tq_skp b p r, tq_skp b p r, 0, 0, []) else if tq_rn (b (tq_skp b p r)) = true then (tq_skp b p r, tq_skp b p r + (tq_run b (tq_skp b p r) (L - tq_skp b p r)).length, tq_kd (tq_run b (tq_skp b p r) (L - tq_skp b p r)), tq_dec (tq_run b (tq_skp b p r) (L - tq_skp b p r)), (tq_run b (tq_skp b p r) (L - tq_skp b p r)).map (fun x => x - 96)) else (tq_skp b p r, tq_skp b p r + 1, if tq_mk (b (tq_skp b p r)) = true then b (tq_skp b p r) else 1, 0, [])) := by
    intro r
    induction r with
    | zero =>
      intro p q R hp hq hB hT h5
      obtain ⟨q, rfl⟩ : ∃ q', q = q' + 1 := ⟨q - 1, by omega⟩
      have es : tq_skp b p 0 = p := rfl
      rw [es]
      obtain ⟨R', e1, g⟩ := e52 p R (by omega) hB hT h5
      refine ⟨R', ?_, g⟩
      rw [cX13_go_0]
      repeat (first | (conv => (lhs; arg 1; simp (disch := first | assumption | omega) only [tk_gI, tk_gL, tk_gR, tk_pI, tk_pL, rv_aI, rv_aL, rv_aR, rv_uI, rv_uL, rv_uB, rv_uZ, pu_ckI, pu_ckL, pu_lnI, pu_lnL, tk_rI, tk_rL, Option.bind_some, Option.map_some, rv_lt, tk_ix, rc_189 hB, h5, hT.2.2.1])); first | rw [Option.bind_some] | rw [bp_s] | rw [if_true] | rw [if_false] | rw [rv_lt_eq] | rw [if_pos (by omega)] | rw [if_neg (by omega)])
      rw [if_pos (by rw [n_le (by omega) (by omega)]; omega)]
      exact e1
    | succ r ih =>
      intro p q R hp hq hB hT h5
      obtain ⟨q, rfl⟩ : ∃ q', q = q' + 1 := ⟨q - 1, by omega⟩
      obtain ⟨hb, h190⟩ := hT.2.2.2.2 p (by omega)
      have r1 := rf_of hB (show (189, 1, 190) ∈ rv_rf0 by decide)
      obtain ⟨R2, eR2⟩ : ∃ R2, R2 = rv_sI R 189 5 (nI (p + 1)) := ⟨_, rfl⟩
      have e39 : cX13_go_39 n (fun a0 S => cX13_go_0 n q S a0) R 189 = cX13_go_0 n q R2 189 := by
        rw [cX13_go_39]
        repeat (first | (conv => (lhs; arg 1; simp (disch := first | assumption | omega) only [tk_gI, tk_gL, tk_gR, tk_pI, tk_pL, rv_aI, rv_aL, rv_aR, rv_uI, rv_uL, rv_uB, rv_uZ, pu_ckI, pu_ckL, pu_lnI, pu_lnL, tk_rI, tk_rL, Option.bind_some, Option.map_some, rv_lt, tk_ix, rc_189 hB, h5])); first | rw [Option.bind_some] | rw [bp_s] | rw [if_true] | rw [if_false] | rw [rv_lt_eq] | rw [if_pos (by omega)] | rw [if_neg (by omega)])
        rw [z1, nI_add, eR2]
      have top : ∀ X, (if b p = 32 then cX13_go_0 n q R2 189 else if b p = 10 then cX13_go_0 n q R2 189 else cX13_go_52 n R 189) = X → cX13_go_0 n (q + 1) R 189 = X := fun X hX => by
        rw [cX13_go_0]
        repeat (first | (conv => (lhs; arg 1; simp (disch := first | assumption | omega) only [tk_gI, tk_gL, tk_gR, tk_pI, tk_pL, rv_aI, rv_aL, rv_aR, rv_uI, rv_uL, rv_uB, rv_uZ, pu_ckI, pu_ckL, pu_lnI, pu_lnL, tk_rI, tk_rL, Option.bind_some, Option.map_some, rv_lt, tk_ix, rc_189 hB, h5, hT.2.2.1])); first | rw [Option.bind_some] | rw [bp_s] | rw [if_true] | rw [if_false] | rw [rv_lt_eq] | rw [if_pos (by omega)] | rw [if_neg (by omega)])
        rw [if_neg (by rw [n_le (by omega) (by omega)]; omega)]
        repeat (first | (conv => (lhs; arg 1; simp (disch := first | assumption | omega) only [tk_gI, tk_gL, tk_gR, tk_pI, tk_pL, rv_aI, rv_aL, rv_aR, rv_uI, rv_uL, rv_uB, rv_uZ, pu_ckI, pu_ckL, pu_lnI, pu_lnL, tk_rI, tk_rL, Option.bind_some, Option.map_some, rv_lt, tk_ix, rc_189 hB, h5, r1, rn_190 hB, h190])); first | rw [Option.bind_some] | rw [bp_s] | rw [if_true] | rw [if_false] | rw [rv_lt_eq] | rw [if_pos (by omega)] | rw [if_neg (by omega)])
        rw [← hX, z32]
        simp (disch := first | assumption | omega) only [n_eq]
        rw [e39]
        by_cases d : b p = 32
        · rw [if_pos d, if_pos d]
        · rw [if_neg d, if_neg d]
          repeat (first | (conv => (lhs; arg 1; simp (disch := first | assumption | omega) only [tk_gI, tk_gL, tk_gR, tk_pI, tk_pL, rv_aI, rv_aL, rv_aR, rv_uI, rv_uL, rv_uB, rv_uZ, pu_ckI, pu_ckL, pu_lnI, pu_lnL, tk_rI, tk_rL, Option.bind_some, Option.map_some, rv_lt, tk_ix, rc_189 hB, h5, r1, rn_190 hB, h190])); first | rw [Option.bind_some] | rw [bp_s] | rw [if_true] | rw [if_false] | rw [rv_lt_eq] | rw [if_pos (by omega)] | rw [if_neg (by omega)])
          rw [z10]
          simp (disch := first | assumption | omega) only [n_eq]
      by_cases c : tq_bk (b p) = true
      · have es : tq_skp b p (r + 1) = tq_skp b (p + 1) r := by rw [tq_skp, if_pos c]
        rw [es]
        have f2 : rvf DU R R2 := by
          rw [eR2]
          exact (rvf.sI R 189 5 _).mono rfl
        obtain ⟨R', e1, f1, k1⟩ := ih (p + 1) q R2 (by omega) (by omega) (f2.B hB) (hT.f f2 rfl rfl rfl) (by rw [eR2, rv_sI_eq])
        refine ⟨R', top _ ?_, f2.tr f1, k1⟩
        have : b p = 32 ∨ b p = 10 := by
          unfold tq_bk at c
          simpa using c
        rcases this with d | d
        · rw [if_pos d]; exact e1
        · rw [if_neg (by omega), if_pos d]; exact e1
      · have es : tq_skp b p (r + 1) = p := by rw [tq_skp, if_neg c]
        rw [es]
        obtain ⟨R', e1, g⟩ := e52 p R (by omega) hB hT h5
        refine ⟨R', top _ ?_, g⟩
        have : ¬ (b p = 32 ∨ b p = 10) := fun h => c (by unfold tq_bk; simpa using h)
        rw [if_neg (fun h => this (Or.inl h)), if_neg (fun h => this (Or.inr h))]
        exact e1
  exact key (L - p) p n R (by omega) (by omega) hB hT h5
end
