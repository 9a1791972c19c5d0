/-! TEXTS: both sides at the same token -/
section
variable {n : Nat} {C R : rvS} {b : Nat → Nat} {L M : Nat} {T : Tk} {m : Nat → Nat} {wd : Nat → List Nat}
theorem tx_to {p : Nat} (hp : p ≤ L) : (tq_nx b L M p).2.1 ≤ L := by
  obtain ⟨s1, s2⟩ := tq_skp_le b (L - p) p
  unfold tq_nx
  obtain ⟨q, eq⟩ : ∃ q, q = tq_skp b p (L - p) := ⟨_, rfl⟩
  rw [← eq] at s1 s2 ⊢
  split
  · show q ≤ L; omega
  · split
    · show q ≤ L; omega
    · split
      · have l1 := (tq_run_le b (L - q) q).1
        show q + (tq_run b q (L - q)).length ≤ L
        omega
      · show q + 1 ≤ L; omega
/-- both sides have this token -/
def KX (C R : rvS) (b : Nat → Nat) (L M : Nat) (T : Tk) : Prop := rv_B C ∧ rv_B R ∧ TXC C b L M ∧ TXR R b L M ∧ KC C T ∧ KR R T ∧ okT T ∧ T.2.1 ≤ L ∧ R.2.1 189 10 = nI 0
/-- both sides told the same fault -/
def FL (C R : rvS) : Prop := ∃ f p, f ≤ 4 ∧ p ≤ 940 ∧ C.2.1 65 9 = nI f ∧ C.2.1 65 10 = nI p ∧ R.2.1 189 10 = nI f ∧ R.2.1 189 11 = nI p
theorem KX.fc {D : List Nat} {C' : rvS} (h : KX C R b L M T) (f : rvf D C C') (hd : [65001, 65002, 65003, 65004, 65005, 65006, 65007, 65008, 66].all (fun a => !D.elem a) = true) : KX C' R b L M T := by
  have g : ∀ a, a ∈ [65001, 65002, 65003, 65004, 65005, 65006, 65007, 65008, 66] → D.elem a = false := fun a ha => by
    have := List.all_eq_true.mp hd a ha
    simpa using this
  obtain ⟨h1, h2, h3, h4, ⟨k1, k2, k3, k4, k5⟩, h6, h7, h8⟩ := h
  have e8 : C'.2.2.2 65 8 = C.2.2.2 65 8 := f.2.1.2 65 8 (fun z => by
    have := g 65008 (by decide)
    have z : (65008 : Nat) ∈ D := z
    rw [List.elem_iff.mpr z] at this
    cases this)
  refine ⟨f.B h1, h2, h3.f f (g _ (by decide)) (g _ (by decide)) (g _ (by decide)), h4, ⟨?_, ?_, ?_, fun z => ?_, fun z => ?_⟩, h6, h7, h8⟩
  · rw [f.at (a := 65) (k := 3) (g _ (by decide))]; exact k1
  · rw [f.at (a := 65) (k := 5) (g _ (by decide))]; exact k2
  · rw [f.at (a := 65) (k := 4) (g _ (by decide))]; exact k3
  · rw [f.at (a := 65) (k := 6) (g _ (by decide))]; exact k4 z
  · rw [f.atL (a := 65) (k := 7) (g _ (by decide)), e8]; exact k5 z
theorem KX.fr {D : List Nat} {R' : rvS} (h : KX C R b L M T) (f : rvf D R R') (hd : [189003, 189004, 189005, 189006, 189007, 189008, 189009, 189010, 189012, 190].all (fun a => !D.elem a) = true) : KX C R' b L M T := by
  have g : ∀ a, a ∈ [189003, 189004, 189005, 189006, 189007, 189008, 189009, 189010, 189012, 190] → D.elem a = false := fun a ha => by
    have := List.all_eq_true.mp hd a ha
    simpa using this
  obtain ⟨h1, h2, h3, h4, h5, ⟨k1, k2, k3, k4, k5, k6⟩, h7, h8⟩ := h
  refine ⟨h1, f.B h2, h3, h4.f f (g _ (by decide)) (g _ (by decide)) (g _ (by decide)), h5, ⟨?_, ?_, ?_, fun z z2 => ?_, fun z => ?_, fun z => ?_⟩, h7, h8.1, by rw [f.at (a := 189) (k := 10) (g _ (by decide))]; exact h8.2⟩
  · rw [f.at (a := 189) (k := 5) (g _ (by decide))]; exact k1
  · rw [f.at (a := 189) (k := 6) (g _ (by decide))]; exact k2
  · rw [f.at (a := 189) (k := 7) (g _ (by decide))]; exact k3
  · rw [f.at (a := 189) (k := 9) (g _ (by decide))]; exact k4 z z2
  · rw [f.at (a := 189) (k := 8) (g _ (by decide))]; exact k5 z
  · rw [f.atL (a := 189) (k := 12) (g _ (by decide))]; exact k6 z
theorem tx_mono {p : Nat} (hp : p ≤ L) : p ≤ (tq_nx b L M p).2.1 ∧ ((tq_nx b L M p).2.2.1 ≠ 0 → (tq_nx b L M p).2.2.1 ≠ 1 → p < (tq_nx b L M p).2.1) := by
  obtain ⟨s1, s2⟩ := tq_skp_le b (L - p) p
  unfold tq_nx
  obtain ⟨q, eq⟩ : ∃ q, q = tq_skp b p (L - p) := ⟨_, rfl⟩
  rw [← eq] at s1 s2 ⊢
  split
  · exact ⟨s1, fun _ h => absurd rfl h⟩
  · split
    · exact ⟨s1, fun h => absurd rfl h⟩
    · rename_i hq
      split
      · rename_i hr
        obtain ⟨r, er⟩ : ∃ r, L - q = r + 1 := ⟨L - q - 1, by omega⟩
        have l2 : 1 ≤ (tq_run b q (L - q)).length := by rw [er]; exact run_pos b hr
        exact ⟨show p ≤ q + (tq_run b q (L - q)).length by omega, fun _ _ => show p < q + (tq_run b q (L - q)).length by omega⟩
      · exact ⟨show p ≤ q + 1 by omega, fun _ _ => show p < q + 1 by omega⟩
/-- the next token -/
def NXT (b : Nat → Nat) (L M : Nat) (T T' : Tk) : Prop := T' = tq_nx b L M T.2.1 ∧ T.2.1 ≤ T'.2.1 ∧ T.2.1 ≤ L
theorem lk_next (hn : 1000 ≤ n) (h : KX C R b L M T) : ∃ C' R' T', fnX8_next n C 65 = some C' ∧ fnX13_go n R 189 = some R' ∧ rvf DT C C' ∧ rvf DU R R' ∧ KX C' R' b L M T' ∧ NXT b L M T T' := by
  obtain ⟨h1, h2, h3, h4, h5, h6, h7, h8⟩ := h
  obtain ⟨C', e1, f1, g1⟩ := kt_next (n := n) hn h1 h3 h5.1 h8.1
  obtain ⟨R', e2, f2, g2⟩ := m_go (n := n) hn h2 h4 h6.1 h8.1
  exact ⟨C', R', tq_nx b L M T.2.1, e1, e2, f1, f2, ⟨f1.B h1, f2.B h2, h3.f f1 rfl rfl rfl, h4.f f2 rfl rfl rfl, g1, g2, tx_ok h3.1 h3.2.1 (fun j hj => (h3.2.2.2.2 j hj).1) h8.1, tx_to h8.1, by rw [f2.at (a := 189) (k := 10) rfl]; exact h8.2⟩, rfl, (tx_mono h8.1).1, h8.1⟩
theorem rkd_1 {k : Nat} : rkd k = 1 ↔ k = 1 ∨ k = 46 := by
  unfold rkd
  split
  · omega
  · split <;> omega
theorem rkd_s {k j : Nat} (hj : j = 0 ∨ j = 2 ∨ j = 3) : rkd k = j ↔ k = j := by
  unfold rkd
  split
  · omega
  · split <;> omega
theorem rkd_4 {k : Nat} : rkd k = 4 ↔ 4 ≤ k ∧ k ≠ 46 := by
  unfold rkd
  split
  · omega
  · split <;> omega
theorem rkd_0e {k : Nat} : (rkd k = 0) = (k = 0) := propext (rkd_s (by decide))
theorem rkd_2e {k : Nat} : (rkd k = 2) = (k = 2) := propext (rkd_s (by decide))
theorem rkd_3e {k : Nat} : (rkd k = 3) = (k = 3) := propext (rkd_s (by decide))
theorem rkd_1e {k : Nat} : (rkd k = 1) = (k = 1 ∨ k = 46) := propext rkd_1
theorem rkd_4e {k : Nat} : (rkd k = 4) = (4 ≤ k ∧ k ≠ 46) := propext rkd_4
theorem rkd_lt (k : Nat) : rkd k ≤ 4 := by
  unfold rkd
  split
  · decide
  · split <;> omega
theorem lk_fail (h : KX C R b L M T) {f : Nat} (hf : f ≤ 4) (h1 : f = 1 ∨ (T.2.2.1 ≠ 1 ∧ T.2.2.1 ≠ 46)) : ∃ C' R', fnX8_fail n C 65 (nI f) = some (0, C') ∧ fnX13_bad n R 189 (nI f) = some (0, R') ∧ rvf [65009, 65010] C C' ∧ rvf [189010, 189011] R R' ∧ FL C' R' := by
  obtain ⟨hB, hB2, -, -, hC, hR, hT, -⟩ := h
  have hr := rkd_lt T.2.2.1
  refine ⟨rv_sI (rv_sI C 65 9 (nI f)) 65 10 (nI T.1), rv_sI (rv_sI R 189 10 (nI f)) 189 11 (nI T.1), ?_, ?_, ((rvf.sI C 65 9 _).mono rfl).tr ((rvf.sI _ 65 10 _).mono rfl), ((rvf.sI R 189 10 _).mono rfl).tr ((rvf.sI _ 189 11 _).mono rfl), f, T.1, hf, hT.1, ?_, rv_sI_eq _ _ _ _, ?_, rv_sI_eq _ _ _ _⟩
  · rw [fnX8_fail]
    have s5 : (rv_sI C 65 9 (nI f)).2.1 65 5 = nI T.1 := (rv_sI_k _ _ (by decide) _).trans hC.2.1
    repeat (first | (conv => (lhs; arg 1; simp (disch := first | assumption | omega) only [tk_gI, tk_gL, tk_gR, tk_pI, tk_pL, rv_aI, rv_aL, rv_aR, rv_uI, rv_uL, rv_uB, rv_uZ, pu_ckI, pu_ckL, pu_lnI, pu_lnL, tk_rI, tk_rL, Option.bind_some, Option.map_some, rv_lt, tk_ix, rc_65 hB, s5])); first | rw [Option.bind_some] | rw [bp_s] | rw [if_true] | rw [if_false] | rw [rv_lt_eq] | rw [if_pos (by omega)] | rw [if_neg (by omega)])
  · have s6 : (rv_sI R 189 10 (nI f)).2.1 189 6 = nI T.1 := (rv_sI_k _ _ (by decide) _).trans hR.2.1
    have e14 : cX13_bad_14 n R 189 189 (nI f) = some (0, rv_sI (rv_sI R 189 10 (nI f)) 189 11 (nI T.1)) := by
      rw [cX13_bad_14]
      repeat (first | (conv => (lhs; arg 1; simp (disch := first | assumption | omega) only [tk_gI, tk_gL, tk_gR, tk_pI, tk_pL, rv_aI, rv_aL, rv_aR, rv_uI, rv_uL, rv_uB, rv_uZ, pu_ckI, pu_ckL, pu_lnI, pu_lnL, tk_rI, tk_rL, Option.bind_some, Option.map_some, rv_lt, tk_ix, rc_189 hB2, s6])); first | rw [Option.bind_some] | rw [bp_s] | rw [if_true] | rw [if_false] | rw [rv_lt_eq] | rw [if_pos (by omega)] | rw [if_neg (by omega)])
    rw [fnX13_bad]
    repeat (first | (conv => (lhs; arg 1; simp (disch := first | assumption | omega) only [tk_gI, tk_gL, tk_gR, tk_pI, tk_pL, rv_aI, rv_aL, rv_aR, rv_uI, rv_uL, rv_uB, rv_uZ, pu_ckI, pu_ckL, pu_lnI, pu_lnL, tk_rI, tk_rL, Option.bind_some, Option.map_some, rv_lt, tk_ix, rc_189 hB2, hR.2.2.1])); first | rw [Option.bind_some] | rw [bp_s] | rw [if_true] | rw [if_false] | rw [rv_lt_eq] | rw [if_pos (by omega)] | rw [if_neg (by omega)])
    rw [z1]
    simp (disch := first | assumption | omega) only [n_eq, rkd_1e]
    by_cases c : T.2.2.1 = 1 ∨ T.2.2.1 = 46
    · rw [if_pos c]
      have : f = 1 := by omega
      rw [this] at e14
      rw [e14, this]
    · rw [if_neg c]; exact e14
  · rw [rv_sI_k _ _ (by decide), rv_sI_eq]
  · rw [rv_sI_k _ _ (by decide), rv_sI_eq]
/-! which word -/
def iw (T : Tk) (w : Nat) : Bool := decide (T.2.2.1 = 2) && decide (wo T.2.2.2.2 = w)
theorem iw_2 {w : Nat} (h : iw T w = true) : T.2.2.1 = 2 ∧ wo T.2.2.2.2 = w := by
  unfold iw at h
  simpa using h
theorem k_isWord (hB : rv_B C) (hC : KC C T) (hT : okT T) {w : Nat} (hw : w < 23) : fnX8_isWord n C 65 w = some (bI (iw T w)) := by
  have h64 := hT.2.2.1
  rw [fnX8_isWord]
  repeat (first | (conv => (lhs; arg 1; simp (disch := first | assumption | omega) only [tk_gI, tk_gL, tk_gR, tk_pI, tk_pL, rv_aI, rv_aL, rv_aR, rv_uI, rv_uL, rv_uB, rv_uZ, pu_ckI, pu_ckL, pu_lnI, pu_lnL, tk_rI, tk_rL, Option.bind_some, Option.map_some, rv_lt, tk_ix, rc_65 hB, hC.2.2.1])); first | rw [Option.bind_some] | rw [bp_s] | rw [if_true] | rw [if_false] | rw [rv_lt_eq] | rw [if_pos (by omega)] | rw [if_neg (by omega)])
  rw [z2]
  simp (disch := first | assumption | omega) only [n_eq]
  unfold iw
  by_cases c : T.2.2.1 = 2
  · have e := (hC.2.2.2.2 c).2
    rw [if_pos c, decide_eq_true c, Bool.true_and]
    repeat (first | (conv => (lhs; arg 1; simp (disch := first | assumption | omega) only [tk_gI, tk_gL, tk_gR, tk_pI, tk_pL, rv_aI, rv_aL, rv_aR, rv_uI, rv_uL, rv_uB, rv_uZ, pu_ckI, pu_ckL, pu_lnI, pu_lnL, tk_rI, tk_rL, Option.bind_some, Option.map_some, rv_lt, tk_ix, rc_65 hB, e, wd_23 (wo_lt T.2.2.2.2), wd_23 hw])); first | rw [Option.bind_some] | rw [bp_s] | rw [if_true] | rw [if_false] | rw [rv_lt_eq] | rw [if_pos (by omega)] | rw [if_neg (by omega)])
    by_cases c2 : wo T.2.2.2.2 = w
    · rw [if_pos c2, decide_eq_true c2]; rfl
    · rw [if_neg c2, decide_eq_false c2]; rfl
  · rw [if_neg c, decide_eq_false c, Bool.false_and]; rfl
theorem m_word0 {l : List Nat} (hl : okL l) {k : Nat} (hk : k < 22) : (lg_cmp (lN (c27 l)) (lN (c27 (WL k))) = nI 0) = (wo l = k) := by
  have h1 := c27_lt hl
  have h2 := c27_lt (WL_ok k hk)
  simp (disch := first | assumption | omega) only [m_cmp]
  rw [wo_eq hk, eq_iff_iff]
  exact ⟨fun e => (c27_inj hl (WL_ok k hk) e).symm, fun e => by rw [e]⟩
theorem m_isWord (hB : rv_B R) (hR : KR R T) (hT : okT T) {k : Nat} (hk : k < 22) : fnX13_isWord n R 189 (nI k) = some (bI (iw T k)) := by
  have hr := rkd_lt T.2.2.1
  rw [fnX13_isWord]
  repeat (first | (conv => (lhs; arg 1; simp (disch := first | assumption | omega) only [tk_gI, tk_gL, tk_gR, tk_pI, tk_pL, rv_aI, rv_aL, rv_aR, rv_uI, rv_uL, rv_uB, rv_uZ, pu_ckI, pu_ckL, pu_lnI, pu_lnL, tk_rI, tk_rL, Option.bind_some, Option.map_some, rv_lt, tk_ix, rc_189 hB, hR.2.2.1])); first | rw [Option.bind_some] | rw [bp_s] | rw [if_true] | rw [if_false] | rw [rv_lt_eq] | rw [if_pos (by omega)] | rw [if_neg (by omega)])
  rw [z2]
  simp (disch := first | assumption | omega) only [n_eq, rkd_0e, rkd_2e, rkd_3e]
  unfold iw
  by_cases c : T.2.2.1 = 2
  · have e := hR.2.2.2.2.2 c
    rw [if_pos c, decide_eq_true c, Bool.true_and]
    repeat (first | (conv => (lhs; arg 1; simp (disch := first | assumption | omega) only [tk_gI, tk_gL, tk_gR, tk_pI, tk_pL, rv_aI, rv_aL, rv_aR, rv_uI, rv_uL, rv_uB, rv_uZ, pu_ckI, pu_ckL, pu_lnI, pu_lnL, tk_rI, tk_rL, Option.bind_some, Option.map_some, rv_lt, tk_ix, rc_189 hB, e, m_wordOf n R hk])); first | rw [Option.bind_some] | rw [bp_s] | rw [if_true] | rw [if_false] | rw [rv_lt_eq] | rw [if_pos (by omega)] | rw [if_neg (by omega)])
    rw [z0]
    simp only [m_word0 (hT.2.2.2.2.2 c) hk]
    by_cases c2 : wo T.2.2.2.2 = k
    · rw [if_pos c2, decide_eq_true c2]; rfl
    · rw [if_neg c2, decide_eq_false c2]; rfl
  · rw [if_neg c, decide_eq_false c, Bool.false_and]; rfl
theorem m_isName (hn : 30 ≤ n) (hB : rv_B R) (hR : KR R T) (hT : okT T) : fnX13_isName n R 189 = some (bI (iw T 22)) := by
  have hr := rkd_lt T.2.2.1
  rw [fnX13_isName]
  repeat (first | (conv => (lhs; arg 1; simp (disch := first | assumption | omega) only [tk_gI, tk_gL, tk_gR, tk_pI, tk_pL, rv_aI, rv_aL, rv_aR, rv_uI, rv_uL, rv_uB, rv_uZ, pu_ckI, pu_ckL, pu_lnI, pu_lnL, tk_rI, tk_rL, Option.bind_some, Option.map_some, rv_lt, tk_ix, rc_189 hB, hR.2.2.1])); first | rw [Option.bind_some] | rw [bp_s] | rw [if_true] | rw [if_false] | rw [rv_lt_eq] | rw [if_pos (by omega)] | rw [if_neg (by omega)])
  rw [z2]
  simp (disch := first | assumption | omega) only [n_eq, rkd_0e, rkd_2e, rkd_3e]
  unfold iw
  by_cases c : T.2.2.1 = 2
  · have e := hR.2.2.2.2.2 c
    have hl := hT.2.2.2.2.2 c
    rw [if_pos c, decide_eq_true c, Bool.true_and]
    have key : ∀ r i q, i + r = 22 → r < q → (∀ k, k < i → wo T.2.2.2.2 ≠ k) → cX13_isName_12 n R q 189 (nI i) = some (bI (decide (wo T.2.2.2.2 = 22))) := by
      intro r
      induction r with
      | zero =>
        intro i q hi hq hno
        obtain ⟨q, rfl⟩ : ∃ q', q = q' + 1 := ⟨q - 1, by omega⟩
        have h23 := wo_lt T.2.2.2.2
        have : wo T.2.2.2.2 = 22 := by
          have := hno (wo T.2.2.2.2)
          by_cases d : wo T.2.2.2.2 < i
          · exact absurd rfl (this d)
          · omega
        rw [decide_eq_true this, cX13_isName_12, z21, if_pos (by rw [n_lt (by omega) (by omega)]; omega)]
        rfl
      | succ r ih =>
        intro i q hi hq hno
        obtain ⟨q, rfl⟩ : ∃ q', q = q' + 1 := ⟨q - 1, by omega⟩
        rw [cX13_isName_12, z21, if_neg (by rw [n_lt (by omega) (by omega)]; omega)]
        repeat (first | (conv => (lhs; arg 1; simp (disch := first | assumption | omega) only [tk_gI, tk_gL, tk_gR, tk_pI, tk_pL, rv_aI, rv_aL, rv_aR, rv_uI, rv_uL, rv_uB, rv_uZ, pu_ckI, pu_ckL, pu_lnI, pu_lnL, tk_rI, tk_rL, Option.bind_some, Option.map_some, rv_lt, tk_ix, rc_189 hB, e, m_wordOf n R (show i < 22 by omega)])); first | rw [Option.bind_some] | rw [bp_s] | rw [if_true] | rw [if_false] | rw [rv_lt_eq] | rw [if_pos (by omega)] | rw [if_neg (by omega)])
        rw [z0]
        simp only [m_word0 hl (show i < 22 by omega)]
        by_cases c2 : wo T.2.2.2.2 = i
        · rw [if_pos c2, decide_eq_false (by omega)]; rfl
        · rw [if_neg c2, z1, nI_add]
          exact ih (i + 1) q (by omega) (by omega) (fun k hk => by
            by_cases d : k = i
            · rw [d]; exact c2
            · exact hno k (by omega))
    exact key 22 0 n rfl (by omega) (fun k hk => absurd hk (Nat.not_lt_zero k))
  · rw [if_neg c, decide_eq_false c, Bool.false_and]; rfl
theorem m_isSign (hB : rv_B R) (hR : KR R T) (hT : okT T) {c : Nat} (hc : 4 ≤ c) (hc2 : c < 64) (h46 : c ≠ 46) : fnX13_isSign n R 189 (nI c) = some (bI (decide (T.2.2.1 = c))) := by
  have hr := rkd_lt T.2.2.1
  have h64 := hT.2.2.1
  rw [fnX13_isSign]
  repeat (first | (conv => (lhs; arg 1; simp (disch := first | assumption | omega) only [tk_gI, tk_gL, tk_gR, tk_pI, tk_pL, rv_aI, rv_aL, rv_aR, rv_uI, rv_uL, rv_uB, rv_uZ, pu_ckI, pu_ckL, pu_lnI, pu_lnL, tk_rI, tk_rL, Option.bind_some, Option.map_some, rv_lt, tk_ix, rc_189 hB, hR.2.2.1])); first | rw [Option.bind_some] | rw [bp_s] | rw [if_true] | rw [if_false] | rw [rv_lt_eq] | rw [if_pos (by omega)] | rw [if_neg (by omega)])
  rw [z4]
  simp (disch := first | assumption | omega) only [n_eq, rkd_4e]
  by_cases d : 4 ≤ T.2.2.1 ∧ T.2.2.1 ≠ 46
  · have e := hR.2.2.2.1 d.1 d.2
    rw [if_pos d]
    repeat (first | (conv => (lhs; arg 1; simp (disch := first | assumption | omega) only [tk_gI, tk_gL, tk_gR, tk_pI, tk_pL, rv_aI, rv_aL, rv_aR, rv_uI, rv_uL, rv_uB, rv_uZ, pu_ckI, pu_ckL, pu_lnI, pu_lnL, tk_rI, tk_rL, Option.bind_some, Option.map_some, rv_lt, tk_ix, rc_189 hB, e])); first | rw [Option.bind_some] | rw [bp_s] | rw [if_true] | rw [if_false] | rw [rv_lt_eq] | rw [if_pos (by omega)] | rw [if_neg (by omega)])
    simp (disch := first | assumption | omega) only [n_eq]
    by_cases c2 : T.2.2.1 = c
    · rw [if_pos c2, decide_eq_true c2]; rfl
    · rw [if_neg c2, decide_eq_false c2]; rfl
  · rw [if_neg d, decide_eq_false (by omega)]; rfl
/-! names found -/
def fdF (wd : Nat → List Nat) (l : List Nat) : Nat → Nat → Option Nat
  | 0, _ => none
  | r + 1, i => if wd i = l then some i else fdF wd l r (i + 1)
def fI : Option Nat → Int32
  | some w => nI w
  | none => iM
theorem fdF_lt {l : List Nat} : ∀ r i w, fdF wd l r i = some w → i ≤ w ∧ w < i + r ∧ wd w = l := by
  intro r
  induction r with
  | zero => intro i w h; cases h
  | succ r ih =>
    intro i w h
    rw [fdF] at h
    split at h
    · rename_i c
      cases h
      exact ⟨Nat.le_refl _, by omega, c⟩
    · obtain ⟨g1, g2, g3⟩ := ih (i + 1) w h
      exact ⟨by omega, by omega, g3⟩
theorem k_find (hn : 50 ≤ n) (hB : rv_B C) {f : Nat} (hf : fb f) {N N1 : Nat} (hN : N ≤ 24) (h1 : N1 ≤ N) (h0 : C.2.1 f 0 = nI N) (hw : ∀ w, w < N → C.2.2.1 (f + 4) w = if w < N1 then lN (c32 (wd w)) else lN 0) (ho : ∀ w, w < N1 → okL (wd w)) {l : List Nat} (hl : okL l) : fnX1_find n C f (lN (c32 l)) = some (fI (fdF wd l N1 0)) := by
  have hS := FS_of hB hf
  have hlt := c32_lt hl
  have hps := c32_pos hl
  rw [fnX1_find, z0]
  have step : ∀ q i, i < N → cX1_find_2 n C (q + 1) f (lN (c32 l)) (nI i) = if i < N1 ∧ wd i = l then some (nI i) else cX1_find_2 n C q f (lN (c32 l)) (nI (i + 1)) := fun q i hi => by
    have e := hw i hi
    rw [cX1_find_2]
    repeat (first | (conv => (lhs; arg 1; simp (disch := first | assumption | omega) only [tk_gI, tk_gL, tk_gR, tk_pI, tk_pL, rv_aI, rv_aL, rv_aR, rv_uI, rv_uL, rv_uB, rv_uZ, pu_ckI, pu_ckL, pu_lnI, pu_lnL, tk_rI, tk_rL, Option.bind_some, Option.map_some, rv_lt, tk_ix, hS, h0])); first | rw [Option.bind_some] | rw [bp_s] | rw [if_true] | rw [if_false] | rw [rv_lt_eq] | rw [if_pos (by omega)] | rw [if_neg (by omega)])
    rw [if_neg (by rw [n_le (by omega) (by omega)]; omega)]
    repeat (first | (conv => (lhs; arg 1; simp (disch := first | assumption | omega) only [tk_gI, tk_gL, tk_gR, tk_pI, tk_pL, rv_aI, rv_aL, rv_aR, rv_uI, rv_uL, rv_uB, rv_uZ, pu_ckI, pu_ckL, pu_lnI, pu_lnL, tk_rI, tk_rL, Option.bind_some, Option.map_some, rv_lt, tk_ix, hS, e])); first | rw [Option.bind_some] | rw [bp_s] | rw [if_true] | rw [if_false] | rw [rv_lt_eq] | rw [if_pos (by omega)] | rw [if_neg (by omega)])
    by_cases c : i < N1
    · have hc := c32_lt (ho i c)
      rw [if_pos c, z0]
      simp (disch := first | assumption | omega) only [m_cmp]
      by_cases c2 : wd i = l
      · rw [if_pos (by rw [c2]), if_pos ⟨c, c2⟩]
      · rw [if_neg (fun z => c2 (c32_inj (ho i c) hl z)), if_neg (fun z => c2 z.2), z1, nI_add]
    · rw [if_neg c, z0]
      simp (disch := first | assumption | omega) only [m_cmp]
      rw [if_neg (by omega), if_neg (fun z => c z.1), z1, nI_add]
  have fin : ∀ q, cX1_find_2 n C (q + 1) f (lN (c32 l)) (nI N) = some iM := fun q => by
    rw [cX1_find_2]
    repeat (first | (conv => (lhs; arg 1; simp (disch := first | assumption | omega) only [tk_gI, tk_gL, tk_gR, tk_pI, tk_pL, rv_aI, rv_aL, rv_aR, rv_uI, rv_uL, rv_uB, rv_uZ, pu_ckI, pu_ckL, pu_lnI, pu_lnL, tk_rI, tk_rL, Option.bind_some, Option.map_some, rv_lt, tk_ix, hS, h0])); first | rw [Option.bind_some] | rw [bp_s] | rw [if_true] | rw [if_false] | rw [rv_lt_eq] | rw [if_pos (by omega)] | rw [if_neg (by omega)])
    rw [if_pos (by rw [n_le (by omega) (by omega)]; omega)]
    rfl
  have tail : ∀ r i q, i + r = N → r < q → N1 ≤ i → cX1_find_2 n C q f (lN (c32 l)) (nI i) = some iM := by
    intro r
    induction r with
    | zero =>
      intro i q hi hq h
      obtain ⟨q, rfl⟩ : ∃ q', q = q' + 1 := ⟨q - 1, by omega⟩
      have : i = N := by omega
      rw [this]; exact fin q
    | succ r ih =>
      intro i q hi hq h
      obtain ⟨q, rfl⟩ : ∃ q', q = q' + 1 := ⟨q - 1, by omega⟩
      rw [step q i (by omega), if_neg (by omega)]
      exact ih (i + 1) q (by omega) (by omega) (by omega)
  have key : ∀ r i q, i + r = N1 → N - i < q → cX1_find_2 n C q f (lN (c32 l)) (nI i) = some (fI (fdF wd l r i)) := by
    intro r
    induction r with
    | zero =>
      intro i q hi hq
      exact tail (N - i) i q (by omega) (by omega) (by omega)
    | succ r ih =>
      intro i q hi hq
      obtain ⟨q, rfl⟩ : ∃ q', q = q' + 1 := ⟨q - 1, by omega⟩
      rw [step q i (by omega), fdF]
      by_cases c : wd i = l
      · rw [if_pos ⟨by omega, c⟩, if_pos c]; rfl
      · rw [if_neg (fun z => c z.2), if_neg c]
        exact ih (i + 1) q (by omega) (by omega)
  exact key N1 0 n (by omega) (by omega)
theorem m_find (hn : 50 ≤ n) {row N : Nat} {G : Nat} (hr : rv_ln R 1 row = some G) (hG : N ≤ G) (hG2 : G < 2147483648) (hN : N ≤ 24) (hw : ∀ w, w < N → R.2.2.1 row w = lN (c27 (wd w))) (ho : ∀ w, w < N → okL (wd w)) {l : List Nat} (hl : okL l) : fnX13_findIn n R row (nI N) (lN (c27 l)) = some (fI (fdF wd l N 0)) := by
  have hlt := c27_lt hl
  rw [fnX13_findIn, z0]
  have key : ∀ r i q, i + r = N → r < q → cX13_findIn_3 n R q row (nI N) (lN (c27 l)) (nI i) = some (fI (fdF wd l r i)) := by
    intro r
    induction r with
    | zero =>
      intro i q hi hq
      obtain ⟨q, rfl⟩ : ∃ q', q = q' + 1 := ⟨q - 1, by omega⟩
      rw [cX13_findIn_3, if_pos (by rw [n_le (by omega) (by omega)]; omega)]
      rfl
    | succ r ih =>
      intro i q hi hq
      obtain ⟨q, rfl⟩ : ∃ q', q = q' + 1 := ⟨q - 1, by omega⟩
      have e := hw i (by omega)
      have hc := c27_lt (ho i (by omega))
      rw [cX13_findIn_3, if_neg (by rw [n_le (by omega) (by omega)]; omega), fdF]
      repeat (first | (conv => (lhs; arg 1; simp (disch := first | assumption | omega) only [tk_gI, tk_gL, tk_gR, tk_pI, tk_pL, rv_aI, rv_aL, rv_aR, rv_uI, rv_uL, rv_uB, rv_uZ, pu_ckI, pu_ckL, pu_lnI, pu_lnL, tk_rI, tk_rL, Option.bind_some, Option.map_some, rv_lt, tk_ix, hr, e])); first | rw [Option.bind_some] | rw [bp_s] | rw [if_true] | rw [if_false] | rw [rv_lt_eq] | rw [if_pos (by omega)] | rw [if_neg (by omega)])
      rw [z0]
      simp (disch := first | assumption | omega) only [m_cmp]
      by_cases c : wd i = l
      · rw [if_pos (by rw [c]), if_pos c]; rfl
      · rw [if_neg (fun z => c (c27_inj (ho i (by omega)) hl z)), if_neg c, z1, nI_add]
        exact ih (i + 1) q (by omega) (by omega)
  exact key N 0 n (by omega) (by omega)
end
