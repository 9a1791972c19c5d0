/-! SENTENCE: both sides between two tokens -/
section
variable {n : Nat} {S C R : rvS} {b : Nat → Nat} {L q N o wi : Nat} {T : Tk} {m : Nat → Nat} {wd : Nat → List Nat} {st : List SayT}
/-- as Den, with all nodes below M -/
def DenN (q M : Nat) (t : Nat → Int32) : Nat → Nat → List SayT → Prop
  | 0, _, _ => False
  | d + 1, k, l => k < M ∧ ((∃ w s a, l = [(w, s, a)] ∧ t (2 + 4 * k) = nI (50 + w) ∧ ((14 ≤ w ∧ w ≤ 16 ∧ a < q ∧ t (2 + 4 * k + 1) = nI a) ∨ (w = 17 ∨ w = 18) ∨ (19 ≤ w ∧ w ≤ 21 ∧ a < 1000 ∧ (s = 60 ∨ s = 61 ∨ s = 62) ∧ t (2 + 4 * k + 2) = nI a ∧ t (2 + 4 * k + 3) = nI s)))
    ∨ (∃ x l1, l = l1 ++ [(13, 0, 0)] ∧ t (2 + 4 * k) = nI 1 ∧ t (2 + 4 * k + 1) = nI x ∧ DenN q M t d x l1)
    ∨ (∃ x y l1 l2, l = l1 ++ l2 ++ [(12, 0, 0)] ∧ t (2 + 4 * k) = nI 2 ∧ t (2 + 4 * k + 1) = nI x ∧ t (2 + 4 * k + 2) = nI y ∧ DenN q M t d x l1 ∧ DenN q M t d y l2)
    ∨ (∃ x y l1 l2, l = l1 ++ l2 ++ [(11, 0, 0)] ∧ t (2 + 4 * k) = nI 3 ∧ t (2 + 4 * k + 1) = nI x ∧ t (2 + 4 * k + 2) = nI y ∧ DenN q M t d x l1 ∧ DenN q M t d y l2))
theorem DenN.c {M M' : Nat} {t t' : Nat → Int32} (hM : M ≤ M') (e : ∀ j, 2 ≤ j → j < 2 + 4 * M → t' j = t j) : ∀ {d k : Nat} {l : List SayT}, DenN q M t d k l → DenN q M' t' d k l := by
  intro d
  induction d with
  | zero => intro k l h; exact h
  | succ d ih =>
    intro k l h
    obtain ⟨hk, h⟩ := h
    have e0 : t' (2 + 4 * k) = t (2 + 4 * k) := e _ (by omega) (by omega)
    have e1 : t' (2 + 4 * k + 1) = t (2 + 4 * k + 1) := e _ (by omega) (by omega)
    have e2 : t' (2 + 4 * k + 2) = t (2 + 4 * k + 2) := e _ (by omega) (by omega)
    have e3 : t' (2 + 4 * k + 3) = t (2 + 4 * k + 3) := e _ (by omega) (by omega)
    refine ⟨by omega, ?_⟩
    rw [e0, e1, e2, e3]
    rcases h with h | ⟨x, l1, a1, a2, a3, a4⟩ | ⟨x, y, l1, l2, a1, a2, a3, a4, a5, a6⟩ | ⟨x, y, l1, l2, a1, a2, a3, a4, a5, a6⟩
    · exact Or.inl h
    · exact Or.inr (Or.inl ⟨x, l1, a1, a2, a3, ih a4⟩)
    · exact Or.inr (Or.inr (Or.inl ⟨x, y, l1, l2, a1, a2, a3, a4, ih a5, ih a6⟩))
    · exact Or.inr (Or.inr (Or.inr ⟨x, y, l1, l2, a1, a2, a3, a4, ih a5, ih a6⟩))
theorem DenN.mono {M : Nat} {t : Nat → Int32} : ∀ {d k : Nat} {l : List SayT}, DenN q M t d k l → DenN q M t (d + 1) k l := by
  intro d
  induction d with
  | zero => intro k l h; exact absurd h id
  | succ d ih =>
    rintro k l ⟨h0, h | ⟨x, l1, e, e1, e2, h⟩ | ⟨x, y, l1, l2, e, e1, e2, e3, h1, h2⟩ | ⟨x, y, l1, l2, e, e1, e2, e3, h1, h2⟩⟩
    · exact ⟨h0, Or.inl h⟩
    · exact ⟨h0, Or.inr (Or.inl ⟨x, l1, e, e1, e2, ih h⟩)⟩
    · exact ⟨h0, Or.inr (Or.inr (Or.inl ⟨x, y, l1, l2, e, e1, e2, e3, ih h1, ih h2⟩))⟩
    · exact ⟨h0, Or.inr (Or.inr (Or.inr ⟨x, y, l1, l2, e, e1, e2, e3, ih h1, ih h2⟩))⟩
theorem DenN.up {M : Nat} {t : Nat → Int32} {d k : Nat} {l : List SayT} (h : DenN q M t d k l) : ∀ j, DenN q M t (d + j) k l := by
  intro j
  induction j with
  | zero => exact h
  | succ j ih => exact DenN.mono ih
theorem DenN.den {M : Nat} {t t' : Nat → Int32} (hM : M ≤ 60) (e : ∀ j, 2 ≤ j → j < 2 + 4 * M → t' j = t j) : ∀ {d k : Nat} {l : List SayT}, DenN q M t d k l → Den q t' d k l := by
  intro d
  induction d with
  | zero => intro k l h; exact h
  | succ d ih =>
    intro k l h
    obtain ⟨hk, h⟩ := h
    have e0 : t' (2 + 4 * k) = t (2 + 4 * k) := e _ (by omega) (by omega)
    have e1 : t' (2 + 4 * k + 1) = t (2 + 4 * k + 1) := e _ (by omega) (by omega)
    have e2 : t' (2 + 4 * k + 2) = t (2 + 4 * k + 2) := e _ (by omega) (by omega)
    have e3 : t' (2 + 4 * k + 3) = t (2 + 4 * k + 3) := e _ (by omega) (by omega)
    refine ⟨by omega, ?_⟩
    rw [e0, e1, e2, e3]
    rcases h with h | ⟨x, l1, a1, a2, a3, a4⟩ | ⟨x, y, l1, l2, a1, a2, a3, a4, a5, a6⟩ | ⟨x, y, l1, l2, a1, a2, a3, a4, a5, a6⟩
    · exact Or.inl h
    · exact Or.inr (Or.inl ⟨x, l1, a1, a2, a3, ih a4⟩)
    · exact Or.inr (Or.inr (Or.inl ⟨x, y, l1, l2, a1, a2, a3, a4, ih a5, ih a6⟩))
    · exact Or.inr (Or.inr (Or.inr ⟨x, y, l1, l2, a1, a2, a3, a4, ih a5, ih a6⟩))
/-- the reference's nodes -/
def ndt (R : rvS) (j : Nat) : Int32 := R.2.1 216 (j - 2)
abbrev DSc : List Nat := [65003, 65004, 65005, 65006, 65007, 65008, 65009, 65010, 99, 100, 101, 102]
abbrev DSr : List Nat := [189005, 189006, 189007, 189008, 189009, 189010, 189011, 189012, 189013, 189056, 189057, 189058, 189059, 216]
/-- the names, on both sides -/
def NMX (C R : rvS) (q N : Nat) (wd : Nat → List Nat) : Prop := C.2.1 68 0 = nI N ∧ N ≤ 24 ∧ q ≤ N ∧ (∀ w, w < N → C.2.2.1 72 w = if w < q then lN (c32 (wd w)) else lN 0) ∧ R.2.1 191 6 = nI q ∧ q ≤ 16 ∧ (∀ w, w < q → R.2.2.1 195 w = lN (c27 (wd w))) ∧ ∀ w, w < q → okL (wd w)
theorem NMX.fc {D : List Nat} {C' : rvS} (h : NMX C R q N wd) (f : rvf D C C') (h1 : D.elem 68 = false) (h2 : D.elem 72 = false) : NMX C' R q N wd := by
  obtain ⟨a1, a2, a3, a4, a5⟩ := h
  exact ⟨by rw [f.row (a := 68) rfl h1]; exact a1, a2, a3, fun w hw => by rw [f.rowL (a := 72) rfl h2]; exact a4 w hw, a5⟩
theorem NMX.fr {D : List Nat} {R' : rvS} (h : NMX C R q N wd) (f : rvf D R R') (h1 : D.elem 191 = false) (h2 : D.elem 195 = false) : NMX C R' q N wd := by
  obtain ⟨a1, a2, a3, a4, a5, a6, a7, a8⟩ := h
  exact ⟨a1, a2, a3, a4, by rw [f.row (a := 191) rfl h1]; exact a5, a6, fun w hw => by rw [f.rowL (a := 195) rfl h2]; exact a7 w hw, a8⟩
/-- both sides between two tokens -/
def SV (C R : rvS) (b : Nat → Nat) (L : Nat) (T : Tk) (q N : Nat) (wd : Nat → List Nat) (st : List SayT) (o wi : Nat) : Prop := KX C R b L 200 T ∧ CSn C 87 o st ∧ (R.2.1 189 56 = nI st.length ∧ R.2.1 189 57 = nI o ∧ R.2.1 189 58 = nI wi) ∧ st.length ≤ 2 * o ∧ o ≤ 20 ∧ NMX C R q N wd
theorem SV.fc {D : List Nat} {C' : rvS} (h : SV C R b L T q N wd st o wi) (f : rvf D C C') (hd : [65001, 65002, 65003, 65004, 65005, 65006, 65007, 65008, 66].all (fun a => !D.elem a) = true) (h2 : [68, 72, 99, 100, 101, 102].all (fun a => !D.elem a) = true) : SV C' R b L T q N wd st o wi := by
  have g : ∀ a, a ∈ [68, 72, 99, 100, 101, 102] → D.elem a = false := fun a ha => by
    have := List.all_eq_true.mp h2 a ha
    simpa using this
  obtain ⟨a1, a2, a3, a4, a5, a6⟩ := h
  refine ⟨a1.fc f hd, a2.f (fun x hx => funext fun k => ?_) (fun k => f.rowR (a := 100) rfl (g 100 (by decide)) k), a3, a4, a5, a6.fc f (g 68 (by decide)) (g 72 (by decide))⟩
  rcases hx with rfl | rfl | rfl
  · exact f.row (a := 99) rfl (g 99 (by decide)) k
  · exact f.row (a := 101) rfl (g 101 (by decide)) k
  · exact f.row (a := 102) rfl (g 102 (by decide)) k
theorem SV.fr {D : List Nat} {R' : rvS} (h : SV C R b L T q N wd st o wi) (f : rvf D R R') (hd : [189003, 189004, 189005, 189006, 189007, 189008, 189009, 189010, 189012, 190].all (fun a => !D.elem a) = true) (h2 : [189056, 189057, 189058, 191, 195].all (fun a => !D.elem a) = true) : SV C R' b L T q N wd st o wi := by
  have g : ∀ a, a ∈ [189056, 189057, 189058, 191, 195] → D.elem a = false := fun a ha => by
    have := List.all_eq_true.mp h2 a ha
    simpa using this
  obtain ⟨a1, a2, ⟨b1, b2, b3⟩, a4, a5, a6⟩ := h
  exact ⟨a1.fr f hd, a2, ⟨by rw [f.at (a := 189) (k := 56) (g _ (by decide))]; exact b1, by rw [f.at (a := 189) (k := 57) (g _ (by decide))]; exact b2, by rw [f.at (a := 189) (k := 58) (g _ (by decide))]; exact b3⟩, a4, a5, a6.fr f (g _ (by decide)) (g _ (by decide))⟩
theorem sv_next (hn : 1000 ≤ n) (h : SV C R b L T q N wd st o wi) : ∃ C' R' T', fnX8_next n C 65 = some C' ∧ fnX13_go n R 189 = some R' ∧ rvf DT C C' ∧ rvf DU R R' ∧ SV C' R' b L T' q N wd st o wi := by
  obtain ⟨a1, a2, ⟨b1, b2, b3⟩, a4, a5, a6⟩ := h
  obtain ⟨C', R', T', e1, e2, f1, f2, g, -⟩ := lk_next (n := n) hn a1
  refine ⟨C', R', T', e1, e2, f1, f2, g, a2.f (fun x hx => funext fun k => ?_) (fun k => f1.rowR (a := 100) rfl rfl k), ⟨by rw [f2.at (a := 189) (k := 56) rfl]; exact b1, by rw [f2.at (a := 189) (k := 57) rfl]; exact b2, by rw [f2.at (a := 189) (k := 58) rfl]; exact b3⟩, a4, a5, (a6.fc f1 rfl rfl).fr f2 rfl rfl⟩
  rcases hx with rfl | rfl | rfl <;> exact f1.row rfl rfl k
/-- what a reader of a part comes to -/
def RSN (C R : rvS) (b : Nat → Nat) (L q N : Nat) (wd : Nat → List Nat) (st : List SayT) (o wi e : Nat) (x y : Option (Int32 × rvS)) : Prop := ∃ C' R', rvf DSc C C' ∧ rvf DSr R R' ∧ ((x = some (0, C') ∧ y = some (0, R') ∧ FL C' R') ∨ ∃ T' l j top d, x = some (1, C') ∧ y = some (1, R') ∧ SV C' R' b L T' q N wd (st ++ l) (o + j) wi ∧ l.length + 1 ≤ 2 * (j + e) ∧ R'.2.1 189 59 = nI top ∧ DenN q (st ++ l).length (ndt R') d top l ∧ ∀ i, i < 4 * st.length → R'.2.1 216 i = R.2.1 216 i)
theorem RSN.pre {C2 R2 : rvS} {x y x2 y2 : Option (Int32 × rvS)} {ee : Nat} (h : RSN C2 R2 b L q N wd st o wi ee x2 y2) (f : rvf DSc C C2) (g : rvf DSr R R2) (ex : x = x2) (ey : y = y2) (e : ∀ i, i < 4 * st.length → R2.2.1 216 i = R.2.1 216 i) : RSN C R b L q N wd st o wi ee x y := by
  obtain ⟨C', R', f', g', h'⟩ := h
  refine ⟨C', R', f.tr f', g.tr g', ?_⟩
  rw [ex, ey]
  rcases h' with h' | ⟨T', l, j, top, d, h1, h2, h3, h5, h6, h7, h8⟩
  · exact Or.inl h'
  · exact Or.inr ⟨T', l, j, top, d, h1, h2, h3, h5, h6, h7, fun i hi => (h8 i hi).trans (e i hi)⟩
/-- both fail at this token -/
theorem sv_bad (h : SV C R b L T q N wd st o wi) {f : Nat} (hf : f ≤ 4) (h1 : f = 1 ∨ (T.2.2.1 ≠ 1 ∧ T.2.2.1 ≠ 46)) {C0 R0 : rvS} (g1 : rvf DSc C0 C) (g2 : rvf DSr R0 R) {x y : Option (Int32 × rvS)} (hx : ∀ C', fnX8_fail n C 65 (nI f) = some (0, C') → x = some (0, C')) (hy : ∀ R', fnX13_bad n R 189 (nI f) = some (0, R') → y = some (0, R')) {st0 : List SayT} {o0 wi0 e0 : Nat} : RSN C0 R0 b L q N wd st0 o0 wi0 e0 x y := by
  obtain ⟨C', R', e1, e2, fa, fr, g⟩ := lk_fail (n := n) h.1 hf h1
  exact ⟨C', R', g1.tr (fa.mono rfl), g2.tr (fr.mono rfl), Or.inl ⟨hx _ e1, hy _ e2, g⟩⟩
/-- a step is put, a node laid -/
theorem k_putS (hB : rv_B C) (h : CSn C 87 o st) (h40 : st.length < 40) {w s a : Nat} (hw : w < 23) : ∃ C', fnX7_put n C 99 w (nI s) (nI a) = some C' ∧ rvf [99, 100, 101, 102] C C' ∧ CSn C' 87 o (st ++ [(w, s, a)]) := by
  have hv : vb 87 := Or.inr (Or.inl rfl)
  have hS := SS_of hB hv
  obtain ⟨s1, s2, s3, s4, s5, s6, s7, s8, s9⟩ := hS
  have s1 : rv_ck C 6 99 = some () := s1
  have s2 : C.2.2.2 99 0 = some 100 := s2
  have s3 : C.2.2.2 99 1 = some 101 := s3
  have s4 : C.2.2.2 99 2 = some 102 := s4
  have s6 : rv_ln C 4 100 = some 40 := s6
  have s7 : rv_ln C 0 101 = some 40 := s7
  have s8 : rv_ln C 0 102 = some 40 := s8
  obtain ⟨c1, c2, c3, c4, c5⟩ := h
  have c1 : C.2.1 99 4 = nI st.length := c1
  have c2 : C.2.1 99 5 = nI o := c2
  obtain ⟨C1, e1⟩ : ∃ C1, C1 = rv_sR C 100 st.length (some w) := ⟨_, rfl⟩
  have f1 : rvf [100] C C1 := by
    rw [e1]
    refine ⟨rfl, ⟨fun x hx => if_neg (fun z => rf_step 87 (Or.inr (Or.inl rfl)) x hx z.1), fun x k hk => if_neg (fun z => hk (by rw [z.1, lc_row rfl]; decide))⟩, fun x k hk => ⟨rfl, rfl⟩⟩
  obtain ⟨C2, e2⟩ : ∃ C2, C2 = rv_sI (rv_sI (rv_sI C1 101 st.length (nI s)) 102 st.length (nI a)) 99 4 (nI (st.length + 1)) := ⟨_, rfl⟩
  have f2 : rvf [99, 101, 102] C1 C2 := by
    rw [e2]
    exact (((rvf.sIr C1 (a := 101) _ _ rfl).mono (D' := [99, 101, 102]) rfl).w rfl rfl).w rfl rfl
  have p4 : (rv_sI (rv_sI C1 101 st.length (nI s)) 102 st.length (nI a)).2.1 99 4 = nI st.length := by
    rw [rv_sI_a _ _ _ (by decide), rv_sI_a _ _ _ (by decide), e1]; exact c1
  have uW : rv_uW C 100 (nI st.length) w = some C1 := by
    unfold rv_uW
    rw [s6, Option.bind_some, tk_ix h40 (by decide), Option.bind_some, if_pos hw, e1]
  have x1 : rv_ck C1 6 99 = some () := by rw [e1]; exact s1
  have x3 : C1.2.2.2 99 1 = some 101 := (f1.rowR (a := 99) rfl rfl 1).trans s3
  have x4 : C1.2.2.2 99 2 = some 102 := (f1.rowR (a := 99) rfl rfl 2).trans s4
  have x7 : rv_ln C1 0 101 = some 40 := by rw [e1]; exact s7
  have x8 : rv_ln C1 0 102 = some 40 := by rw [e1]; exact s8
  have y4 : C1.2.1 99 4 = nI st.length := by rw [e1]; exact c1
  have y4' : (rv_sI C1 101 st.length (nI s)).2.1 99 4 = nI st.length := (rv_sI_a _ _ _ (by decide) _).trans y4
  refine ⟨C2, ?_, (f1.mono rfl).tr (f2.mono rfl), ?_, ?_, fun j t hj => ?_, ?_, fun t ht => ?_⟩
  · rw [fnX7_put]
    repeat (first | (conv => (lhs; arg 1; simp (disch := first | assumption | omega) only [tk_gI, tk_gL, tk_gR, tk_pI, tk_pL, rv_aI, rv_aL, rv_aR, rv_uI, rv_uL, rv_uB, rv_uZ, pu_ckI, pu_ckL, pu_lnI, pu_lnL, tk_rI, tk_rL, Option.bind_some, Option.map_some, rv_lt, tk_ix, s1, c1])); first | rw [Option.bind_some] | rw [bp_s] | rw [if_true] | rw [if_false] | rw [rv_lt_eq] | rw [if_pos (by omega)] | rw [if_neg (by omega)])
    rw [if_neg (by rw [z40, n_le (by omega) (by omega)]; omega)]
    repeat (first | (conv => (lhs; arg 1; simp (disch := first | assumption | omega) only [tk_gI, tk_gL, tk_gR, tk_pI, tk_pL, rv_aI, rv_aL, rv_aR, rv_uI, rv_uL, rv_uB, rv_uZ, pu_ckI, pu_ckL, pu_lnI, pu_lnL, tk_rI, tk_rL, Option.bind_some, Option.map_some, rv_lt, tk_ix, s1, c1, s2])); first | rw [Option.bind_some] | rw [bp_s] | rw [if_true] | rw [if_false] | rw [rv_lt_eq] | rw [if_pos (by omega)] | rw [if_neg (by omega)])
    rw [uW, Option.bind_some]
    repeat (first | (conv => (lhs; arg 1; simp (disch := first | assumption | omega) only [tk_gI, tk_gL, tk_gR, tk_pI, tk_pL, rv_aI, rv_aL, rv_aR, rv_uI, rv_uL, rv_uB, rv_uZ, pu_ckI, pu_ckL, pu_lnI, pu_lnL, tk_rI, tk_rL, Option.bind_some, Option.map_some, rv_lt, tk_ix, z1, nI_add, x1, x3, x4, x7, x8, y4, y4', p4])); first | rw [Option.bind_some] | rw [bp_s] | rw [if_true] | rw [if_false] | rw [rv_lt_eq] | rw [if_pos (by omega)] | rw [if_neg (by omega)])
    rw [e2]
  · rw [e2, List.length_append]
    exact rv_sI_eq _ _ _ _
  · rw [e2]
    show (rv_sI _ 99 4 _).2.1 99 5 = _
    rw [rv_sI_k _ _ (by decide), rv_sI_a _ _ _ (by decide), rv_sI_a _ _ _ (by decide), e1]; exact c2
  · have r100 : ∀ k, C2.2.2.2 100 k = if k = st.length then some w else C.2.2.2 100 k := fun k => by
      rw [e2]
      show C1.2.2.2 100 k = _
      rw [e1]
      by_cases ck : k = st.length
      · rw [if_pos ck, ck]; exact if_pos ⟨rfl, rfl⟩
      · rw [if_neg ck]; exact if_neg (fun z => ck z.2)
    have r101 : ∀ k, C2.2.1 101 k = if k = st.length then nI s else C.2.1 101 k := fun k => by
      rw [e2, rv_sI_a _ _ _ (by decide), rv_sI_a _ _ _ (by decide)]
      by_cases ck : k = st.length
      · rw [if_pos ck, ck, rv_sI_eq]
      · rw [if_neg ck, rv_sI_k _ _ ck, e1]; rfl
    have r102 : ∀ k, C2.2.1 102 k = if k = st.length then nI a else C.2.1 102 k := fun k => by
      rw [e2, rv_sI_a _ _ _ (by decide)]
      by_cases ck : k = st.length
      · rw [if_pos ck, ck, rv_sI_eq]
      · rw [if_neg ck, rv_sI_k _ _ ck, rv_sI_a _ _ _ (by decide), e1]; rfl
    show C2.2.2.2 100 j = some t.1 ∧ C2.2.1 101 j = nI t.2.1 ∧ C2.2.1 102 j = nI t.2.2
    rw [r100, r101, r102]
    by_cases cj : j = st.length
    · rw [cj, List.getElem?_append_right (Nat.le_refl _), Nat.sub_self] at hj
      have ht : (w, s, a) = t := Option.some.inj hj
      rw [if_pos cj, if_pos cj, if_pos cj, ← ht]
      exact ⟨rfl, rfl, rfl⟩
    · rw [if_neg cj, if_neg cj, if_neg cj]
      refine c3 j t ?_
      by_cases cl : j < st.length
      · rwa [List.getElem?_append_left cl] at hj
      · have hz : (st ++ [(w, s, a)])[j]? = none := by
          rw [List.getElem?_eq_none]
          rw [List.length_append, List.length_singleton]
          omega
        rw [hz] at hj
        cases hj
  · rw [List.length_append, List.length_singleton]; omega
  · rcases List.mem_append.mp ht with z | z
    · exact c5 t z
    · rw [List.mem_singleton.mp z]; exact hw
theorem m_laysN (hB : rv_B R) {k : Nat} (hk : k < 59) (h56 : R.2.1 189 56 = nI k) (x1 x2 x3 x4 : Int32) : ∃ R', fnX13_lays n R 189 x1 x2 x3 x4 = some (nI k, R') ∧ rvf [189056, 216] R R' ∧ R'.2.1 189 56 = nI (k + 1) ∧ R'.2.1 216 (4 * k) = x1 ∧ R'.2.1 216 (4 * k + 1) = x2 ∧ R'.2.1 216 (4 * k + 2) = x3 ∧ R'.2.1 216 (4 * k + 3) = x4 ∧ ∀ i, i < 4 * k → R'.2.1 216 i = R.2.1 216 i := by
  have r55 := rf_of hB (show (189, 55, 216) ∈ rv_rf0 by decide)
  have c189 := rc_189 hB
  have l216 := rn_216 hB
  obtain ⟨R1, e1⟩ : ∃ R1, R1 = rv_sI (rv_sI (rv_sI (rv_sI R 216 (4 * k) x1) 216 (4 * k + 1) x2) 216 (4 * k + 2) x3) 216 (4 * k + 3) x4 := ⟨_, rfl⟩
  have f1 : rvf [216] R R1 := by
    rw [e1]
    exact (((rvf.sIr R _ _ rfl).tr (rvf.sIr _ _ _ rfl)).tr (rvf.sIr _ _ _ rfl)).tr (rvf.sIr _ _ _ rfl)
  have h1 : R1.2.1 189 56 = nI k := (f1.at (a := 189) (k := 56) rfl).trans h56
  have hB1 := f1.B hB
  have zk : nI 4 * nI k = nI (4 * k) := z_mul _ _
  have zs : nI (k + 1) - nI 1 = nI k := by rw [z_sub (by omega), Nat.add_sub_cancel]
  refine ⟨rv_sI R1 189 56 (nI (k + 1)), ?_, (f1.mono rfl).tr ((rvf.sI R1 189 56 _).mono rfl), rv_sI_eq _ _ _ _, ?_, ?_, ?_, ?_, fun i hi => ?_⟩
  · rw [fnX13_lays]
    repeat (first | (conv => (lhs; arg 1; simp (disch := first | assumption | omega) only [tk_gI, tk_gL, tk_gR, tk_pI, tk_pL, rv_aI, rv_aL, rv_aR, rv_uI, rv_uL, rv_uB, rv_uZ, pu_ckI, pu_ckL, pu_lnI, pu_lnL, tk_rI, tk_rL, Option.bind_some, Option.map_some, rv_lt, tk_ix, z4, z3, z2, z1, zk, nI_add, c189, h56, r55, l216])); first | rw [Option.bind_some] | rw [bp_s] | rw [if_true] | rw [if_false] | rw [rv_lt_eq] | rw [if_pos (by omega)] | rw [if_neg (by omega)])
    rw [← e1]
    have s56 : (rv_sI R1 189 56 (nI (k + 1))).2.1 189 56 = nI (k + 1) := rv_sI_eq _ _ _ _
    repeat (first | (conv => (lhs; arg 1; simp (disch := first | assumption | omega) only [tk_gI, tk_gL, tk_gR, tk_pI, tk_pL, rv_aI, rv_aL, rv_aR, rv_uI, rv_uL, rv_uB, rv_uZ, pu_ckI, pu_ckL, pu_lnI, pu_lnL, tk_rI, tk_rL, Option.bind_some, Option.map_some, rv_lt, tk_ix, z1, nI_add, rc_189 hB1, h1, s56])); first | rw [Option.bind_some] | rw [bp_s] | rw [if_true] | rw [if_false] | rw [rv_lt_eq] | rw [if_pos (by omega)] | rw [if_neg (by omega)])
    rw [z1, h1, nI_add, s56, zs]
  · rw [rv_sI_a _ _ _ (by decide), e1, rv_sI_k _ _ (by omega), rv_sI_k _ _ (by omega), rv_sI_k _ _ (by omega), rv_sI_eq]
  · rw [rv_sI_a _ _ _ (by decide), e1, rv_sI_k _ _ (by omega), rv_sI_k _ _ (by omega), rv_sI_eq]
  · rw [rv_sI_a _ _ _ (by decide), e1, rv_sI_k _ _ (by omega), rv_sI_eq]
  · rw [rv_sI_a _ _ _ (by decide), e1, rv_sI_eq]
  · rw [rv_sI_a _ _ _ (by decide), e1, rv_sI_k _ _ (by omega), rv_sI_k _ _ (by omega), rv_sI_k _ _ (by omega), rv_sI_k _ _ (by omega)]
end
