/-! SENTENCE: the loops of or and and -/
section
variable {n d : Nat} {S C R C0 R0 : rvS} {b : Nat → Nat} {L q N o wi : Nat} {T : Tk} {m : Nat → Nat} {wd : Nat → List Nat} {st : List SayT}
/-- one is read alike on both sides -/
def OneP (n d : Nat) (b : Nat → Nat) (L q N : Nat) (wd : Nat → List Nat) (wi : Nat) : Prop := ∀ (C R : rvS) (T : Tk) (st : List SayT) (o : Nat), SV C R b L T q N wd st o wi → RSN C R b L q N wd st o wi 0 (fnX7_readOne n d C 99 65 68 (nI (wi + 1))) (fnX13_readOne n d R 189)
def AllP (n d : Nat) (b : Nat → Nat) (L q N : Nat) (wd : Nat → List Nat) (wi : Nat) : Prop := ∀ (C R : rvS) (T : Tk) (st : List SayT) (o : Nat), SV C R b L T q N wd st o wi → RSN C R b L q N wd st o wi 0 (fnX7_readAll n d C 99 65 68 (nI (wi + 1))) (fnX13_readAnd n d R 189)
def AnyP (n d : Nat) (b : Nat → Nat) (L q N : Nat) (wd : Nat → List Nat) (wi : Nat) : Prop := ∀ (C R : rvS) (T : Tk) (st : List SayT) (o : Nat), SV C R b L T q N wd st o wi → RSN C R b L q N wd st o wi 0 (fnX7_readAny n d C 99 65 68 (nI (wi + 1))) (fnX13_readOr n d R 189)
theorem ndt_f {D : List Nat} {R' : rvS} (f : rvf D R R') (hd : D.elem 216 = false) : ndt R' = ndt R := funext fun j => f.row (a := 216) rfl hd (j - 2)
theorem ndt_c {k : Nat} {R' : rvS} (e : ∀ i, i < 4 * k → R'.2.1 216 i = R.2.1 216 i) : ∀ j, 2 ≤ j → j < 2 + 4 * k → ndt R' j = ndt R j := fun j h1 h2 => e (j - 2) (by omega)
/-- a step is put and a node laid, both on top -/
theorem sv_put (h : SV C R b L T q N wd st o wi) (hst : st.length + 1 ≤ 2 * o) {w s a : Nat} (hw : w < 23) (x1 x2 x3 x4 : Int32) : ∃ C' R', fnX7_put n C 99 w (nI s) (nI a) = some C' ∧ fnX13_lays n R 189 x1 x2 x3 x4 = some (nI st.length, R') ∧ rvf [99, 100, 101, 102] C C' ∧ rvf [189056, 216] R R' ∧ SV C' R' b L T q N wd (st ++ [(w, s, a)]) o wi ∧ (R'.2.1 216 (4 * st.length) = x1 ∧ R'.2.1 216 (4 * st.length + 1) = x2 ∧ R'.2.1 216 (4 * st.length + 2) = x3 ∧ R'.2.1 216 (4 * st.length + 3) = x4) ∧ ∀ i, i < 4 * st.length → R'.2.1 216 i = R.2.1 216 i := by
  obtain ⟨a1, a2, ⟨b1, b2, b3⟩, a4, a5, a6⟩ := h
  obtain ⟨C', e1, f1, g1⟩ := k_putS (n := n) a1.1 a2 (by omega) (s := s) (a := a) hw
  obtain ⟨R', e2, f2, g2, y1, y2, y3, y4, y5⟩ := m_laysN (n := n) a1.2.1 (k := st.length) (by omega) b1 x1 x2 x3 x4
  refine ⟨C', R', e1, e2, f1, f2, ⟨(a1.fc f1 rfl).fr f2 rfl, g1, ⟨?_, ?_, ?_⟩, ?_, a5, (a6.fc f1 rfl rfl).fr f2 rfl rfl⟩, ⟨y1, y2, y3, y4⟩, y5⟩
  · rw [g2, List.length_append, List.length_singleton]
  · rw [f2.at (a := 189) (k := 57) rfl]; exact b2
  · rw [f2.at (a := 189) (k := 58) rfl]; exact b3
  · rw [List.length_append, List.length_singleton]; omega
theorem ndt_k (k : Nat) : ndt R (2 + 4 * k) = R.2.1 216 (4 * k) ∧ ndt R (2 + 4 * k + 1) = R.2.1 216 (4 * k + 1) ∧ ndt R (2 + 4 * k + 2) = R.2.1 216 (4 * k + 2) ∧ ndt R (2 + 4 * k + 3) = R.2.1 216 (4 * k + 3) := ⟨congrArg _ (show 2 + 4 * k - 2 = 4 * k by omega), congrArg _ (show 2 + 4 * k + 1 - 2 = 4 * k + 1 by omega), congrArg _ (show 2 + 4 * k + 2 - 2 = 4 * k + 2 by omega), congrArg _ (show 2 + 4 * k + 3 - 2 = 4 * k + 3 by omega)⟩
theorem all_loop (hn : 1000 ≤ n) (hO : OneP n d b L q N wd wi) : ∀ (r : Nat) (C R : rvS) (T : Tk) (l : List SayT) (j i top dd q1 q2 : Nat), SV C R b L T q N wd (st ++ l) (o + j) wi → l.length + 1 ≤ 2 * j → DenN q (st ++ l).length (ndt R) dd top l → 21 ≤ o + j + r → r < q1 → r < q2 → i + r < 200 → rvf DSc C0 C → rvf DSr R0 R → (∀ k, k < 4 * st.length → R.2.1 216 k = R0.2.1 216 k) → RSN C0 R0 b L q N wd st o wi 0 (cX7_readAll_15 n (fGX7_readNot n d).1 (fGX7_readNot n d).2.1 (fGX7_readNot n d).2.2.1 (fGX7_readNot n d).2.2.2.1 (fGX7_readNot n d).2.2.2.2 q1 C 99 65 68 (nI (wi + 1)) (nI i)) (cX13_readAnd_14 n (fGX13_readNot n d).1 (fGX13_readNot n d).2.1 (fGX13_readNot n d).2.2.1 (fGX13_readNot n d).2.2.2.1 (fGX13_readNot n d).2.2.2.2 q2 R 189 (nI top)) := by
  intro r
  induction r with
  | zero =>
    intro C R T l j i top dd q1 q2 h _ _ h21
    have := h.2.2.2.2.1
    omega
  | succ r ih =>
    intro C R T l j i top dd q1 q2 h hl hD h21 hq1 hq2 hi f0 g0 p0
    obtain ⟨q1, rfl⟩ : ∃ q', q1 = q' + 1 := ⟨q1 - 1, by omega⟩
    obtain ⟨q2, rfl⟩ : ∃ q', q2 = q' + 1 := ⟨q2 - 1, by omega⟩
    have hB := h.1.1
    have hB2 := h.1.2.1
    have kw : fnX8_isWord n C 65 12 = some (bI (iw T 12)) := k_isWord (n := n) hB h.1.2.2.2.2.1 h.1.2.2.2.2.2.2.1 (w := 12) (by decide)
    have mw : fnX13_isWord n R 189 (12 : Int32) = some (bI (iw T 12)) := m_isWord (n := n) hB2 h.1.2.2.2.2.2.1 h.1.2.2.2.2.2.2.1 (k := 12) (by decide)
    have cl : ∀ X, (if bI (iw T 12) = 0 then some ((1 : Int32), C) else (fnX8_next n C 65).bind fun S11_ => (rv_ck S11_ 6 99).bind fun u14_ => rv_bp (fnX7_readOne n d S11_ 99 65 68 (nI (wi + 1))) fun x17_ S18_ => if x17_ = 0 then some ((0 : Int32), S18_) else (rv_ck S18_ 6 99).bind fun u22_ => (fnX7_put n S18_ 99 12 (0 : Int32) (0 : Int32)).bind fun S25_ => rv_lt (nI i + (1)) fun x28_ => cX7_readAll_15 n (fGX7_readNot n d).1 (fGX7_readNot n d).2.1 (fGX7_readNot n d).2.2.1 (fGX7_readNot n d).2.2.2.1 (fGX7_readNot n d).2.2.2.2 q1 S25_ 99 65 68 (nI (wi + 1)) x28_) = X → cX7_readAll_15 n (fGX7_readNot n d).1 (fGX7_readNot n d).2.1 (fGX7_readNot n d).2.2.1 (fGX7_readNot n d).2.2.2.1 (fGX7_readNot n d).2.2.2.2 (q1 + 1) C 99 65 68 (nI (wi + 1)) (nI i) = X := fun X hX => by
      rw [cX7_readAll_15, if_neg (by rw [z200, n_le (by omega) (by omega)]; omega)]
      simp only [rc_65 hB, Option.bind_some, kw]
      exact hX
    have rf : ∀ X, (if bI (iw T 12) = 0 then some ((1 : Int32), rv_sI R 189 59 (nI top)) else (fnX13_go n R 189).bind fun S12_ => (rv_ck S12_ 11 189).bind fun u15_ => rv_bp (fnX13_readOne n d S12_ 189) fun x18_ S19_ => if x18_ = 0 then some ((0 : Int32), S19_) else (rv_gI S19_ 11 189 59).bind fun x23_ => (rv_ck S19_ 11 189).bind fun u25_ => rv_bp (fnX13_lays n S19_ 189 (2 : Int32) (nI top) x23_ (0 : Int32)) fun x28_ S29_ => cX13_readAnd_14 n (fGX13_readNot n d).1 (fGX13_readNot n d).2.1 (fGX13_readNot n d).2.2.1 (fGX13_readNot n d).2.2.2.1 (fGX13_readNot n d).2.2.2.2 q2 S29_ 189 x28_) = X → cX13_readAnd_14 n (fGX13_readNot n d).1 (fGX13_readNot n d).2.1 (fGX13_readNot n d).2.2.1 (fGX13_readNot n d).2.2.2.1 (fGX13_readNot n d).2.2.2.2 (q2 + 1) R 189 (nI top) = X := fun X hX => by
      rw [cX13_readAnd_14]
      simp only [rc_189 hB2, Option.bind_some, mw, tk_pI, Option.map_some]
      exact hX
    by_cases c : iw T 12 = true
    · rw [c] at cl rf
      obtain ⟨C1, R1, T1, e1, e2, f1, g1, h1⟩ := sv_next (n := n) hn h
      obtain ⟨C2, R2, f2, g2, h2⟩ := hO C1 R1 T1 (st ++ l) (o + j) h1
      have hB1 := h1.1.1
      have hB12 := h1.1.2.1
      have c99 : rv_ck C1 6 99 = some () := (SS_of hB1 (Or.inr (Or.inl rfl) : vb 87)).1
      have p1 : ∀ k, R1.2.1 216 k = R.2.1 216 k := fun k => g1.row (a := 216) rfl rfl k
      rcases h2 with ⟨x1, y1, g⟩ | ⟨T2, l2, j2, top2, d2, x1, y1, h2, hl2, h592, hD2, p2⟩
      · refine ⟨C2, R2, (f0.tr (f1.mono rfl)).tr f2, (g0.tr (g1.mono rfl)).tr g2, Or.inl ⟨cl _ ?_, rf _ ?_, g⟩⟩
        · rw [if_neg (by decide), e1, Option.bind_some, c99, Option.bind_some, x1, bp_s, if_pos rfl]
        · rw [if_neg (by decide), e2, Option.bind_some, rc_189 hB12, Option.bind_some, y1, bp_s, if_pos rfl]
      · have hB22 := h2.1.2.1
        have c992 : rv_ck C2 6 99 = some () := (SS_of h2.1.1 (Or.inr (Or.inl rfl) : vb 87)).1
        have ho2 := h2.2.2.2.2.1
        have hs := h.2.2.2.1
        have hl2' : l2.length + 1 ≤ 2 * j2 := hl2
        have hlen : ((st ++ l) ++ l2).length = (st ++ l).length + l2.length := List.length_append
        have hlen1 : (st ++ l).length = st.length + l.length := List.length_append
        obtain ⟨C3, R3, e3, e4, f3, g3, h3, ⟨n1, n2, n3, n4⟩, p3⟩ := sv_put (n := n) h2 (by omega) (w := 12) (s := 0) (a := 0) (by decide) (nI 2) (nI top) (nI top2) (nI 0)
        have e3 : fnX7_put n C2 99 12 (0 : Int32) (0 : Int32) = some C3 := e3
        have e4 : fnX13_lays n R2 189 (2 : Int32) (nI top) (nI top2) (0 : Int32) = some (nI ((st ++ l) ++ l2).length, R3) := e4
        have eA : ((st ++ l) ++ l2) ++ [(12, 0, 0)] = st ++ (l ++ l2 ++ [(12, 0, 0)]) := by simp only [List.append_assoc]
        rw [eA, Nat.add_assoc] at h3
        have p30 : ∀ k, k < 4 * (st ++ l).length → R3.2.1 216 k = R.2.1 216 k := fun k hk => ((p3 k (by omega)).trans (p2 k hk)).trans (p1 k)
        have D1 := hD.c (M' := ((st ++ l) ++ l2).length) (by omega) (ndt_c p30)
        have D2 := hD2.c (M' := ((st ++ l) ++ l2).length) (Nat.le_refl _) (ndt_c p3)
        have eL : (st ++ (l ++ l2 ++ [(12, 0, 0)])).length = ((st ++ l) ++ l2).length + 1 := by rw [← eA, List.length_append, List.length_singleton]
        obtain ⟨k1, k2, k3, k4⟩ := ndt_k (R := R3) ((st ++ l) ++ l2).length
        have DD : DenN q (st ++ (l ++ l2 ++ [(12, 0, 0)])).length (ndt R3) (dd + d2 + 1) ((st ++ l) ++ l2).length (l ++ l2 ++ [(12, 0, 0)]) := by
          rw [eL]
          refine ⟨Nat.lt_succ_self _, Or.inr (Or.inr (Or.inl ⟨top, top2, l, l2, rfl, k1.trans n1, k2.trans n2, k3.trans n3, ?_, ?_⟩))⟩
          · exact (D1.up d2).c (Nat.le_succ _) (fun _ _ _ => rfl)
          · have := D2.up dd
            rw [Nat.add_comm d2 dd] at this
            exact this.c (Nat.le_succ _) (fun _ _ _ => rfl)
        have hX := ih C3 R3 T2 (l ++ l2 ++ [(12, 0, 0)]) (j + j2) (i + 1) ((st ++ l) ++ l2).length (dd + d2 + 1) q1 q2 h3 (by rw [List.length_append, List.length_append, List.length_singleton]; omega) DD (by omega) (by omega) (by omega) (by omega) (((f0.tr (f1.mono rfl)).tr f2).tr (f3.mono rfl)) (((g0.tr (g1.mono rfl)).tr g2).tr (g3.mono rfl)) (fun k hk => (p30 k (by omega)).trans (p0 k hk))
        refine hX.pre (rvf.rf _ _) (rvf.rf _ _) (cl _ ?_) (rf _ ?_) (fun _ _ => rfl)
        · rw [if_neg (by decide), e1, Option.bind_some, c99, Option.bind_some, x1, bp_s, if_neg (by decide), c992, Option.bind_some, e3, Option.bind_some, rv_lt_eq, z1, nI_add]
        · rw [if_neg (by decide), e2, Option.bind_some, rc_189 hB12, Option.bind_some, y1, bp_s, if_neg (by decide), tk_gI, rc_189 hB22, Option.map_some, Option.bind_some, Option.bind_some, h592, e4, bp_s]
    · have c : iw T 12 = false := by
        cases e : iw T 12
        · rfl
        · exact absurd e c
      rw [c] at cl rf
      have f9 := rvf.sI R 189 59 (nI top)
      refine ⟨C, rv_sI R 189 59 (nI top), f0, g0.tr (f9.mono rfl), Or.inr ⟨T, l, j, top, dd, cl _ (if_pos rfl), rf _ (if_pos rfl), h.fr f9 rfl rfl, hl, rv_sI_eq _ _ _ _, ?_, p0⟩⟩
      rw [ndt_f f9 rfl]
      exact hD
theorem all_of (hn : 1000 ≤ n) (hO : OneP n d b L q N wd wi) : AllP n (d + 1) b L q N wd wi := by
  intro C R T st o h
  have hB := h.1.1
  have hB2 := h.1.2.1
  have c99 : rv_ck C 6 99 = some () := (SS_of hB (Or.inr (Or.inl rfl) : vb 87)).1
  have cl : ∀ X, (rv_bp (fnX7_readOne n d C 99 65 68 (nI (wi + 1))) fun x4_ S5_ => if x4_ = 0 then some ((0 : Int32), S5_) else cX7_readAll_15 n (fGX7_readNot n d).1 (fGX7_readNot n d).2.1 (fGX7_readNot n d).2.2.1 (fGX7_readNot n d).2.2.2.1 (fGX7_readNot n d).2.2.2.2 n S5_ 99 65 68 (nI (wi + 1)) (0 : Int32)) = X → fnX7_readAll n (d + 1) C 99 65 68 (nI (wi + 1)) = X := fun X hX => by
    show fbX7_readAll n (fGX7_readNot n d).1 (fGX7_readNot n d).2.1 (fGX7_readNot n d).2.2.1 (fGX7_readNot n d).2.2.2.1 (fGX7_readNot n d).2.2.2.2 C 99 65 68 (nI (wi + 1)) = X
    rw [fbX7_readAll, c99, Option.bind_some]
    exact hX
  have rf : ∀ X, (rv_bp (fnX13_readOne n d R 189) fun x4_ S5_ => if x4_ = 0 then some ((0 : Int32), S5_) else (rv_gI S5_ 11 189 59).bind fun x9_ => cX13_readAnd_14 n (fGX13_readNot n d).1 (fGX13_readNot n d).2.1 (fGX13_readNot n d).2.2.1 (fGX13_readNot n d).2.2.2.1 (fGX13_readNot n d).2.2.2.2 n S5_ 189 x9_) = X → fnX13_readAnd n (d + 1) R 189 = X := fun X hX => by
    show fbX13_readAnd n (fGX13_readNot n d).1 (fGX13_readNot n d).2.1 (fGX13_readNot n d).2.2.1 (fGX13_readNot n d).2.2.2.1 (fGX13_readNot n d).2.2.2.2 R 189 = X
    rw [fbX13_readAnd, rc_189 hB2, Option.bind_some]
    exact hX
  obtain ⟨C2, R2, f2, g2, h2⟩ := hO C R T st o h
  rcases h2 with ⟨x1, y1, g⟩ | ⟨T2, l, j, top, dd, x1, y1, h2, hl, h59, hD, p2⟩
  · refine ⟨C2, R2, f2, g2, Or.inl ⟨cl _ ?_, rf _ ?_, g⟩⟩
    · rw [x1, bp_s, if_pos rfl]
    · rw [y1, bp_s, if_pos rfl]
  · have hX := all_loop (n := n) hn hO (st := st) (C0 := C) (R0 := R) (21 - (o + j)) C2 R2 T2 l j 0 top dd n n h2 hl hD (by omega) (by omega) (by omega) (by omega) f2 g2 p2
    refine hX.pre (rvf.rf _ _) (rvf.rf _ _) (cl _ ?_) (rf _ ?_) (fun _ _ => rfl)
    · rw [x1, bp_s, if_neg (by decide)]; rfl
    · rw [y1, bp_s, if_neg (by decide), tk_gI, rc_189 h2.1.2.1, Option.map_some, Option.bind_some, h59]
theorem any_loop (hn : 1000 ≤ n) (hO : AllP n d b L q N wd wi) : ∀ (r : Nat) (C R : rvS) (T : Tk) (l : List SayT) (j i top dd q1 q2 : Nat), SV C R b L T q N wd (st ++ l) (o + j) wi → l.length + 1 ≤ 2 * j → DenN q (st ++ l).length (ndt R) dd top l → 21 ≤ o + j + r → r < q1 → r < q2 → i + r < 200 → rvf DSc C0 C → rvf DSr R0 R → (∀ k, k < 4 * st.length → R.2.1 216 k = R0.2.1 216 k) → RSN C0 R0 b L q N wd st o wi 0 (cX7_readAny_15 n (fGX7_readNot n d).1 (fGX7_readNot n d).2.1 (fGX7_readNot n d).2.2.1 (fGX7_readNot n d).2.2.2.1 (fGX7_readNot n d).2.2.2.2 q1 C 99 65 68 (nI (wi + 1)) (nI i)) (cX13_readOr_14 n (fGX13_readNot n d).1 (fGX13_readNot n d).2.1 (fGX13_readNot n d).2.2.1 (fGX13_readNot n d).2.2.2.1 (fGX13_readNot n d).2.2.2.2 q2 R 189 (nI top)) := by
  intro r
  induction r with
  | zero =>
    intro C R T l j i top dd q1 q2 h _ _ h21
    have := h.2.2.2.2.1
    omega
  | succ r ih =>
    intro C R T l j i top dd q1 q2 h hl hD h21 hq1 hq2 hi f0 g0 p0
    obtain ⟨q1, rfl⟩ : ∃ q', q1 = q' + 1 := ⟨q1 - 1, by omega⟩
    obtain ⟨q2, rfl⟩ : ∃ q', q2 = q' + 1 := ⟨q2 - 1, by omega⟩
    have hB := h.1.1
    have hB2 := h.1.2.1
    have kw : fnX8_isWord n C 65 11 = some (bI (iw T 11)) := k_isWord (n := n) hB h.1.2.2.2.2.1 h.1.2.2.2.2.2.2.1 (w := 11) (by decide)
    have mw : fnX13_isWord n R 189 (11 : Int32) = some (bI (iw T 11)) := m_isWord (n := n) hB2 h.1.2.2.2.2.2.1 h.1.2.2.2.2.2.2.1 (k := 11) (by decide)
    have cl : ∀ X, (if bI (iw T 11) = 0 then some ((1 : Int32), C) else (fnX8_next n C 65).bind fun S11_ => (rv_ck S11_ 6 99).bind fun u14_ => rv_bp (fnX7_readAll n d S11_ 99 65 68 (nI (wi + 1))) fun x17_ S18_ => if x17_ = 0 then some ((0 : Int32), S18_) else (rv_ck S18_ 6 99).bind fun u22_ => (fnX7_put n S18_ 99 11 (0 : Int32) (0 : Int32)).bind fun S25_ => rv_lt (nI i + (1)) fun x28_ => cX7_readAny_15 n (fGX7_readNot n d).1 (fGX7_readNot n d).2.1 (fGX7_readNot n d).2.2.1 (fGX7_readNot n d).2.2.2.1 (fGX7_readNot n d).2.2.2.2 q1 S25_ 99 65 68 (nI (wi + 1)) x28_) = X → cX7_readAny_15 n (fGX7_readNot n d).1 (fGX7_readNot n d).2.1 (fGX7_readNot n d).2.2.1 (fGX7_readNot n d).2.2.2.1 (fGX7_readNot n d).2.2.2.2 (q1 + 1) C 99 65 68 (nI (wi + 1)) (nI i) = X := fun X hX => by
      rw [cX7_readAny_15, if_neg (by rw [z200, n_le (by omega) (by omega)]; omega)]
      simp only [rc_65 hB, Option.bind_some, kw]
      exact hX
    have rf : ∀ X, (if bI (iw T 11) = 0 then some ((1 : Int32), rv_sI R 189 59 (nI top)) else (fnX13_go n R 189).bind fun S12_ => (rv_ck S12_ 11 189).bind fun u15_ => rv_bp (fnX13_readAnd n d S12_ 189) fun x18_ S19_ => if x18_ = 0 then some ((0 : Int32), S19_) else (rv_gI S19_ 11 189 59).bind fun x23_ => (rv_ck S19_ 11 189).bind fun u25_ => rv_bp (fnX13_lays n S19_ 189 (3 : Int32) (nI top) x23_ (0 : Int32)) fun x28_ S29_ => cX13_readOr_14 n (fGX13_readNot n d).1 (fGX13_readNot n d).2.1 (fGX13_readNot n d).2.2.1 (fGX13_readNot n d).2.2.2.1 (fGX13_readNot n d).2.2.2.2 q2 S29_ 189 x28_) = X → cX13_readOr_14 n (fGX13_readNot n d).1 (fGX13_readNot n d).2.1 (fGX13_readNot n d).2.2.1 (fGX13_readNot n d).2.2.2.1 (fGX13_readNot n d).2.2.2.2 (q2 + 1) R 189 (nI top) = X := fun X hX => by
      rw [cX13_readOr_14]
      simp only [rc_189 hB2, Option.bind_some, mw, tk_pI, Option.map_some]
      exact hX
    by_cases c : iw T 11 = true
    · rw [c] at cl rf
      obtain ⟨C1, R1, T1, e1, e2, f1, g1, h1⟩ := sv_next (n := n) hn h
      obtain ⟨C2, R2, f2, g2, h2⟩ := hO C1 R1 T1 (st ++ l) (o + j) h1
      have hB1 := h1.1.1
      have hB12 := h1.1.2.1
      have c99 : rv_ck C1 6 99 = some () := (SS_of hB1 (Or.inr (Or.inl rfl) : vb 87)).1
      have p1 : ∀ k, R1.2.1 216 k = R.2.1 216 k := fun k => g1.row (a := 216) rfl rfl k
      rcases h2 with ⟨x1, y1, g⟩ | ⟨T2, l2, j2, top2, d2, x1, y1, h2, hl2, h592, hD2, p2⟩
      · refine ⟨C2, R2, (f0.tr (f1.mono rfl)).tr f2, (g0.tr (g1.mono rfl)).tr g2, Or.inl ⟨cl _ ?_, rf _ ?_, g⟩⟩
        · rw [if_neg (by decide), e1, Option.bind_some, c99, Option.bind_some, x1, bp_s, if_pos rfl]
        · rw [if_neg (by decide), e2, Option.bind_some, rc_189 hB12, Option.bind_some, y1, bp_s, if_pos rfl]
      · have hB22 := h2.1.2.1
        have c992 : rv_ck C2 6 99 = some () := (SS_of h2.1.1 (Or.inr (Or.inl rfl) : vb 87)).1
        have ho2 := h2.2.2.2.2.1
        have hs := h.2.2.2.1
        have hl2' : l2.length + 1 ≤ 2 * j2 := hl2
        have hlen : ((st ++ l) ++ l2).length = (st ++ l).length + l2.length := List.length_append
        have hlen1 : (st ++ l).length = st.length + l.length := List.length_append
        obtain ⟨C3, R3, e3, e4, f3, g3, h3, ⟨n1, n2, n3, n4⟩, p3⟩ := sv_put (n := n) h2 (by omega) (w := 11) (s := 0) (a := 0) (by decide) (nI 3) (nI top) (nI top2) (nI 0)
        have e3 : fnX7_put n C2 99 11 (0 : Int32) (0 : Int32) = some C3 := e3
        have e4 : fnX13_lays n R2 189 (3 : Int32) (nI top) (nI top2) (0 : Int32) = some (nI ((st ++ l) ++ l2).length, R3) := e4
        have eA : ((st ++ l) ++ l2) ++ [(11, 0, 0)] = st ++ (l ++ l2 ++ [(11, 0, 0)]) := by simp only [List.append_assoc]
        rw [eA, Nat.add_assoc] at h3
        have p30 : ∀ k, k < 4 * (st ++ l).length → R3.2.1 216 k = R.2.1 216 k := fun k hk => ((p3 k (by omega)).trans (p2 k hk)).trans (p1 k)
        have D1 := hD.c (M' := ((st ++ l) ++ l2).length) (by omega) (ndt_c p30)
        have D2 := hD2.c (M' := ((st ++ l) ++ l2).length) (Nat.le_refl _) (ndt_c p3)
        have eL : (st ++ (l ++ l2 ++ [(11, 0, 0)])).length = ((st ++ l) ++ l2).length + 1 := by rw [← eA, List.length_append, List.length_singleton]
        obtain ⟨k1, k2, k3, k4⟩ := ndt_k (R := R3) ((st ++ l) ++ l2).length
        have DD : DenN q (st ++ (l ++ l2 ++ [(11, 0, 0)])).length (ndt R3) (dd + d2 + 1) ((st ++ l) ++ l2).length (l ++ l2 ++ [(11, 0, 0)]) := by
          rw [eL]
          refine ⟨Nat.lt_succ_self _, Or.inr (Or.inr (Or.inr ⟨top, top2, l, l2, rfl, k1.trans n1, k2.trans n2, k3.trans n3, ?_, ?_⟩))⟩
          · exact (D1.up d2).c (Nat.le_succ _) (fun _ _ _ => rfl)
          · have := D2.up dd
            rw [Nat.add_comm d2 dd] at this
            exact this.c (Nat.le_succ _) (fun _ _ _ => rfl)
        have hX := ih C3 R3 T2 (l ++ l2 ++ [(11, 0, 0)]) (j + j2) (i + 1) ((st ++ l) ++ l2).length (dd + d2 + 1) q1 q2 h3 (by rw [List.length_append, List.length_append, List.length_singleton]; omega) DD (by omega) (by omega) (by omega) (by omega) (((f0.tr (f1.mono rfl)).tr f2).tr (f3.mono rfl)) (((g0.tr (g1.mono rfl)).tr g2).tr (g3.mono rfl)) (fun k hk => (p30 k (by omega)).trans (p0 k hk))
        refine hX.pre (rvf.rf _ _) (rvf.rf _ _) (cl _ ?_) (rf _ ?_) (fun _ _ => rfl)
        · rw [if_neg (by decide), e1, Option.bind_some, c99, Option.bind_some, x1, bp_s, if_neg (by decide), c992, Option.bind_some, e3, Option.bind_some, rv_lt_eq, z1, nI_add]
        · rw [if_neg (by decide), e2, Option.bind_some, rc_189 hB12, Option.bind_some, y1, bp_s, if_neg (by decide), tk_gI, rc_189 hB22, Option.map_some, Option.bind_some, Option.bind_some, h592, e4, bp_s]
    · have c : iw T 11 = false := by
        cases e : iw T 11
        · rfl
        · exact absurd e c
      rw [c] at cl rf
      have f9 := rvf.sI R 189 59 (nI top)
      refine ⟨C, rv_sI R 189 59 (nI top), f0, g0.tr (f9.mono rfl), Or.inr ⟨T, l, j, top, dd, cl _ (if_pos rfl), rf _ (if_pos rfl), h.fr f9 rfl rfl, hl, rv_sI_eq _ _ _ _, ?_, p0⟩⟩
      rw [ndt_f f9 rfl]
      exact hD
theorem any_of (hn : 1000 ≤ n) (hO : AllP n d b L q N wd wi) : AnyP n (d + 1) b L q N wd wi := by
  intro C R T st o h
  have hB := h.1.1
  have hB2 := h.1.2.1
  have c99 : rv_ck C 6 99 = some () := (SS_of hB (Or.inr (Or.inl rfl) : vb 87)).1
  have cl : ∀ X, (rv_bp (fnX7_readAll n d C 99 65 68 (nI (wi + 1))) fun x4_ S5_ => if x4_ = 0 then some ((0 : Int32), S5_) else cX7_readAny_15 n (fGX7_readNot n d).1 (fGX7_readNot n d).2.1 (fGX7_readNot n d).2.2.1 (fGX7_readNot n d).2.2.2.1 (fGX7_readNot n d).2.2.2.2 n S5_ 99 65 68 (nI (wi + 1)) (0 : Int32)) = X → fnX7_readAny n (d + 1) C 99 65 68 (nI (wi + 1)) = X := fun X hX => by
    show fbX7_readAny n (fGX7_readNot n d).1 (fGX7_readNot n d).2.1 (fGX7_readNot n d).2.2.1 (fGX7_readNot n d).2.2.2.1 (fGX7_readNot n d).2.2.2.2 C 99 65 68 (nI (wi + 1)) = X
    rw [fbX7_readAny, c99, Option.bind_some]
    exact hX
  have rf : ∀ X, (rv_bp (fnX13_readAnd n d R 189) fun x4_ S5_ => if x4_ = 0 then some ((0 : Int32), S5_) else (rv_gI S5_ 11 189 59).bind fun x9_ => cX13_readOr_14 n (fGX13_readNot n d).1 (fGX13_readNot n d).2.1 (fGX13_readNot n d).2.2.1 (fGX13_readNot n d).2.2.2.1 (fGX13_readNot n d).2.2.2.2 n S5_ 189 x9_) = X → fnX13_readOr n (d + 1) R 189 = X := fun X hX => by
    show fbX13_readOr n (fGX13_readNot n d).1 (fGX13_readNot n d).2.1 (fGX13_readNot n d).2.2.1 (fGX13_readNot n d).2.2.2.1 (fGX13_readNot n d).2.2.2.2 R 189 = X
    rw [fbX13_readOr, rc_189 hB2, Option.bind_some]
    exact hX
  obtain ⟨C2, R2, f2, g2, h2⟩ := hO C R T st o h
  rcases h2 with ⟨x1, y1, g⟩ | ⟨T2, l, j, top, dd, x1, y1, h2, hl, h59, hD, p2⟩
  · refine ⟨C2, R2, f2, g2, Or.inl ⟨cl _ ?_, rf _ ?_, g⟩⟩
    · rw [x1, bp_s, if_pos rfl]
    · rw [y1, bp_s, if_pos rfl]
  · have hX := any_loop (n := n) hn hO (st := st) (C0 := C) (R0 := R) (21 - (o + j)) C2 R2 T2 l j 0 top dd n n h2 hl hD (by omega) (by omega) (by omega) (by omega) f2 g2 p2
    refine hX.pre (rvf.rf _ _) (rvf.rf _ _) (cl _ ?_) (rf _ ?_) (fun _ _ => rfl)
    · rw [x1, bp_s, if_neg (by decide)]; rfl
    · rw [y1, bp_s, if_neg (by decide), tk_gI, rc_189 h2.1.2.1, Option.map_some, Option.bind_some, h59]
end
