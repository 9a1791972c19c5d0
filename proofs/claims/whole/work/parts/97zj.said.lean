/-! SAID: what a row of steps says of a coin; the reference's tree says the same -/
section
variable {n : Nat} {S : rvS} {m : Nat → Nat} {wd : Nat → List Nat}
abbrev SayT := Nat × Nat × Nat
/-- a pile of answers, the latest ahead -/
def ev1 (b : SayT → Bool) (t : SayT) (k : List Bool) : List Bool :=
  if t.1 = 13 then (match k with
    | x :: r => (!x) :: r
    | [] => []) else if t.1 = 12 then (match k with
    | y :: x :: r => (x && y) :: r
    | k => k) else if t.1 = 11 then (match k with
    | y :: x :: r => (x || y) :: r
    | k => k) else b t :: k
def evc (b : SayT → Bool) (l : List SayT) (k : List Bool) : List Bool := l.foldl (fun k t => ev1 b t k) k
theorem evc_app (b : SayT → Bool) (l1 l2 : List SayT) (k : List Bool) : evc b (l1 ++ l2) k = evc b l2 (evc b l1 k) := List.foldl_append
theorem evc_one (b : SayT → Bool) (t : SayT) (k : List Bool) : evc b [t] k = ev1 b t k := rfl
theorem Den_pos {q : Nat} {t : Nat → Int32} : ∀ {d k : Nat} {l : List SayT}, Den q t d k l → 0 < l.length := by
  intro d
  cases d with
  | zero => intro k l h; exact absurd h id
  | succ d =>
    rintro k l ⟨-, ⟨w, s, a, e, -⟩ | ⟨x, l1, e, -⟩ | ⟨x, y, l1, l2, e, -⟩ | ⟨x, y, l1, l2, e, -⟩⟩
    · rw [e]; exact Nat.succ_pos _
    · rw [e]; simp
    · rw [e]; simp; omega
    · rw [e]; simp; omega
theorem Den_mono {q : Nat} {t : Nat → Int32} : ∀ {d k : Nat} {l : List SayT}, Den q t d k l → Den q t (d + 1) k l := by
  intro d
  induction d with
  | zero => intro k l h; exact absurd h id
  | succ d ih =>
    rintro k l ⟨h0, h | ⟨x, l1, e, e1, e2, h⟩ | ⟨x, y, l1, l2, e, e1, e2, e3, h1, h2⟩ | ⟨x, y, l1, l2, e, e1, e2, e3, h1, h2⟩⟩
    · exact ⟨h0, Or.inl h⟩
    · exact ⟨h0, Or.inr (Or.inl ⟨x, l1, e, e1, e2, ih h⟩)⟩
    · exact ⟨h0, Or.inr (Or.inr (Or.inl ⟨x, y, l1, l2, e, e1, e2, e3, ih h1, ih h2⟩))⟩
    · exact ⟨h0, Or.inr (Or.inr (Or.inr ⟨x, y, l1, l2, e, e1, e2, e3, ih h1, ih h2⟩))⟩
theorem Den_up {q : Nat} {t : Nat → Int32} {d k : Nat} {l : List SayT} (h : Den q t d k l) : ∀ j, Den q t (d + j) k l := by
  intro j
  induction j with
  | zero => exact h
  | succ j ih => exact Den_mono ih
/-- as deep as it is long is deep enough -/
theorem Den_len {q : Nat} {t : Nat → Int32} : ∀ {d k : Nat} {l : List SayT}, Den q t d k l → Den q t l.length k l := by
  intro d
  induction d with
  | zero => intro k l h; exact absurd h id
  | succ d ih =>
    rintro k l ⟨h0, h | ⟨x, l1, e, e1, e2, h⟩ | ⟨x, y, l1, l2, e, e1, e2, e3, h1, h2⟩ | ⟨x, y, l1, l2, e, e1, e2, e3, h1, h2⟩⟩
    · obtain ⟨w, s, a, e, h⟩ := h
      have el : l.length = 0 + 1 := by rw [e]; rfl
      rw [el]
      exact ⟨h0, Or.inl ⟨w, s, a, e, h⟩⟩
    · have el : l.length = l1.length + 1 := by rw [e, List.length_append]; rfl
      rw [el]
      exact ⟨h0, Or.inr (Or.inl ⟨x, l1, e, e1, e2, ih h⟩)⟩
    · have el : l.length = (l1.length + l2.length) + 1 := by rw [e, List.length_append, List.length_append]; rfl
      rw [el]
      refine ⟨h0, Or.inr (Or.inr (Or.inl ⟨x, y, l1, l2, e, e1, e2, e3, Den_up (ih h1) _, ?_⟩))⟩
      rw [Nat.add_comm]
      exact Den_up (ih h2) _
    · have el : l.length = (l1.length + l2.length) + 1 := by rw [e, List.length_append, List.length_append]; rfl
      rw [el]
      refine ⟨h0, Or.inr (Or.inr (Or.inr ⟨x, y, l1, l2, e, e1, e2, e3, Den_up (ih h1) _, ?_⟩))⟩
      rw [Nat.add_comm]
      exact Den_up (ih h2) _
/-- the reference's tree, once its leaves are known -/
theorem m_tree {q c : Nat} {t : Nat → Int32} {b : SayT → Bool} (hleaf : ∀ (k w s a D : Nat) (S : rvS), rv_B S → MR S m → (∀ j, j < 242 → S.2.1 191 (420 + j) = t j) → k < 60 → t (2 + 4 * k) = nI (50 + w) → ((14 ≤ w ∧ w ≤ 16 ∧ a < q ∧ t (2 + 4 * k + 1) = nI a) ∨ (w = 17 ∨ w = 18) ∨ (19 ≤ w ∧ w ≤ 21 ∧ a < 1000 ∧ (s = 60 ∨ s = 61 ∨ s = 62) ∧ t (2 + 4 * k + 2) = nI a ∧ t (2 + 4 * k + 3) = nI s)) → ∃ S', fGX13_holds n (D + 1) S 189 (nI k) (nI c) = some (bI (b (w, s, a)), S') ∧ rvf [199] S S') : ∀ d k l D (S : rvS), Den q t d k l → d ≤ D → rv_B S → MR S m → (∀ j, j < 242 → S.2.1 191 (420 + j) = t j) → ∃ v S', fGX13_holds n D S 189 (nI k) (nI c) = some (bI v, S') ∧ rvf [199] S S' ∧ ∀ pl, evc b l pl = v :: pl := by
  intro d
  induction d with
  | zero => intro k l D S h; exact absurd h id
  | succ d ih =>
    rintro k l D S ⟨h0, h | ⟨x, l1, e, e1, e2, h⟩ | ⟨x, y, l1, l2, e, e1, e2, e3, h1, h2⟩ | ⟨x, y, l1, l2, e, e1, e2, e3, h1, h2⟩⟩ hD hB hM ht
    all_goals obtain ⟨D, rfl⟩ : ∃ D', D = D' + 1 := ⟨D - 1, by omega⟩
    · obtain ⟨w, s, a, e, e1, h⟩ := h
      obtain ⟨S', g1, g2⟩ := hleaf k w s a D S hB hM ht h0 e1 h
      refine ⟨b (w, s, a), S', g1, g2, fun pl => ?_⟩
      have hw : 14 ≤ w := by
        rcases h with h | h | h
        · exact h.1
        · omega
        · omega
      rw [e, evc_one]
      unfold ev1
      rw [if_neg (show ¬ w = 13 by omega), if_neg (show ¬ w = 12 by omega), if_neg (show ¬ w = 11 by omega)]
    all_goals have c0 := ht (2 + 4 * k) (by omega)
    all_goals have c1 := ht (2 + 4 * k + 1) (by omega)
    all_goals have c2 := ht (2 + 4 * k + 2) (by omega)
    all_goals rw [show 420 + (2 + 4 * k) = 422 + 4 * k by omega] at c0
    all_goals rw [show 420 + (2 + 4 * k + 1) = 422 + 4 * k + 1 by omega] at c1
    all_goals rw [show 420 + (2 + 4 * k + 2) = 422 + 4 * k + 2 by omega] at c2
    all_goals have r14 := rf_of hB (show (189, 14, 191) ∈ rv_rf0 by decide)
    · obtain ⟨v, S1, g1, f1, p1⟩ := ih x l1 D S h (by omega) hB hM ht
      rw [e1] at c0
      rw [e2] at c1
      refine ⟨!v, S1, ?_, f1, fun pl => ?_⟩
      · show fbX13_holds n (fGX13_holds n D) S 189 (nI k) (nI c) = _
        rw [fbX13_holds]
        repeat (first | (conv => (lhs; arg 1; simp (disch := first | assumption | omega) only [tk_gI, tk_gL, tk_gR, tk_pI, tk_pL, rv_aI, rv_aL, rv_aR, rv_uI, rv_uL, rv_uB, rv_uZ, pu_ckI, pu_ckL, pu_lnI, pu_lnL, tk_rI, tk_rL, Option.bind_some, Option.map_some, rv_lt, tk_ix, z0, z1, z2, z3, z4, z5, z6, z7, z8, z9, z10, z11, z12, z13, z15, z16, z17, z18, z20, z21, z23, z24, z25, z31, z32, z39, z40, z41, z46, z48, z50, z57, z59, z60, z61, z62, z63, z64, z97, z98, z99, z100, z101, z102, z103, z104, z105, z106, z107, z108, z109, z110, z111, z112, z113, z114, z115, z116, z117, z118, z119, z120, z121, z122, z128, z132, z200, z240, z255, z372, z390625, z400, z420, z421, z422, z662, z900, z940, z999, z1000, z1024, z2000, z5860, z10000, z12345, z15625, z266240, z1048575, z1064960, z1103515245, z_m1, z_mul, nI_add, rc_189 hB, r14, rn_191 hB, c0, c1])); first | rw [Option.bind_some] | rw [bp_s] | rw [if_true] | rw [if_false] | rw [rv_lt_eq] | rw [if_pos (by omega)] | rw [if_neg (by omega)])
        rw [g1, bp_s]
        cases v <;> rfl
      · rw [e, evc_app, p1, evc_one]
        rfl
    · obtain ⟨v, S1, g1, f1, p1⟩ := ih x l1 D S h1 (by omega) hB hM ht
      have hB1 := f1.B hB
      have ht1 : ∀ j, j < 242 → S1.2.1 191 (420 + j) = t j := fun j hj => (f1.row rfl rfl _).trans (ht j hj)
      obtain ⟨v', S2, g2, f2, p2⟩ := ih y l2 D S1 h2 (by omega) hB1 (hM.f f1 rfl) ht1
      rw [e1] at c0
      rw [e2] at c1
      rw [e3] at c2
      have pf : ∀ pl, evc b l pl = (v && v') :: pl := fun pl => by
        rw [e, evc_app, evc_app, p1, p2, evc_one]
        rfl
      have top : ∀ R, (rv_bp (fGX13_holds n D S 189 (nI x) (nI c)) fun x28_ S29_ => if x28_ = 0 then some ((0 : Int32), S29_) else (rv_ck S29_ 11 189).bind fun u33_ => rv_bp (fGX13_holds n D S29_ 189 (nI y) (nI c)) fun x36_ S37_ => if x36_ = 0 then some ((0 : Int32), S37_) else some ((1 : Int32), S37_)) = R → fGX13_holds n (D + 1) S 189 (nI k) (nI c) = R := fun R hR => by
        show fbX13_holds n (fGX13_holds n D) S 189 (nI k) (nI c) = R
        rw [fbX13_holds]
        repeat (first | (conv => (lhs; arg 1; simp (disch := first | assumption | omega) only [tk_gI, tk_gL, tk_gR, tk_pI, tk_pL, rv_aI, rv_aL, rv_aR, rv_uI, rv_uL, rv_uB, rv_uZ, pu_ckI, pu_ckL, pu_lnI, pu_lnL, tk_rI, tk_rL, Option.bind_some, Option.map_some, rv_lt, tk_ix, z0, z1, z2, z3, z4, z5, z6, z7, z8, z9, z10, z11, z12, z13, z15, z16, z17, z18, z20, z21, z23, z24, z25, z31, z32, z39, z40, z41, z46, z48, z50, z57, z59, z60, z61, z62, z63, z64, z97, z98, z99, z100, z101, z102, z103, z104, z105, z106, z107, z108, z109, z110, z111, z112, z113, z114, z115, z116, z117, z118, z119, z120, z121, z122, z128, z132, z200, z240, z255, z372, z390625, z400, z420, z421, z422, z662, z900, z940, z999, z1000, z1024, z2000, z5860, z10000, z12345, z15625, z266240, z1048575, z1064960, z1103515245, z_m1, n_le, n_lt, n_eq, n_bit0, n_bit1, n_sbit0, n_shl, z_ltM, z_Mlt, z_leM, z_Mle, z_eqM, z_Meq, bI0, bI1, bI_01, bI_01t, bI_10, bI_10f, if_true, if_false, eq_self, reduceCtorEq, z_mul, nI_add, rc_189 hB, r14, rn_191 hB, c0, c1, c2])); first | rw [Option.bind_some] | rw [bp_s] | rw [if_true] | rw [if_false] | rw [rv_lt_eq] | rw [if_pos (by omega)] | rw [if_neg (by omega)])
        exact hR
      cases v
      · refine ⟨false, S1, top _ ?_, f1, pf⟩
        rw [g1, bp_s, bI_f, if_pos (by rfl)]
        rfl
      · refine ⟨v', S2, top _ ?_, f1.tr f2, fun pl => by rw [pf, Bool.true_and]⟩
        rw [g1, bp_s, bI_t, if_neg (by decide), rc_189 hB1, Option.bind_some, g2, bp_s]
        cases v' <;> rfl
    · obtain ⟨v, S1, g1, f1, p1⟩ := ih x l1 D S h1 (by omega) hB hM ht
      have hB1 := f1.B hB
      have ht1 : ∀ j, j < 242 → S1.2.1 191 (420 + j) = t j := fun j hj => (f1.row rfl rfl _).trans (ht j hj)
      obtain ⟨v', S2, g2, f2, p2⟩ := ih y l2 D S1 h2 (by omega) hB1 (hM.f f1 rfl) ht1
      rw [e1] at c0
      rw [e2] at c1
      rw [e3] at c2
      have pf : ∀ pl, evc b l pl = (v || v') :: pl := fun pl => by
        rw [e, evc_app, evc_app, p1, p2, evc_one]
        rfl
      have top : ∀ R, (rv_bp (fGX13_holds n D S 189 (nI x) (nI c)) fun x28_ S29_ => if x28_ = 0 then ((rv_ck S29_ 11 189).bind fun u33_ => rv_bp (fGX13_holds n D S29_ 189 (nI y) (nI c)) fun x36_ S37_ => if x36_ = 0 then some ((0 : Int32), S37_) else some ((1 : Int32), S37_)) else some ((1 : Int32), S29_)) = R → fGX13_holds n (D + 1) S 189 (nI k) (nI c) = R := fun R hR => by
        show fbX13_holds n (fGX13_holds n D) S 189 (nI k) (nI c) = R
        rw [fbX13_holds]
        repeat (first | (conv => (lhs; arg 1; simp (disch := first | assumption | omega) only [tk_gI, tk_gL, tk_gR, tk_pI, tk_pL, rv_aI, rv_aL, rv_aR, rv_uI, rv_uL, rv_uB, rv_uZ, pu_ckI, pu_ckL, pu_lnI, pu_lnL, tk_rI, tk_rL, Option.bind_some, Option.map_some, rv_lt, tk_ix, z0, z1, z2, z3, z4, z5, z6, z7, z8, z9, z10, z11, z12, z13, z15, z16, z17, z18, z20, z21, z23, z24, z25, z31, z32, z39, z40, z41, z46, z48, z50, z57, z59, z60, z61, z62, z63, z64, z97, z98, z99, z100, z101, z102, z103, z104, z105, z106, z107, z108, z109, z110, z111, z112, z113, z114, z115, z116, z117, z118, z119, z120, z121, z122, z128, z132, z200, z240, z255, z372, z390625, z400, z420, z421, z422, z662, z900, z940, z999, z1000, z1024, z2000, z5860, z10000, z12345, z15625, z266240, z1048575, z1064960, z1103515245, z_m1, n_le, n_lt, n_eq, n_bit0, n_bit1, n_sbit0, n_shl, z_ltM, z_Mlt, z_leM, z_Mle, z_eqM, z_Meq, bI0, bI1, bI_01, bI_01t, bI_10, bI_10f, if_true, if_false, eq_self, reduceCtorEq, z_mul, nI_add, rc_189 hB, r14, rn_191 hB, c0, c1, c2])); first | rw [Option.bind_some] | rw [bp_s] | rw [if_true] | rw [if_false] | rw [rv_lt_eq] | rw [if_pos (by omega)] | rw [if_neg (by omega)])
        exact hR
      cases v
      · refine ⟨v', S2, top _ ?_, f1.tr f2, fun pl => by rw [pf, Bool.false_or]⟩
        rw [g1, bp_s, bI_f, if_pos (by rfl), rc_189 hB1, Option.bind_some, g2, bp_s]
        cases v' <;> rfl
      · refine ⟨true, S1, top _ ?_, f1, fun pl => by rw [pf, Bool.true_or]⟩
        rw [g1, bp_s, bI_t, if_neg (by decide)]
        rfl
end
