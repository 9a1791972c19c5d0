/-! IMAGE, RESTORE; what ties a row of steps to the reference's tree -/
section
variable {n : Nat} {S : rvS} {m m' : Nat → Nat} {wd : Nat → List Nat}
/-- the reference's node k (cells t from the place of HAS_SENTENCE on) says what the steps l say; q: how many names there are -/
def Den (q : Nat) (t : Nat → Int32) : Nat → Nat → List (Nat × Nat × Nat) → Prop
  | 0, _, _ => False
  | d + 1, k, l => k < 60 ∧ ((∃ w s a, l = [(w, s, a)] ∧ t (2 + 4 * k) = nI (50 + w) ∧ ((14 ≤ w ∧ w ≤ 16 ∧ a < q ∧ t (2 + 4 * k + 1) = nI a) ∨ (w = 17 ∨ w = 18) ∨ (19 ≤ w ∧ w ≤ 21 ∧ a < 1000 ∧ (s = 60 ∨ s = 61 ∨ s = 62) ∧ t (2 + 4 * k + 2) = nI a ∧ t (2 + 4 * k + 3) = nI s)))
    ∨ (∃ x l1, l = l1 ++ [(13, 0, 0)] ∧ t (2 + 4 * k) = nI 1 ∧ t (2 + 4 * k + 1) = nI x ∧ Den q t d x l1)
    ∨ (∃ x y l1 l2, l = l1 ++ l2 ++ [(12, 0, 0)] ∧ t (2 + 4 * k) = nI 2 ∧ t (2 + 4 * k + 1) = nI x ∧ t (2 + 4 * k + 2) = nI y ∧ Den q t d x l1 ∧ Den q t d y l2)
    ∨ (∃ x y l1 l2, l = l1 ++ l2 ++ [(11, 0, 0)] ∧ t (2 + 4 * k) = nI 3 ∧ t (2 + 4 * k + 1) = nI x ∧ t (2 + 4 * k + 2) = nI y ∧ Den q t d x l1 ∧ Den q t d y l2))
theorem Den.c {q : Nat} {t t' : Nat → Int32} (e : ∀ j, j < 242 → t' j = t j) : ∀ {d k : Nat} {l : List (Nat × Nat × Nat)}, Den q t d k l → Den q t' d k l := by
  intro d
  induction d with
  | zero => intro k l h; exact h
  | succ d ih =>
    intro k l h
    obtain ⟨hk, h⟩ := h
    have e0 : t' (2 + 4 * k) = t (2 + 4 * k) := e _ (by omega)
    have e1 : t' (2 + 4 * k + 1) = t (2 + 4 * k + 1) := e _ (by omega)
    have e2 : t' (2 + 4 * k + 2) = t (2 + 4 * k + 2) := e _ (by omega)
    have e3 : t' (2 + 4 * k + 3) = t (2 + 4 * k + 3) := e _ (by omega)
    refine ⟨hk, ?_⟩
    rw [e0, e1, e2, e3]
    rcases h with h | ⟨x, l1, a1, a2, a3, a4⟩ | ⟨x, y, l1, l2, a1, a2, a3, a4, a5, a6⟩ | ⟨x, y, l1, l2, a1, a2, a3, a4, a5, a6⟩
    · exact Or.inl h
    · exact Or.inr (Or.inl ⟨x, l1, a1, a2, a3, ih a4⟩)
    · exact Or.inr (Or.inr (Or.inl ⟨x, y, l1, l2, a1, a2, a3, a4, ih a5, ih a6⟩))
    · exact Or.inr (Or.inr (Or.inr ⟨x, y, l1, l2, a1, a2, a3, a4, ih a5, ih a6⟩))
/-- the sentences of both sides -/
def Cpl (q o : Nat) (st : List (Nat × Nat × Nat)) (t : Nat → Int32) : Prop := (o = 0 ∧ t 0 = nI 0) ∨ (0 < o ∧ o ≤ 20 ∧ t 0 = nI 1 ∧ ∃ top d, t 1 = nI top ∧ Den q t d top st)
theorem Cpl.c {q o : Nat} {st : List (Nat × Nat × Nat)} {t t' : Nat → Int32} (e : ∀ j, j < 242 → t' j = t j) (h : Cpl q o st t) : Cpl q o st t' := by
  rcases h with ⟨h1, h2⟩ | ⟨h1, h2, h3, top, d, h4, h5⟩
  · exact Or.inl ⟨h1, by rw [e 0 (by decide)]; exact h2⟩
  · exact Or.inr ⟨h1, h2, by rw [e 0 (by decide)]; exact h3, top, d, by rw [e 1 (by decide)]; exact h4, h5.c e⟩
/-- valley and sentence of both sides, as they are now -/
def NW (S : rvS) (m : Nat → Nat) (wd : Nat → List Nat) (o : Nat) (st : List (Nat × Nat × Nat)) : Prop := VI S m wd ∧ CSn S 67 o st ∧ Cpl (m 6) o st (fun j => S.2.1 191 (420 + j))
/-- place k keeps so much -/
def PLk (S : rvS) (k : Nat) (m : Nat → Nat) (wd : Nat → List Nat) (o : Nat) (st : List (Nat × Nat × Nat)) : Prop := CR S (149 + 20 * k) m ∧ NC S (149 + 20 * k) m wd ∧ CSn S (149 + 20 * k) o st ∧ okm m ∧ okw m wd ∧ (∀ j, j < 420 → S.2.1 193 (662 * k + j) = nI (m j)) ∧ (∀ w, w < m 6 → S.2.2.1 197 (16 * k + w) = lN (c27 (wd w))) ∧ Cpl (m 6) o st (fun j => S.2.1 193 (662 * k + (420 + j)))
def PK (S : rvS) : Prop := ∃ pk, pk < 4 ∧ S.2.1 64 4 = nI pk ∧ ∀ k, k < 2 → S.2.1 198 k = bI (pk.testBit k) ∧ (pk.testBit k = true → ∃ m wd o st, PLk S k m wd o st)
theorem vb_pl {k : Nat} (hk : k < 2) : vb (149 + 20 * k) := by
  have : k = 0 ∨ k = 1 := by omega
  rcases this with rfl | rfl
  · exact Or.inr (Or.inr (Or.inl rfl))
  · exact Or.inr (Or.inr (Or.inr rfl))
theorem CRe {S' : rvS} {v : Nat} (hR : CR S v m) (g : ∀ i, i < 20 → ∀ k, S'.2.1 (v + i) k = S.2.1 (v + i) k) : CR S' v m := by
  obtain ⟨⟨a1, a2, a3, a4, a5, a6, a7, a8⟩, ⟨b1, b2, b3, b4, b5⟩, c1, c2, c3, c4, c5, c6, c7⟩ := hR
  exact ⟨⟨(g 1 (by decide) _).trans a1, (g 1 (by decide) _).trans a2, (g 1 (by decide) _).trans a3, fun w h => (g 2 (by decide) w).trans (a4 w h), fun w h => (g 3 (by decide) w).trans (a5 w h), fun w h => (g 4 (by decide) w).trans (a6 w h), fun w h => (g 6 (by decide) w).trans (a7 w h), fun w h => (g 7 (by decide) w).trans (a8 w h)⟩, ⟨(g 8 (by decide) _).trans b1, (g 8 (by decide) _).trans b2, fun w h => (g 9 (by decide) w).trans (b3 w h), fun w h => (g 10 (by decide) w).trans (b4 w h), fun w h => (g 11 (by decide) w).trans (b5 w h)⟩, (g 0 (by decide) _).trans c1, (g 0 (by decide) _).trans c2, (g 0 (by decide) _).trans c3, (g 0 (by decide) _).trans c4, fun w h => (g 17 (by decide) w).trans (c5 w h), fun w h => (g 18 (by decide) w).trans (c6 w h), fun w h => (g 19 (by decide) w).trans (c7 w h)⟩
/-- a place that nothing touches -/
theorem PLk.e {S' : rvS} {k o : Nat} {st : List (Nat × Nat × Nat)} (h : PLk S k m wd o st) (g : ∀ i, i < 20 → S'.2.1 (149 + 20 * k + i) = S.2.1 (149 + 20 * k + i) ∧ S'.2.2.1 (149 + 20 * k + i) = S.2.2.1 (149 + 20 * k + i) ∧ S'.2.2.2 (149 + 20 * k + i) = S.2.2.2 (149 + 20 * k + i)) (g1 : ∀ j, j < 662 → S'.2.1 193 (662 * k + j) = S.2.1 193 (662 * k + j)) (g2 : ∀ w, w < 16 → S'.2.2.1 197 (16 * k + w) = S.2.2.1 197 (16 * k + w)) : PLk S' k m wd o st := by
  obtain ⟨h1, h2, h3, h4, h5, h6, h7, h8⟩ := h
  have h16 := h4.2.2.2.2.2.2.1
  refine ⟨CRe h1 (fun i hi k => by rw [(g i hi).1]), fun w hw => ?_, h3.f (fun a haa => ?_) (fun j => ?_), h4, h5, fun j hj => ?_, fun w hw => ?_, h8.c (fun j hj => ?_)⟩
  · rw [(g 5 (by decide)).2.1]; exact h2 w hw
  · rcases haa with rfl | rfl | rfl
    · exact (g 12 (by decide)).1
    · exact (g 14 (by decide)).1
    · exact (g 15 (by decide)).1
  · rw [(g 13 (by decide)).2.2]
  · rw [g1 _ (by omega)]; exact h6 j hj
  · rw [g2 _ (by omega)]; exact h7 w hw
  · exact g1 _ (by omega)
theorem m_image (hn : 700 ≤ n) (hB : rv_B S) {k : Nat} (hk : k < 2) : ∃ S', cX13_image_22 n n S 189 (nI k) 0 = some (nI 1, S') ∧ rvf [193, 197, 198] S S' ∧ (∀ j, j < 662 → S'.2.1 193 (662 * k + j) = S.2.1 191 j) ∧ (∀ w, w < 16 → S'.2.2.1 197 (16 * k + w) = S.2.2.1 195 w) ∧ S'.2.1 198 k = nI 1 ∧ (∀ j, (j < 662 * k ∨ 662 * k + 662 ≤ j) → S'.2.1 193 j = S.2.1 193 j) ∧ (∀ w, (w < 16 * k ∨ 16 * k + 16 ≤ w) → S'.2.2.1 197 w = S.2.2.1 197 w) ∧ ∀ j, j ≠ k → S'.2.1 198 j = S.2.1 198 j := by
  have part2 : ∀ S1, rvf [193] S S1 → (∀ j, j < 662 → S1.2.1 193 (662 * k + j) = S.2.1 191 j) → (∀ j, (j < 662 * k ∨ 662 * k + 662 ≤ j) → S1.2.1 193 j = S.2.1 193 j) → ∃ S', cX13_image_55 n n S1 189 (nI k) 0 = some (nI 1, S') ∧ rvf [193, 197, 198] S S' ∧ (∀ j, j < 662 → S'.2.1 193 (662 * k + j) = S.2.1 191 j) ∧ (∀ w, w < 16 → S'.2.2.1 197 (16 * k + w) = S.2.2.1 195 w) ∧ S'.2.1 198 k = nI 1 ∧ (∀ j, (j < 662 * k ∨ 662 * k + 662 ≤ j) → S'.2.1 193 j = S.2.1 193 j) ∧ (∀ w, (w < 16 * k ∨ 16 * k + 16 ≤ w) → S'.2.2.1 197 w = S.2.2.1 197 w) ∧ ∀ j, j ≠ k → S'.2.1 198 j = S.2.1 198 j := by
    intro S1 f1 a1 a2
    refine lp (F := fun q (x : rvS × Int32) => cX13_image_55 n q x.1 189 (nI k) x.2) (fun i x => x.2 = nI i ∧ (rvf [197] S1 x.1 ∧ (∀ j, x.1.2.1 197 j = S1.2.1 197 j) ∧ ∀ w, (w < 16 * k ∨ 16 * k + 16 ≤ w) → x.1.2.2.1 197 w = S1.2.2.1 197 w) ∧ ∀ w, w < i → x.1.2.2.1 197 (16 * k + w) = S.2.2.1 195 w) (fun r => ∃ S', r = some (nI 1, S') ∧ rvf [193, 197, 198] S S' ∧ (∀ j, j < 662 → S'.2.1 193 (662 * k + j) = S.2.1 191 j) ∧ (∀ w, w < 16 → S'.2.2.1 197 (16 * k + w) = S.2.2.1 195 w) ∧ S'.2.1 198 k = nI 1 ∧ (∀ j, (j < 662 * k ∨ 662 * k + 662 ≤ j) → S'.2.1 193 j = S.2.1 193 j) ∧ (∀ w, (w < 16 * k ∨ 16 * k + 16 ≤ w) → S'.2.2.1 197 w = S.2.2.1 197 w) ∧ ∀ j, j ≠ k → S'.2.1 198 j = S.2.1 198 j) 16 (fun i x q hi hx => Or.inr ?_) (fun x q hx => ?_) (i := 0) (x := (S1, 0)) (q := n) (Nat.zero_le _) ⟨rfl, ⟨rvf.rf _ _, fun _ => rfl, fun _ _ => rfl⟩, fun w hw => absurd hw (Nat.not_lt_zero w)⟩ (by omega)
    · obtain ⟨S2, x2⟩ := x
      obtain ⟨rfl, ⟨f2, i2, o2⟩, r2⟩ := hx
      have f2 : rvf [197] S1 S2 := f2
      have hB2 := f2.B (f1.B hB)
      have s1 : S2.2.2.1 195 i = S.2.2.1 195 i := (f2.rowL rfl rfl i).trans (f1.rowL rfl rfl i)
      refine ⟨(rv_sL S2 197 (16 * k + i) (S.2.2.1 195 i), nI (i + 1)), ?_, rfl, ⟨f2.tr (rvf.sLr _ _ _ rfl), i2, fun w hw => ?_⟩, fun w hw => ?_⟩
      · show cX13_image_55 n (q + 1) S2 189 (nI k) (nI i) = _
        rw [cX13_image_55]
        repeat (first | (conv => (lhs; arg 1; simp (disch := first | assumption | omega) only [tk_gI, tk_gL, tk_gR, tk_pI, tk_pL, rv_aI, rv_aL, rv_aR, rv_uI, rv_uL, rv_uB, rv_uZ, pu_ckI, pu_ckL, pu_lnI, pu_lnL, tk_rI, tk_rL, Option.bind_some, Option.map_some, rv_lt, tk_ix, z0, z1, z2, z3, z4, z5, z6, z7, z8, z9, z10, z11, z12, z13, z15, z16, z17, z18, z20, z21, z23, z24, z25, z31, z32, z39, z40, z41, z46, z48, z50, z57, z59, z60, z61, z62, z63, z64, z97, z98, z99, z100, z101, z102, z103, z104, z105, z106, z107, z108, z109, z110, z111, z112, z113, z114, z115, z116, z117, z118, z119, z120, z121, z122, z128, z132, z200, z240, z255, z372, z390625, z400, z420, z421, z422, z662, z900, z940, z999, z1000, z1024, z2000, z5860, z10000, z12345, z15625, z266240, z1048575, z1064960, z1103515245, z_m1, n_le, n_lt, n_eq, n_bit0, n_bit1, n_sbit0, n_shl, z_ltM, z_Mlt, z_leM, z_Mle, z_eqM, z_Meq, bI0, bI1, bI_01, bI_01t, bI_10, bI_10f, if_true, if_false, eq_self, reduceCtorEq, rc_189 hB2, rf_of hB2 (show (189, 20, 197) ∈ rv_rf0 by decide), rf_of hB2 (show (189, 18, 195) ∈ rv_rf0 by decide), rn_197 hB2, rn_195 hB2, s1, nI_add, z_mul])); first | rw [Option.bind_some] | rw [bp_s] | rw [if_true] | rw [if_false] | rw [rv_lt_eq] | rw [if_pos (by omega)] | rw [if_neg (by omega)])
      · rw [rv_sL_k _ _ (by omega)]; exact o2 w hw
      · by_cases c : w = i
        · subst c; exact rv_sL_eq _ _ _ _
        · rw [rv_sL_k _ _ (by omega)]; exact r2 w (by omega)
    · obtain ⟨S2, x2⟩ := x
      obtain ⟨rfl, ⟨f2, i2, o2⟩, r2⟩ := hx
      have f2 : rvf [197] S1 S2 := f2
      have hB2 := f2.B (f1.B hB)
      have n1 : vp_nar .boolean (nI 1) = nI 1 := by decide +kernel
      refine ⟨rv_sI S2 198 k (nI 1), ?_, ((f1.mono rfl).tr (f2.mono rfl)).w rfl rfl, fun j hj => ?_, fun w hw => ?_, rv_sI_eq _ _ _ _, fun j hj => ?_, fun w hw => ?_, fun j hj => ?_⟩
      · show cX13_image_55 n (q + 1) S2 189 (nI k) (nI 16) = _
        rw [cX13_image_55, if_pos (show (16 : Int32) ≤ nI 16 from nI_le (Nat.le_refl 16) (by decide)), cX13_image_84]
        repeat (first | (conv => (lhs; arg 1; simp (disch := first | assumption | omega) only [tk_gI, tk_gL, tk_gR, tk_pI, tk_pL, rv_aI, rv_aL, rv_aR, rv_uI, rv_uL, rv_uB, rv_uZ, pu_ckI, pu_ckL, pu_lnI, pu_lnL, tk_rI, tk_rL, Option.bind_some, Option.map_some, rv_lt, tk_ix, z0, z1, z2, z3, z4, z5, z6, z7, z8, z9, z10, z11, z12, z13, z15, z16, z17, z18, z20, z21, z23, z24, z25, z31, z32, z39, z40, z41, z46, z48, z50, z57, z59, z60, z61, z62, z63, z64, z97, z98, z99, z100, z101, z102, z103, z104, z105, z106, z107, z108, z109, z110, z111, z112, z113, z114, z115, z116, z117, z118, z119, z120, z121, z122, z128, z132, z200, z240, z255, z372, z390625, z400, z420, z421, z422, z662, z900, z940, z999, z1000, z1024, z2000, z5860, z10000, z12345, z15625, z266240, z1048575, z1064960, z1103515245, z_m1, n_le, n_lt, n_eq, n_bit0, n_bit1, n_sbit0, n_shl, z_ltM, z_Mlt, z_leM, z_Mle, z_eqM, z_Meq, bI0, bI1, bI_01, bI_01t, bI_10, bI_10f, if_true, if_false, eq_self, reduceCtorEq, rc_189 hB2, rf_of hB2 (show (189, 21, 198) ∈ rv_rf0 by decide), rn_198 hB2, n1])); first | rw [Option.bind_some] | rw [bp_s] | rw [if_true] | rw [if_false] | rw [rv_lt_eq] | rw [if_pos (by omega)] | rw [if_neg (by omega)])
        rfl
      · rw [rv_sI_a _ _ _ (by decide), f2.row rfl rfl]; exact a1 j hj
      · exact r2 w hw
      · rw [rv_sI_a _ _ _ (by decide), f2.row rfl rfl]; exact a2 j hj
      · exact (o2 w hw).trans (f1.rowL rfl rfl w)
      · rw [rv_sI_k _ _ hj, f2.row rfl rfl, f1.row rfl rfl]
  refine lp (F := fun q (x : rvS × Int32) => cX13_image_22 n q x.1 189 (nI k) x.2) (fun i x => x.2 = nI i ∧ (rvf [193] S x.1 ∧ ∀ j, (j < 662 * k ∨ 662 * k + 662 ≤ j) → x.1.2.1 193 j = S.2.1 193 j) ∧ ∀ j, j < i → x.1.2.1 193 (662 * k + j) = S.2.1 191 j) (fun r => ∃ S', r = some (nI 1, S') ∧ rvf [193, 197, 198] S S' ∧ (∀ j, j < 662 → S'.2.1 193 (662 * k + j) = S.2.1 191 j) ∧ (∀ w, w < 16 → S'.2.2.1 197 (16 * k + w) = S.2.2.1 195 w) ∧ S'.2.1 198 k = nI 1 ∧ (∀ j, (j < 662 * k ∨ 662 * k + 662 ≤ j) → S'.2.1 193 j = S.2.1 193 j) ∧ (∀ w, (w < 16 * k ∨ 16 * k + 16 ≤ w) → S'.2.2.1 197 w = S.2.2.1 197 w) ∧ ∀ j, j ≠ k → S'.2.1 198 j = S.2.1 198 j) 662 (fun i x q hi hx => Or.inr ?_) (fun x q hx => ?_) (i := 0) (x := (S, 0)) (q := n) (Nat.zero_le _) ⟨rfl, ⟨rvf.rf _ _, fun _ _ => rfl⟩, fun w hw => absurd hw (Nat.not_lt_zero w)⟩ (by omega)
  · obtain ⟨S2, x2⟩ := x
    obtain ⟨rfl, ⟨f2, o2⟩, r2⟩ := hx
    have f2 : rvf [193] S S2 := f2
    have hB2 := f2.B hB
    have s1 : S2.2.1 191 i = S.2.1 191 i := f2.row rfl rfl i
    refine ⟨(rv_sI S2 193 (662 * k + i) (S.2.1 191 i), nI (i + 1)), ?_, rfl, ⟨f2.w rfl rfl, fun j hj => ?_⟩, fun j hj => ?_⟩
    · show cX13_image_22 n (q + 1) S2 189 (nI k) (nI i) = _
      rw [cX13_image_22]
      repeat (first | (conv => (lhs; arg 1; simp (disch := first | assumption | omega) only [tk_gI, tk_gL, tk_gR, tk_pI, tk_pL, rv_aI, rv_aL, rv_aR, rv_uI, rv_uL, rv_uB, rv_uZ, pu_ckI, pu_ckL, pu_lnI, pu_lnL, tk_rI, tk_rL, Option.bind_some, Option.map_some, rv_lt, tk_ix, z0, z1, z2, z3, z4, z5, z6, z7, z8, z9, z10, z11, z12, z13, z15, z16, z17, z18, z20, z21, z23, z24, z25, z31, z32, z39, z40, z41, z46, z48, z50, z57, z59, z60, z61, z62, z63, z64, z97, z98, z99, z100, z101, z102, z103, z104, z105, z106, z107, z108, z109, z110, z111, z112, z113, z114, z115, z116, z117, z118, z119, z120, z121, z122, z128, z132, z200, z240, z255, z372, z390625, z400, z420, z421, z422, z662, z900, z940, z999, z1000, z1024, z2000, z5860, z10000, z12345, z15625, z266240, z1048575, z1064960, z1103515245, z_m1, n_le, n_lt, n_eq, n_bit0, n_bit1, n_sbit0, n_shl, z_ltM, z_Mlt, z_leM, z_Mle, z_eqM, z_Meq, bI0, bI1, bI_01, bI_01t, bI_10, bI_10f, if_true, if_false, eq_self, reduceCtorEq, rc_189 hB2, rf_of hB2 (show (189, 16, 193) ∈ rv_rf0 by decide), rf_of hB2 (show (189, 14, 191) ∈ rv_rf0 by decide), rn_193 hB2, rn_191 hB2, s1, nI_add, z_mul])); first | rw [Option.bind_some] | rw [bp_s] | rw [if_true] | rw [if_false] | rw [rv_lt_eq] | rw [if_pos (by omega)] | rw [if_neg (by omega)])
    · rw [rv_sI_k _ _ (by omega)]; exact o2 j hj
    · by_cases c : j = i
      · subst c; exact rv_sI_eq _ _ _ _
      · rw [rv_sI_k _ _ (by omega)]; exact r2 j (by omega)
  · obtain ⟨S2, x2⟩ := x
    obtain ⟨rfl, ⟨f2, o2⟩, r2⟩ := hx
    show ∃ S', cX13_image_22 n (q + 1) S2 189 (nI k) (nI 662) = some (nI 1, S') ∧ _
    rw [cX13_image_22, if_pos (show (662 : Int32) ≤ nI 662 from nI_le (Nat.le_refl 662) (by decide))]
    exact part2 S2 f2 r2 o2
end
