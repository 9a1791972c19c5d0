/-! ORDERS: the reference's search -/
section
variable {n : Nat} {S : rvS} {m m' : Nat → Nat}
theorem pT_or (hk : okm m) {k : Nat} (h : k < vD m) : 10000 ≤ pT m k ∨ pT m k ≤ 40 := by
  obtain ⟨q1, q2, q3, q4, q5, q6⟩ := hk.2.2.2.2.2.2.2.2 k h
  rcases few (e := gz m (db m k 0) (db m k 1)) (d := va m) hk.2.1.1 q5 with h | h
  · exact Or.inl h.1
  · exact Or.inr h.1
theorem m_rn (hn : 1100 ≤ n) (hB : rv_B S) (hM : MR S m') (hk : okm m') {k : Nat} (h : k < vD m') : ∃ x S', fnX13_clearNow n S 189 (nI k) = some (x, S') ∧ (x < nI 0 ↔ ¬ pT m' k ≤ 40) ∧ rvf [191, 199, 200, 202] S S' ∧ MR S' (pyd m' k) ∧ R42 S S' := by
  obtain ⟨x1, x2⟩ := m_clearNow hn hB hM hk h
  rcases pT_or hk h with c | c
  · obtain ⟨S1, e1, f1, g1, r1⟩ := x1 c
    have er : pyd m' k = m' := if_neg (by omega)
    exact ⟨iM, S1, e1, ⟨fun _ => by omega, fun _ => by decide⟩, f1, by rw [er]; exact g1, r1⟩
  · obtain ⟨S1, e1, f1, g1, r1⟩ := x2 c
    have er : pyd m' k = cl (pM m' k) k := if_pos c
    exact ⟨_, S1, e1, ⟨fun z => absurd z (nI_pos (by omega)), fun z => absurd c z⟩, f1, by rw [er]; exact g1, r1⟩
theorem m_copyR (hn : 500 ≤ n) (hB : rv_B S) (hM : MR S m) : ∃ S', fnX13_layAside n S 189 = some S' ∧ rvf [194] S S' ∧ ∀ k, k < 420 → S'.2.1 194 k = nI (m k) := by
  rw [fnX13_layAside]
  refine lp (F := fun q (x : rvS × Int32) => cX13_layAside_2 n q x.1 189 x.2) (fun i x => x.2 = nI i ∧ rvf [194] S x.1 ∧ ∀ j, j < i → x.1.2.1 194 j = nI (m j)) (fun o => ∃ S', o = some S' ∧ rvf [194] S S' ∧ ∀ k, k < 420 → S'.2.1 194 k = nI (m k)) 420 (fun i x q hi hx => Or.inr ?_) (fun x q hx => ?_) (i := 0) (x := (S, nI 0)) (q := n) (Nat.zero_le _) ⟨rfl, rvf.rf _ _, fun j h => absurd h (Nat.not_lt_zero j)⟩ (by omega)
  · obtain ⟨S1, x2⟩ := x
    obtain ⟨rfl, f, g⟩ := hx
    have f : rvf [194] S S1 := f
    have g : ∀ j, j < i → S1.2.1 194 j = nI (m j) := g
    have hB1 := f.B hB
    have q1 : S1.2.1 191 i = nI (m i) := (f.row rfl rfl i).trans (hM i hi)
    refine ⟨(rv_sI S1 194 i (nI (m i)), nI (i + 1)), ?_, rfl, f.w rfl rfl, fun j hj => ?_⟩
    · show cX13_layAside_2 n (q + 1) S1 189 (nI i) = cX13_layAside_2 n q _ 189 (nI (i + 1))
      rw [cX13_layAside_2]
      simp (disch := first | assumption | omega) only [tk_gI, tk_gL, tk_gR, tk_pI, tk_pL, rv_aI, rv_aL, rv_aR, rv_uI, rv_uL, rv_uB, rv_uZ, pu_ckI, pu_ckL, pu_lnI, pu_lnL, tk_rI, tk_rL, Option.bind_some, Option.map_some, rv_lt, tk_ix, z0, z1, z2, z3, z4, z5, z6, z7, z8, z9, z10, z11, z12, z13, z15, z16, z17, z18, z20, z21, z23, z24, z25, z31, z32, z39, z40, z41, z46, z48, z50, z57, z59, z60, z61, z62, z63, z64, z97, z98, z99, z100, z101, z102, z103, z104, z105, z106, z107, z108, z109, z110, z111, z112, z113, z114, z115, z116, z117, z118, z119, z120, z121, z122, z128, z132, z200, z240, z255, z372, z390625, z400, z420, z421, z422, z662, z900, z940, z999, z1000, z1024, z2000, z5860, z10000, z12345, z15625, z266240, z1048575, z1064960, z1103515245, z_m1, n_le, n_lt, n_eq, n_bit0, n_bit1, n_sbit0, n_shl, z_ltM, z_Mlt, z_leM, z_Mle, z_eqM, z_Meq, bI0, bI1, bI_01, bI_01t, bI_10, bI_10f, if_true, if_false, eq_self, reduceCtorEq, if_pos, if_neg, rc_189 hB1, rf_of hB1 (show (189, 17, 194) ∈ rv_rf0 by decide), rf_of hB1 (show (189, 14, 191) ∈ rv_rf0 by decide), rn_194 hB1, rn_191 hB1, nI_add, q1]
    · show (rv_sI S1 194 i _).2.1 194 j = _
      by_cases c : j = i
      · subst c; exact rv_sI_eq _ _ _ _
      · rw [rv_sI_k _ _ c]; exact g j (by omega)
  · obtain ⟨S1, x2⟩ := x
    obtain ⟨rfl, f, g⟩ := hx
    refine ⟨S1, ?_, f, g⟩
    show cX13_layAside_2 n (q + 1) S1 189 (nI 420) = _
    rw [cX13_layAside_2]
    simp (disch := first | assumption | omega) only [z0, z1, z2, z3, z4, z5, z6, z7, z8, z9, z10, z11, z12, z13, z15, z16, z17, z18, z20, z21, z23, z24, z25, z31, z32, z39, z40, z41, z46, z48, z50, z57, z59, z60, z61, z62, z63, z64, z97, z98, z99, z100, z101, z102, z103, z104, z105, z106, z107, z108, z109, z110, z111, z112, z113, z114, z115, z116, z117, z118, z119, z120, z121, z122, z128, z132, z200, z240, z255, z372, z390625, z400, z420, z421, z422, z662, z900, z940, z999, z1000, z1024, z2000, z5860, z10000, z12345, z15625, z266240, z1048575, z1064960, z1103515245, z_m1, n_le, n_lt, n_eq, n_bit0, n_bit1, n_sbit0, n_shl, z_ltM, z_Mlt, z_leM, z_Mle, z_eqM, z_Meq, bI0, bI1, bI_01, bI_01t, bI_10, bI_10f, if_true, if_false, eq_self, reduceCtorEq, if_pos, if_neg]
theorem m_copyB (hn : 500 ≤ n) (hB : rv_B S) (h194 : ∀ k, k < 420 → S.2.1 194 k = nI (m k)) : ∃ S', fnX13_layBack n S 189 = some S' ∧ rvf [191] S S' ∧ MR S' m ∧ R42 S S' := by
  rw [fnX13_layBack]
  refine lp (F := fun q (x : rvS × Int32) => cX13_layBack_2 n q x.1 189 x.2) (fun i x => x.2 = nI i ∧ rvf [191] S x.1 ∧ (∀ j, j < i → x.1.2.1 191 j = nI (m j)) ∧ R42 S x.1) (fun o => ∃ S', o = some S' ∧ rvf [191] S S' ∧ MR S' m ∧ R42 S S') 420 (fun i x q hi hx => Or.inr ?_) (fun x q hx => ?_) (i := 0) (x := (S, nI 0)) (q := n) (Nat.zero_le _) ⟨rfl, rvf.rf _ _, fun j h => absurd h (Nat.not_lt_zero j), fun _ _ => rfl⟩ (by omega)
  · obtain ⟨S1, x2⟩ := x
    obtain ⟨rfl, f, g, r⟩ := hx
    have f : rvf [191] S S1 := f
    have g : ∀ j, j < i → S1.2.1 191 j = nI (m j) := g
    have r : R42 S S1 := r
    have hB1 := f.B hB
    have q1 : S1.2.1 194 i = nI (m i) := (f.row rfl rfl i).trans (h194 i hi)
    refine ⟨(rv_sI S1 191 i (nI (m i)), nI (i + 1)), ?_, rfl, f.w rfl rfl, fun j hj => ?_, fun j hj => ?_⟩
    · show cX13_layBack_2 n (q + 1) S1 189 (nI i) = cX13_layBack_2 n q _ 189 (nI (i + 1))
      rw [cX13_layBack_2]
      simp (disch := first | assumption | omega) only [tk_gI, tk_gL, tk_gR, tk_pI, tk_pL, rv_aI, rv_aL, rv_aR, rv_uI, rv_uL, rv_uB, rv_uZ, pu_ckI, pu_ckL, pu_lnI, pu_lnL, tk_rI, tk_rL, Option.bind_some, Option.map_some, rv_lt, tk_ix, z0, z1, z2, z3, z4, z5, z6, z7, z8, z9, z10, z11, z12, z13, z15, z16, z17, z18, z20, z21, z23, z24, z25, z31, z32, z39, z40, z41, z46, z48, z50, z57, z59, z60, z61, z62, z63, z64, z97, z98, z99, z100, z101, z102, z103, z104, z105, z106, z107, z108, z109, z110, z111, z112, z113, z114, z115, z116, z117, z118, z119, z120, z121, z122, z128, z132, z200, z240, z255, z372, z390625, z400, z420, z421, z422, z662, z900, z940, z999, z1000, z1024, z2000, z5860, z10000, z12345, z15625, z266240, z1048575, z1064960, z1103515245, z_m1, n_le, n_lt, n_eq, n_bit0, n_bit1, n_sbit0, n_shl, z_ltM, z_Mlt, z_leM, z_Mle, z_eqM, z_Meq, bI0, bI1, bI_01, bI_01t, bI_10, bI_10f, if_true, if_false, eq_self, reduceCtorEq, if_pos, if_neg, rc_189 hB1, rf_of hB1 (show (189, 17, 194) ∈ rv_rf0 by decide), rf_of hB1 (show (189, 14, 191) ∈ rv_rf0 by decide), rn_194 hB1, rn_191 hB1, nI_add, q1]
    · show (rv_sI S1 191 i _).2.1 191 j = _
      by_cases c : j = i
      · subst c; exact rv_sI_eq _ _ _ _
      · rw [rv_sI_k _ _ c]; exact g j (by omega)
    · show (rv_sI S1 191 i _).2.1 191 j = _
      rw [rv_sI_k _ _ (by omega)]; exact r j hj
  · obtain ⟨S1, x2⟩ := x
    obtain ⟨rfl, f, g, r⟩ := hx
    refine ⟨S1, ?_, f, g, r⟩
    show cX13_layBack_2 n (q + 1) S1 189 (nI 420) = _
    rw [cX13_layBack_2]
    simp (disch := first | assumption | omega) only [z0, z1, z2, z3, z4, z5, z6, z7, z8, z9, z10, z11, z12, z13, z15, z16, z17, z18, z20, z21, z23, z24, z25, z31, z32, z39, z40, z41, z46, z48, z50, z57, z59, z60, z61, z62, z63, z64, z97, z98, z99, z100, z101, z102, z103, z104, z105, z106, z107, z108, z109, z110, z111, z112, z113, z114, z115, z116, z117, z118, z119, z120, z121, z122, z128, z132, z200, z240, z255, z372, z390625, z400, z420, z421, z422, z662, z900, z940, z999, z1000, z1024, z2000, z5860, z10000, z12345, z15625, z266240, z1048575, z1064960, z1103515245, z_m1, n_le, n_lt, n_eq, n_bit0, n_bit1, n_sbit0, n_shl, z_ltM, z_Mlt, z_leM, z_Mle, z_eqM, z_Meq, bI0, bI1, bI_01, bI_01t, bI_10, bI_10f, if_true, if_false, eq_self, reduceCtorEq, if_pos, if_neg]
def DM : List Nat := [191, 199, 200, 202, 189042, 210, 211]
def OM (d : Nat) (S S' : rvS) : Prop := rvf DM S S' ∧ R42 S S' ∧ ∀ j, j < d → S'.2.1 210 j = S.2.1 210 j
theorem OM.rf (d : Nat) (S : rvS) : OM d S S := ⟨rvf.rf _ _, fun _ _ => rfl, fun _ _ => rfl⟩
theorem OM.tr {d : Nat} {S S1 S2 : rvS} (h : OM d S S1) (k : OM d S1 S2) : OM d S S2 := ⟨h.1.tr k.1, h.2.1.tr k.2.1, fun j hj => (k.2.2 j hj).trans (h.2.2 j hj)⟩
theorem OM.le {d d' : Nat} {S S1 : rvS} (h : OM d S S1) (hd : d' ≤ d) : OM d' S S1 := ⟨h.1, h.2.1, fun j hj => h.2.2 j (by omega)⟩
def MRB (S : rvS) (N : Nat) (ask : Nat → Nat) (b : OB) : Prop := b.1 ≤ 6 ∧ S.2.1 189 42 = mI b.1 ∧ (1 ≤ b.1 → ∀ j, j < N → S.2.1 211 j = nI (ask (b.2.getD j 0)))
def MPL (S : rvS) (m : Nat → Nat) (N : Nat) (ask : Nat → Nat) (pre : List Nat) : Prop := rv_B S ∧ (∀ k, k < 420 → S.2.1 194 k = nI (m k)) ∧ S.2.1 189 41 = nI N ∧ (∀ i, i < N → S.2.1 209 i = nI (ask i)) ∧ (∀ j, j < pre.length → S.2.1 210 j = nI (ask (pre.getD j 0))) ∧ ∀ x ∈ pre, x < N
theorem MPL_f {S S' : rvS} {N : Nat} {ask : Nat → Nat} {pre : List Nat} (h : MPL S m N ask pre) (f : OM pre.length S S') : MPL S' m N ask pre := by
  obtain ⟨hB, h1, h2, h3, h4, h5⟩ := h
  exact ⟨f.1.B hB, fun k hk => (f.1.row rfl rfl k).trans (h1 k hk), (f.1.at (a := 189) (k := 41) rfl).trans h2, fun i hi => (f.1.row rfl rfl i).trans (h3 i hi), fun j hj => (f.2.2 j hj).trans (h4 j hj), h5⟩
theorem MRB_f {D : List Nat} {S S' : rvS} {N : Nat} {ask : Nat → Nat} {b : OB} (h : MRB S N ask b) (f : rvf D S S') (h1 : D.elem 189042 = false) (h2 : D.elem 211 = false) : MRB S' N ask b := ⟨h.1, (f.at (a := 189) (k := 42) h1).trans h.2.1, fun z j hj => (f.row rfl h2 j).trans (h.2.2 z j hj)⟩
theorem m_eval (hn : 1100 ≤ n) (hk : okm m) {N : Nat} (hN : N ≤ 5) {ask : Nat → Nat} (hask : ∀ i, i < N → ask i < vD m) {pre : List Nat} (hlen : pre.length = N) (hP : MPL S m N ask pre) (hM : MR S m) (G0 : rvS → Nat → Int32 → Int32 → Option rvS) : ∃ S', cX13_tryOrders_65 n G0 n S 189 (nI 0) (nI 0) = cX13_tryOrders_97 n G0 S' 189 (nI (pye m (pre.map ask))) ∧ rvf [191, 199, 200, 202] S S' ∧ R42 S S' := by
  obtain ⟨hB, h194, h41, h209, h210, hx⟩ := hP
  obtain ⟨os, eos⟩ : ∃ os, os = pre.map ask := ⟨_, rfl⟩
  have hl : os.length = N := by rw [eos, List.length_map]; exact hlen
  have ho : ∀ i (h : i < N), os[i]'(by rw [hl]; exact h) = ask (pre.getD i 0) := fun i h => by
    have h' : i < pre.length := by omega
    subst eos
    rw [List.getElem_map, List.getD_eq_getElem?_getD, List.getElem?_eq_getElem h']
    rfl
  have hlt : ∀ i, i < N → ask (pre.getD i 0) < vD m := fun i h => by
    refine hask _ ?_
    have h' : i < pre.length := by omega
    rw [List.getD_eq_getElem?_getD, List.getElem?_eq_getElem h']
    exact hx _ (List.getElem_mem h')
  have hsm : ∀ i, SM m (pyl m (os.take i)) := fun i => pyl_SM hk _ (fun k hk2 => by
    have := List.mem_of_mem_take hk2
    rw [eos] at this
    obtain ⟨x, hx1, rfl⟩ := List.mem_map.mp this
    exact hask x (hx x hx1))
  rw [← eos]
  refine lp (F := fun q (x : rvS × Int32 × Int32) => cX13_tryOrders_65 n G0 q x.1 189 x.2.1 x.2.2) (fun i x => x.2 = (nI (pye m (os.take i)), nI i) ∧ rvf [191, 199, 200, 202] S x.1 ∧ MR x.1 (pyl m (os.take i)) ∧ R42 S x.1) (fun o => ∃ S', o = cX13_tryOrders_97 n G0 S' 189 (nI (pye m os)) ∧ rvf [191, 199, 200, 202] S S' ∧ R42 S S') N (fun i x q hi hx => Or.inr ?_) (fun x q hx => ?_) (i := 0) (x := (S, nI 0, nI 0)) (q := n) (Nat.zero_le _) ⟨by rw [List.take_zero]; rfl, rvf.rf _ _, by rw [List.take_zero]; exact hM, fun _ _ => rfl⟩ (by omega)
  · obtain ⟨S1, x1, x2⟩ := x
    obtain ⟨hx, f, g, r⟩ := hx
    obtain ⟨rfl, rfl⟩ := Prod.mk.inj hx
    have f : rvf [191, 199, 200, 202] S S1 := f
    have g : MR S1 (pyl m (os.take i)) := g
    have r : R42 S S1 := r
    have hB1 := f.B hB
    have s1 := hsm i
    have eD : vD (pyl m (os.take i)) = vD m := s1.2.1 2 (by decide)
    have hai := hlt i hi
    obtain ⟨x, S2, e2, sg, f2, g2, r2⟩ := m_rn hn hB1 g s1.1 (k := ask (pre.getD i 0)) (by omega)
    have et : os.take (i + 1) = os.take i ++ [ask (pre.getD i 0)] := by
      rw [List.take_succ, List.getElem?_eq_getElem (by rw [hl]; exact hi), ho i hi]; rfl
    have q41 : S1.2.1 189 41 = nI N := (f.at (a := 189) (k := 41) rfl).trans h41
    have q210 : S1.2.1 210 i = nI (ask (pre.getD i 0)) := (f.row rfl rfl i).trans (h210 i (by omega))
    have ele : pye m (os.take i) ≤ i := by
      have := pye_le (os.take i) m
      rw [List.length_take] at this
      omega
    refine ⟨(S2, nI (pye m (os.take (i + 1))), nI (i + 1)), ?_, rfl, f.tr f2, by rw [et, pyl_app]; exact g2, r.tr r2⟩
    show cX13_tryOrders_65 n G0 (q + 1) S1 189 (nI (pye m (os.take i))) (nI i) = cX13_tryOrders_65 n G0 q S2 189 (nI (pye m (os.take (i + 1)))) (nI (i + 1))
    rw [et, pye_app, cX13_tryOrders_65, pyo]
    obtain ⟨v, ev⟩ : ∃ v, v = pye m (os.take i) := ⟨_, rfl⟩
    rw [← ev]
    by_cases c : pT (pyl m (os.take i)) (ask (pre.getD i 0)) ≤ 40
    · have nx : ¬ x < nI 0 := fun z => (sg.mp z) c
      rw [if_pos c]
      simp (disch := first | assumption | omega) only [tk_gI, tk_gL, tk_gR, tk_pI, tk_pL, rv_aI, rv_aL, rv_aR, rv_uI, rv_uL, rv_uB, rv_uZ, pu_ckI, pu_ckL, pu_lnI, pu_lnL, tk_rI, tk_rL, Option.bind_some, Option.map_some, rv_lt, tk_ix, z0, z1, z2, z3, z4, z5, z6, z7, z8, z9, z10, z11, z12, z13, z15, z16, z17, z18, z20, z21, z23, z24, z25, z31, z32, z39, z40, z41, z46, z48, z50, z57, z59, z60, z61, z62, z63, z64, z97, z98, z99, z100, z101, z102, z103, z104, z105, z106, z107, z108, z109, z110, z111, z112, z113, z114, z115, z116, z117, z118, z119, z120, z121, z122, z128, z132, z200, z240, z255, z372, z390625, z400, z420, z421, z422, z662, z900, z940, z999, z1000, z1024, z2000, z5860, z10000, z12345, z15625, z266240, z1048575, z1064960, z1103515245, z_m1, n_le, n_lt, n_eq, n_bit0, n_bit1, n_sbit0, n_shl, z_ltM, z_Mlt, z_leM, z_Mle, z_eqM, z_Meq, bI0, bI1, bI_01, bI_01t, bI_10, bI_10f, if_true, if_false, eq_self, reduceCtorEq, if_pos, if_neg, rc_189 hB1, q41, rf_of hB1 (show (189, 39, 210) ∈ rv_rf0 by decide), rn_210 hB1, q210, e2, bp_s, nx, nI_add]
    · have nx : x < nI 0 := sg.mpr c
      rw [if_neg c]
      simp (disch := first | assumption | omega) only [tk_gI, tk_gL, tk_gR, tk_pI, tk_pL, rv_aI, rv_aL, rv_aR, rv_uI, rv_uL, rv_uB, rv_uZ, pu_ckI, pu_ckL, pu_lnI, pu_lnL, tk_rI, tk_rL, Option.bind_some, Option.map_some, rv_lt, tk_ix, z0, z1, z2, z3, z4, z5, z6, z7, z8, z9, z10, z11, z12, z13, z15, z16, z17, z18, z20, z21, z23, z24, z25, z31, z32, z39, z40, z41, z46, z48, z50, z57, z59, z60, z61, z62, z63, z64, z97, z98, z99, z100, z101, z102, z103, z104, z105, z106, z107, z108, z109, z110, z111, z112, z113, z114, z115, z116, z117, z118, z119, z120, z121, z122, z128, z132, z200, z240, z255, z372, z390625, z400, z420, z421, z422, z662, z900, z940, z999, z1000, z1024, z2000, z5860, z10000, z12345, z15625, z266240, z1048575, z1064960, z1103515245, z_m1, n_le, n_lt, n_eq, n_bit0, n_bit1, n_sbit0, n_shl, z_ltM, z_Mlt, z_leM, z_Mle, z_eqM, z_Meq, bI0, bI1, bI_01, bI_01t, bI_10, bI_10f, if_true, if_false, eq_self, reduceCtorEq, if_pos, if_neg, rc_189 hB1, q41, rf_of hB1 (show (189, 39, 210) ∈ rv_rf0 by decide), rn_210 hB1, q210, e2, bp_s, nx, nI_add, Nat.add_zero]
  · obtain ⟨S1, x1, x2⟩ := x
    obtain ⟨hx, f, g, r⟩ := hx
    obtain ⟨rfl, rfl⟩ := Prod.mk.inj hx
    have f : rvf [191, 199, 200, 202] S S1 := f
    have hB1 := f.B hB
    have q41 : S1.2.1 189 41 = nI N := (f.at (a := 189) (k := 41) rfl).trans h41
    refine ⟨S1, ?_, f, r⟩
    show cX13_tryOrders_65 n G0 (q + 1) S1 189 (nI (pye m (os.take N))) (nI N) = _
    rw [cX13_tryOrders_65, List.take_of_length_le (by omega)]
    simp (disch := first | assumption | omega) only [tk_gI, tk_gL, tk_gR, tk_pI, tk_pL, rv_aI, rv_aL, rv_aR, rv_uI, rv_uL, rv_uB, rv_uZ, pu_ckI, pu_ckL, pu_lnI, pu_lnL, tk_rI, tk_rL, Option.bind_some, Option.map_some, rv_lt, tk_ix, z0, z1, z2, z3, z4, z5, z6, z7, z8, z9, z10, z11, z12, z13, z15, z16, z17, z18, z20, z21, z23, z24, z25, z31, z32, z39, z40, z41, z46, z48, z50, z57, z59, z60, z61, z62, z63, z64, z97, z98, z99, z100, z101, z102, z103, z104, z105, z106, z107, z108, z109, z110, z111, z112, z113, z114, z115, z116, z117, z118, z119, z120, z121, z122, z128, z132, z200, z240, z255, z372, z390625, z400, z420, z421, z422, z662, z900, z940, z999, z1000, z1024, z2000, z5860, z10000, z12345, z15625, z266240, z1048575, z1064960, z1103515245, z_m1, n_le, n_lt, n_eq, n_bit0, n_bit1, n_sbit0, n_shl, z_ltM, z_Mlt, z_leM, z_Mle, z_eqM, z_Meq, bI0, bI1, bI_01, bI_01t, bI_10, bI_10f, if_true, if_false, eq_self, reduceCtorEq, if_pos, if_neg, rc_189 hB1, q41]
theorem m_leaf (hn : 1100 ≤ n) (hB : rv_B S) {N : Nat} (hN : N ≤ 5) {ask : Nat → Nat} {pre : List Nat} (hlen : pre.length = N) (hP : MPL S m N ask pre) {b : OB} (hb : MRB S N ask b) {v : Nat} (hv : v ≤ 5) (G0 : rvS → Nat → Int32 → Int32 → Option rvS) : ∃ S', cX13_tryOrders_97 n G0 S 189 (nI v) = some S' ∧ OM pre.length S S' ∧ MR S' m ∧ MRB S' N ask (obU b v pre) := by
  obtain ⟨-, h194, h41, h209, h210, hx⟩ := hP
  obtain ⟨S1, e1, f1, g1, r1⟩ := m_copyB (n := n) (by omega) hB h194
  have hB1 := f1.B hB
  have b1 := MRB_f hb f1 rfl rfl
  obtain ⟨hb6, g6, g211⟩ := b1
  have o1 : OM pre.length S S1 := ⟨f1.mono (by decide), r1, fun j _ => f1.row rfl rfl j⟩
  rw [obU]
  by_cases c : b.1 ≤ v
  · rw [if_pos c]
    obtain ⟨S2, eS2⟩ : ∃ S2, S2 = rv_sI S1 189 42 (nI v) := ⟨_, rfl⟩
    have f2 : rvf [189042] S1 S2 := by rw [eS2]; exact rvf.sI S1 189 42 _
    have hB2 := f2.B hB1
    have g2 : S2.2.1 189 42 = nI v := by rw [eS2, rv_sI_eq]
    have q41 : S2.2.1 189 41 = nI N := (f2.at (a := 189) (k := 41) rfl).trans ((f1.at (a := 189) (k := 41) rfl).trans h41)
    have key : ∃ S', cX13_tryOrders_118 n G0 n S2 189 (nI 0) = some S' ∧ rvf [211] S2 S' ∧ ∀ j, j < N → S'.2.1 211 j = S2.2.1 210 j := by
      refine lp (F := fun q (x : rvS × Int32) => cX13_tryOrders_118 n G0 q x.1 189 x.2) (fun i x => x.2 = nI i ∧ rvf [211] S2 x.1 ∧ ∀ j, j < i → x.1.2.1 211 j = S2.2.1 210 j) (fun o => ∃ S', o = some S' ∧ rvf [211] S2 S' ∧ ∀ j, j < N → S'.2.1 211 j = S2.2.1 210 j) N (fun i x q hi hx => Or.inr ?_) (fun x q hx => ?_) (i := 0) (x := (S2, nI 0)) (q := n) (Nat.zero_le _) ⟨rfl, rvf.rf _ _, fun j h => absurd h (Nat.not_lt_zero j)⟩ (by omega)
      · obtain ⟨S3, x2⟩ := x
        obtain ⟨rfl, f, g⟩ := hx
        have f : rvf [211] S2 S3 := f
        have g : ∀ j, j < i → S3.2.1 211 j = S2.2.1 210 j := g
        have hB3 := f.B hB2
        have q3 : S3.2.1 189 41 = nI N := (f.at (a := 189) (k := 41) rfl).trans q41
        have q1 : S3.2.1 210 i = S2.2.1 210 i := f.row rfl rfl i
        refine ⟨(rv_sI S3 211 i (S2.2.1 210 i), nI (i + 1)), ?_, rfl, f.w rfl rfl, fun j hj => ?_⟩
        · show cX13_tryOrders_118 n G0 (q + 1) S3 189 (nI i) = cX13_tryOrders_118 n G0 q _ 189 (nI (i + 1))
          rw [cX13_tryOrders_118]
          simp (disch := first | assumption | omega) only [tk_gI, tk_gL, tk_gR, tk_pI, tk_pL, rv_aI, rv_aL, rv_aR, rv_uI, rv_uL, rv_uB, rv_uZ, pu_ckI, pu_ckL, pu_lnI, pu_lnL, tk_rI, tk_rL, Option.bind_some, Option.map_some, rv_lt, tk_ix, z0, z1, z2, z3, z4, z5, z6, z7, z8, z9, z10, z11, z12, z13, z15, z16, z17, z18, z20, z21, z23, z24, z25, z31, z32, z39, z40, z41, z46, z48, z50, z57, z59, z60, z61, z62, z63, z64, z97, z98, z99, z100, z101, z102, z103, z104, z105, z106, z107, z108, z109, z110, z111, z112, z113, z114, z115, z116, z117, z118, z119, z120, z121, z122, z128, z132, z200, z240, z255, z372, z390625, z400, z420, z421, z422, z662, z900, z940, z999, z1000, z1024, z2000, z5860, z10000, z12345, z15625, z266240, z1048575, z1064960, z1103515245, z_m1, n_le, n_lt, n_eq, n_bit0, n_bit1, n_sbit0, n_shl, z_ltM, z_Mlt, z_leM, z_Mle, z_eqM, z_Meq, bI0, bI1, bI_01, bI_01t, bI_10, bI_10f, if_true, if_false, eq_self, reduceCtorEq, if_pos, if_neg, rc_189 hB3, q3, rf_of hB3 (show (189, 40, 211) ∈ rv_rf0 by decide), rf_of hB3 (show (189, 39, 210) ∈ rv_rf0 by decide), rn_210 hB3, rn_211 hB3, nI_add, q1]
        · show (rv_sI S3 211 i _).2.1 211 j = _
          by_cases c : j = i
          · subst c; exact rv_sI_eq _ _ _ _
          · rw [rv_sI_k _ _ c]; exact g j (by omega)
      · obtain ⟨S3, x2⟩ := x
        obtain ⟨rfl, f, g⟩ := hx
        have f : rvf [211] S2 S3 := f
        have hB3 := f.B hB2
        have q3 : S3.2.1 189 41 = nI N := (f.at (a := 189) (k := 41) rfl).trans q41
        refine ⟨S3, ?_, f, g⟩
        show cX13_tryOrders_118 n G0 (q + 1) S3 189 (nI N) = _
        rw [cX13_tryOrders_118]
        simp (disch := first | assumption | omega) only [tk_gI, tk_gL, tk_gR, tk_pI, tk_pL, rv_aI, rv_aL, rv_aR, rv_uI, rv_uL, rv_uB, rv_uZ, pu_ckI, pu_ckL, pu_lnI, pu_lnL, tk_rI, tk_rL, Option.bind_some, Option.map_some, rv_lt, tk_ix, z0, z1, z2, z3, z4, z5, z6, z7, z8, z9, z10, z11, z12, z13, z15, z16, z17, z18, z20, z21, z23, z24, z25, z31, z32, z39, z40, z41, z46, z48, z50, z57, z59, z60, z61, z62, z63, z64, z97, z98, z99, z100, z101, z102, z103, z104, z105, z106, z107, z108, z109, z110, z111, z112, z113, z114, z115, z116, z117, z118, z119, z120, z121, z122, z128, z132, z200, z240, z255, z372, z390625, z400, z420, z421, z422, z662, z900, z940, z999, z1000, z1024, z2000, z5860, z10000, z12345, z15625, z266240, z1048575, z1064960, z1103515245, z_m1, n_le, n_lt, n_eq, n_bit0, n_bit1, n_sbit0, n_shl, z_ltM, z_Mlt, z_leM, z_Mle, z_eqM, z_Meq, bI0, bI1, bI_01, bI_01t, bI_10, bI_10f, if_true, if_false, eq_self, reduceCtorEq, if_pos, if_neg, rc_189 hB3, q3]
    obtain ⟨S3, e3, f3, g3⟩ := key
    have yes : mI b.1 < nI v := by rw [mI_lt (by omega) (by omega)]; exact c
    refine ⟨S3, ?_, o1.tr ⟨(f2.mono (by decide)).tr (f3.mono (by decide)), (R42.of f2 rfl).tr (R42.of f3 rfl), fun j _ => (f3.row rfl rfl j).trans (f2.row rfl rfl j)⟩, (g1.f f2 rfl).f f3 rfl, by show v + 1 ≤ 6; omega, ?_, fun _ j hj => ?_⟩
    · rw [cX13_tryOrders_97]
      rw [rc_189 hB, Option.bind_some, e1, Option.bind_some, tk_gI, rc_189 hB1, Option.map_some, Option.bind_some, g6, if_pos yes, tk_pI, rc_189 hB1, Option.map_some, Option.bind_some, ← eS2, z0]
      exact e3
    · show S3.2.1 189 42 = mI (v + 1)
      rw [mI_s, f3.at (a := 189) (k := 42) rfl]; exact g2
    · rw [g3 j hj, f2.row rfl rfl, f1.row rfl rfl]
      exact h210 j (by omega)
  · rw [if_neg c]
    have no : ¬ mI b.1 < nI v := by rw [mI_lt (by omega) (by omega)]; exact c
    refine ⟨S1, ?_, o1, g1, hb6, g6, g211⟩
    rw [cX13_tryOrders_97]
    rw [rc_189 hB, Option.bind_some, e1, Option.bind_some, tk_gI, rc_189 hB1, Option.map_some, Option.bind_some, g6, if_neg no]
theorem m_try (hn : 1100 ≤ n) (hk : okm m) {N : Nat} (hN : N ≤ 5) {ask : Nat → Nat} (hask : ∀ i, i < N → ask i < vD m) : ∀ r dd, r < dd → ∀ pre b S, pre.length + r = N → MPL S m N ask pre → MR S m → MRB S N ask b → ∃ S', fGX13_tryOrders n dd S 189 (nI pre.length) (nI (obB N pre)) = some S' ∧ OM pre.length S S' ∧ MR S' m ∧ MRB S' N ask (TO N (fun p => pye m (p.map ask)) r pre b) := by
  intro r
  induction r with
  | zero =>
    intro dd hd pre b S hlen hP hM hb
    obtain ⟨dd, rfl⟩ : ∃ d', dd = d' + 1 := ⟨dd - 1, by omega⟩
    have hB := hP.1
    have h41 := hP.2.2.1
    have hle := pye_le (pre.map ask) m
    rw [List.length_map] at hle
    obtain ⟨S1, e1, f1, r1⟩ := m_eval hn hk hN hask (by omega) hP hM (fGX13_tryOrders n dd)
    have o1 : OM pre.length S S1 := ⟨f1.mono (by decide), r1, fun j _ => f1.row rfl rfl j⟩
    obtain ⟨S2, e2, o2, M2, b2⟩ := m_leaf hn (f1.B hB) hN (by omega) (MPL_f hP o1) (MRB_f hb f1 rfl rfl) (v := pye m (pre.map ask)) (by omega) (fGX13_tryOrders n dd)
    refine ⟨S2, ?_, o1.tr o2, M2, b2⟩
    rw [← e2, ← e1]
    show fbX13_tryOrders n _ S 189 (nI pre.length) (nI (obB N pre)) = _
    rw [fbX13_tryOrders]
    simp (disch := first | assumption | omega) only [tk_gI, tk_gL, tk_gR, tk_pI, tk_pL, rv_aI, rv_aL, rv_aR, rv_uI, rv_uL, rv_uB, rv_uZ, pu_ckI, pu_ckL, pu_lnI, pu_lnL, tk_rI, tk_rL, Option.bind_some, Option.map_some, rv_lt, tk_ix, z0, z1, z2, z3, z4, z5, z6, z7, z8, z9, z10, z11, z12, z13, z15, z16, z17, z18, z20, z21, z23, z24, z25, z31, z32, z39, z40, z41, z46, z48, z50, z57, z59, z60, z61, z62, z63, z64, z97, z98, z99, z100, z101, z102, z103, z104, z105, z106, z107, z108, z109, z110, z111, z112, z113, z114, z115, z116, z117, z118, z119, z120, z121, z122, z128, z132, z200, z240, z255, z372, z390625, z400, z420, z421, z422, z662, z900, z940, z999, z1000, z1024, z2000, z5860, z10000, z12345, z15625, z266240, z1048575, z1064960, z1103515245, z_m1, n_le, n_lt, n_eq, n_bit0, n_bit1, n_sbit0, n_shl, z_ltM, z_Mlt, z_leM, z_Mle, z_eqM, z_Meq, bI0, bI1, bI_01, bI_01t, bI_10, bI_10f, if_true, if_false, eq_self, reduceCtorEq, if_pos, if_neg, rc_189 hB, h41, show N ≤ pre.length by omega]
  | succ r ih0 =>
    intro dd hd pre b S hlen hP hM hb
    obtain ⟨dd, rfl⟩ : ∃ d', dd = d' + 1 := ⟨dd - 1, by omega⟩
    have ih := ih0 dd (by omega)
    have hB := hP.1
    have h41 := hP.2.2.1
    have hbl := obB_lt hN pre
    show ∃ S', fbX13_tryOrders n (fGX13_tryOrders n dd) S 189 (nI pre.length) (nI (obB N pre)) = some S' ∧ _
    have top : fbX13_tryOrders n (fGX13_tryOrders n dd) S 189 (nI pre.length) (nI (obB N pre)) = cX13_tryOrders_10 n (fGX13_tryOrders n dd) n S 189 (nI pre.length) (nI (obB N pre)) (nI 0) := by
      rw [fbX13_tryOrders]
      simp (disch := first | assumption | omega) only [tk_gI, tk_gL, tk_gR, tk_pI, tk_pL, rv_aI, rv_aL, rv_aR, rv_uI, rv_uL, rv_uB, rv_uZ, pu_ckI, pu_ckL, pu_lnI, pu_lnL, tk_rI, tk_rL, Option.bind_some, Option.map_some, rv_lt, tk_ix, z0, z1, z2, z3, z4, z5, z6, z7, z8, z9, z10, z11, z12, z13, z15, z16, z17, z18, z20, z21, z23, z24, z25, z31, z32, z39, z40, z41, z46, z48, z50, z57, z59, z60, z61, z62, z63, z64, z97, z98, z99, z100, z101, z102, z103, z104, z105, z106, z107, z108, z109, z110, z111, z112, z113, z114, z115, z116, z117, z118, z119, z120, z121, z122, z128, z132, z200, z240, z255, z372, z390625, z400, z420, z421, z422, z662, z900, z940, z999, z1000, z1024, z2000, z5860, z10000, z12345, z15625, z266240, z1048575, z1064960, z1103515245, z_m1, n_le, n_lt, n_eq, n_bit0, n_bit1, n_sbit0, n_shl, z_ltM, z_Mlt, z_leM, z_Mle, z_eqM, z_Meq, bI0, bI1, bI_01, bI_01t, bI_10, bI_10f, if_true, if_false, eq_self, reduceCtorEq, if_pos, if_neg, rc_189 hB, h41, show ¬ N ≤ pre.length by omega]
    rw [top, TO]
    obtain ⟨F, eF⟩ : ∃ F : List Nat → OB → OB, F = (fun p c => TO N (fun p => pye m (p.map ask)) r p c) := ⟨_, rfl⟩
    rw [← eF]
    refine lp (F := fun q (x : rvS × Int32) => cX13_tryOrders_10 n (fGX13_tryOrders n dd) q x.1 189 (nI pre.length) (nI (obB N pre)) x.2) (fun i x => x.2 = nI i ∧ OM pre.length S x.1 ∧ MR x.1 m ∧ MRB x.1 N ask (obT F pre b i)) (fun o => ∃ S', o = some S' ∧ OM pre.length S S' ∧ MR S' m ∧ MRB S' N ask (obT F pre b N)) N (fun i x q hi hx => Or.inr ?_) (fun x q hx => ?_) (i := 0) (x := (S, nI 0)) (q := n) (Nat.zero_le _) ⟨rfl, OM.rf _ _, hM, hb⟩ (by omega)
    · obtain ⟨S1, x2⟩ := x
      obtain ⟨rfl, o1, M1, b1⟩ := hx
      have o1 : OM pre.length S S1 := o1
      have M1 : MR S1 m := M1
      have b1 : MRB S1 N ask (obT F pre b i) := b1
      have hB1 := o1.1.B hB
      have hP1 := MPL_f hP o1
      have h411 := hP1.2.2.1
      have mh := m_has (n := n) (S := S1) (x := obB N pre) (j := i) (by omega) (by omega)
      rw [obB_bit hi] at mh
      rw [obT]
      have hc := rc_189 hB1
      by_cases c : pre.contains i = true
      · rw [if_pos c]
        rw [c] at mh
        refine ⟨(S1, nI (i + 1)), ?_, rfl, o1, M1, b1⟩
        show cX13_tryOrders_10 n _ (q + 1) S1 189 (nI pre.length) (nI (obB N pre)) (nI i) = cX13_tryOrders_10 n _ q S1 189 (nI pre.length) (nI (obB N pre)) (nI (i + 1))
        rw [cX13_tryOrders_10]
        simp (disch := first | assumption | omega) only [tk_gI, tk_gL, tk_gR, tk_pI, tk_pL, rv_aI, rv_aL, rv_aR, rv_uI, rv_uL, rv_uB, rv_uZ, pu_ckI, pu_ckL, pu_lnI, pu_lnL, tk_rI, tk_rL, Option.bind_some, Option.map_some, rv_lt, tk_ix, z0, z1, z2, z3, z4, z5, z6, z7, z8, z9, z10, z11, z12, z13, z15, z16, z17, z18, z20, z21, z23, z24, z25, z31, z32, z39, z40, z41, z46, z48, z50, z57, z59, z60, z61, z62, z63, z64, z97, z98, z99, z100, z101, z102, z103, z104, z105, z106, z107, z108, z109, z110, z111, z112, z113, z114, z115, z116, z117, z118, z119, z120, z121, z122, z128, z132, z200, z240, z255, z372, z390625, z400, z420, z421, z422, z662, z900, z940, z999, z1000, z1024, z2000, z5860, z10000, z12345, z15625, z266240, z1048575, z1064960, z1103515245, z_m1, n_le, n_lt, n_eq, n_bit0, n_bit1, n_sbit0, n_shl, z_ltM, z_Mlt, z_leM, z_Mle, z_eqM, z_Meq, bI0, bI1, bI_01, bI_01t, bI_10, bI_10f, if_true, if_false, eq_self, reduceCtorEq, if_pos, if_neg, hc, h411, nI_add, mh, bI_t, Nat.one_ne_zero]
      · rw [if_neg c]
        have c' : pre.contains i = false := by simpa using c
        rw [c'] at mh
        have q2 := rf_of hB1 (show (189, 39, 210) ∈ rv_rf0 by decide)
        have q1 := rf_of hB1 (show (189, 38, 209) ∈ rv_rf0 by decide)
        have t1 := hP1.2.2.2.1 i hi
        obtain ⟨S2, eS2⟩ : ∃ S2, S2 = rv_sI S1 210 pre.length (nI (ask i)) := ⟨_, rfl⟩
        have f2 : rvf [210] S1 S2 := by rw [eS2]; exact (rvf.rf _ _).w rfl rfl
        have hB2 := f2.B hB1
        have o2 : OM pre.length S1 S2 := ⟨f2.mono (by decide), R42.of f2 rfl, fun j hj => by rw [eS2, rv_sI_k _ _ (by omega)]⟩
        have hP2 := MPL_f hP1 o2
        have M2 := M1.f f2 rfl
        have hlen2 : (pre ++ [i]).length = pre.length + 1 := by rw [List.length_append, List.length_singleton]
        have pl : MPL S2 m N ask (pre ++ [i]) := by
          obtain ⟨z1, z2, z3, z4, z5, z6⟩ := hP2
          refine ⟨z1, z2, z3, z4, fun j hj => ?_, fun y hy => ?_⟩
          · rw [hlen2] at hj
            by_cases c : j = pre.length
            · rw [c, getD_last, eS2, rv_sI_eq]
            · rw [getD_app (by omega)]; exact z5 j (by omega)
          · rcases List.mem_append.mp hy with h | h
            · exact z6 y h
            · rw [List.mem_singleton.mp h]; exact hi
        obtain ⟨S3, e3, o3, M3, b3⟩ := ih (pre ++ [i]) (obT F pre b i) S2 (by rw [hlen2]; omega) pl M2 (MRB_f b1 f2 rfl rfl)
        rw [hlen2] at e3 o3
        refine ⟨(S3, nI (i + 1)), ?_, rfl, o1.tr (o2.tr (o3.le (by omega))), M3, by rw [eF]; rw [eF] at b3; exact b3⟩
        show cX13_tryOrders_10 n _ (q + 1) S1 189 (nI pre.length) (nI (obB N pre)) (nI i) = cX13_tryOrders_10 n _ q S3 189 (nI pre.length) (nI (obB N pre)) (nI (i + 1))
        rw [cX13_tryOrders_10]
        have ba := obB_add (pre := pre) hi
        simp (disch := first | assumption | omega) only [tk_gI, tk_gL, tk_gR, tk_pI, tk_pL, rv_aI, rv_aL, rv_aR, rv_uI, rv_uL, rv_uB, rv_uZ, pu_ckI, pu_ckL, pu_lnI, pu_lnL, tk_rI, tk_rL, Option.bind_some, Option.map_some, rv_lt, tk_ix, z0, z1, z2, z3, z4, z5, z6, z7, z8, z9, z10, z11, z12, z13, z15, z16, z17, z18, z20, z21, z23, z24, z25, z31, z32, z39, z40, z41, z46, z48, z50, z57, z59, z60, z61, z62, z63, z64, z97, z98, z99, z100, z101, z102, z103, z104, z105, z106, z107, z108, z109, z110, z111, z112, z113, z114, z115, z116, z117, z118, z119, z120, z121, z122, z128, z132, z200, z240, z255, z372, z390625, z400, z420, z421, z422, z662, z900, z940, z999, z1000, z1024, z2000, z5860, z10000, z12345, z15625, z266240, z1048575, z1064960, z1103515245, z_m1, n_le, n_lt, n_eq, n_bit0, n_bit1, n_sbit0, n_shl, z_ltM, z_Mlt, z_leM, z_Mle, z_eqM, z_Meq, bI0, bI1, bI_01, bI_01t, bI_10, bI_10f, if_true, if_false, eq_self, reduceCtorEq, if_pos, if_neg, hc, h411, nI_add, mh, bI_f, q1, q2, rn_209 hB1, rn_210 hB1, t1, ← eS2, rc_189 hB2, fa_or, ba, e3]
    · obtain ⟨S1, x2⟩ := x
      obtain ⟨rfl, o1, M1, b1⟩ := hx
      have o1 : OM pre.length S S1 := o1
      have hB1 := o1.1.B hB
      have h411 := (MPL_f hP o1).2.2.1
      refine ⟨S1, ?_, o1, M1, b1⟩
      show cX13_tryOrders_10 n _ (q + 1) S1 189 (nI pre.length) (nI (obB N pre)) (nI N) = _
      rw [cX13_tryOrders_10]
      simp (disch := first | assumption | omega) only [tk_gI, tk_gL, tk_gR, tk_pI, tk_pL, rv_aI, rv_aL, rv_aR, rv_uI, rv_uL, rv_uB, rv_uZ, pu_ckI, pu_ckL, pu_lnI, pu_lnL, tk_rI, tk_rL, Option.bind_some, Option.map_some, rv_lt, tk_ix, z0, z1, z2, z3, z4, z5, z6, z7, z8, z9, z10, z11, z12, z13, z15, z16, z17, z18, z20, z21, z23, z24, z25, z31, z32, z39, z40, z41, z46, z48, z50, z57, z59, z60, z61, z62, z63, z64, z97, z98, z99, z100, z101, z102, z103, z104, z105, z106, z107, z108, z109, z110, z111, z112, z113, z114, z115, z116, z117, z118, z119, z120, z121, z122, z128, z132, z200, z240, z255, z372, z390625, z400, z420, z421, z422, z662, z900, z940, z999, z1000, z1024, z2000, z5860, z10000, z12345, z15625, z266240, z1048575, z1064960, z1103515245, z_m1, n_le, n_lt, n_eq, n_bit0, n_bit1, n_sbit0, n_shl, z_ltM, z_Mlt, z_leM, z_Mle, z_eqM, z_Meq, bI0, bI1, bI_01, bI_01t, bI_10, bI_10f, if_true, if_false, eq_self, reduceCtorEq, if_pos, if_neg, rc_189 hB1, h411]
end
