/-! SAID: the class's pile, step by step -/
section
variable {n : Nat} {S : rvS} {m : Nat → Nat} {wd : Nat → List Nat}
/-- the pile of h sets is the piles of answers of all coins -/
def PLS (S : rvS) (h : Nat) (P : Nat → List Bool) (N : Nat) : Prop := ∀ c, c < N → (P c).length = h ∧ ∀ j, j < h → (P c)[h - 1 - j]? = some (bl (S.2.2.1 83 j) c)
theorem PLS_not {h : Nat} {P : Nat → List Bool} {N : Nat} {b : Nat → SayT → Bool} {t : SayT} (ht : t.1 = 13) (hN : N ≤ 40) (hP : PLS S (h + 1) P N) : PLS (rv_sL S 83 h (S.2.2.1 83 h ^^^ (-1 : Int64))) (h + 1) (fun c => ev1 (b c) t (P c)) N := by
  intro c hc
  obtain ⟨hl, hj⟩ := hP c hc
  show (ev1 (b c) t (P c)).length = h + 1 ∧ ∀ j, j < h + 1 → (ev1 (b c) t (P c))[h + 1 - 1 - j]? = _
  unfold ev1
  rw [if_pos ht]
  match hp : P c, hl with
  | x :: r, hl =>
    rw [hp] at hj
    refine ⟨by simpa using hl, fun j hjh => ?_⟩
    by_cases e : j = h
    · subst e
      have := hj j (by omega)
      rw [show j + 1 - 1 - j = 0 by omega] at this ⊢
      rw [rv_sL_eq, bl_not _ (by omega)]
      rw [List.getElem?_cons_zero] at this ⊢
      rw [Option.some.inj this]
    · have := hj j (by omega)
      rw [rv_sL_k _ _ (show j ≠ h from e), ← this]
      rw [show h + 1 - 1 - j = (h - 1 - j) + 1 by omega, List.getElem?_cons_succ, List.getElem?_cons_succ]
theorem PLS_two {h : Nat} {P : Nat → List Bool} {N : Nat} {b : Nat → SayT → Bool} {t : SayT} {f : Bool → Bool → Bool} {v : Int64} (he : ∀ c x y r, ev1 (b c) t (y :: x :: r) = f x y :: r) (hv : ∀ c, c < N → bl v c = f (bl (S.2.2.1 83 h) c) (bl (S.2.2.1 83 (h + 1)) c)) (hP : PLS S (h + 2) P N) : PLS (rv_sL S 83 h v) (h + 1) (fun c => ev1 (b c) t (P c)) N := by
  intro c hc
  obtain ⟨hl, hj⟩ := hP c hc
  show (ev1 (b c) t (P c)).length = h + 1 ∧ ∀ j, j < h + 1 → (ev1 (b c) t (P c))[h + 1 - 1 - j]? = _
  match hp : P c, hl with
  | y :: x :: r, hl =>
    rw [hp] at hj
    rw [he]
    refine ⟨by simp only [List.length_cons] at hl ⊢; omega, fun j hjh => ?_⟩
    by_cases e : j = h
    · subst e
      have g1 := hj j (by omega)
      have g2 := hj (j + 1) (by omega)
      rw [show j + 2 - 1 - j = 1 by omega, List.getElem?_cons_succ, List.getElem?_cons_zero] at g1
      rw [show j + 2 - 1 - (j + 1) = 0 by omega, List.getElem?_cons_zero] at g2
      rw [show j + 1 - 1 - j = 0 by omega, rv_sL_eq, List.getElem?_cons_zero, hv c hc, ← Option.some.inj g1, ← Option.some.inj g2]
    · have g1 := hj j (by omega)
      rw [show h + 2 - 1 - j = (h - 1 - j) + 1 + 1 by omega, List.getElem?_cons_succ, List.getElem?_cons_succ] at g1
      rw [rv_sL_k _ _ (show j ≠ h from e), ← g1, show h + 1 - 1 - j = (h - 1 - j) + 1 by omega, List.getElem?_cons_succ]
theorem PLS_leaf {h : Nat} {P : Nat → List Bool} {N : Nat} {b : Nat → SayT → Bool} {t : SayT} {v : Int64} (h1 : ¬ t.1 = 13) (h2 : ¬ t.1 = 12) (h3 : ¬ t.1 = 11) (hv : ∀ c, c < N → bl v c = b c t) (hP : PLS S h P N) : PLS (rv_sL S 83 h v) (h + 1) (fun c => ev1 (b c) t (P c)) N := by
  intro c hc
  obtain ⟨hl, hj⟩ := hP c hc
  show (ev1 (b c) t (P c)).length = h + 1 ∧ ∀ j, j < h + 1 → (ev1 (b c) t (P c))[h + 1 - 1 - j]? = _
  unfold ev1
  rw [if_neg h1, if_neg h2, if_neg h3]
  refine ⟨by rw [List.length_cons, hl], fun j hjh => ?_⟩
  by_cases e : j = h
  · subst e
    rw [show j + 1 - 1 - j = 0 by omega, rv_sL_eq, List.getElem?_cons_zero, hv c hc]
  · have g1 := hj j (by omega)
    rw [rv_sL_k _ _ (show j ≠ h from e), ← g1, show h + 1 - 1 - j = (h - 1 - j) + 1 by omega, List.getElem?_cons_succ]
theorem PLS_short {h : Nat} {P : Nat → List Bool} {N : Nat} {b : Nat → SayT → Bool} {t : SayT} (hh : (t.1 = 13 ∧ h < 1) ∨ ((t.1 = 12 ∨ t.1 = 11) ∧ h < 2)) (hP : PLS S h P N) : PLS S h (fun c => ev1 (b c) t (P c)) N := by
  intro c hc
  have q := hP c hc
  have e : ev1 (b c) t (P c) = P c := by
    unfold ev1
    rcases hh with ⟨e, h1⟩ | ⟨e, h1⟩
    · rw [if_pos e]
      match P c, q.1 with
      | [], _ => rfl
      | x :: r, z => simp at z; omega
    · have n13 : ¬ t.1 = 13 := by omega
      rw [if_neg n13]
      match P c, q.1 with
      | [], _ => split <;> (try rfl) <;> (rw [if_pos (by omega)])
      | [x], _ => split <;> (try rfl) <;> (rw [if_pos (by omega)])
      | x :: y :: r, z => simp at z; omega
  show (ev1 (b c) t (P c)).length = h ∧ ∀ j, j < h → (ev1 (b c) t (P c))[h - 1 - j]? = _
  rw [e]
  exact q
theorem z_pm {h : Nat} (hh : 1 ≤ h) : nI h + (-1 : Int32) = nI (h - 1) := by
  rw [← Int32.sub_eq_add_neg, z1, z_sub hh]
/-- two sets joined -/
theorem k_joinS (hB : rv_B S) {h : Nat} (hh : h + 1 < 40) (b : Bool) : fnX7_join n S 79 (bI b) (nI (h + 1)) = some (rv_sL S 83 h (if b then S.2.2.1 83 h &&& S.2.2.1 83 (h + 1) else S.2.2.1 83 h ||| S.2.2.1 83 (h + 1))) := by
  have r3 := rf_of hB (show (79, 3, 83) ∈ rv_rf0 by decide)
  rw [fnX7_join, z1, z40, if_neg (by rw [n_lt (by omega) (by omega)]; omega), if_neg (by rw [n_le (by omega) (by omega)]; omega), z_sub (by omega), Nat.add_sub_cancel]
  repeat (first | (conv => (lhs; arg 1; simp (disch := first | assumption | omega) only [tk_gI, tk_gL, tk_gR, tk_pI, tk_pL, rv_aI, rv_aL, rv_aR, rv_uI, rv_uL, rv_uB, rv_uZ, pu_ckI, pu_ckL, pu_lnI, pu_lnL, tk_rI, tk_rL, Option.bind_some, Option.map_some, rv_lt, tk_ix, rc_79 hB, r3, rn_83 hB])); first | rw [Option.bind_some] | rw [bp_s] | rw [if_true] | rw [if_false] | rw [rv_lt_eq] | rw [if_pos (by omega)] | rw [if_neg (by omega)])
  cases b
  · rw [if_pos (show bI false = 0 from rfl)]
    repeat (first | (conv => (lhs; arg 1; simp (disch := first | assumption | omega) only [tk_gI, tk_gL, tk_gR, tk_pI, tk_pL, rv_aI, rv_aL, rv_aR, rv_uI, rv_uL, rv_uB, rv_uZ, pu_ckI, pu_ckL, pu_lnI, pu_lnL, tk_rI, tk_rL, Option.bind_some, Option.map_some, rv_lt, tk_ix, rc_79 hB, r3, rn_83 hB])); first | rw [Option.bind_some] | rw [bp_s] | rw [if_true] | rw [if_false] | rw [rv_lt_eq] | rw [if_pos (by omega)] | rw [if_neg (by omega)])
    rfl
  · rw [if_neg (show ¬ bI true = 0 by decide)]
    repeat (first | (conv => (lhs; arg 1; simp (disch := first | assumption | omega) only [tk_gI, tk_gL, tk_gR, tk_pI, tk_pL, rv_aI, rv_aL, rv_aR, rv_uI, rv_uL, rv_uB, rv_uZ, pu_ckI, pu_ckL, pu_lnI, pu_lnL, tk_rI, tk_rL, Option.bind_some, Option.map_some, rv_lt, tk_ix, rc_79 hB, r3, rn_83 hB])); first | rw [Option.bind_some] | rw [bp_s] | rw [if_true] | rw [if_false] | rw [rv_lt_eq] | rw [if_pos (by omega)] | rw [if_neg (by omega)])
    rfl
theorem take_s {α : Type} {l : List α} {i : Nat} {t : α} (h : l[i]? = some t) : l.take (i + 1) = l.take i ++ [t] := by
  rw [List.take_add_one, h]
  rfl
theorem k_csl (hn : 50 ≤ n) (hk : okm m) {o : Nat} {st : List SayT} {q : Nat} {t : Nat → Int32} {d top : Nat} (hD : Den (m 6) t d top st) : ∀ r q i h (S : rvS), i + r = st.length → r < q → h ≤ i → rv_B S → CR S 67 m → CSn S 67 o st → PLS S h (fun c => evc (b1s m c) (st.take i) []) (vC m) → ∃ S', cX7_coinsSaid_4 n q S 79 67 (nI h) (nI i) = some (lN (bs (TS m st) (vC m)), S') ∧ rvf [83] S S' := by
  have hv40 := hk.2.1.1
  intro r
  induction r with
  | zero =>
    intro q i h S hi hq hh hB hR hC hP
    obtain ⟨q, rfl⟩ : ∃ q', q = q' + 1 := ⟨q - 1, by omega⟩
    have l40 := hC.2.2.2.1
    have s4 : S.2.1 79 4 = nI st.length := hC.1
    have hv : vb 67 := Or.inl rfl
    have hVS := VS_of hB hv
    have hPS := PS_of hB hv.p
    have h0 : S.2.1 75 0 = nI (vC m) := hR.2.1.1
    have r3 := rf_of hB (show (79, 3, 83) ∈ rv_rf0 by decide)
    refine ⟨S, ?_, rvf.rf _ _⟩
    rw [cX7_coinsSaid_4]
    repeat (first | (conv => (lhs; arg 1; simp (disch := first | assumption | omega) only [tk_gI, tk_gL, tk_gR, tk_pI, tk_pL, rv_aI, rv_aL, rv_aR, rv_uI, rv_uL, rv_uB, rv_uZ, pu_ckI, pu_ckL, pu_lnI, pu_lnL, tk_rI, tk_rL, Option.bind_some, Option.map_some, rv_lt, tk_ix, z0, z1, z2, z3, z4, z5, z6, z7, z8, z9, z10, z11, z12, z13, z15, z16, z17, z18, z20, z21, z23, z24, z25, z31, z32, z39, z40, z41, z46, z48, z50, z57, z59, z60, z61, z62, z63, z64, z97, z98, z99, z100, z101, z102, z103, z104, z105, z106, z107, z108, z109, z110, z111, z112, z113, z114, z115, z116, z117, z118, z119, z120, z121, z122, z128, z132, z200, z240, z255, z372, z390625, z400, z420, z421, z422, z662, z900, z940, z999, z1000, z1024, z2000, z5860, z10000, z12345, z15625, z266240, z1048575, z1064960, z1103515245, z_m1, n_le, n_lt, n_eq, n_bit0, n_bit1, n_sbit0, n_shl, z_ltM, z_Mlt, z_leM, z_Mle, z_eqM, z_Meq, bI0, bI1, bI_01, bI_01t, bI_10, bI_10f, if_true, if_false, eq_self, reduceCtorEq, rc_79 hB, s4])); first | rw [Option.bind_some] | rw [bp_s] | rw [if_true] | rw [if_false] | rw [rv_lt_eq] | rw [if_pos (by omega)] | rw [if_neg (by omega)])
    rw [cX7_coinsSaid_142]
    have e : st.take i = st := List.take_of_length_le (by omega)
    rw [e] at hP
    by_cases c0 : vC m = 0
    · have eb : bs (TS m st) (vC m) = 0 := by rw [c0]; rfl
      rw [eb]
      by_cases c1 : h < 1
      · rw [if_pos (by rw [z1, n_lt (by omega) (by omega)]; exact c1)]
        rfl
      · rw [if_neg (by rw [z1, n_lt (by omega) (by omega)]; exact c1)]
        have c75 : rv_ck S 5 75 = some () := hPS.1
        repeat (first | (conv => (lhs; arg 1; simp (disch := first | assumption | omega) only [tk_gI, tk_gL, tk_gR, tk_pI, tk_pL, rv_aI, rv_aL, rv_aR, rv_uI, rv_uL, rv_uB, rv_uZ, pu_ckI, pu_ckL, pu_lnI, pu_lnL, tk_rI, tk_rL, Option.bind_some, Option.map_some, rv_lt, tk_ix, z0, z1, z2, z3, z4, z5, z6, z7, z8, z9, z10, z11, z12, z13, z15, z16, z17, z18, z20, z21, z23, z24, z25, z31, z32, z39, z40, z41, z46, z48, z50, z57, z59, z60, z61, z62, z63, z64, z97, z98, z99, z100, z101, z102, z103, z104, z105, z106, z107, z108, z109, z110, z111, z112, z113, z114, z115, z116, z117, z118, z119, z120, z121, z122, z128, z132, z200, z240, z255, z372, z390625, z400, z420, z421, z422, z662, z900, z940, z999, z1000, z1024, z2000, z5860, z10000, z12345, z15625, z266240, z1048575, z1064960, z1103515245, z_m1, y0, y1, y27, y63, y96, y1099511627776, y69269232549888, hVS, c75, h0, rc_79 hB, r3, rn_83 hB, n_l, m_shl, m_shl2])); first | rw [Option.bind_some] | rw [bp_s] | rw [if_true] | rw [if_false] | rw [rv_lt_eq] | rw [if_pos (by omega)] | rw [if_neg (by omega)])
        simp (disch := first | assumption | omega) only [y0, y1, y27, y63, y96, y1099511627776, y69269232549888, n_l, m_shl, m_shl2]
        rw [bl_cut (p := fun _ => false) hv40 (fun c hc => absurd hc (by omega)), c0]
        rfl
    · have h1 : h = 1 := by
        obtain ⟨v, hv⟩ := Den_one (b1s m 0) hD
        have : (evc (b1s m 0) st []).length = h := (hP 0 (by omega)).1
        rw [hv []] at this
        simpa using this.symm
      subst h1
      rw [if_neg (by rw [z1, n_lt (by omega) (by omega)]; omega)]
      have c75 : rv_ck S 5 75 = some () := hPS.1
      repeat (first | (conv => (lhs; arg 1; simp (disch := first | assumption | omega) only [tk_gI, tk_gL, tk_gR, tk_pI, tk_pL, rv_aI, rv_aL, rv_aR, rv_uI, rv_uL, rv_uB, rv_uZ, pu_ckI, pu_ckL, pu_lnI, pu_lnL, tk_rI, tk_rL, Option.bind_some, Option.map_some, rv_lt, tk_ix, z0, z1, z2, z3, z4, z5, z6, z7, z8, z9, z10, z11, z12, z13, z15, z16, z17, z18, z20, z21, z23, z24, z25, z31, z32, z39, z40, z41, z46, z48, z50, z57, z59, z60, z61, z62, z63, z64, z97, z98, z99, z100, z101, z102, z103, z104, z105, z106, z107, z108, z109, z110, z111, z112, z113, z114, z115, z116, z117, z118, z119, z120, z121, z122, z128, z132, z200, z240, z255, z372, z390625, z400, z420, z421, z422, z662, z900, z940, z999, z1000, z1024, z2000, z5860, z10000, z12345, z15625, z266240, z1048575, z1064960, z1103515245, z_m1, y0, y1, y27, y63, y96, y1099511627776, y69269232549888, hVS, c75, h0, rc_79 hB, r3, rn_83 hB, n_l, m_shl, m_shl2])); first | rw [Option.bind_some] | rw [bp_s] | rw [if_true] | rw [if_false] | rw [rv_lt_eq] | rw [if_pos (by omega)] | rw [if_neg (by omega)])
      simp (disch := first | assumption | omega) only [y0, y1, y27, y63, y96, y1099511627776, y69269232549888, n_l, m_shl, m_shl2]
      rw [bl_cut (p := TS m st) hv40 (fun c hc => ?_)]
      obtain ⟨v, hv⟩ := Den_one (b1s m c) hD
      have : (evc (b1s m c) st [])[0]? = some (bl (S.2.2.1 83 0) c) := (hP c hc).2 0 (by decide)
      rw [hv [], List.getElem?_cons_zero] at this
      unfold TS
      rw [hv []]
      exact (Option.some.inj this).symm
  | succ r ih =>
    intro q i h S hi hq hh hB hR hC hP
    obtain ⟨q, rfl⟩ : ∃ q', q = q' + 1 := ⟨q - 1, by omega⟩
    have l40 := hC.2.2.2.1
    have s4 : S.2.1 79 4 = nI st.length := hC.1
    have hv : vb 67 := Or.inl rfl
    have hVS := VS_of hB hv
    have r0 := rf_of hB (show (79, 0, 80) ∈ rv_rf0 by decide)
    have r3 := rf_of hB (show (79, 3, 83) ∈ rv_rf0 by decide)
    have hi2 : i < st.length := by omega
    obtain ⟨u, hu⟩ : ∃ u, st[i]? = some u := ⟨st[i], List.getElem?_eq_getElem hi2⟩
    obtain ⟨w, s, a⟩ := u
    obtain ⟨g1, g2, g3⟩ := hC.2.2.1 i _ hu
    have g1 : S.2.2.2 80 i = some w := g1
    have g2 : S.2.1 81 i = nI s := g2
    have g3 : S.2.1 82 i = nI a := g3
    have mem := List.mem_of_getElem? hu
    have hw : w < 23 := hC.2.2.2.2 _ mem
    have ok := Den_okS hD _ mem
    have wdw := wd_23 hw
    have wd11 : rv_wd 11 = some () := rfl
    have wd12 : rv_wd 12 = some () := rfl
    have wd13 : rv_wd 13 = some () := rfl
    have ee : ∀ c, evc (b1s m c) (st.take (i + 1)) [] = ev1 (b1s m c) (w, s, a) (evc (b1s m c) (st.take i) []) := fun c => by
      rw [take_s hu, evc_app, evc_one]
    have go : ∀ h' S1, rvf [83] S S1 → h' ≤ i + 1 → PLS S1 h' (fun c => ev1 (b1s m c) (w, s, a) (evc (b1s m c) (st.take i) [])) (vC m) → cX7_coinsSaid_4 n (q + 1) S 79 67 (nI h) (nI i) = cX7_coinsSaid_4 n q S1 79 67 (nI h') (nI (i + 1)) → ∃ S', cX7_coinsSaid_4 n (q + 1) S 79 67 (nI h) (nI i) = some (lN (bs (TS m st) (vC m)), S') ∧ rvf [83] S S' := fun h' S1 f1 hh' hP' e => by
      have hP2 : PLS S1 h' (fun c => evc (b1s m c) (st.take (i + 1)) []) (vC m) := fun c hc => by
        have := hP' c hc
        show (evc (b1s m c) (st.take (i + 1)) []).length = h' ∧ ∀ j, j < h' → (evc (b1s m c) (st.take (i + 1)) [])[h' - 1 - j]? = _
        rw [ee]
        exact this
      obtain ⟨S2, e2, f2⟩ := ih q (i + 1) h' S1 (by omega) (by omega) (by omega) (f1.B hB) (hR.f f1 (Or.inl rfl) (Or.inl rfl) (Or.inr (by decide)) (Or.inr (by decide)) (Or.inr (by decide))) (hC.f (fun x hx => funext fun k => f1.row (by rcases hx with rfl | rfl | rfl <;> rfl) (by rcases hx with rfl | rfl | rfl <;> rfl) k) (fun k => f1.rowR rfl rfl k)) hP2
      exact ⟨S2, e.trans e2, f1.tr f2⟩
    have two : (w = 12 ∨ w = 11) → cX7_coinsSaid_4 n (q + 1) S 79 67 (nI h) (nI i) = cX7_coinsSaid_82 n (fun a0 a1 x2 x3 S => cX7_coinsSaid_4 n q S a0 a1 x2 x3) S 79 67 (nI h) (nI i) := fun hw2 => by
      rw [cX7_coinsSaid_4]
      repeat (first | (conv => (lhs; arg 1; simp (disch := first | assumption | omega) only [tk_gI, tk_gL, tk_gR, tk_pI, tk_pL, rv_aI, rv_aL, rv_aR, rv_uI, rv_uL, rv_uB, rv_uZ, pu_ckI, pu_ckL, pu_lnI, pu_lnL, tk_rI, tk_rL, Option.bind_some, Option.map_some, rv_lt, tk_ix, z0, z1, z2, z3, z4, z5, z6, z7, z8, z9, z10, z11, z12, z13, z15, z16, z17, z18, z20, z21, z23, z24, z25, z31, z32, z39, z40, z41, z46, z48, z50, z57, z59, z60, z61, z62, z63, z64, z97, z98, z99, z100, z101, z102, z103, z104, z105, z106, z107, z108, z109, z110, z111, z112, z113, z114, z115, z116, z117, z118, z119, z120, z121, z122, z128, z132, z200, z240, z255, z372, z390625, z400, z420, z421, z422, z662, z900, z940, z999, z1000, z1024, z2000, z5860, z10000, z12345, z15625, z266240, z1048575, z1064960, z1103515245, z_m1, n_le, n_lt, n_eq, n_bit0, n_bit1, n_sbit0, n_shl, z_ltM, z_Mlt, z_leM, z_Mle, z_eqM, z_Meq, bI0, bI1, bI_01, bI_01t, bI_10, bI_10f, if_true, if_false, eq_self, reduceCtorEq, rc_79 hB, s4, r0, rn_80 hB, g1, wdw, wd13, wd12, wd11])); first | rw [Option.bind_some] | rw [bp_s] | rw [if_true] | rw [if_false] | rw [rv_lt_eq] | rw [if_pos (by omega)] | rw [if_neg (by omega)])
      by_cases c12 : w = 12
      · rw [if_pos c12]
      · rw [if_neg c12]
        repeat (first | (conv => (lhs; arg 1; simp (disch := first | assumption | omega) only [tk_gI, tk_gL, tk_gR, tk_pI, tk_pL, rv_aI, rv_aL, rv_aR, rv_uI, rv_uL, rv_uB, rv_uZ, pu_ckI, pu_ckL, pu_lnI, pu_lnL, tk_rI, tk_rL, Option.bind_some, Option.map_some, rv_lt, tk_ix, z0, z1, z2, z3, z4, z5, z6, z7, z8, z9, z10, z11, z12, z13, z15, z16, z17, z18, z20, z21, z23, z24, z25, z31, z32, z39, z40, z41, z46, z48, z50, z57, z59, z60, z61, z62, z63, z64, z97, z98, z99, z100, z101, z102, z103, z104, z105, z106, z107, z108, z109, z110, z111, z112, z113, z114, z115, z116, z117, z118, z119, z120, z121, z122, z128, z132, z200, z240, z255, z372, z390625, z400, z420, z421, z422, z662, z900, z940, z999, z1000, z1024, z2000, z5860, z10000, z12345, z15625, z266240, z1048575, z1064960, z1103515245, z_m1, n_le, n_lt, n_eq, n_bit0, n_bit1, n_sbit0, n_shl, z_ltM, z_Mlt, z_leM, z_Mle, z_eqM, z_Meq, bI0, bI1, bI_01, bI_01t, bI_10, bI_10f, if_true, if_false, eq_self, reduceCtorEq, rc_79 hB, s4, r0, rn_80 hB, g1, wdw, wd13, wd12, wd11])); first | rw [Option.bind_some] | rw [bp_s] | rw [if_true] | rw [if_false] | rw [rv_lt_eq] | rw [if_pos (by omega)] | rw [if_neg (by omega)])
    by_cases e13 : w = 13
    · by_cases c1 : h < 1
      · refine go h S (rvf.rf _ _) (by omega) (PLS_short (Or.inl ⟨e13, c1⟩) hP) ?_
        rw [cX7_coinsSaid_4]
        repeat (first | (conv => (lhs; arg 1; simp (disch := first | assumption | omega) only [tk_gI, tk_gL, tk_gR, tk_pI, tk_pL, rv_aI, rv_aL, rv_aR, rv_uI, rv_uL, rv_uB, rv_uZ, pu_ckI, pu_ckL, pu_lnI, pu_lnL, tk_rI, tk_rL, Option.bind_some, Option.map_some, rv_lt, tk_ix, z0, z1, z2, z3, z4, z5, z6, z7, z8, z9, z10, z11, z12, z13, z15, z16, z17, z18, z20, z21, z23, z24, z25, z31, z32, z39, z40, z41, z46, z48, z50, z57, z59, z60, z61, z62, z63, z64, z97, z98, z99, z100, z101, z102, z103, z104, z105, z106, z107, z108, z109, z110, z111, z112, z113, z114, z115, z116, z117, z118, z119, z120, z121, z122, z128, z132, z200, z240, z255, z372, z390625, z400, z420, z421, z422, z662, z900, z940, z999, z1000, z1024, z2000, z5860, z10000, z12345, z15625, z266240, z1048575, z1064960, z1103515245, z_m1, n_le, n_lt, n_eq, n_bit0, n_bit1, n_sbit0, n_shl, z_ltM, z_Mlt, z_leM, z_Mle, z_eqM, z_Meq, bI0, bI1, bI_01, bI_01t, bI_10, bI_10f, if_true, if_false, eq_self, reduceCtorEq, rc_79 hB, s4, r0, rn_80 hB, g1, wdw, wd13, wd12, wd11])); first | rw [Option.bind_some] | rw [bp_s] | rw [if_true] | rw [if_false] | rw [rv_lt_eq] | rw [if_pos (by omega)] | rw [if_neg (by omega)])
        rw [z1, nI_add]
      · obtain ⟨h, rfl⟩ : ∃ h', h = h' + 1 := ⟨h - 1, by omega⟩
        refine go (h + 1) (rv_sL S 83 h (S.2.2.1 83 h ^^^ (-1 : Int64))) (rvf.sLr _ _ _ rfl) (by omega) (PLS_not (b := fun c => b1s m c) e13 hv40 hP) ?_
        rw [cX7_coinsSaid_4]
        have sb : nI (h + 1) - (1 : Int32) = nI h := by rw [z1, z_sub (by omega), Nat.add_sub_cancel]
        repeat (first | (conv => (lhs; arg 1; simp (disch := first | assumption | omega) only [tk_gI, tk_gL, tk_gR, tk_pI, tk_pL, rv_aI, rv_aL, rv_aR, rv_uI, rv_uL, rv_uB, rv_uZ, pu_ckI, pu_ckL, pu_lnI, pu_lnL, tk_rI, tk_rL, Option.bind_some, Option.map_some, rv_lt, tk_ix, sb, n_le, n_lt, z40, rc_79 hB, s4, r0, r3, rn_80 hB, rn_83 hB, g1, wdw, wd13, wd12, wd11])); first | rw [Option.bind_some] | rw [bp_s] | rw [if_true] | rw [if_false] | rw [rv_lt_eq] | rw [if_pos (by omega)] | rw [if_neg (by omega)])
        rw [if_neg (by rw [z1, n_lt (by omega) (by omega)]; omega)]
        repeat (first | (conv => (lhs; arg 1; simp (disch := first | assumption | omega) only [tk_gI, tk_gL, tk_gR, tk_pI, tk_pL, rv_aI, rv_aL, rv_aR, rv_uI, rv_uL, rv_uB, rv_uZ, pu_ckI, pu_ckL, pu_lnI, pu_lnL, tk_rI, tk_rL, Option.bind_some, Option.map_some, rv_lt, tk_ix, sb, rc_79 hB, r3, rn_83 hB])); first | rw [Option.bind_some] | rw [bp_s] | rw [if_true] | rw [if_false] | rw [rv_lt_eq] | rw [if_pos (by omega)] | rw [if_neg (by omega)])
        rw [z1, nI_add]
    · by_cases e2 : w = 12 ∨ w = 11
      · by_cases c1 : h < 2
        · refine go h S (rvf.rf _ _) (by omega) (PLS_short (Or.inr ⟨e2, c1⟩) hP) ?_
          rw [two e2, cX7_coinsSaid_82, if_pos (by rw [z2, n_lt (by omega) (by omega)]; exact c1), rv_lt, z1, nI_add]
        · obtain ⟨h, rfl⟩ : ∃ h', h = h' + 2 := ⟨h - 2, by omega⟩
          have zp : nI (h + 2) + (-1 : Int32) = nI (h + 1) := by
            rw [z_pm (by omega)]
            exact congrArg nI (by omega)
          have kj := k_joinS (n := n) hB (h := h) (by omega)
          by_cases e12 : w = 12
          · refine go (h + 1) (rv_sL S 83 h (S.2.2.1 83 h &&& S.2.2.1 83 (h + 1))) (rvf.sLr _ _ _ rfl) (by omega) (PLS_two (b := fun c => b1s m c) (f := fun x y => x && y) (fun c x y r => ?_) (fun c hc => bl_and _ _ _) hP) ?_
            · subst e12; rfl
            · have k1 := kj true
              rw [if_pos rfl] at k1
              have k1 : fnX7_join n S 79 (1 : Int32) (nI (h + 1)) = _ := k1
              rw [two e2, cX7_coinsSaid_82, if_neg (by rw [z2, n_lt (by omega) (by omega)]; exact c1), rv_lt, zp]
              repeat (first | (conv => (lhs; arg 1; simp (disch := first | assumption | omega) only [tk_gI, tk_gL, tk_gR, tk_pI, tk_pL, rv_aI, rv_aL, rv_aR, rv_uI, rv_uL, rv_uB, rv_uZ, pu_ckI, pu_ckL, pu_lnI, pu_lnL, tk_rI, tk_rL, Option.bind_some, Option.map_some, rv_lt, tk_ix, rc_79 hB, r0, rn_80 hB, g1, wdw, wd12])); first | rw [Option.bind_some] | rw [bp_s] | rw [if_true] | rw [if_false] | rw [rv_lt_eq] | rw [if_pos (by omega)] | rw [if_neg (by omega)])
              rw [cX7_coinsSaid_108]
              repeat (first | (conv => (lhs; arg 1; simp (disch := first | assumption | omega) only [rc_79 hB, k1])); first | rw [Option.bind_some] | rw [bp_s] | rw [if_true] | rw [if_false] | rw [rv_lt_eq] | rw [if_pos (by omega)] | rw [if_neg (by omega)])
              rw [z1, nI_add]
          · have e11 : w = 11 := by omega
            refine go (h + 1) (rv_sL S 83 h (S.2.2.1 83 h ||| S.2.2.1 83 (h + 1))) (rvf.sLr _ _ _ rfl) (by omega) (PLS_two (b := fun c => b1s m c) (f := fun x y => x || y) (fun c x y r => ?_) (fun c hc => bl_or _ _ _) hP) ?_
            · subst e11; rfl
            · have k1 := kj false
              rw [if_neg (by decide)] at k1
              have k1 : fnX7_join n S 79 (0 : Int32) (nI (h + 1)) = _ := k1
              rw [two e2, cX7_coinsSaid_82, if_neg (by rw [z2, n_lt (by omega) (by omega)]; exact c1), rv_lt, zp]
              repeat (first | (conv => (lhs; arg 1; simp (disch := first | assumption | omega) only [tk_gI, tk_gL, tk_gR, tk_pI, tk_pL, rv_aI, rv_aL, rv_aR, rv_uI, rv_uL, rv_uB, rv_uZ, pu_ckI, pu_ckL, pu_lnI, pu_lnL, tk_rI, tk_rL, Option.bind_some, Option.map_some, rv_lt, tk_ix, rc_79 hB, r0, rn_80 hB, g1, wdw, wd12])); first | rw [Option.bind_some] | rw [bp_s] | rw [if_true] | rw [if_false] | rw [rv_lt_eq] | rw [if_pos (by omega)] | rw [if_neg (by omega)])
              rw [cX7_coinsSaid_108]
              repeat (first | (conv => (lhs; arg 1; simp (disch := first | assumption | omega) only [rc_79 hB, k1])); first | rw [Option.bind_some] | rw [bp_s] | rw [if_true] | rw [if_false] | rw [rv_lt_eq] | rw [if_pos (by omega)] | rw [if_neg (by omega)])
              rw [z1, nI_add]
      · have okk : okSy (m 6) (w, s, a) := by
          rcases ok with ok | ok | ok | ok
          · exact ok
          · exact absurd (Or.inr ok) e2
          · exact absurd (Or.inl ok) e2
          · exact absurd ok e13
        have kx := k_coinsOfStep (n := n) hn hB hR hk (j := i) (by omega) g1 g2 g3 okk
        have e12 : ¬ w = 12 := fun z => e2 (Or.inl z)
        have e11 : ¬ w = 11 := fun z => e2 (Or.inr z)
        refine go (h + 1) (rv_sL S 83 h (lN (bs (fun c => b1s m c (w, s, a)) (vC m)))) (rvf.sLr _ _ _ rfl) (by omega) (PLS_leaf (b := fun c => b1s m c) e13 e12 e11 (fun c hc => ?_) hP) ?_
        · rw [bl_l _ (by omega), bs_bit, decide_eq_true hc, Bool.true_and]
        · rw [cX7_coinsSaid_4]
          repeat (first | (conv => (lhs; arg 1; simp (disch := first | assumption | omega) only [tk_gI, tk_gL, tk_gR, tk_pI, tk_pL, rv_aI, rv_aL, rv_aR, rv_uI, rv_uL, rv_uB, rv_uZ, pu_ckI, pu_ckL, pu_lnI, pu_lnL, tk_rI, tk_rL, Option.bind_some, Option.map_some, rv_lt, tk_ix, z0, z1, z2, z3, z4, z5, z6, z7, z8, z9, z10, z11, z12, z13, z15, z16, z17, z18, z20, z21, z23, z24, z25, z31, z32, z39, z40, z41, z46, z48, z50, z57, z59, z60, z61, z62, z63, z64, z97, z98, z99, z100, z101, z102, z103, z104, z105, z106, z107, z108, z109, z110, z111, z112, z113, z114, z115, z116, z117, z118, z119, z120, z121, z122, z128, z132, z200, z240, z255, z372, z390625, z400, z420, z421, z422, z662, z900, z940, z999, z1000, z1024, z2000, z5860, z10000, z12345, z15625, z266240, z1048575, z1064960, z1103515245, z_m1, n_le, n_lt, n_eq, n_bit0, n_bit1, n_sbit0, n_shl, z_ltM, z_Mlt, z_leM, z_Mle, z_eqM, z_Meq, bI0, bI1, bI_01, bI_01t, bI_10, bI_10f, if_true, if_false, eq_self, reduceCtorEq, kx, rc_79 hB, s4, r0, r3, rn_80 hB, rn_83 hB, g1, wdw, wd13, wd12, wd11])); first | rw [Option.bind_some] | rw [bp_s] | rw [if_true] | rw [if_false] | rw [rv_lt_eq] | rw [if_pos (by omega)] | rw [if_neg (by omega)])
          rw [nI_add, nI_add]
theorem k_said (hn : 50 ≤ n) (hB : rv_B S) (hR : CR S 67 m) (hk : okm m) {o : Nat} {st : List SayT} (hC : CSn S 67 o st) {t : Nat → Int32} {d top : Nat} (hD : Den (m 6) t d top st) (ho : 0 < o) (ho2 : o ≤ 20) (x : Int32) : ∃ S', fnX12_said n S 64 x = some (cO (TS m st) (vC m) x, S') ∧ rvf [83] S S' := by
  have hv : vb 67 := Or.inl rfl
  have hVS := VS_of hB hv
  have hCS := CS_of hB
  have s5 : S.2.1 79 5 = nI o := hC.2.1
  obtain ⟨S1, e1, f1⟩ := k_csl (n := n) hn hk (q := n) hD st.length n 0 0 S (by omega) (by have := hC.2.2.2.1; omega) (Nat.le_refl 0) hB hR hC (fun c hc => ⟨rfl, fun j hj => absurd hj (Nat.not_lt_zero j)⟩)
  have ko := k_one (n := n) (S := S1) hn (p := TS m st) (N := vC m) hk.2.1.1 x
  refine ⟨S1, ?_, f1⟩
  rw [fnX12_said]
  repeat (first | (conv => (lhs; arg 1; simp (disch := first | assumption | omega) only [tk_gI, tk_gL, tk_gR, tk_pI, tk_pL, rv_aI, rv_aL, rv_aR, rv_uI, rv_uL, rv_uB, rv_uZ, pu_ckI, pu_ckL, pu_lnI, pu_lnL, tk_rI, tk_rL, Option.bind_some, Option.map_some, rv_lt, tk_ix, hCS, hVS, rc_79 hB, s5])); first | rw [Option.bind_some] | rw [bp_s] | rw [if_true] | rw [if_false] | rw [rv_lt_eq] | rw [if_pos (by omega)] | rw [if_neg (by omega)])
  rw [if_neg (by rw [z0, n_eq (by omega) (by omega)]; omega)]
  repeat (first | (conv => (lhs; arg 1; simp (disch := first | assumption | omega) only [tk_gI, tk_gL, tk_gR, tk_pI, tk_pL, rv_aI, rv_aL, rv_aR, rv_uI, rv_uL, rv_uB, rv_uZ, pu_ckI, pu_ckL, pu_lnI, pu_lnL, tk_rI, tk_rL, Option.bind_some, Option.map_some, rv_lt, tk_ix, hCS, hVS, rc_79 hB, s5])); first | rw [Option.bind_some] | rw [bp_s] | rw [if_true] | rw [if_false] | rw [rv_lt_eq] | rw [if_pos (by omega)] | rw [if_neg (by omega)])
  rw [fnX7_coinsSaid, z0, e1, bp_s, ko]
  rfl
theorem op_said (hn : 500 ≤ n) {o : Nat} {st : List SayT} (hW : NW S m wd o st) (x : Int32) : ∃ r S1 S', fnX12_said n S 64 x = some (r, S1) ∧ fnX13_said n S1 189 x = some (r, S') ∧ QS S S' m wd := by
  obtain ⟨hV, hC, hCp⟩ := hW
  obtain ⟨hB, hR, hL, hk, hNC, hNM, hok⟩ := id hV
  have hv : vb 67 := Or.inl rfl
  have hVS := VS_of hB hv
  have hCS := CS_of hB
  have s5 : S.2.1 79 5 = nI o := hC.2.1
  rcases hCp with ⟨h1, h2⟩ | ⟨h1, h2, h3, top, d, h4, h5⟩
  · obtain ⟨S6, e6, hB6, f6, hM6, r6, b6⟩ := start_ok hn hB hL
    have r14 := rf_of hB6 (show (189, 14, 191) ∈ rv_rf0 by decide)
    have h2 : S.2.1 191 420 = nI 0 := h2
    have c0 : S6.2.1 191 420 = nI 0 := (r6 420 (Nat.le_refl _)).trans h2
    refine ⟨iM, S, S6, ?_, ?_, QS.s0 hV f6 hM6 r6 b6⟩
    · rw [fnX12_said]
      repeat (first | (conv => (lhs; arg 1; simp (disch := first | assumption | omega) only [tk_gI, tk_gL, tk_gR, tk_pI, tk_pL, rv_aI, rv_aL, rv_aR, rv_uI, rv_uL, rv_uB, rv_uZ, pu_ckI, pu_ckL, pu_lnI, pu_lnL, tk_rI, tk_rL, Option.bind_some, Option.map_some, rv_lt, tk_ix, hCS, hVS, rc_79 hB, s5])); first | rw [Option.bind_some] | rw [bp_s] | rw [if_true] | rw [if_false] | rw [rv_lt_eq] | rw [if_pos (by omega)] | rw [if_neg (by omega)])
      rw [if_pos (by rw [h1]; rfl)]
      rfl
    · rw [fnX13_said, z420]
      repeat (first | (conv => (lhs; arg 1; simp (disch := first | assumption | omega) only [tk_gI, tk_gL, tk_gR, tk_pI, tk_pL, rv_aI, rv_aL, rv_aR, rv_uI, rv_uL, rv_uB, rv_uZ, pu_ckI, pu_ckL, pu_lnI, pu_lnL, tk_rI, tk_rL, Option.bind_some, Option.map_some, rv_lt, tk_ix, z0, rc_189 hB, e6, rc_189 hB6, r14, rn_191 hB6, c0])); first | rw [Option.bind_some] | rw [bp_s] | rw [if_true] | rw [if_false] | rw [rv_lt_eq] | rw [if_pos (by omega)] | rw [if_neg (by omega)])
      rfl
  · obtain ⟨S1, e1, f1⟩ := k_said (n := n) (by omega) hB hR hk hC h5 h1 h2 x
    have hB1 := f1.B hB
    obtain ⟨S6, e6, hB6, f6, hM6, r6, b6⟩ := start_ok hn hB1 (hL.f f1 rfl rfl)
    have r14 := rf_of hB6 (show (189, 14, 191) ∈ rv_rf0 by decide)
    have t6 : ∀ j, j < 242 → S6.2.1 191 (420 + j) = S.2.1 191 (420 + j) := fun j hj => (r6 (420 + j) (by omega)).trans (f1.row rfl rfl _)
    have h3 : S.2.1 191 420 = nI 1 := h3
    have c0 : S6.2.1 191 420 = nI 1 := (t6 0 (by decide)).trans h3
    obtain ⟨S2, e2, f2⟩ := m_said26 (n := n) (by omega) hk hC.2.2.2.1 h5 h4 x (vC m) n 0 S6 (by omega) (by have := hk.2.1.1; omega) hB6 hM6 t6
    have eq1 : (if x = iM then nI (fb_ct (TS m st) (vC m)) else ktl (TS m st) x (vC m) 0 (fb_ct (TS m st) 0)) = cO (TS m st) (vC m) x := rfl
    rw [eq1] at e2
    have fz : rvf [189000, 189022, 191, 199] S1 S2 := (f6.mono rfl).tr (f2.mono rfl)
    refine ⟨cO (TS m st) (vC m) x, S1, S2, e1, ?_, QS.two hV f1 fz rfl rfl rfl rfl (hR.f f1 (Or.inl rfl) (Or.inl rfl) (Or.inr (by decide)) (Or.inr (by decide)) (Or.inr (by decide))) (hM6.f f2 rfl) (by rw [f2.at (a := 189) (k := 22) rfl]; exact b6) hk rfl rfl (r6.tr (R42.of f2 rfl))⟩
    rw [fnX13_said, z420]
    repeat (first | (conv => (lhs; arg 1; simp (disch := first | assumption | omega) only [tk_gI, tk_gL, tk_gR, tk_pI, tk_pL, rv_aI, rv_aL, rv_aR, rv_uI, rv_uL, rv_uB, rv_uZ, pu_ckI, pu_ckL, pu_lnI, pu_lnL, tk_rI, tk_rL, Option.bind_some, Option.map_some, rv_lt, tk_ix, z0, rc_189 hB1, e6, rc_189 hB6, r14, rn_191 hB6, c0])); first | rw [Option.bind_some] | rw [bp_s] | rw [if_true] | rw [if_false] | rw [rv_lt_eq] | rw [if_pos (by omega)] | rw [if_neg (by omega)])
    rw [if_neg (by decide)]
    exact e2
end
