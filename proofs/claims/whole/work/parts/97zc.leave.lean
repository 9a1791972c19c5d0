/-! EVER: the reference leaves out what ends -/
section
variable {n : Nat} {S : rvS} {m : Nat → Nat} {s0 : St} {wd : Nat → List Nat}
/-- the followers counted (row 207), the ends (row 200) -/
def EWR (S : rvS) (c : Cf) (x : KW) : Prop := (∀ p, inC c p = true → S.2.1 207 (cd p.1 p.2) = nI (x.1 p)) ∧ ∀ j p, x.2[j]? = some p → S.2.1 200 j = nI (cd p.1 p.2)
theorem EWR.f {D : List Nat} {S' : rvS} {c : Cf} {x : KW} (h : EWR S c x) (f : rvf D S S') (h1 : D.elem 207 = false) (h2 : D.elem 200 = false) : EWR S' c x := ⟨fun p hp => (f.row rfl h1 _).trans (h.1 p hp), fun j p hj => (f.row rfl h2 j).trans (h.2 j p hj)⟩
theorem m_end (hB : rv_B S) {j : Nat} (hj : j < 410000) (v : Int32) : fnX13_end_ n S 189 v (nI j) = some (nI (j + 1), rv_sI S 200 j v) := by
  rw [fnX13_end_]
  repeat (first | (conv => (lhs; arg 1; simp (disch := first | assumption | omega) only [tk_gI, tk_gL, tk_gR, tk_pI, tk_pL, rv_aI, rv_aL, rv_aR, rv_uI, rv_uL, rv_uB, rv_uZ, pu_ckI, pu_ckL, pu_lnI, pu_lnL, tk_rI, tk_rL, Option.bind_some, Option.map_some, rv_lt, tk_ix, rc_189 hB, rf_of hB (show (189, 25, 200) ∈ rv_rf0 by decide), rn_200 hB])); first | rw [Option.bind_some] | rw [bp_s] | rw [if_true] | rw [if_false] | rw [rv_lt_eq] | rw [if_pos (by omega)] | rw [if_neg (by omega)])
  rw [z1, nI_add]
/-- one candidate -/
theorem m_lo (hn : 50 ≤ n) (hB : rv_B S) (hM : MR S m) (hk : okm m) (hl0 : s0.2.length ≤ vN m) {c : Cf} (hb : BI m s0 c) (hQ : RQ S c) {x : KW} (hE : EWR S c x) (hlen : x.2.length ≤ 255640) {p : St} (hH : HR S p.1 p.2) (hp : okS m p) {o : Nat} (ho : o < vW m) (hpos : inC c p = true → gok m p o → 1 ≤ x.1 p ∧ x.1 p ≤ 24) (K : Nat → Int32 → Int32 → Int32 → Int32 → Int32 → Int32 → Int32 → rvS → Option (Int32 × rvS)) (x5 x6 x7 x8 x9 : Int32) : ∃ S', cX13_leaveOut_210 n K S 189 (nI x.2.length) (nI o) x5 x6 x7 x8 x9 = K 189 (nI (lo1 m c o x p).2.length) (nI o) x5 x6 x7 x8 (x9 + 1) S' ∧ rvf [207, 200] S S' ∧ EWR S' c (lo1 m c o x p) := by
  obtain ⟨hpp, hc, -⟩ := id hk
  have h24 := hpp.1
  have lt := cd_lt hpp hp.1 hp.2
  have kc := m_code (n := n) (by omega) hB hpp hH hp.1 hp.2
  have kw := m_whyNot (n := n) (by omega) hB hM hpp hH hp.1 hp.2 ho
  have wl := wy_le m p.1 p.2 o
  have r205 := rf_of hB (show (189, 31, 205) ∈ rv_rf0 by decide)
  have r207 := rf_of hB (show (189, 33, 207) ∈ rv_rf0 by decide)
  obtain ⟨n1, n2⟩ := RQ_no hpp hb hQ hp
  cases hin : inC c p
  · have r := n1 hin
    have e : lo1 m c o x p = x := by
      unfold lo1
      rw [if_neg (fun z => by rw [hin] at z; exact absurd z.1 (by decide))]
    refine ⟨S, ?_, rvf.rf _ _, by rw [e]; exact hE⟩
    rw [e, cX13_leaveOut_210]
    repeat (first | (conv => (lhs; arg 1; simp (disch := first | assumption | omega) only [tk_gI, tk_gL, tk_gR, tk_pI, tk_pL, rv_aI, rv_aL, rv_aR, rv_uI, rv_uL, rv_uB, rv_uZ, pu_ckI, pu_ckL, pu_lnI, pu_lnL, tk_rI, tk_rL, Option.bind_some, Option.map_some, rv_lt, tk_ix, rc_189 hB, kc, r205, rn_205 hB, r])); first | rw [Option.bind_some] | rw [bp_s] | rw [if_true] | rw [if_false] | rw [rv_lt_eq] | rw [if_pos (by omega)] | rw [if_neg (by omega)])
    rw [if_pos (show iM = (-1 : Int32) from rfl)]
  · obtain ⟨y, y1, y2⟩ := n2 hin
    have ny : ¬ nI y = (-1 : Int32) := fun z => by
      have z : nI y = iM := z
      rw [z_eqM (by omega)] at z
      exact z
    by_cases hg : gok m p o
    · have hg' : wy m p.1 p.2 o = 0 := hg
      rw [hg'] at kw
      obtain ⟨p1, p2⟩ := hpos hin hg
      have v := hE.1 p hin
      obtain ⟨S1, eS1⟩ : ∃ S1, S1 = rv_sI S 207 (cd p.1 p.2) (nI (x.1 p - 1)) := ⟨_, rfl⟩
      have f1 : rvf [207, 200] S S1 := by rw [eS1]; exact (rvf.rf _ _).w rfl rfl
      have hB1 := f1.B hB
      have r207' := rf_of hB1 (show (189, 33, 207) ∈ rv_rf0 by decide)
      have v1 : S1.2.1 207 (cd p.1 p.2) = nI (x.1 p - 1) := by rw [eS1, rv_sI_eq]
      have E1 : ∀ q, inC c q = true → S1.2.1 207 (cd q.1 q.2) = nI (if q = p then x.1 p - 1 else x.1 q) := fun q hq => by
        by_cases e : q = p
        · rw [if_pos e, e, v1]
        · rw [if_neg e, eS1, rv_sI_k _ _ ?_]
          · exact hE.1 q hq
          · intro z
            obtain ⟨z1', z2'⟩ := cd_inj hpp (inC_ok hb hl0 hq).1.2 hp.2 z
            exact e (Prod.ext z1' z2')
      by_cases c1 : x.1 p = 1
      · have e : lo1 m c o x p = ((fun q => if q = p then x.1 p - 1 else x.1 q), x.2 ++ [p]) := by
          unfold lo1
          rw [if_pos ⟨hin, hg⟩, if_pos c1]
        have v1' : S1.2.1 207 (cd p.1 p.2) = nI 0 := by rw [v1, c1]
        have me := m_end (n := n) hB1 (j := x.2.length) (by omega) (nI (cd p.1 p.2))
        obtain ⟨S2, eS2⟩ : ∃ S2, S2 = rv_sI S1 200 x.2.length (nI (cd p.1 p.2)) := ⟨_, rfl⟩
        have f2 : rvf [207, 200] S1 S2 := by rw [eS2]; exact (rvf.rf _ _).w rfl rfl
        rw [← eS2] at me
        refine ⟨S2, ?_, f1.tr f2, ?_⟩
        · rw [e]
          show _ = K 189 (nI (x.2 ++ [p]).length) (nI o) x5 x6 x7 x8 (x9 + 1) S2
          rw [cX13_leaveOut_210]
          repeat (first | (conv => (lhs; arg 1; simp (disch := first | assumption | omega) only [tk_gI, tk_gL, tk_gR, tk_pI, tk_pL, rv_aI, rv_aL, rv_aR, rv_uI, rv_uL, rv_uB, rv_uZ, pu_ckI, pu_ckL, pu_lnI, pu_lnL, tk_rI, tk_rL, Option.bind_some, Option.map_some, rv_lt, tk_ix, rc_189 hB, kc, r205, rn_205 hB, y2])); first | rw [Option.bind_some] | rw [bp_s] | rw [if_true] | rw [if_false] | rw [rv_lt_eq] | rw [if_pos (by omega)] | rw [if_neg (by omega)])
          repeat (first | (conv => (lhs; arg 1; simp (disch := first | assumption | omega) only [tk_gI, tk_gL, tk_gR, tk_pI, tk_pL, rv_aI, rv_aL, rv_aR, rv_uI, rv_uL, rv_uB, rv_uZ, pu_ckI, pu_ckL, pu_lnI, pu_lnL, tk_rI, tk_rL, Option.bind_some, Option.map_some, rv_lt, tk_ix, rc_189 hB, kw])); first | rw [Option.bind_some] | rw [bp_s] | rw [if_true] | rw [if_false] | rw [rv_lt_eq] | rw [if_pos (by omega)] | rw [if_neg (by omega)])
          rw [if_pos (show nI 0 = (0 : Int32) from rfl)]
          repeat (first | (conv => (lhs; arg 1; simp (disch := first | assumption | omega) only [tk_gI, tk_gL, tk_gR, tk_pI, tk_pL, rv_aI, rv_aL, rv_aR, rv_uI, rv_uL, rv_uB, rv_uZ, pu_ckI, pu_ckL, pu_lnI, pu_lnL, tk_rI, tk_rL, Option.bind_some, Option.map_some, rv_lt, tk_ix, rc_189 hB, r207, rn_207 hB, v])); first | rw [Option.bind_some] | rw [bp_s] | rw [if_true] | rw [if_false] | rw [rv_lt_eq] | rw [if_pos (by omega)] | rw [if_neg (by omega)])
          rw [z1, z_sub p1, ← eS1]
          repeat (first | (conv => (lhs; arg 1; simp (disch := first | assumption | omega) only [tk_gI, tk_gL, tk_gR, tk_pI, tk_pL, rv_aI, rv_aL, rv_aR, rv_uI, rv_uL, rv_uB, rv_uZ, pu_ckI, pu_ckL, pu_lnI, pu_lnL, tk_rI, tk_rL, Option.bind_some, Option.map_some, rv_lt, tk_ix, rc_189 hB1, r207', rn_207 hB1])); first | rw [Option.bind_some] | rw [bp_s] | rw [if_true] | rw [if_false] | rw [rv_lt_eq] | rw [if_pos (by omega)] | rw [if_neg (by omega)])
          rw [v1', if_pos (show nI 0 = (0 : Int32) from rfl)]
          repeat (first | (conv => (lhs; arg 1; simp (disch := first | assumption | omega) only [tk_gI, tk_gL, tk_gR, tk_pI, tk_pL, rv_aI, rv_aL, rv_aR, rv_uI, rv_uL, rv_uB, rv_uZ, pu_ckI, pu_ckL, pu_lnI, pu_lnL, tk_rI, tk_rL, Option.bind_some, Option.map_some, rv_lt, tk_ix, rc_189 hB1, me])); first | rw [Option.bind_some] | rw [bp_s] | rw [if_true] | rw [if_false] | rw [rv_lt_eq] | rw [if_pos (by omega)] | rw [if_neg (by omega)])
          rw [List.length_append]
          rfl
        · rw [e]
          refine ⟨fun q hq => ?_, fun j q hj => ?_⟩
          · rw [eS2, rv_sI_a _ _ _ (by decide)]; exact E1 q hq
          · have hj : (x.2 ++ [p])[j]? = some q := hj
            by_cases cj : j < x.2.length
            · rw [List.getElem?_append_left cj] at hj
              rw [eS2, rv_sI_k _ _ (by omega), eS1, rv_sI_a _ _ _ (by decide)]
              exact hE.2 j q hj
            · by_cases ej : j = x.2.length
              · rw [ej, List.getElem?_append_right (Nat.le_refl _), Nat.sub_self] at hj
                have : p = q := Option.some.inj hj
                rw [ej, eS2, rv_sI_eq, this]
              · rw [List.getElem?_eq_none (by rw [List.length_append]; show x.2.length + 1 ≤ j; omega)] at hj
                exact absurd hj (by simp)
      · have e : lo1 m c o x p = ((fun q => if q = p then x.1 p - 1 else x.1 q), x.2) := by
          unfold lo1
          rw [if_pos ⟨hin, hg⟩, if_neg c1]
        have nz : ¬ nI (x.1 p - 1) = (0 : Int32) := by rw [z0, n_eq (by omega) (by decide)]; omega
        refine ⟨S1, ?_, f1, ?_⟩
        · rw [e]
          show _ = K 189 (nI x.2.length) (nI o) x5 x6 x7 x8 (x9 + 1) S1
          rw [cX13_leaveOut_210]
          repeat (first | (conv => (lhs; arg 1; simp (disch := first | assumption | omega) only [tk_gI, tk_gL, tk_gR, tk_pI, tk_pL, rv_aI, rv_aL, rv_aR, rv_uI, rv_uL, rv_uB, rv_uZ, pu_ckI, pu_ckL, pu_lnI, pu_lnL, tk_rI, tk_rL, Option.bind_some, Option.map_some, rv_lt, tk_ix, rc_189 hB, kc, r205, rn_205 hB, y2])); first | rw [Option.bind_some] | rw [bp_s] | rw [if_true] | rw [if_false] | rw [rv_lt_eq] | rw [if_pos (by omega)] | rw [if_neg (by omega)])
          repeat (first | (conv => (lhs; arg 1; simp (disch := first | assumption | omega) only [tk_gI, tk_gL, tk_gR, tk_pI, tk_pL, rv_aI, rv_aL, rv_aR, rv_uI, rv_uL, rv_uB, rv_uZ, pu_ckI, pu_ckL, pu_lnI, pu_lnL, tk_rI, tk_rL, Option.bind_some, Option.map_some, rv_lt, tk_ix, rc_189 hB, kw])); first | rw [Option.bind_some] | rw [bp_s] | rw [if_true] | rw [if_false] | rw [rv_lt_eq] | rw [if_pos (by omega)] | rw [if_neg (by omega)])
          rw [if_pos (show nI 0 = (0 : Int32) from rfl)]
          repeat (first | (conv => (lhs; arg 1; simp (disch := first | assumption | omega) only [tk_gI, tk_gL, tk_gR, tk_pI, tk_pL, rv_aI, rv_aL, rv_aR, rv_uI, rv_uL, rv_uB, rv_uZ, pu_ckI, pu_ckL, pu_lnI, pu_lnL, tk_rI, tk_rL, Option.bind_some, Option.map_some, rv_lt, tk_ix, rc_189 hB, r207, rn_207 hB, v])); first | rw [Option.bind_some] | rw [bp_s] | rw [if_true] | rw [if_false] | rw [rv_lt_eq] | rw [if_pos (by omega)] | rw [if_neg (by omega)])
          rw [z1, z_sub p1, ← eS1]
          repeat (first | (conv => (lhs; arg 1; simp (disch := first | assumption | omega) only [tk_gI, tk_gL, tk_gR, tk_pI, tk_pL, rv_aI, rv_aL, rv_aR, rv_uI, rv_uL, rv_uB, rv_uZ, pu_ckI, pu_ckL, pu_lnI, pu_lnL, tk_rI, tk_rL, Option.bind_some, Option.map_some, rv_lt, tk_ix, rc_189 hB1, r207', rn_207 hB1, v1])); first | rw [Option.bind_some] | rw [bp_s] | rw [if_true] | rw [if_false] | rw [rv_lt_eq] | rw [if_pos (by omega)] | rw [if_neg (by omega)])
        · rw [e]
          refine ⟨E1, fun j q hj => ?_⟩
          rw [eS1, rv_sI_a _ _ _ (by decide)]
          exact hE.2 j q hj
    · have hg' : ¬ wy m p.1 p.2 o = 0 := hg
      have nw : ¬ nI (wy m p.1 p.2 o) = (0 : Int32) := by rw [z0, n_eq (by omega) (by decide)]; exact hg'
      have e : lo1 m c o x p = x := by
        unfold lo1
        rw [if_neg (fun z => hg z.2)]
      refine ⟨S, ?_, rvf.rf _ _, by rw [e]; exact hE⟩
      rw [e, cX13_leaveOut_210]
      repeat (first | (conv => (lhs; arg 1; simp (disch := first | assumption | omega) only [tk_gI, tk_gL, tk_gR, tk_pI, tk_pL, rv_aI, rv_aL, rv_aR, rv_uI, rv_uL, rv_uB, rv_uZ, pu_ckI, pu_ckL, pu_lnI, pu_lnL, tk_rI, tk_rL, Option.bind_some, Option.map_some, rv_lt, tk_ix, rc_189 hB, kc, r205, rn_205 hB, y2])); first | rw [Option.bind_some] | rw [bp_s] | rw [if_true] | rw [if_false] | rw [rv_lt_eq] | rw [if_pos (by omega)] | rw [if_neg (by omega)])
      repeat (first | (conv => (lhs; arg 1; simp (disch := first | assumption | omega) only [tk_gI, tk_gL, tk_gR, tk_pI, tk_pL, rv_aI, rv_aL, rv_aR, rv_uI, rv_uL, rv_uB, rv_uZ, pu_ckI, pu_ckL, pu_lnI, pu_lnL, tk_rI, tk_rL, Option.bind_some, Option.map_some, rv_lt, tk_ix, rc_189 hB, kw])); first | rw [Option.bind_some] | rw [bp_s] | rw [if_true] | rw [if_false] | rw [rv_lt_eq] | rw [if_pos (by omega)] | rw [if_neg (by omega)])
end
