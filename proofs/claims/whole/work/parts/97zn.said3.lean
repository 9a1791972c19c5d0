/-! SAID: the class compares -/
section
variable {n : Nat} {S : rvS} {m : Nat → Nat} {wd : Nat → List Nat}
theorem k_compares (hB : rv_B S) {j s a v : Nat} (hj : j < 40) (hs : s = 60 ∨ s = 61 ∨ s = 62) (ha : a < 1000) (hv : v < 1000) (h1 : S.2.1 81 j = nI s) (h2 : S.2.1 82 j = nI a) : fnX7_compares n S 79 (nI v) (nI j) = some (bI (cmpS s a v)) := by
  have r1 := rf_of hB (show (79, 1, 81) ∈ rv_rf0 by decide)
  have r2 := rf_of hB (show (79, 2, 82) ∈ rv_rf0 by decide)
  have s100 : s < 2147483648 := by omega
  rw [fnX7_compares, z60, z61]
  repeat (first | (conv => (lhs; arg 1; simp (disch := first | assumption | omega) only [tk_gI, tk_gL, tk_gR, tk_pI, tk_pL, rv_aI, rv_aL, rv_aR, rv_uI, rv_uL, rv_uB, rv_uZ, pu_ckI, pu_ckL, pu_lnI, pu_lnL, tk_rI, tk_rL, Option.bind_some, Option.map_some, rv_lt, tk_ix, rc_79 hB, r1, rn_81 hB, h1])); first | rw [Option.bind_some] | rw [bp_s] | rw [if_true] | rw [if_false] | rw [rv_lt_eq] | rw [if_pos (by omega)] | rw [if_neg (by omega)])
  unfold cmpS
  by_cases c0 : s = 60
  · rw [if_pos c0, if_pos (show nI s = nI 60 by rw [c0])]
    repeat (first | (conv => (lhs; arg 1; simp (disch := first | assumption | omega) only [tk_gI, tk_gL, tk_gR, tk_pI, tk_pL, rv_aI, rv_aL, rv_aR, rv_uI, rv_uL, rv_uB, rv_uZ, pu_ckI, pu_ckL, pu_lnI, pu_lnL, tk_rI, tk_rL, Option.bind_some, Option.map_some, rv_lt, tk_ix, rc_79 hB, r2, rn_82 hB, h2])); first | rw [Option.bind_some] | rw [bp_s] | rw [if_true] | rw [if_false] | rw [rv_lt_eq] | rw [if_pos (by omega)] | rw [if_neg (by omega)])
    by_cases c1 : v < a
    · rw [decide_eq_true c1, if_neg (by rw [n_le (by omega) (by omega)]; omega)]; rfl
    · rw [decide_eq_false c1, if_pos (by rw [n_le (by omega) (by omega)]; omega)]; rfl
  · rw [if_neg c0, if_neg (show ¬ nI s = nI 60 by rw [n_eq s100 (by decide)]; exact c0)]
    repeat (first | (conv => (lhs; arg 1; simp (disch := first | assumption | omega) only [tk_gI, tk_gL, tk_gR, tk_pI, tk_pL, rv_aI, rv_aL, rv_aR, rv_uI, rv_uL, rv_uB, rv_uZ, pu_ckI, pu_ckL, pu_lnI, pu_lnL, tk_rI, tk_rL, Option.bind_some, Option.map_some, rv_lt, tk_ix, rc_79 hB, r1, rn_81 hB, h1])); first | rw [Option.bind_some] | rw [bp_s] | rw [if_true] | rw [if_false] | rw [rv_lt_eq] | rw [if_pos (by omega)] | rw [if_neg (by omega)])
    by_cases c1 : s = 61
    · rw [if_pos c1, if_pos (show nI s = nI 61 by rw [c1])]
      repeat (first | (conv => (lhs; arg 1; simp (disch := first | assumption | omega) only [tk_gI, tk_gL, tk_gR, tk_pI, tk_pL, rv_aI, rv_aL, rv_aR, rv_uI, rv_uL, rv_uB, rv_uZ, pu_ckI, pu_ckL, pu_lnI, pu_lnL, tk_rI, tk_rL, Option.bind_some, Option.map_some, rv_lt, tk_ix, rc_79 hB, r2, rn_82 hB, h2])); first | rw [Option.bind_some] | rw [bp_s] | rw [if_true] | rw [if_false] | rw [rv_lt_eq] | rw [if_pos (by omega)] | rw [if_neg (by omega)])
      by_cases c2 : v = a
      · rw [decide_eq_true c2, if_pos (show nI v = nI a by rw [c2])]; rfl
      · rw [decide_eq_false c2, if_neg (show ¬ nI v = nI a by rw [n_eq (by omega) (by omega)]; exact c2)]; rfl
    · rw [if_neg c1, if_neg (show ¬ nI s = nI 61 by rw [n_eq s100 (by decide)]; exact c1)]
      repeat (first | (conv => (lhs; arg 1; simp (disch := first | assumption | omega) only [tk_gI, tk_gL, tk_gR, tk_pI, tk_pL, rv_aI, rv_aL, rv_aR, rv_uI, rv_uL, rv_uB, rv_uZ, pu_ckI, pu_ckL, pu_lnI, pu_lnL, tk_rI, tk_rL, Option.bind_some, Option.map_some, rv_lt, tk_ix, rc_79 hB, r2, rn_82 hB, h2])); first | rw [Option.bind_some] | rw [bp_s] | rw [if_true] | rw [if_false] | rw [rv_lt_eq] | rw [if_pos (by omega)] | rw [if_neg (by omega)])
      by_cases c2 : a < v
      · rw [decide_eq_true c2, if_neg (by rw [n_le (by omega) (by omega)]; omega)]; rfl
      · rw [decide_eq_false c2, if_pos (by rw [n_le (by omega) (by omega)]; omega)]; rfl
end
