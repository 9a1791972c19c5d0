/-- what is left: the law's function comes to 1 on every script, in the claim's room -/
theorem rv_main (L : Nat) (hL : L ≤ 3072) (xs : Nat → Int32) : ∃ (n : Nat) (S1 : rvS), fnL_law n L xs rv_S0 = some (1, S1) ∧ rv_len S1 ≤ 601024 ∧ rv_sz S1 ≤ 7293034 := by
  sorry
