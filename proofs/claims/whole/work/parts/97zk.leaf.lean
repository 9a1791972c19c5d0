/-! SAID: one step of one coin; the reference's leaves -/
section
variable {n : Nat} {S : rvS} {m : Nat → Nat} {wd : Nat → List Nat}
def cmpS (s a v : Nat) : Bool := if s = 60 then decide (v < a) else if s = 61 then decide (v = a) else decide (a < v)
/-- whether a step is so of coin c -/
def b1s (m : Nat → Nat) (c : Nat) (t : SayT) : Bool :=
  if t.1 = 14 then decide (ow m c = t.2.2) else if t.1 = 15 then (rl m c).contains t.2.2 else if t.1 = 16 then decide (wy m (ow m c) (rl m c) t.2.2 = 0) else if t.1 = 17 then stk m c else if t.1 = 18 then decide (0 < fg m (ow m c) (rl m c)) else cmpS t.2.1 t.2.2 (if t.1 = 19 then va m c else if t.1 = 20 then mn m c else at_ m (ow m c))
theorem m_bears (hn : 10 ≤ n) (hB : rv_B S) (hM : MR S m) (hc : okc m) {c : Nat} (hcc : c < vC m) {a : Nat} (ha : a < 24) (h24 : vW m ≤ 24) : fnX13_bears n S 189 (nI c) (nI a) = some (bI ((rl m c).contains a)) := by
  have h40 := hc.1
  have h3 := hc.2.1
  obtain ⟨-, -, -, q4, q5⟩ := hc.2.2 c hcc
  have k2 := m_mn (n := n) hB hM (c := c) (by omega)
  have hlen := rl_len (m := m) (c := c) (by omega)
  have key : ∀ r i q, i + r = mn m c → r < q → (∀ j, j < i → rm m c j ≠ a) → cX13_bears_2 n S q 189 (nI c) (nI a) (nI i) = some (bI ((rl m c).contains a)) := by
    intro r
    induction r with
    | zero =>
      intro i q hi hq hno
      obtain ⟨q, rfl⟩ : ∃ q', q = q' + 1 := ⟨q - 1, by omega⟩
      have e : (rl m c).contains a = false := by
        cases h : (rl m c).contains a
        · rfl
        · rw [List.contains_iff_mem] at h
          obtain ⟨j, hj, e⟩ := List.getElem_of_mem h
          have g := rl_get (m := m) (c := c) (by omega) (i := j) (by omega)
          rw [List.getElem?_eq_getElem hj, e] at g
          exact absurd (Option.some.inj g).symm (hno j (by omega))
      rw [e, cX13_bears_2, z2]
      repeat (first | (conv => (lhs; arg 1; simp (disch := first | assumption | omega) only [rc_189 hB, k2])); first | rw [Option.bind_some] | rw [bp_s] | rw [if_true] | rw [if_false] | rw [rv_lt_eq] | rw [if_pos (by omega)] | rw [if_neg (by omega)])
      rw [if_pos (by rw [n_le (by omega) (by omega)]; omega)]
      rfl
    | succ r ih =>
      intro i q hi hq hno
      obtain ⟨q, rfl⟩ : ∃ q', q = q' + 1 := ⟨q - 1, by omega⟩
      have k3 := m_rm (n := n) hB hM (c := c) (i := i) (by omega) (by omega)
      have lt := q5 i (by omega)
      rw [cX13_bears_2, z2, z3]
      repeat (first | (conv => (lhs; arg 1; simp (disch := first | assumption | omega) only [rc_189 hB, k2])); first | rw [Option.bind_some] | rw [bp_s] | rw [if_true] | rw [if_false] | rw [rv_lt_eq] | rw [if_pos (by omega)] | rw [if_neg (by omega)])
      rw [if_neg (by rw [n_le (by omega) (by omega)]; omega)]
      rw [nI_add, rc_189 hB, Option.bind_some, k3, Option.bind_some]
      by_cases e : rm m c i = a
      · have e2 : (rl m c).contains a = true := by
          rw [List.contains_iff_mem]
          have g := rl_get (m := m) (c := c) (by omega) (i := i) (by omega)
          rw [e] at g
          exact List.mem_of_getElem? g
        rw [if_pos (by rw [e]), e2]
        rfl
      · rw [if_neg (by rw [n_eq (by omega) (by omega)]; exact e), z1, nI_add]
        refine ih (i + 1) q (by omega) (by omega) fun j hj => ?_
        by_cases ej : j = i
        · rw [ej]; exact e
        · exact hno j (by omega)
  exact key (mn m c) 0 n (by omega) (by omega) (fun j hj => absurd hj (Nat.not_lt_zero j))
theorem m_291 (hB : rv_B S) {k s a v : Nat} (hk : k < 60) (hs : s = 60 ∨ s = 61 ∨ s = 62) (ha : a < 1000) (hv : v < 1000) (h3 : S.2.1 191 (422 + 4 * k + 3) = nI s) (G : rvS → Nat → Int32 → Int32 → Option (Int32 × rvS)) : cX13_holds_291 n G S 189 (nI (422 + 4 * k)) (nI a) (nI v) = some (bI (cmpS s a v), S) := by
  have r14 := rf_of hB (show (189, 14, 191) ∈ rv_rf0 by decide)
  have s100 : s < 2147483648 := by omega
  rw [cX13_holds_291, z3, nI_add, z60, z61]
  repeat (first | (conv => (lhs; arg 1; simp (disch := first | assumption | omega) only [tk_gI, tk_gL, tk_gR, tk_pI, tk_pL, rv_aI, rv_aL, rv_aR, rv_uI, rv_uL, rv_uB, rv_uZ, pu_ckI, pu_ckL, pu_lnI, pu_lnL, tk_rI, tk_rL, Option.bind_some, Option.map_some, rv_lt, tk_ix, rc_189 hB, r14, rn_191 hB, h3])); first | rw [Option.bind_some] | rw [bp_s] | rw [if_true] | rw [if_false] | rw [rv_lt_eq] | rw [if_pos (by omega)] | rw [if_neg (by omega)])
  unfold cmpS
  by_cases c0 : s = 60
  · rw [if_pos c0]
    by_cases c1 : v < a
    · simp [c0, c1, n_le (show a < 2147483648 by omega) (show v < 2147483648 by omega), show ¬ a ≤ v by omega]; rfl
    · simp [c0, c1, n_le (show a < 2147483648 by omega) (show v < 2147483648 by omega), show a ≤ v by omega]; rfl
  · rw [if_neg c0, if_neg (show ¬ nI s = nI 60 by rw [n_eq s100 (by decide)]; exact c0)]
    repeat (first | (conv => (lhs; arg 1; simp (disch := first | assumption | omega) only [tk_gI, tk_gL, tk_gR, tk_pI, tk_pL, rv_aI, rv_aL, rv_aR, rv_uI, rv_uL, rv_uB, rv_uZ, pu_ckI, pu_ckL, pu_lnI, pu_lnL, tk_rI, tk_rL, Option.bind_some, Option.map_some, rv_lt, tk_ix, rc_189 hB, r14, rn_191 hB, h3])); first | rw [Option.bind_some] | rw [bp_s] | rw [if_true] | rw [if_false] | rw [rv_lt_eq] | rw [if_pos (by omega)] | rw [if_neg (by omega)])
    by_cases c1 : s = 61
    · rw [if_pos c1, if_pos (show nI s = nI 61 by rw [c1])]
      by_cases c2 : v = a
      · rw [decide_eq_true c2, if_pos (show nI v = nI a by rw [c2])]; rfl
      · rw [decide_eq_false c2, if_neg (show ¬ nI v = nI a by rw [n_eq (by omega) (by omega)]; exact c2)]; rfl
    · rw [if_neg c1, if_neg (show ¬ nI s = nI 61 by rw [n_eq s100 (by decide)]; exact c1)]
      by_cases c2 : a < v
      · rw [decide_eq_true c2, if_neg (show ¬ nI v ≤ nI a by rw [n_le (by omega) (by omega)]; omega)]; rfl
      · rw [decide_eq_false c2, if_pos (show nI v ≤ nI a by rw [n_le (by omega) (by omega)]; omega)]; rfl
end
