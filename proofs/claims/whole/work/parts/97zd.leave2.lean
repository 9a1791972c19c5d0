/-! EVER: the reference's candidates, one after another -/
section
variable {n : Nat} {S : rvS} {m : Nat → Nat} {s0 : St} {wd : Nat → List Nat}
theorem m_c0 (hB : rv_B S) (hM : MR S m) {b : Nat} {r : List Nat} (hr : r.length ≤ 2) {A B : Int32} (hA : ∀ y, r[0]? = some y → A = nI y) (hBB : ∀ y, r[1]? = some y → B = nI y) (K : Nat → Int32 → Int32 → Int32 → Int32 → Int32 → Int32 → Int32 → rvS → Option (Int32 × rvS)) (x3 x4 x9 t0 t1 : Int32) (ht : ¬ t1 ≤ t0) : ∃ S5, rvf [199] S S5 ∧ HR S5 b r ∧ ∀ R, (if nI (r.length + 1) = nI (vN m) then (if x9 < 0 then cX13_leaveOut_210 n K S5 189 x3 x4 (nI (r.length + 1)) (nI b) A B x9 else ((rv_gR S5 11 189 24).bind fun a13_ => (rv_uI S5 a13_ (1 : Int32) (nI (r.length + 1))).bind fun S15_ => (rv_gR S15_ 11 189 24).bind fun a17_ => (rv_uI S15_ a17_ ((1 : Int32) + nI (r.length + 1)) x9).bind fun S19_ => cX13_leaveOut_210 n K S19_ 189 x3 x4 (nI (r.length + 1)) (nI b) A B x9)) else cX13_leaveOut_210 n K S5 189 x3 x4 (nI (r.length + 1)) (nI b) A B x9) = R → cX13_leaveOut_111 n K S 189 x3 x4 (nI (r.length + 1)) (nI b) A B x9 t0 t1 = R := by
  obtain ⟨S1, eS1⟩ : ∃ S1, S1 = rv_sI S 199 0 (nI b) := ⟨_, rfl⟩
  have f1 : rvf [199] S S1 := by rw [eS1]; exact (rvf.rf _ _).w rfl rfl
  have hB1 := f1.B hB
  obtain ⟨S2, eS2⟩ : ∃ S2, S2 = rv_sI S1 199 1 (nI r.length) := ⟨_, rfl⟩
  have f2 : rvf [199] S1 S2 := by rw [eS2]; exact (rvf.rf _ _).w rfl rfl
  have hB2 := f2.B hB1
  obtain ⟨v2, ev2⟩ : ∃ v, v = (if r.length = 0 then iM else A) := ⟨_, rfl⟩
  obtain ⟨v3, ev3⟩ : ∃ v, v = (if r.length ≤ 1 then iM else B) := ⟨_, rfl⟩
  obtain ⟨S3, eS3⟩ : ∃ S3, S3 = rv_sI S2 199 2 v2 := ⟨_, rfl⟩
  have f3 : rvf [199] S2 S3 := by rw [eS3]; exact (rvf.rf _ _).w rfl rfl
  have hB3 := f3.B hB2
  obtain ⟨S4, eS4⟩ : ∃ S4, S4 = rv_sI S3 199 3 v3 := ⟨_, rfl⟩
  have f4 : rvf [199] S3 S4 := by rw [eS4]; exact (rvf.rf _ _).w rfl rfl
  have hB4 := f4.B hB3
  obtain ⟨S5, eS5⟩ : ∃ S5, S5 = rv_sI S4 199 4 iM := ⟨_, rfl⟩
  have f5 : rvf [199] S4 S5 := by rw [eS5]; exact (rvf.rf _ _).w rfl rfl
  have hB5 := f5.B hB4
  have f : rvf [199] S S5 := f1.tr (f2.tr (f3.tr (f4.tr f5)))
  have hM5 := hM.f f rfl
  have hN : S5.2.1 191 3 = nI (vN m) := hM5 3 (by decide)
  refine ⟨S5, f, ⟨?_, ?_, fun i y hi => ?_⟩, fun R hR => ?_⟩
  · rw [eS5, rv_sI_k _ _ (by decide), eS4, rv_sI_k _ _ (by decide), eS3, rv_sI_k _ _ (by decide), eS2, rv_sI_k _ _ (by decide), eS1, rv_sI_eq]
  · rw [eS5, rv_sI_k _ _ (by decide), eS4, rv_sI_k _ _ (by decide), eS3, rv_sI_k _ _ (by decide), eS2, rv_sI_eq]
  · have hl := (List.getElem?_eq_some_iff.mp hi).1
    have : i = 0 ∨ i = 1 := by omega
    rcases this with rfl | rfl
    · rw [eS5, rv_sI_k _ _ (by decide), eS4, rv_sI_k _ _ (by decide), eS3, rv_sI_eq, ev2, if_neg (by omega)]
      exact hA y hi
    · rw [eS5, rv_sI_k _ _ (by decide), eS4, rv_sI_eq, ev3, if_neg (by omega)]
      exact hBB y hi
  · have r24 := rf_of hB (show (189, 24, 199) ∈ rv_rf0 by decide)
    have r24a := rf_of hB1 (show (189, 24, 199) ∈ rv_rf0 by decide)
    have r24b := rf_of hB2 (show (189, 24, 199) ∈ rv_rf0 by decide)
    have r24c := rf_of hB3 (show (189, 24, 199) ∈ rv_rf0 by decide)
    have r24d := rf_of hB4 (show (189, 24, 199) ∈ rv_rf0 by decide)
    have r14 := rf_of hB5 (show (189, 14, 191) ∈ rv_rf0 by decide)
    have sub : nI (r.length + 1) - nI 1 = nI r.length := by rw [z_sub (by omega), Nat.add_sub_cancel]
    have end5 : ∀ t2, v3 = t2 → cX13_leaveOut_167 n K S3 189 x3 x4 (nI (r.length + 1)) (nI b) A B x9 199 (3 : Int32) t2 = R := fun t2 e => by
      rw [cX13_leaveOut_167, z3, ← e]
      repeat (first | (conv => (lhs; arg 1; simp (disch := first | assumption | omega) only [tk_gI, tk_gL, tk_gR, tk_pI, tk_pL, rv_aI, rv_aL, rv_aR, rv_uI, rv_uL, rv_uB, rv_uZ, pu_ckI, pu_ckL, pu_lnI, pu_lnL, tk_rI, tk_rL, Option.bind_some, Option.map_some, rv_lt, tk_ix, rn_199 hB3, ← eS4])); first | rw [Option.bind_some] | rw [bp_s] | rw [if_true] | rw [if_false] | rw [rv_lt_eq] | rw [if_pos (by omega)] | rw [if_neg (by omega)])
      rw [show (-1 : Int32) = iM from rfl, z4]
      repeat (first | (conv => (lhs; arg 1; simp (disch := first | assumption | omega) only [tk_gI, tk_gL, tk_gR, tk_pI, tk_pL, rv_aI, rv_aL, rv_aR, rv_uI, rv_uL, rv_uB, rv_uZ, pu_ckI, pu_ckL, pu_lnI, pu_lnL, tk_rI, tk_rL, Option.bind_some, Option.map_some, rv_lt, tk_ix, rc_189 hB4, r24d, rn_199 hB4, ← eS5])); first | rw [Option.bind_some] | rw [bp_s] | rw [if_true] | rw [if_false] | rw [rv_lt_eq] | rw [if_pos (by omega)] | rw [if_neg (by omega)])
      repeat (first | (conv => (lhs; arg 1; simp (disch := first | assumption | omega) only [tk_gI, tk_gL, tk_gR, tk_pI, tk_pL, rv_aI, rv_aL, rv_aR, rv_uI, rv_uL, rv_uB, rv_uZ, pu_ckI, pu_ckL, pu_lnI, pu_lnL, tk_rI, tk_rL, Option.bind_some, Option.map_some, rv_lt, tk_ix, rc_189 hB5, r14, rn_191 hB5, hN])); first | rw [Option.bind_some] | rw [bp_s] | rw [if_true] | rw [if_false] | rw [rv_lt_eq] | rw [if_pos (by omega)] | rw [if_neg (by omega)])
      exact hR
    have end3 : ∀ t2, v2 = t2 → cX13_leaveOut_149 n K S2 189 x3 x4 (nI (r.length + 1)) (nI b) A B x9 199 (2 : Int32) t2 = R := fun t2 e => by
      rw [cX13_leaveOut_149, z2, ← e]
      repeat (first | (conv => (lhs; arg 1; simp (disch := first | assumption | omega) only [tk_gI, tk_gL, tk_gR, tk_pI, tk_pL, rv_aI, rv_aL, rv_aR, rv_uI, rv_uL, rv_uB, rv_uZ, pu_ckI, pu_ckL, pu_lnI, pu_lnL, tk_rI, tk_rL, Option.bind_some, Option.map_some, rv_lt, tk_ix, rn_199 hB2, ← eS3])); first | rw [Option.bind_some] | rw [bp_s] | rw [if_true] | rw [if_false] | rw [rv_lt_eq] | rw [if_pos (by omega)] | rw [if_neg (by omega)])
      repeat (first | (conv => (lhs; arg 1; simp (disch := first | assumption | omega) only [tk_gI, tk_gL, tk_gR, tk_pI, tk_pL, rv_aI, rv_aL, rv_aR, rv_uI, rv_uL, rv_uB, rv_uZ, pu_ckI, pu_ckL, pu_lnI, pu_lnL, tk_rI, tk_rL, Option.bind_some, Option.map_some, rv_lt, tk_ix, rc_189 hB3, r24c])); first | rw [Option.bind_some] | rw [bp_s] | rw [if_true] | rw [if_false] | rw [rv_lt_eq] | rw [if_pos (by omega)] | rw [if_neg (by omega)])
      by_cases c1 : r.length ≤ 1
      · rw [if_pos (by rw [n_le (by omega) (by decide)]; omega)]
        exact end5 _ (by rw [ev3, if_pos c1]; rfl)
      · rw [if_neg (by rw [n_le (by omega) (by decide)]; omega)]
        exact end5 _ (by rw [ev3, if_neg c1])
    rw [cX13_leaveOut_111, if_neg ht, z0, z1, sub]
    repeat (first | (conv => (lhs; arg 1; simp (disch := first | assumption | omega) only [tk_gI, tk_gL, tk_gR, tk_pI, tk_pL, rv_aI, rv_aL, rv_aR, rv_uI, rv_uL, rv_uB, rv_uZ, pu_ckI, pu_ckL, pu_lnI, pu_lnL, tk_rI, tk_rL, Option.bind_some, Option.map_some, rv_lt, tk_ix, rc_189 hB, r24, rn_199 hB, ← eS1, rc_189 hB1, r24a, rn_199 hB1, ← eS2, rc_189 hB2, r24b])); first | rw [Option.bind_some] | rw [bp_s] | rw [if_true] | rw [if_false] | rw [rv_lt_eq] | rw [if_pos (by omega)] | rw [if_neg (by omega)])
    by_cases c1 : r.length = 0
    · rw [if_pos (by rw [n_le (by omega) (by decide)]; omega)]
      exact end3 _ (by rw [ev2, if_pos c1]; rfl)
    · rw [if_neg (by rw [n_le (by omega) (by decide)]; omega)]
      exact end3 _ (by rw [ev2, if_neg c1])
end
