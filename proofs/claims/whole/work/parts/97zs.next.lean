/-! TEXTS: both sides' next token -/
section
variable {n : Nat} {C R : rvS} {b : Nat → Nat} {L M : Nat}
/-- the text, as the class has it and as the reference has it -/
def TXC (C : rvS) (b : Nat → Nat) (L M : Nat) : Prop := L ≤ 940 ∧ M ≤ 900 ∧ C.2.1 65 1 = nI L ∧ C.2.1 65 2 = nI M ∧ ∀ j, j < L → b j < 256 ∧ C.2.1 66 j &&& 255 = nI (b j)
def TXR (R : rvS) (b : Nat → Nat) (L M : Nat) : Prop := L ≤ 940 ∧ M ≤ 900 ∧ R.2.1 189 3 = nI L ∧ R.2.1 189 4 = nI M ∧ ∀ j, j < L → b j < 256 ∧ R.2.1 190 j = nI (b j)
/-- the token, as the class has it and as the reference has it -/
def KC (C : rvS) (T : Tk) : Prop := C.2.1 65 3 = nI T.2.1 ∧ C.2.1 65 5 = nI T.1 ∧ C.2.1 65 4 = nI T.2.2.1 ∧ (T.2.2.1 = 3 → C.2.1 65 6 = nI T.2.2.2.1) ∧ (T.2.2.1 = 2 → C.2.2.1 65 7 = lN (c32 T.2.2.2.2) ∧ C.2.2.2 65 8 = some (wo T.2.2.2.2))
def rkd (k : Nat) : Nat := if k = 46 then 1 else if 4 ≤ k then 4 else k
def KR (R : rvS) (T : Tk) : Prop := R.2.1 189 5 = nI T.2.1 ∧ R.2.1 189 6 = nI T.1 ∧ R.2.1 189 7 = nI (rkd T.2.2.1) ∧ (4 ≤ T.2.2.1 → T.2.2.1 ≠ 46 → R.2.1 189 9 = nI T.2.2.1) ∧ (T.2.2.1 = 3 → R.2.1 189 8 = nI T.2.2.2.1) ∧ (T.2.2.1 = 2 → R.2.2.1 189 12 = lN (c27 T.2.2.2.2))
def okT (T : Tk) : Prop := T.1 ≤ 940 ∧ T.2.1 ≤ 940 ∧ T.2.2.1 < 64 ∧ (T.2.2.1 < 4 ∨ tq_mk T.2.2.1 = true) ∧ (T.2.2.1 = 3 → T.2.2.2.1 ≤ 999) ∧ (T.2.2.1 = 2 → okL T.2.2.2.2)
theorem tq_mk_c {x : Nat} (h : tq_mk x = true) : x = 59 ∨ x = 60 ∨ x = 61 ∨ x = 62 ∨ x = 40 ∨ x = 41 ∨ x = 46 := by
  unfold tq_mk at h
  simp only [Bool.or_eq_true, Bool.and_eq_true, decide_eq_true_eq] at h
  omega
theorem tq_lt_i {x : Nat} : tq_lt x = true ↔ 97 ≤ x ∧ x ≤ 122 := by
  unfold tq_lt
  simp only [Bool.and_eq_true, decide_eq_true_eq]
theorem tq_dg_i {x : Nat} : tq_dg x = true ↔ 48 ≤ x ∧ x ≤ 57 := by
  unfold tq_dg
  simp only [Bool.and_eq_true, decide_eq_true_eq]
theorem dec_app (l : List Nat) (x : Nat) : tq_dec (l ++ [x]) = 10 * tq_dec l + (x - 48) := by
  unfold tq_dec
  rw [List.foldl_append]
  rfl
theorem c32_app (l : List Nat) (x : Nat) : c32 (l ++ [x]) = 32 * c32 l + x := by
  unfold c32
  rw [List.foldl_append]
  rfl
theorem c27_app (l : List Nat) (x : Nat) : c27 (l ++ [x]) = 27 * c27 l + x := by
  unfold c27
  rw [List.foldl_append]
  rfl
theorem dec_lt : ∀ {l : List Nat}, l.all tq_dg = true → l.length ≤ 3 → tq_dec l ≤ 999 := by
  intro l h h3
  have d : ∀ x ∈ l, 48 ≤ x ∧ x ≤ 57 := fun x hx => tq_dg_i.mp (List.all_eq_true.mp h x hx)
  rcases l3 h3 with rfl | ⟨x, rfl⟩ | ⟨x, y, rfl⟩ | ⟨x, y, z, rfl⟩
  · decide
  · have := d x (by simp)
    show 10 * 0 + (x - 48) ≤ 999
    omega
  · have := d x (by simp)
    have := d y (by simp)
    show 10 * (10 * 0 + (x - 48)) + (y - 48) ≤ 999
    omega
  · have := d x (by simp)
    have := d y (by simp)
    have := d z (by simp)
    show 10 * (10 * (10 * 0 + (x - 48)) + (y - 48)) + (z - 48) ≤ 999
    omega
theorem okL_map {l : List Nat} (h : l.all tq_lt = true) (h1 : 1 ≤ l.length) (h8 : l.length ≤ 8) : okL (l.map (fun x => x - 96)) := by
  refine ⟨by rw [List.length_map]; exact h1, by rw [List.length_map]; exact h8, fun x hx => ?_⟩
  obtain ⟨y, hy, rfl⟩ := List.mem_map.mp hx
  have := tq_lt_i.mp (List.all_eq_true.mp h y hy)
  show 1 ≤ y - 96 ∧ y - 96 ≤ 26
  omega
theorem run_pos (b : Nat → Nat) {p r : Nat} (h : tq_rn (b p) = true) : 1 ≤ (tq_run b p (r + 1)).length := by
  rw [tq_run, if_pos h, List.length_cons]
  omega
theorem okT_k {x y k : Nat} (h1 : x ≤ 940) (h2 : y ≤ 940) (hk : k = 0 ∨ k = 1) : okT (x, y, k, 0, []) := by
  rcases hk with rfl | rfl
  · exact ⟨h1, h2, show 0 < 64 by decide, Or.inl (show 0 < 4 by decide), fun h => absurd (show 0 = 3 from h) (by decide), fun h => absurd (show 0 = 2 from h) (by decide)⟩
  · exact ⟨h1, h2, show 1 < 64 by decide, Or.inl (show 1 < 4 by decide), fun h => absurd (show 1 = 3 from h) (by decide), fun h => absurd (show 1 = 2 from h) (by decide)⟩
theorem tx_ok (hL : L ≤ 940) (hM : M ≤ 900) (hb : ∀ j, j < L → b j < 256) {p : Nat} (hp : p ≤ L) : okT (tq_nx b L M p) := by
  obtain ⟨s1, s2⟩ := tq_skp_le b (L - p) p
  unfold tq_nx
  obtain ⟨q, eq⟩ : ∃ q, q = tq_skp b p (L - p) := ⟨_, rfl⟩
  rw [← eq] at s1 s2 ⊢
  split
  · exact okT_k (by omega) (by omega) (Or.inr rfl)
  · split
    · exact okT_k (by omega) (by omega) (Or.inl rfl)
    · rename_i hq
      split
      · rename_i h
        obtain ⟨r, er⟩ : ∃ r, L - q = r + 1 := ⟨L - q - 1, by omega⟩
        have l1 := (tq_run_le b (L - q) q).1
        have l2 : 1 ≤ (tq_run b q (L - q)).length := by rw [er]; exact run_pos b h
        obtain ⟨l, el⟩ : ∃ l, l = tq_run b q (L - q) := ⟨_, rfl⟩
        rw [← el] at l1 l2 ⊢
        refine ⟨by show q ≤ 940; omega, by show q + l.length ≤ 940; omega, ?_, ?_, ?_, ?_⟩
        · show tq_kd l < 64
          unfold tq_kd
          split
          · decide
          · split <;> decide
        · left
          show tq_kd l < 4
          unfold tq_kd
          split
          · decide
          · split <;> decide
        · show tq_kd l = 3 → tq_dec l ≤ 999
          unfold tq_kd
          intro hk
          split at hk
          · exact absurd hk (by decide)
          · split at hk
            · rename_i h2; exact dec_lt h2.1 h2.2
            · exact absurd hk (by decide)
        · show tq_kd l = 2 → okL (l.map (fun x => x - 96))
          unfold tq_kd
          intro hk
          split at hk
          · rename_i h2; exact okL_map h2.1 l2 h2.2
          · split at hk <;> exact absurd hk (by decide)
      · refine ⟨by show q ≤ 940; omega, by show q + 1 ≤ 940; omega, ?_, ?_, fun h => ?_, fun h => ?_⟩
        · show (if tq_mk (b q) = true then b q else 1) < 64
          split
          · rename_i h; have := tq_mk_c h; omega
          · decide
        · show (if tq_mk (b q) = true then b q else 1) < 4 ∨ tq_mk (if tq_mk (b q) = true then b q else 1) = true
          by_cases c : tq_mk (b q) = true
          · rw [if_pos c]; exact Or.inr c
          · rw [if_neg c]; exact Or.inl (by decide)
        · have h : (if tq_mk (b q) = true then b q else 1) = 3 := h
          split at h
          · rename_i h2; have := tq_mk_c h2; omega
          · exact absurd h (by decide)
        · have h : (if tq_mk (b q) = true then b q else 1) = 2 := h
          split at h
          · rename_i h2; have := tq_mk_c h2; omega
          · exact absurd h (by decide)
/-! the class -/
theorem k_signAt (hB : rv_B C) (hT : TXC C b L M) {p : Nat} (hp : p < L) : fnX8_signAt n C 65 (nI p) = some (nI (b p)) := by
  obtain ⟨h1, -, h3, -, h5⟩ := hT
  have r0 := rf_of hB (show (65, 0, 66) ∈ rv_rf0 by decide)
  rw [fnX8_signAt, z0, z940, z255, if_neg (by rw [n_lt (by omega) (by omega)]; omega)]
  repeat (first | (conv => (lhs; arg 1; simp (disch := first | assumption | omega) only [tk_gI, tk_gL, tk_gR, tk_pI, tk_pL, rv_aI, rv_aL, rv_aR, rv_uI, rv_uL, rv_uB, rv_uZ, pu_ckI, pu_ckL, pu_lnI, pu_lnL, tk_rI, tk_rL, Option.bind_some, Option.map_some, rv_lt, tk_ix, rc_65 hB, h3])); first | rw [Option.bind_some] | rw [bp_s] | rw [if_true] | rw [if_false] | rw [rv_lt_eq] | rw [if_pos (by omega)] | rw [if_neg (by omega)])
  rw [if_neg (by rw [n_le (by omega) (by omega)]; omega), if_neg (by rw [n_le (by omega) (by omega)]; omega)]
  have h6 := (h5 p hp).2
  rw [z255] at h6
  repeat (first | (conv => (lhs; arg 1; simp (disch := first | assumption | omega) only [tk_gI, tk_gL, tk_gR, tk_pI, tk_pL, rv_aI, rv_aL, rv_aR, rv_uI, rv_uL, rv_uB, rv_uZ, pu_ckI, pu_ckL, pu_lnI, pu_lnL, tk_rI, tk_rL, Option.bind_some, Option.map_some, rv_lt, tk_ix, rc_65 hB, r0, rn_66 hB, h6])); first | rw [Option.bind_some] | rw [bp_s] | rw [if_true] | rw [if_false] | rw [rv_lt_eq] | rw [if_pos (by omega)] | rw [if_neg (by omega)])
  rw [h6]
theorem k_isBlank {x : Nat} (hx : x < 256) : fnX8_isBlank n C (nI x) = some (bI (tq_bk x)) := by
  rw [fnX8_isBlank, z32, z10]
  simp (disch := first | assumption | omega) only [n_eq]
  unfold tq_bk
  by_cases c1 : x = 32
  · rw [if_pos c1, decide_eq_true c1]; rfl
  · rw [if_neg c1, decide_eq_false c1]
    by_cases c2 : x = 10
    · rw [if_pos c2, decide_eq_true c2]; rfl
    · rw [if_neg c2, decide_eq_false c2]; rfl
theorem k_isLetter {x : Nat} (hx : x < 256) : fnX8_isLetter n C (nI x) = some (bI (tq_lt x)) := by
  rw [fnX8_isLetter, z97, z122]
  simp (disch := first | assumption | omega) only [n_lt]
  unfold tq_lt
  by_cases c1 : x < 97
  · rw [if_pos c1, decide_eq_false (by omega)]; rfl
  · rw [if_neg c1, decide_eq_true (by omega)]
    by_cases c2 : 122 < x
    · rw [if_pos c2, decide_eq_false (by omega)]; rfl
    · rw [if_neg c2, decide_eq_true (by omega)]; rfl
theorem k_isOfRun {x : Nat} (hx : x < 256) : fnX8_isOfRun n C (nI x) = some (bI (tq_rn x)) := by
  have e12 : cX8_isOfRun_12 n C (nI x) = some (bI (tq_dg x)) := by
    rw [cX8_isOfRun_12, z48, z57]
    simp (disch := first | assumption | omega) only [n_lt]
    unfold tq_dg
    by_cases c1 : x < 48
    · rw [if_pos c1, decide_eq_false (by omega)]; rfl
    · rw [if_neg c1, decide_eq_true (by omega)]
      by_cases c2 : 57 < x
      · rw [if_pos c2, decide_eq_false (by omega)]; rfl
      · rw [if_neg c2, decide_eq_true (by omega)]; rfl
  rw [fnX8_isOfRun, z97, z122]
  simp (disch := first | assumption | omega) only [n_lt, n_le]
  rw [e12]
  unfold tq_rn tq_lt
  by_cases c1 : x < 97
  · rw [if_pos c1, decide_eq_false (show ¬ 97 ≤ x by omega)]
    rw [Bool.false_and, Bool.false_or]
  · rw [if_neg c1, decide_eq_true (show 97 ≤ x by omega), Bool.true_and]
    by_cases c2 : x ≤ 122
    · rw [if_pos c2, decide_eq_true c2]; rfl
    · rw [if_neg c2, decide_eq_false c2, Bool.false_or]
theorem k_isMark {x : Nat} (hx : x < 256) : fnX8_isMark n C (nI x) = some (bI (tq_mk x)) := by
  rw [fnX8_isMark, z59, z60, z62]
  simp (disch := first | assumption | omega) only [n_eq, n_lt, n_le]
  rw [cX8_isMark_18, z40, z41, z46]
  simp (disch := first | assumption | omega) only [n_eq]
  by_cases c0 : x = 59
  · rw [if_pos c0, c0]; rfl
  · rw [if_neg c0]
    by_cases c1 : 60 ≤ x ∧ x ≤ 62
    · rw [if_neg (by omega), if_pos (by omega)]
      have : tq_mk x = true := by unfold tq_mk; simp [c1.1, c1.2]
      rw [this]; rfl
    · have d : ∀ R : Option Int32, (if x < 60 then R else if x ≤ 62 then some 1 else R) = R := fun R => by
        by_cases c2 : x < 60
        · rw [if_pos c2]
        · rw [if_neg c2, if_neg (by omega)]
      rw [d]
      by_cases c3 : x = 40
      · rw [if_pos c3, c3]; rfl
      · rw [if_neg c3]
        by_cases c4 : x = 41
        · rw [if_pos c4, c4]; rfl
        · rw [if_neg c4]
          by_cases c5 : x = 46
          · rw [if_pos c5, c5]; rfl
          · rw [if_neg c5]
            have : tq_mk x = false := by
              cases h : tq_mk x
              · rfl
              · have := tq_mk_c h; omega
            rw [this]; rfl
/-- what the class has gathered of a run -/
def IVC (S : rvS) (l : List Nat) : Prop := (l.all tq_lt = true → S.2.2.1 65 7 = lN (c32 (l.map (fun x => x - 96)))) ∧ (l.all tq_dg = true → S.2.1 65 6 = nI (tq_dec l))
abbrev nlt (l : List Nat) : Nat := l.countP tq_lt
abbrev ndg (l : List Nat) : Nat := l.countP (fun x => !tq_lt x)
theorem nlt_0 {l : List Nat} (h : ∀ x ∈ l, tq_rn x = true) : nlt l = 0 ↔ l.all tq_dg = true := by
  rw [List.countP_eq_zero, List.all_eq_true]
  constructor
  · intro g x hx
    have h1 := h x hx
    have h2 := g x hx
    unfold tq_rn at h1
    cases e : tq_lt x
    · rw [e, Bool.false_or] at h1; exact h1
    · exact absurd e h2
  · intro g x hx e
    have h1 := tq_dg_i.mp (g x hx)
    have h2 := tq_lt_i.mp e
    omega
theorem ndg_0 {l : List Nat} : ndg l = 0 ↔ l.all tq_lt = true := by
  rw [List.countP_eq_zero, List.all_eq_true]
  constructor
  · intro g x hx
    have h2 := g x hx
    simpa using h2
  · intro g x hx e
    rw [g x hx] at e
    exact absurd e (by decide)
theorem nlt_all {l : List Nat} (h : l.all tq_lt = true) : nlt l = l.length := List.countP_eq_length.mpr (List.all_eq_true.mp h)
theorem ndg_all {l : List Nat} (h : l.all tq_dg = true) : ndg l = l.length := List.countP_eq_length.mpr (fun x hx => by
  have h1 := tq_dg_i.mp (List.all_eq_true.mp h x hx)
  cases e : tq_lt x
  · rfl
  · have := tq_lt_i.mp e; omega)
theorem nlt_le (l : List Nat) : nlt l ≤ l.length := List.countP_le_length
theorem ndg_le (l : List Nat) : ndg l ≤ l.length := List.countP_le_length
abbrev DT : List Nat := [65003, 65004, 65005, 65006, 65007, 65008]
theorem rf658 : ∀ q ∈ rv_rf0, ¬ (q.1 = 65 ∧ q.2.1 = 8) := by decide +kernel
theorem rvf.sR8 (S : rvS) (v : Option Nat) : rvf DT S (rv_sR S 65 8 v) := ⟨rfl, ⟨fun q hq => if_neg (rf658 q hq), fun a k hk => if_neg (fun z => hk (by rw [z.1, z.2]; decide))⟩, fun a k hk => ⟨rfl, rfl⟩⟩
theorem tk_pR8 (hB : rv_B C) {v : Nat} (hv : v < 64) : rv_pR C 7 65 8 v = some (rv_sR C 65 8 (some v)) := by
  unfold rv_pR
  rw [if_pos (hB.isB rfl rfl), if_pos (by omega)]
end
