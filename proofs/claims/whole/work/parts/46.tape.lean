/-! THE TAPE: feed and end -/
/-- how far the tape is, on both sides, and that it holds the same bytes -/
def rv_tp (S : rvS) (L : Nat) : Prop := L ≤ 940 ∧ S.2.1 65 1 = nI L ∧ S.2.1 189 2 = nI L ∧ ∀ j, j < L → ∃ b, b < 256 ∧ S.2.1 190 j = nI b ∧ S.2.1 66 j &&& 255 = nI b
theorem rv_nI_neg {x : Int32} (h : ¬ x < 0) : ∃ k, k < 2 ^ 31 ∧ x = nI k := by
  obtain ⟨k, h1, h2⟩ := nI_of (x := x) h
  exact ⟨k, h1, h2⟩
theorem rv_end_c {S : rvS} (h : rv_B S) {L : Nat} (ht : rv_tp S L) (n : Nat) (x : Int32) : (x < 0 ∨ nI L < x) ∧ fnX12_end n S 64 x = some (0, S) ∨ (¬ x < 0 ∧ x ≤ nI L) ∧ fnX12_end n S 64 x = some (1, rv_sI S 65 1 x) := by
  unfold fnX12_end
  simp only [rg_64_0, ri_65, rp_65, h, ht.2.1, Option.bind_some]
  by_cases h1 : x < 0
  · exact Or.inl ⟨Or.inl h1, if_pos h1⟩
  · by_cases h2 : x ≤ nI L
    · exact Or.inr ⟨⟨h1, h2⟩, by rw [if_neg h1, if_pos h2]⟩
    · exact Or.inl ⟨Or.inr (fa_of_nle h2), by rw [if_neg h1, if_neg h2]⟩
theorem rv_end_m {S : rvS} (h : rv_B S) {L : Nat} (ht : rv_tp S L) (n : Nat) (x : Int32) : ((x < 0 ∨ nI L < x) → fnX13_end n S 189 x = some (0, rv_sI S 189 0 0)) ∧ ((¬ x < 0 ∧ x ≤ nI L) → fnX13_end n S 189 x = some (1, rv_sI (rv_sI S 189 0 0) 189 2 x)) := by
  have e : (rv_sI S 189 0 0).2.1 189 2 = nI L := ht.2.2.1
  have hb : rv_B (rv_sI S 189 0 0) := h
  unfold fnX13_end
  rw [rp_189 h, Option.bind_some, ri_189 hb, Option.bind_some, rp_189 hb, Option.bind_some, e]
  refine ⟨fun h1 => ?_, fun h1 => by rw [if_neg h1.1, if_pos h1.2]⟩
  rcases h1 with h1 | h1
  · exact if_pos h1
  · by_cases h2 : x < 0
    · exact if_pos h2
    · rw [if_neg h2, if_neg (fa_of_lt h1).2.1]
theorem rv_fault_c {S : rvS} (h : rv_B S) (n : Nat) : fnX12_fault n S 64 = some (S.2.1 64 11) := by
  simp only [fnX12_fault, ri_64 h, Option.bind_some]
theorem rv_fault_m {S : rvS} (h : rv_B S) (n : Nat) : fnX13_fault n S 189 = some (S.2.1 189 10, rv_sI S 189 0 0) := by
  simp only [fnX13_fault, rp_189 h, Option.bind_some, pu_gII, rc_189 h, Option.map_some, rd_I]
  rfl
/-- byte number j of a number, as the shifts take it -/
def rv_by (x : Int32) (r : Nat) : Int32 := (x.toUInt32 >>> ((nI (8 * r)).toUInt32 &&& Int32.toUInt32 31)).toInt32
theorem rv_zz (r : Nat) : nI (8 * r) + -8 = nI (8 * r) - 8 := by rw [Int32.sub_eq_add_neg]
theorem rv_zs (r : Nat) : nI (8 * (r + 1)) - 8 = nI (8 * r) := by
  have e : 8 * (r + 1) = 8 * r + 8 := by omega
  rw [e]
  show Int32.ofNat (8 * r + 8) - 8 = Int32.ofNat (8 * r)
  rw [Int32.ofNat_add]
  exact Int32.add_sub_cancel _ _
theorem rv_zp {r : Nat} (h : r < 4) : ¬ nI (8 * r) < 0 := fun z => by
  rw [Int32.lt_iff_toInt_lt, nI_toInt (by omega)] at z
  exact absurd z (by show ¬ ((8 * r : Nat) : Int) < 0; omega)
theorem rv_z0 : nI (8 * 0) - 8 < 0 := by decide +kernel
theorem rv_add_c1 {x : Int32} {N : Nat} (q r l : Nat) (hr : r < 4) (S : rvS) (h : rv_B S) (hl : S.2.1 65 1 = nI l) (h9 : l < 940) : cX8_add_3 N (q + 1) S 65 x (nI (8 * r)) = cX8_add_3 N q (rv_sI (rv_sI S 66 l (vp_nar .byte ((rv_by x r).toInt8.toInt32))) 65 1 (nI (l + 1))) 65 x (nI (8 * r) - 8) := by
  have hb := h.uB (a := 66) (n := 940) (j := l) ((rv_by x r).toInt8.toInt32) rfl rfl h9 (by decide)
  have h1 : ¬ (940 : Int32) ≤ nI l := nI_ge h9 (by decide)
  rw [cX8_add_3, if_neg (rv_zp hr), ← rv_zz, nI_succ]
  unfold rv_by at hb ⊢
  simp only [ri_65 h, hl, Option.bind_some, rg_65_0 h, hb, pu_gII, rc_65 h, Option.map_some, rd_I, pu_pII, rv_lt]
  rw [if_neg h1]
  rfl
theorem rv_add_c {x : Int32} {N : Nat} : ∀ (r : Nat), r ≤ 4 → ∀ (q l : Nat) (S : rvS), rv_B S → S.2.1 65 1 = nI l → l + r ≤ 940 → ∃ S', cX8_add_3 N (q + 1 + r) S 65 x (nI (8 * r) - 8) = some S' ∧ rv_fr [65, 66] S S' ∧ S'.2.1 65 1 = nI (l + r) ∧ (∀ k, k ≠ 1 → S'.2.1 65 k = S.2.1 65 k) ∧ (∀ j, j < l → S'.2.1 66 j = S.2.1 66 j) ∧ (∀ j, j < r → S'.2.1 66 (l + j) = vp_nar .byte ((rv_by x (r - 1 - j)).toInt8.toInt32)) := by
  intro r
  induction r with
  | zero =>
    intro _ q l S h hl _
    refine ⟨S, ?_, rv_fr.rf _ _, hl, fun _ _ => rfl, fun _ _ => rfl, fun j hj => absurd hj (Nat.not_lt_zero j)⟩
    rw [Nat.add_zero, cX8_add_3, if_pos rv_z0]
  | succ r ih =>
    intro hr q l S h hl hL
    have hB : rv_B (rv_sI (rv_sI S 66 l (vp_nar .byte ((rv_by x r).toInt8.toInt32))) 65 1 (nI (l + 1))) := h
    obtain ⟨S', e, f, g1, g2, g3, g4⟩ := ih (by omega) q (l + 1) _ hB (rv_sI_eq _ _ _ _) (by omega)
    have e1 : q + 1 + (r + 1) = (q + 1 + r) + 1 := by omega
    have e2 : l + 1 + r = l + (r + 1) := by omega
    rw [e2] at g1
    refine ⟨S', ?_, rv_fr.tr (rv_fr.tr ((rv_fr.sI S 66 l _).mono (by simp)) ((rv_fr.sI _ 65 1 _).mono (by simp))) f, g1, fun k hk => ?_, fun j hj => ?_, fun j hj => ?_⟩
    · rw [rv_zs, e1, rv_add_c1 (q + 1 + r) r l (by omega) S h hl (by omega)]
      exact e
    · rw [g2 k hk, rv_sI_k _ _ hk, rv_sI_a _ _ _ (by decide)]
    · rw [g3 j (by omega), rv_sI_a _ _ _ (by decide), rv_sI_k _ _ (by omega)]
    · cases j with
      | zero => rw [Nat.add_zero, g3 l (by omega), rv_sI_a _ _ _ (by decide), rv_sI_eq, Nat.sub_zero, Nat.add_sub_cancel]
      | succ j =>
        have e3 : l + (j + 1) = l + 1 + j := by omega
        have e4 : r + 1 - 1 - (j + 1) = r - 1 - j := by omega
        rw [e3, e4]
        exact g4 j (by omega)
/-- the reference's -/
theorem rv_add_m1 {x : Int32} {N : Nat} (q r l : Nat) (hr : r < 4) (S : rvS) (h : rv_B S) (hl : S.2.1 189 2 = nI l) (h9 : l < 940) : cX13_come_3 N (q + 1) S 189 x (nI (8 * r)) = cX13_come_3 N q (rv_sI (rv_sI S 190 l (rv_by x r &&& 255)) 189 2 (nI (l + 1))) 189 x (nI (8 * r) - 8) := by
  have hb := h.uI (a := 190) (n := 940) (j := l) (rv_by x r &&& 255) rfl rfl h9 (by decide)
  rw [cX13_come_3, if_neg (rv_zp hr), ← rv_zz, nI_succ]
  unfold rv_by at hb ⊢
  simp only [ri_189 h, hl, Option.bind_some, rg_189_1 h, hb, pu_gII, rc_189 h, Option.map_some, rd_I, pu_pII, rv_lt]
  rfl
theorem rv_add_m {x : Int32} {N : Nat} : ∀ (r : Nat), r ≤ 4 → ∀ (q l : Nat) (S : rvS), rv_B S → S.2.1 189 2 = nI l → l + r ≤ 940 → ∃ S', cX13_come_3 N (q + 1 + r) S 189 x (nI (8 * r) - 8) = some S' ∧ rv_fr [189, 190] S S' ∧ S'.2.1 189 2 = nI (l + r) ∧ (∀ k, k ≠ 2 → S'.2.1 189 k = S.2.1 189 k) ∧ (∀ j, j < l → S'.2.1 190 j = S.2.1 190 j) ∧ (∀ j, j < r → S'.2.1 190 (l + j) = rv_by x (r - 1 - j) &&& 255) := by
  intro r
  induction r with
  | zero =>
    intro _ q l S h hl _
    refine ⟨S, ?_, rv_fr.rf _ _, hl, fun _ _ => rfl, fun _ _ => rfl, fun j hj => absurd hj (Nat.not_lt_zero j)⟩
    rw [Nat.add_zero, cX13_come_3, if_pos rv_z0]
  | succ r ih =>
    intro hr q l S h hl hL
    have hB : rv_B (rv_sI (rv_sI S 190 l (rv_by x r &&& 255)) 189 2 (nI (l + 1))) := h
    obtain ⟨S', e, f, g1, g2, g3, g4⟩ := ih (by omega) q (l + 1) _ hB (rv_sI_eq _ _ _ _) (by omega)
    have e1 : q + 1 + (r + 1) = (q + 1 + r) + 1 := by omega
    have e2 : l + 1 + r = l + (r + 1) := by omega
    rw [e2] at g1
    refine ⟨S', ?_, rv_fr.tr (rv_fr.tr ((rv_fr.sI S 190 l _).mono (by simp)) ((rv_fr.sI _ 189 2 _).mono (by simp))) f, g1, fun k hk => ?_, fun j hj => ?_, fun j hj => ?_⟩
    · rw [rv_zs, e1, rv_add_m1 (q + 1 + r) r l (by omega) S h hl (by omega)]
      exact e
    · rw [g2 k hk, rv_sI_k _ _ hk, rv_sI_a _ _ _ (by decide)]
    · rw [g3 j (by omega), rv_sI_a _ _ _ (by decide), rv_sI_k _ _ (by omega)]
    · cases j with
      | zero => rw [Nat.add_zero, g3 l (by omega), rv_sI_a _ _ _ (by decide), rv_sI_eq, Nat.sub_zero, Nat.add_sub_cancel]
      | succ j =>
        have e3 : l + (j + 1) = l + 1 + j := by omega
        have e4 : r + 1 - 1 - (j + 1) = r - 1 - j := by omega
        rw [e3, e4]
        exact g4 j (by omega)
