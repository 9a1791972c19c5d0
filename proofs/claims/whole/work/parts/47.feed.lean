/-! FEED, the class's and the reference's -/
theorem rv_z4 : nI (8 * 4) - 8 = 24 := by decide +kernel
theorem rv_nadd (a b : Nat) : nI a + nI b = nI (a + b) := (Int32.ofNat_add a b).symm
theorem rv_room {L : Nat} (hL : L ≤ 940) : ((940 : Int32) < nI L + 20 ↔ 940 < L + 20) := by
  have e : nI L + 20 = nI (L + 20) := rv_nadd L 20
  rw [e]
  exact Int32.ofNat_lt_ofNat (by decide) (by omega)
theorem rv_add_c4 {n : Nat} (hn : 5 ≤ n) (x : Int32) {S : rvS} (h : rv_B S) {l : Nat} (hl : S.2.1 65 1 = nI l) (hL : l + 4 ≤ 940) : ∃ S', fnX8_add n S 65 x = some S' ∧ rv_B S' ∧ rv_fr [65, 66] S S' ∧ S'.2.1 65 1 = nI (l + 4) ∧ (∀ k, k ≠ 1 → S'.2.1 65 k = S.2.1 65 k) ∧ (∀ j, j < l → S'.2.1 66 j = S.2.1 66 j) ∧ (∀ j, j < 4 → S'.2.1 66 (l + j) = vp_nar .byte ((rv_by x (3 - j)).toInt8.toInt32)) := by
  obtain ⟨q, rfl⟩ : ∃ q, n = q + 1 + 4 := ⟨n - 5, by omega⟩
  obtain ⟨S', e, f, g⟩ := rv_add_c (x := x) (N := q + 1 + 4) 4 (Nat.le_refl 4) q l S h hl hL
  rw [rv_z4] at e
  exact ⟨S', e, f.B h, f, g⟩
theorem rv_add_m4 {n : Nat} (hn : 5 ≤ n) (x : Int32) {S : rvS} (h : rv_B S) {l : Nat} (hl : S.2.1 189 2 = nI l) (hL : l + 4 ≤ 940) : ∃ S', fnX13_come n S 189 x = some S' ∧ rv_B S' ∧ rv_fr [189, 190] S S' ∧ S'.2.1 189 2 = nI (l + 4) ∧ (∀ k, k ≠ 2 → S'.2.1 189 k = S.2.1 189 k) ∧ (∀ j, j < l → S'.2.1 190 j = S.2.1 190 j) ∧ (∀ j, j < 4 → S'.2.1 190 (l + j) = rv_by x (3 - j) &&& 255) := by
  obtain ⟨q, rfl⟩ : ∃ q, n = q + 1 + 4 := ⟨n - 5, by omega⟩
  obtain ⟨S', e, f, g⟩ := rv_add_m (x := x) (N := q + 1 + 4) 4 (Nat.le_refl 4) q l S h hl hL
  rw [rv_z4] at e
  exact ⟨S', e, f.B h, f, g⟩
/-- what five numbers lay: byte j of twenty -/
def rv_five (x1 x2 x3 x4 x5 : Int32) (j : Nat) : Int32 := rv_by (if j < 4 then x1 else if j < 8 then x2 else if j < 12 then x3 else if j < 16 then x4 else x5) (3 - j % 4)
theorem rv_five_of {x1 x2 x3 x4 x5 : Int32} {l : Nat} {P : Nat → Int32 → Prop} (h1 : ∀ j, j < 4 → P (l + j) (rv_by x1 (3 - j))) (h2 : ∀ j, j < 4 → P (l + 4 + j) (rv_by x2 (3 - j))) (h3 : ∀ j, j < 4 → P (l + 4 + 4 + j) (rv_by x3 (3 - j))) (h4 : ∀ j, j < 4 → P (l + 4 + 4 + 4 + j) (rv_by x4 (3 - j))) (h5 : ∀ j, j < 4 → P (l + 4 + 4 + 4 + 4 + j) (rv_by x5 (3 - j))) : ∀ j, j < 20 → P (l + j) (rv_five x1 x2 x3 x4 x5 j) := by
  intro j hj
  unfold rv_five
  by_cases c1 : j < 4
  · have := h1 j c1
    rw [if_pos c1, Nat.mod_eq_of_lt c1]; exact this
  · rw [if_neg c1]
    by_cases c2 : j < 8
    · have := h2 (j - 4) (by omega)
      rw [if_pos c2, show j % 4 = j - 4 by omega, show l + j = l + 4 + (j - 4) by omega]; exact this
    · rw [if_neg c2]
      by_cases c3 : j < 12
      · have := h3 (j - 8) (by omega)
        rw [if_pos c3, show j % 4 = j - 8 by omega, show l + j = l + 4 + 4 + (j - 8) by omega]; exact this
      · rw [if_neg c3]
        by_cases c4 : j < 16
        · have := h4 (j - 12) (by omega)
          rw [if_pos c4, show j % 4 = j - 12 by omega, show l + j = l + 4 + 4 + 4 + (j - 12) by omega]; exact this
        · have := h5 (j - 16) (by omega)
          rw [if_neg c4, show j % 4 = j - 16 by omega, show l + j = l + 4 + 4 + 4 + 4 + (j - 16) by omega]; exact this
theorem rv_feed_c {n : Nat} (hn : 5 ≤ n) (x1 x2 x3 x4 x5 : Int32) {S : rvS} (h : rv_B S) {L : Nat} (hL : L + 20 ≤ 940) (hl : S.2.1 65 1 = nI L) : ∃ S', fnX12_feed n S 64 x1 x2 x3 x4 x5 = some (nI (L + 20), S') ∧ rv_B S' ∧ rv_fr [65, 66] S S' ∧ S'.2.1 65 1 = nI (L + 20) ∧ (∀ k, k ≠ 1 → S'.2.1 65 k = S.2.1 65 k) ∧ (∀ j, j < L → S'.2.1 66 j = S.2.1 66 j) ∧ (∀ j, j < 20 → S'.2.1 66 (L + j) = vp_nar .byte ((rv_five x1 x2 x3 x4 x5 j).toInt8.toInt32)) := by
  obtain ⟨S1, e1, b1, f1, l1, k1, p1, q1⟩ := rv_add_c4 hn x1 h hl (by omega)
  obtain ⟨S2, e2, b2, f2, l2, k2, p2, q2⟩ := rv_add_c4 hn x2 b1 l1 (by omega)
  obtain ⟨S3, e3, b3, f3, l3, k3, p3, q3⟩ := rv_add_c4 hn x3 b2 l2 (by omega)
  obtain ⟨S4, e4, b4, f4, l4, k4, p4, q4⟩ := rv_add_c4 hn x4 b3 l3 (by omega)
  obtain ⟨S5, e5, b5, f5, l5, k5, p5, q5⟩ := rv_add_c4 hn x5 b4 l4 (by omega)
  have e20 : L + 4 + 4 + 4 + 4 + 4 = L + 20 := by omega
  rw [e20] at l5
  have hr : fnX8_hasRoom n S 65 = some 1 := by
    simp only [fnX8_hasRoom, ri_65 h, hl, Option.bind_some]
    exact if_neg (fun z => by have := (rv_room (by omega)).mp z; omega)
  refine ⟨S5, ?_, b5, f1.tr (f2.tr (f3.tr (f4.tr f5))), l5, fun k hk => ?_, fun j hj => ?_, ?_⟩
  · rw [fnX12_feed]
    simp only [rg_64_0 h, rc_65 h, hr, Option.bind_some]
    rw [if_neg (by decide)]
    simp only [e1, e2, e3, e4, e5, rg_64_0 b1, rc_65 b1, rg_64_0 b2, rc_65 b2, rg_64_0 b3, rc_65 b3, rg_64_0 b4, rc_65 b4, rg_64_0 b5, ri_65 b5, l5, Option.bind_some]
  · rw [k5 k hk, k4 k hk, k3 k hk, k2 k hk, k1 k hk]
  · rw [p5 j (by omega), p4 j (by omega), p3 j (by omega), p2 j (by omega), p1 j hj]
  · exact rv_five_of (P := fun j b => S5.2.1 66 j = vp_nar .byte (b.toInt8.toInt32))
      (fun j hj => by rw [p5 _ (by omega), p4 _ (by omega), p3 _ (by omega), p2 _ (by omega)]; exact q1 j hj)
      (fun j hj => by rw [p5 _ (by omega), p4 _ (by omega), p3 _ (by omega)]; exact q2 j hj)
      (fun j hj => by rw [p5 _ (by omega), p4 _ (by omega)]; exact q3 j hj)
      (fun j hj => by rw [p5 _ (by omega)]; exact q4 j hj) q5
