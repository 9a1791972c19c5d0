/-! FEED, the class's and the reference's -/
theorem rv_z4 : nI (8 * 4) - 8 = 24 := by decide +kernel
theorem rv_nadd (a b : Nat) : nI a + nI b = nI (a + b) := (Int32.ofNat_add a b).symm
theorem rv_room {L : Nat} (hL : L ≤ 940) : ((940 : Int32) < nI L + 20 ↔ 940 < L + 20) := by
  have e : nI L + 20 = nI (L + 20) := rv_nadd L 20
  rw [e]
  exact Int32.ofNat_lt_ofNat (by decide) (by omega)
theorem rv_add_c4 {n : Nat} (hn : 5 ≤ n) (x : Int32) {S : rvS} (h : rv_B S) {l : Nat} (hl : S.2.1 65 1 = nI l) (hL : l + 4 ≤ 940) : ∃ S', fnX8_add n S 65 x = some S' ∧ rv_B S' ∧ rv_fr [65, 66] S S' ∧ S'.2.1 65 1 = nI (l + 4) ∧ (∀ k, k ≠ 1 → S'.2.1 65 k = S.2.1 65 k) ∧ (∀ j, j < l → S'.2.1 66 j = S.2.1 66 j) ∧ (∀ j, j < 4 → S'.2.1 66 (l + j) = vp_nar .byte ((rv_by x (3 - j)).toInt8.toInt32)) := by
  obtain ⟨q, rfl⟩ : ∃ q, n = q + 1 + 4 := ⟨n - 5, by omega⟩
  obtain ⟨S', e, f, g⟩ := rv_add_c (x := x) (N := q + 1 + 4) 4 (Nat.le_refl 4) q l S h hl hL
  rw [rv_z4] at e
  exact ⟨S', e, f.B h, f, g⟩
theorem rv_add_m4 {n : Nat} (hn : 5 ≤ n) (x : Int32) {S : rvS} (h : rv_B S) {l : Nat} (hl : S.2.1 189 2 = nI l) (hL : l + 4 ≤ 940) : ∃ S', fnX13_come n S 189 x = some S' ∧ rv_B S' ∧ rv_fr [189, 190] S S' ∧ S'.2.1 189 2 = nI (l + 4) ∧ (∀ k, k ≠ 2 → S'.2.1 189 k = S.2.1 189 k) ∧ (∀ j, j < l → S'.2.1 190 j = S.2.1 190 j) ∧ (∀ j, j < 4 → S'.2.1 190 (l + j) = rv_by x (3 - j) &&& 255) := by
  obtain ⟨q, rfl⟩ : ∃ q, n = q + 1 + 4 := ⟨n - 5, by omega⟩
  obtain ⟨S', e, f, g⟩ := rv_add_m (x := x) (N := q + 1 + 4) 4 (Nat.le_refl 4) q l S h hl hL
  rw [rv_z4] at e
  exact ⟨S', e, f.B h, f, g⟩
/-- what five numbers lay: byte j of twenty -/
def rv_five (x1 x2 x3 x4 x5 : Int32) (j : Nat) : Int32 := rv_by (if j < 4 then x1 else if j < 8 then x2 else if j < 12 then x3 else if j < 16 then x4 else x5) (3 - j % 4)
theorem rv_five_of {x1 x2 x3 x4 x5 : Int32} {l : Nat} {P : Nat → Int32 → Prop} (h1 : ∀ j, j < 4 → P (l + j) (rv_by x1 (3 - j))) (h2 : ∀ j, j < 4 → P (l + 4 + j) (rv_by x2 (3 - j))) (h3 : ∀ j, j < 4 → P (l + 4 + 4 + j) (rv_by x3 (3 - j))) (h4 : ∀ j, j < 4 → P (l + 4 + 4 + 4 + j) (rv_by x4 (3 - j))) (h5 : ∀ j, j < 4 → P (l + 4 + 4 + 4 + 4 + j) (rv_by x5 (3 - j))) : ∀ j, j < 20 → P (l + j) (rv_five x1 x2 x3 x4 x5 j) := by
  intro j hj
  unfold rv_five
  by_cases c1 : j < 4
  · have := h1 j c1
    rw [if_pos c1, Nat.mod_eq_of_lt c1]; exact this
  · rw [if_neg c1]
    by_cases c2 : j < 8
    · have := h2 (j - 4) (by omega)
      rw [if_pos c2, show j % 4 = j - 4 by omega, show l + j = l + 4 + (j - 4) by omega]; exact this
    · rw [if_neg c2]
      by_cases c3 : j < 12
      · have := h3 (j - 8) (by omega)
        rw [if_pos c3, show j % 4 = j - 8 by omega, show l + j = l + 4 + 4 + (j - 8) by omega]; exact this
      · rw [if_neg c3]
        by_cases c4 : j < 16
        · have := h4 (j - 12) (by omega)
          rw [if_pos c4, show j % 4 = j - 12 by omega, show l + j = l + 4 + 4 + 4 + (j - 12) by omega]; exact this
        · have := h5 (j - 16) (by omega)
          rw [if_neg c4, show j % 4 = j - 16 by omega, show l + j = l + 4 + 4 + 4 + 4 + (j - 16) by omega]; exact this
theorem rv_feed_c {n : Nat} (hn : 5 ≤ n) (x1 x2 x3 x4 x5 : Int32) {S : rvS} (h : rv_B S) {L : Nat} (hL : L + 20 ≤ 940) (hl : S.2.1 65 1 = nI L) : ∃ S', fnX12_feed n S 64 x1 x2 x3 x4 x5 = some (nI (L + 20), S') ∧ rv_B S' ∧ rv_fr [65, 66] S S' ∧ S'.2.1 65 1 = nI (L + 20) ∧ (∀ k, k ≠ 1 → S'.2.1 65 k = S.2.1 65 k) ∧ (∀ j, j < L → S'.2.1 66 j = S.2.1 66 j) ∧ (∀ j, j < 20 → S'.2.1 66 (L + j) = vp_nar .byte ((rv_five x1 x2 x3 x4 x5 j).toInt8.toInt32)) := by
  obtain ⟨S1, e1, b1, f1, l1, k1, p1, q1⟩ := rv_add_c4 hn x1 h hl (by omega)
  obtain ⟨S2, e2, b2, f2, l2, k2, p2, q2⟩ := rv_add_c4 hn x2 b1 l1 (by omega)
  obtain ⟨S3, e3, b3, f3, l3, k3, p3, q3⟩ := rv_add_c4 hn x3 b2 l2 (by omega)
  obtain ⟨S4, e4, b4, f4, l4, k4, p4, q4⟩ := rv_add_c4 hn x4 b3 l3 (by omega)
  obtain ⟨S5, e5, b5, f5, l5, k5, p5, q5⟩ := rv_add_c4 hn x5 b4 l4 (by omega)
  have e20 : L + 4 + 4 + 4 + 4 + 4 = L + 20 := by omega
  rw [e20] at l5
  have hr : fnX8_hasRoom n S 65 = some 1 := by
    simp only [fnX8_hasRoom, ri_65 h, hl, Option.bind_some]
    exact if_neg (fun z => by have := (rv_room (by omega)).mp z; omega)
  refine ⟨S5, ?_, b5, f1.tr (f2.tr (f3.tr (f4.tr f5))), l5, fun k hk => ?_, fun j hj => ?_, ?_⟩
  · rw [fnX12_feed]
    simp only [rg_64_0 h, rc_65 h, hr, Option.bind_some]
    rw [if_neg (by decide)]
    simp only [e1, e2, e3, e4, e5, rg_64_0 b1, rc_65 b1, rg_64_0 b2, rc_65 b2, rg_64_0 b3, rc_65 b3, rg_64_0 b4, rc_65 b4, rg_64_0 b5, ri_65 b5, l5, Option.bind_some]
  · rw [k5 k hk, k4 k hk, k3 k hk, k2 k hk, k1 k hk]
  · rw [p5 j (by omega), p4 j (by omega), p3 j (by omega), p2 j (by omega), p1 j hj]
  · exact rv_five_of (P := fun j b => S5.2.1 66 j = vp_nar .byte (b.toInt8.toInt32))
      (fun j hj => by rw [p5 _ (by omega), p4 _ (by omega), p3 _ (by omega), p2 _ (by omega)]; exact q1 j hj)
      (fun j hj => by rw [p5 _ (by omega), p4 _ (by omega), p3 _ (by omega)]; exact q2 j hj)
      (fun j hj => by rw [p5 _ (by omega), p4 _ (by omega)]; exact q3 j hj)
      (fun j hj => by rw [p5 _ (by omega)]; exact q4 j hj) q5
theorem rv_feed_m {n : Nat} (hn : 5 ≤ n) (x1 x2 x3 x4 x5 : Int32) {S : rvS} (h : rv_B S) {L : Nat} (hL : L + 20 ≤ 940) (hl : S.2.1 189 2 = nI L) : ∃ S', fnX13_feed n S 189 x1 x2 x3 x4 x5 = some (nI (L + 20), S') ∧ rv_B S' ∧ rv_fr [189, 190] S S' ∧ S'.2.1 189 2 = nI (L + 20) ∧ (∀ k, k ≠ 0 → k ≠ 2 → S'.2.1 189 k = S.2.1 189 k) ∧ (∀ j, j < L → S'.2.1 190 j = S.2.1 190 j) ∧ (∀ j, j < 20 → S'.2.1 190 (L + j) = rv_five x1 x2 x3 x4 x5 j &&& 255) := by
  have h0 : rv_B (rv_sI S 189 0 0) := h
  have hl0 : (rv_sI S 189 0 0).2.1 189 2 = nI L := by rw [rv_sI_k _ _ (by decide)]; exact hl
  obtain ⟨S1, e1, b1, f1, l1, k1, p1, q1⟩ := rv_add_m4 hn x1 h0 hl0 (by omega)
  obtain ⟨S2, e2, b2, f2, l2, k2, p2, q2⟩ := rv_add_m4 hn x2 b1 l1 (by omega)
  obtain ⟨S3, e3, b3, f3, l3, k3, p3, q3⟩ := rv_add_m4 hn x3 b2 l2 (by omega)
  obtain ⟨S4, e4, b4, f4, l4, k4, p4, q4⟩ := rv_add_m4 hn x4 b3 l3 (by omega)
  obtain ⟨S5, e5, b5, f5, l5, k5, p5, q5⟩ := rv_add_m4 hn x5 b4 l4 (by omega)
  have e20 : L + 4 + 4 + 4 + 4 + 4 = L + 20 := by omega
  rw [e20] at l5
  have hr : nI L + 20 ≤ (940 : Int32) := fa_of_nlt (fun z => by have := (rv_room (by omega)).mp z; omega)
  refine ⟨S5, ?_, b5, ((rv_fr.sI S 189 0 0).mono (by simp)).tr (f1.tr (f2.tr (f3.tr (f4.tr f5)))), l5, fun k hk0 hk => ?_, fun j hj => ?_, ?_⟩
  · rw [fnX13_feed, rp_189 h, Option.bind_some, ri_189 h0, Option.bind_some, hl0, if_pos hr]
    simp only [rc_189 h0, e1, e2, e3, e4, e5, rc_189 b1, rc_189 b2, rc_189 b3, rc_189 b4, ri_189 b5, l5, Option.bind_some]
  · rw [k5 k hk, k4 k hk, k3 k hk, k2 k hk, k1 k hk, rv_sI_k _ _ hk0]
  · rw [p5 j (by omega), p4 j (by omega), p3 j (by omega), p2 j (by omega), p1 j hj, rv_sI_a _ _ _ (by decide)]
  · exact rv_five_of (P := fun j b => S5.2.1 190 j = b &&& 255)
      (fun j hj => by rw [p5 _ (by omega), p4 _ (by omega), p3 _ (by omega), p2 _ (by omega)]; exact q1 j hj)
      (fun j hj => by rw [p5 _ (by omega), p4 _ (by omega), p3 _ (by omega)]; exact q2 j hj)
      (fun j hj => by rw [p5 _ (by omega), p4 _ (by omega)]; exact q3 j hj)
      (fun j hj => by rw [p5 _ (by omega)]; exact q4 j hj) q5
theorem rv_byte (y : Int32) : ∃ b, b < 256 ∧ y &&& 255 = nI b ∧ vp_nar .byte (y.toInt8.toInt32) &&& 255 = nI b := by
  obtain ⟨k, hk, rfl⟩ := wb_of32 y
  have e : nI k &&& 255 = nI (k % 2 ^ 8) := fa_mask k 8
  refine ⟨k % 2 ^ 8, Nat.mod_lt _ (by decide), e, ?_⟩
  have e2 : vp_nar .byte ((nI k).toInt8.toInt32) &&& 255 = (nI k).toInt8.toInt32 &&& 255 := bp_b _
  rw [e2, bp_b, e]
theorem ro_feed {n : Nat} (hn : 5 ≤ n) (x1 x2 x3 x4 x5 : Int32) {S : rvS} (h : rv_B S) {L : Nat} (ht : rv_tp S L) : ∃ r S1 S2 L', fnX12_feed n S 64 x1 x2 x3 x4 x5 = some (r, S1) ∧ fnX13_feed n S1 189 x1 x2 x3 x4 x5 = some (r, S2) ∧ rv_B S1 ∧ rv_B S2 ∧ rv_fr [65, 66, 189, 190] S S2 ∧ rv_tp S2 L' ∧ (∀ k, k ≠ 1 → S2.2.1 65 k = S.2.1 65 k) ∧ (∀ k, k ≠ 0 → k ≠ 2 → S2.2.1 189 k = S.2.1 189 k) := by
  obtain ⟨t1, t2, t3, t4⟩ := ht
  by_cases hL : L + 20 ≤ 940
  · obtain ⟨S1, e1, b1, f1, l1, k1, p1, q1⟩ := rv_feed_c hn x1 x2 x3 x4 x5 h hL t2
    have hm : S1.2.1 189 2 = nI L := by rw [(f1.2.2 189 (by decide)).1]; exact t3
    obtain ⟨S2, e2, b2, f2, l2, k2, p2, q2⟩ := rv_feed_m hn x1 x2 x3 x4 x5 b1 hL hm
    have g65 : ∀ k, S2.2.1 65 k = S1.2.1 65 k := fun k => by rw [(f2.2.2 65 (by decide)).1]
    have g66 : ∀ k, S2.2.1 66 k = S1.2.1 66 k := fun k => by rw [(f2.2.2 66 (by decide)).1]
    have g190 : ∀ k, S1.2.1 190 k = S.2.1 190 k := fun k => by rw [(f1.2.2 190 (by decide)).1]
    have g189 : ∀ k, S1.2.1 189 k = S.2.1 189 k := fun k => by rw [(f1.2.2 189 (by decide)).1]
    refine ⟨_, S1, S2, L + 20, e1, e2, b1, b2, (f1.mono (by simp)).tr (f2.mono (by simp)), ⟨hL, by rw [g65]; exact l1, l2, fun j hj => ?_⟩, fun k hk => by rw [g65, k1 k hk], fun k h0 hk => by rw [k2 k h0 hk, g189]⟩
    by_cases hj2 : j < L
    · obtain ⟨b, h1, h2, h3⟩ := t4 j hj2
      exact ⟨b, h1, by rw [p2 j hj2, g190]; exact h2, by rw [g66, p1 j hj2]; exact h3⟩
    · obtain ⟨i, rfl⟩ : ∃ i, j = L + i := ⟨j - L, by omega⟩
      obtain ⟨b, h1, h2, h3⟩ := rv_byte (rv_five x1 x2 x3 x4 x5 i)
      exact ⟨b, h1, by rw [q2 i (by omega)]; exact h2, by rw [g66, q1 i (by omega)]; exact h3⟩
  · have hr : fnX8_hasRoom n S 65 = some 0 := by
      simp only [fnX8_hasRoom, ri_65 h, t2, Option.bind_some]
      exact if_pos ((rv_room t1).mpr (by omega))
    have h0 : rv_B (rv_sI S 189 0 0) := h
    have hl0 : (rv_sI S 189 0 0).2.1 189 2 = nI L := by rw [rv_sI_k _ _ (by decide)]; exact t3
    refine ⟨-1, S, rv_sI S 189 0 0, L, ?_, ?_, h, h0, (rv_fr.sI S 189 0 0).mono (by simp), ⟨t1, by rw [rv_sI_a _ _ _ (by decide)]; exact t2, hl0, fun j hj => by rw [rv_sI_a _ _ _ (by decide), rv_sI_a _ _ _ (by decide)]; exact t4 j hj⟩, fun k _ => rv_sI_a _ _ _ (by decide) _, fun k hk _ => rv_sI_k _ _ hk _⟩
    · rw [fnX12_feed]
      simp only [rg_64_0 h, rc_65 h, hr, Option.bind_some]
      exact if_pos True.intro
    · rw [fnX13_feed, rp_189 h, Option.bind_some, ri_189 h0, Option.bind_some, hl0, if_neg (fun z => (fa_of_lt ((rv_room t1).mpr (by omega))).2.1 z)]
theorem ro_end {n : Nat} (x : Int32) {S : rvS} (h : rv_B S) {L : Nat} (ht : rv_tp S L) : ∃ r S1 S2 L', fnX12_end n S 64 x = some (r, S1) ∧ fnX13_end n S1 189 x = some (r, S2) ∧ rv_B S1 ∧ rv_B S2 ∧ rv_fr [65, 66, 189, 190] S S2 ∧ rv_tp S2 L' ∧ (∀ k, k ≠ 1 → S2.2.1 65 k = S.2.1 65 k) ∧ (∀ k, k ≠ 0 → k ≠ 2 → S2.2.1 189 k = S.2.1 189 k) := by
  rcases rv_end_c h ht n x with ⟨c, e⟩ | ⟨c, e⟩
  · have h0 : rv_B (rv_sI S 189 0 0) := h
    obtain ⟨t1, t2, t3, t4⟩ := ht
    exact ⟨0, S, rv_sI S 189 0 0, L, e, (rv_end_m h ⟨t1, t2, t3, t4⟩ n x).1 c, h, h0, (rv_fr.sI S 189 0 0).mono (by simp), ⟨t1, by rw [rv_sI_a _ _ _ (by decide)]; exact t2, by rw [rv_sI_k _ _ (by decide)]; exact t3, fun j hj => by rw [rv_sI_a _ _ _ (by decide), rv_sI_a _ _ _ (by decide)]; exact t4 j hj⟩, fun k _ => rv_sI_a _ _ _ (by decide) _, fun k hk _ => rv_sI_k _ _ hk _⟩
  · obtain ⟨k, hk, rfl⟩ := rv_nI_neg c.1
    obtain ⟨t1, t2, t3, t4⟩ := ht
    have hkL : k ≤ L := (Int32.ofNat_le_ofNat hk (by omega)).mp c.2
    have h1 : rv_B (rv_sI S 65 1 (nI k)) := h
    have h2 : rv_B (rv_sI (rv_sI (rv_sI S 65 1 (nI k)) 189 0 0) 189 2 (nI k)) := h
    have em : fnX13_end n (rv_sI S 65 1 (nI k)) 189 (nI k) = some (1, rv_sI (rv_sI (rv_sI S 65 1 (nI k)) 189 0 0) 189 2 (nI k)) := by
      have hb : rv_B (rv_sI (rv_sI S 65 1 (nI k)) 189 0 0) := h
      have e2 : (rv_sI (rv_sI S 65 1 (nI k)) 189 0 0).2.1 189 2 = nI L := by rw [rv_sI_k _ _ (by decide), rv_sI_a _ _ _ (by decide)]; exact t3
      unfold fnX13_end
      rw [rp_189 h1, Option.bind_some, ri_189 hb, Option.bind_some, rp_189 hb, Option.bind_some, e2, if_neg c.1, if_pos c.2]
    refine ⟨1, _, _, k, e, em, h1, h2, ((rv_fr.sI S 65 1 _).mono (by simp)).tr (((rv_fr.sI _ 189 0 _).mono (by simp)).tr ((rv_fr.sI _ 189 2 _).mono (by simp))), ⟨by omega, ?_, rv_sI_eq _ _ _ _, fun j hj => ?_⟩, fun j hj => ?_, fun j h3 h4 => ?_⟩
    · rw [rv_sI_a _ _ _ (by decide), rv_sI_a _ _ _ (by decide), rv_sI_eq]
    · rw [rv_sI_a _ _ _ (by decide), rv_sI_a _ _ _ (by decide), rv_sI_a _ _ _ (by decide), rv_sI_a _ _ _ (by decide), rv_sI_a _ _ _ (by decide), rv_sI_a _ _ _ (by decide)]
      exact t4 j (by omega)
    · rw [rv_sI_a _ _ _ (by decide), rv_sI_a _ _ _ (by decide), rv_sI_k _ _ hj]
    · rw [rv_sI_k _ _ h4, rv_sI_k _ _ h3, rv_sI_a _ _ _ (by decide)]
