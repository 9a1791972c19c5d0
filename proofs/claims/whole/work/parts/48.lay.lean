/-! LAY: the reference's plain valley -/
theorem rv_plain_1 {n q i a m : Nat} {S : rvS} (h : rv_B S) (h64 : Nat.ble 64 a = true) (ha : rv_sh0[a - 64]? = some (50, m)) (hm : 420 ≤ m) (hm2 : m < 2 ^ 31) (hi : i < 420) : cX13_plain_2 n (q + 1) S a (nI i) = cX13_plain_2 n q (rv_sI S a i 0) a (nI (i + 1)) := by
  have hb := h.uI (a := a) (n := m) (j := i) 0 h64 ha (by omega) hm2
  have h1 : ¬ (420 : Int32) ≤ nI i := nI_ge hi (by decide)
  rw [cX13_plain_2, if_neg h1, hb, Option.bind_some, nI_succ]
  rfl
theorem rv_plain_2 {n a m : Nat} (h64 : Nat.ble 64 a = true) (ha : rv_sh0[a - 64]? = some (50, m)) (hm : 420 ≤ m) (hm2 : m < 2 ^ 31) (q : Nat) : ∀ (r i : Nat) (S : rvS), i + r = 420 → rv_B S → ∃ S', cX13_plain_2 n (q + 1 + r) S a (nI i) = cX13_plain_19 n S' a ∧ rv_fr [a] S S' ∧ (∀ k, i ≤ k → k < 420 → S'.2.1 a k = 0) ∧ (∀ k, k < i ∨ 420 ≤ k → S'.2.1 a k = S.2.1 a k) := by
  intro r
  induction r with
  | zero =>
    intro i S hi h
    have e : i = 420 := by omega
    refine ⟨S, ?_, rv_fr.rf _ _, fun k h1 h2 => absurd h2 (by omega), fun _ _ => rfl⟩
    have h1 : (420 : Int32) ≤ nI i := by rw [e]; exact nI_le (Nat.le_refl 420) (by decide)
    rw [Nat.add_zero, cX13_plain_2, if_pos h1]
  | succ r ih =>
    intro i S hi h
    have hB : rv_B (rv_sI S a i 0) := h
    obtain ⟨S', e, f, g1, g2⟩ := ih (i + 1) _ (by omega) hB
    have e1 : q + 1 + (r + 1) = (q + 1 + r) + 1 := by omega
    refine ⟨S', ?_, ((rv_fr.sI S a i 0)).tr f, fun k h1 h2 => ?_, fun k hk => ?_⟩
    · rw [e1, rv_plain_1 h h64 ha hm hm2 (by omega)]
      exact e
    · by_cases hk : k = i
      · rw [g2 k (Or.inl (by omega)), hk, rv_sI_eq]
      · exact g1 k (by omega) h2
    · rw [g2 k (by omega), rv_sI_k _ _ (by omega)]
theorem rv_plain_3 {n q i a m : Nat} {S : rvS} (h : rv_B S) (h64 : Nat.ble 64 a = true) (ha : rv_sh0[a - 64]? = some (50, m)) (hm : 420 ≤ m) (hm2 : m < 2 ^ 31) (hi : i < 4) : cX13_plain_34 n (q + 1) S a (nI i) = cX13_plain_34 n q (rv_sI S a (128 + i) ((1 : Int32) <<< (nI i &&& 31))) a (nI (i + 1)) := by
  have hb := h.uI (a := a) (n := m) (j := 128 + i) ((1 : Int32) <<< (nI i &&& 31)) h64 ha (by omega) hm2
  have h1 : ¬ (4 : Int32) ≤ nI i := nI_ge hi (by decide)
  have e : (128 : Int32) + nI i = nI (128 + i) := rv_nadd 128 i
  rw [cX13_plain_34, if_neg h1, e, hb, Option.bind_some, nI_succ]
  rfl
theorem rv_plain_4 {n a m : Nat} (h64 : Nat.ble 64 a = true) (ha : rv_sh0[a - 64]? = some (50, m)) (hm : 420 ≤ m) (hm2 : m < 2 ^ 31) (q : Nat) : ∀ (r i : Nat) (S : rvS), i + r = 4 → rv_B S → ∃ S', cX13_plain_34 n (q + 1 + r) S a (nI i) = some S' ∧ rv_fr [a] S S' ∧ (∀ k, i ≤ k → k < 4 → S'.2.1 a (128 + k) = (1 : Int32) <<< (nI k &&& 31)) ∧ (∀ k, k < 128 + i ∨ 132 ≤ k → S'.2.1 a k = S.2.1 a k) := by
  intro r
  induction r with
  | zero =>
    intro i S hi h
    have e : i = 4 := by omega
    refine ⟨S, ?_, rv_fr.rf _ _, fun k h1 h2 => absurd h2 (by omega), fun _ _ => rfl⟩
    have h1 : (4 : Int32) ≤ nI i := by rw [e]; exact nI_le (Nat.le_refl 4) (by decide)
    rw [Nat.add_zero, cX13_plain_34, if_pos h1]
  | succ r ih =>
    intro i S hi h
    have hB : rv_B (rv_sI S a (128 + i) ((1 : Int32) <<< (nI i &&& 31))) := h
    obtain ⟨S', e, f, g1, g2⟩ := ih (i + 1) _ (by omega) hB
    have e1 : q + 1 + (r + 1) = (q + 1 + r) + 1 := by omega
    refine ⟨S', ?_, ((rv_fr.sI S a (128 + i) _)).tr f, fun k h1 h2 => ?_, fun k hk => ?_⟩
    · rw [e1, rv_plain_3 h h64 ha hm hm2 (by omega)]
      exact e
    · by_cases hk : k = i
      · rw [g2 (128 + k) (Or.inl (by omega)), hk, rv_sI_eq]
      · exact g1 k (by omega) h2
    · rw [g2 k (by omega), rv_sI_k _ _ (by omega)]
/-- what plain lays -/
def rv_pl (k : Nat) : Int32 := if k < 128 then (if k = 3 then 3 else if k = 4 then 8 else if k = 5 then 1 else 0) else if k < 132 then (1 : Int32) <<< (nI (k - 128) &&& 31) else 0
theorem rv_plain {n a m : Nat} (hn : 500 ≤ n) (h64 : Nat.ble 64 a = true) (ha : rv_sh0[a - 64]? = some (50, m)) (hm : 420 ≤ m) (hm2 : m < 2 ^ 31) {S : rvS} (h : rv_B S) : ∃ S', fnX13_plain n S a = some S' ∧ rv_B S' ∧ rv_fr [a] S S' ∧ (∀ k, k < 420 → S'.2.1 a k = rv_pl k) ∧ (∀ k, 420 ≤ k → S'.2.1 a k = S.2.1 a k) := by
  obtain ⟨q, hq⟩ : ∃ q, n = q + 1 + 420 := ⟨n - 421, by omega⟩
  obtain ⟨q4, hq4⟩ : ∃ q4, n = q4 + 1 + 4 := ⟨n - 5, by omega⟩
  obtain ⟨S1, e1, f1, g1, g2⟩ := rv_plain_2 (n := n) h64 ha hm hm2 q 420 0 S rfl h
  have b1 : rv_B S1 := f1.B h
  have b2 : rv_B (rv_sI (rv_sI (rv_sI S1 a 3 3) a 4 8) a 5 1) := b1
  obtain ⟨S2, e2, f2, k1, k2⟩ := rv_plain_4 (n := n) h64 ha hm hm2 q4 4 0 _ rfl b2
  have hu3 := b1.uI (a := a) (n := m) (j := 3) 3 h64 ha (by omega) hm2
  have hu4 := rv_B.uI (S := rv_sI S1 a 3 3) b1 (a := a) (n := m) (j := 4) 8 h64 ha (by omega) hm2
  have hu5 := rv_B.uI (S := rv_sI (rv_sI S1 a 3 3) a 4 8) b1 (a := a) (n := m) (j := 5) 1 h64 ha (by omega) hm2
  have hf : rv_fr [a] S S2 := f1.tr ((rv_fr.sI S1 a 3 3).tr ((rv_fr.sI _ a 4 8).tr ((rv_fr.sI _ a 5 1).tr f2)))
  have low : ∀ k, k < 128 ∨ 132 ≤ k → S2.2.1 a k = (rv_sI (rv_sI (rv_sI S1 a 3 3) a 4 8) a 5 1).2.1 a k := fun k hk => k2 k (by omega)
  refine ⟨S2, ?_, hf.B h, hf, fun k hk => ?_, fun k hk => ?_⟩
  · rw [fnX13_plain]
    rw [← hq] at e1
    rw [← hq4] at e2
    refine e1.trans ?_
    rw [cX13_plain_19]
    exact (congrArg (fun o => Option.bind o _) hu3).trans ((congrArg (fun o => Option.bind o _) hu4).trans ((congrArg (fun o => Option.bind o _) hu5).trans e2))
  · unfold rv_pl
    by_cases c : k < 128
    · rw [if_pos c, low k (Or.inl c)]
      by_cases c5 : k = 5
      · rw [c5, rv_sI_eq]; rfl
      · rw [rv_sI_k _ _ c5]
        by_cases c4 : k = 4
        · rw [c4, rv_sI_eq]; rfl
        · rw [rv_sI_k _ _ c4]
          by_cases c3 : k = 3
          · rw [c3, rv_sI_eq]; rfl
          · rw [rv_sI_k _ _ c3, g1 k (Nat.zero_le k) hk, if_neg c3, if_neg c4, if_neg c5]
    · rw [if_neg c]
      by_cases c2 : k < 132
      · obtain ⟨j, rfl⟩ : ∃ j, k = 128 + j := ⟨k - 128, by omega⟩
        rw [if_pos c2, k1 j (Nat.zero_le j) (by omega), Nat.add_sub_cancel_left]
      · rw [if_neg c2, low k (Or.inr (by omega)), rv_sI_k _ _ (by omega), rv_sI_k _ _ (by omega), rv_sI_k _ _ (by omega), g1 k (Nat.zero_le k) hk]
  · rw [low k (Or.inr (by omega)), rv_sI_k _ _ (by omega), rv_sI_k _ _ (by omega), rv_sI_k _ _ (by omega), g2 k (Or.inr hk)]
theorem rv_lay {n : Nat} (hn : 500 ≤ n) {S : rvS} (h : rv_B S) : ∃ S', fnX13_lay n S 189 = some S' ∧ rv_B S' ∧ rv_fr [189, 191] S S' ∧ ¬ S'.2.1 189 22 = 0 ∧ (∀ k, k ≠ 22 → S'.2.1 189 k = S.2.1 189 k) ∧ (∀ k, k < 420 → S'.2.1 191 k = if S.2.1 189 22 = 0 then rv_pl k else S.2.1 191 k) ∧ (∀ k, 420 ≤ k → S'.2.1 191 k = S.2.1 191 k) := by
  rw [fnX13_lay, ri_189 h, Option.bind_some]
  by_cases c : S.2.1 189 22 = 0
  · have h1 : rv_B (rv_sI S 189 22 1) := h
    obtain ⟨S', e, b, f, g1, g2⟩ := rv_plain (n := n) (a := 191) (m := 662) hn rfl rfl (by decide) (by decide) h1
    have g189 : ∀ k, S'.2.1 189 k = (rv_sI S 189 22 1).2.1 189 k := fun k => by rw [(f.2.2 189 (by decide)).1]
    refine ⟨S', ?_, b, ((rv_fr.sI S 189 22 1).mono (by simp)).tr (f.mono (by simp)), ?_, fun k hk => ?_, fun k hk => ?_, fun k hk => ?_⟩
    · rw [if_pos c, rp_189 h, Option.bind_some, rg_189_14 h1, Option.bind_some, e, Option.bind_some]
    · rw [g189, rv_sI_eq]; decide
    · rw [g189, rv_sI_k _ _ hk]
    · rw [g1 k hk, if_pos c]
    · rw [g2 k hk, rv_sI_a _ _ _ (by decide)]
  · refine ⟨S, if_neg c, h, rv_fr.rf _ _, c, fun _ _ => rfl, fun k hk => ?_, fun _ _ => rfl⟩
    rw [if_neg c]
