/-! LAY: the reference's plain valley -/
theorem rv_plain_1 {n q i a m : Nat} {S : rvS} (h : rv_B S) (h64 : Nat.ble 64 a = true) (ha : rv_sh0[a - 64]? = some (50, m)) (hm : 420 ≤ m) (hm2 : m < 2 ^ 31) (hi : i < 420) : cX13_plain_2 n (q + 1) S a (nI i) = cX13_plain_2 n q (rv_sI S a i 0) a (nI (i + 1)) := by
  have hb := h.uI (a := a) (n := m) (j := i) 0 h64 ha (by omega) hm2
  have h1 : ¬ (420 : Int32) ≤ nI i := nI_ge hi (by decide)
  rw [cX13_plain_2, if_neg h1, hb, Option.bind_some, nI_succ]
  rfl
theorem rv_plain_2 {n a m : Nat} (h64 : Nat.ble 64 a = true) (ha : rv_sh0[a - 64]? = some (50, m)) (hm : 420 ≤ m) (hm2 : m < 2 ^ 31) (q : Nat) : ∀ (r i : Nat) (S : rvS), i + r = 420 → rv_B S → ∃ S', cX13_plain_2 n (q + 1 + r) S a (nI i) = cX13_plain_19 n S' a ∧ rv_fr [a] S S' ∧ (∀ k, i ≤ k → k < 420 → S'.2.1 a k = 0) ∧ (∀ k, k < i ∨ 420 ≤ k → S'.2.1 a k = S.2.1 a k) := by
  intro r
  induction r with
  | zero =>
    intro i S hi h
    have e : i = 420 := by omega
    refine ⟨S, ?_, rv_fr.rf _ _, fun k h1 h2 => absurd h2 (by omega), fun _ _ => rfl⟩
    have h1 : (420 : Int32) ≤ nI i := by rw [e]; exact nI_le (Nat.le_refl 420) (by decide)
    rw [Nat.add_zero, cX13_plain_2, if_pos h1]
  | succ r ih =>
    intro i S hi h
    have hB : rv_B (rv_sI S a i 0) := h
    obtain ⟨S', e, f, g1, g2⟩ := ih (i + 1) _ (by omega) hB
    have e1 : q + 1 + (r + 1) = (q + 1 + r) + 1 := by omega
    refine ⟨S', ?_, ((rv_fr.sI S a i 0)).tr f, fun k h1 h2 => ?_, fun k hk => ?_⟩
    · rw [e1, rv_plain_1 h h64 ha hm hm2 (by omega)]
      exact e
    · by_cases hk : k = i
      · rw [g2 k (Or.inl (by omega)), hk, rv_sI_eq]
      · exact g1 k (by omega) h2
    · rw [g2 k (by omega), rv_sI_k _ _ (by omega)]
