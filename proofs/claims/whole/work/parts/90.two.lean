/-! TWO DAYS: the fewest coins today that leave enough for tomorrow -/
section
variable (e1 e2 : Nat → Bool) (d : Nat → Nat)
def Lg : Nat → Nat → Nat → Nat
  | 0, x, y => if x = 0 ∧ y = 0 then 69269232549888 else 0
  | i + 1, x, y => if e2 i = true ∧ d i ≤ y then max (if e1 i = true ∧ d i ≤ x then max (Lg i x y) (hvy i (Lg i (x - d i) y)) else Lg i x y) (Lg i x (y - d i)) else (if e1 i = true ∧ d i ≤ x then max (Lg i x y) (hvy i (Lg i (x - d i) y)) else Lg i x y)
/-- a choice for both days -/
def vp (A T : Nat → Bool) (i : Nat) : Prop := ∀ k, k < i → (A k = true → e1 k = true) ∧ (T k = true → e2 k = true ∧ A k = false)
end
section
variable {e1 e2 : Nat → Bool} {d : Nat → Nat} {A T : Nat → Bool}
theorem vp.mono {i j : Nat} (h : vp e1 e2 A T j) (hij : i ≤ j) : vp e1 e2 A T i := fun k hk => h k (by omega)
theorem Lg_up : ∀ i, i ≤ 40 → ∀ A T, vp e1 e2 A T i → Wt A i ≤ Lg e1 e2 d i (fS d A i) (fS d T i)
  | 0, _, A, T, _ => by
    show (63 - 0) * 1099511627776 + 0 ≤ if fS d A 0 = 0 ∧ fS d T 0 = 0 then 69269232549888 else 0
    rw [if_pos ⟨rfl, rfl⟩]
    decide
  | i + 1, hi, A, T, h => by
    have ih := Lg_up i (by omega) A T (h.mono (by omega))
    obtain ⟨h1, h2⟩ := h i (by omega)
    have cT : fS d T (i + 1) = if T i = true then fS d T i + d i else fS d T i := by rw [fS, sm_s, ← fS]
    have cA : fS d A (i + 1) = if A i = true then fS d A i + d i else fS d A i := by rw [fS, sm_s, ← fS]
    rw [cT, cA, Lg]
    cases hT : T i
    · rw [if_neg nft]
      have key : Wt A (i + 1) ≤ if e1 i = true ∧ d i ≤ (if A i = true then fS d A i + d i else fS d A i) then max (Lg e1 e2 d i (if A i = true then fS d A i + d i else fS d A i) (fS d T i)) (hvy i (Lg e1 e2 d i ((if A i = true then fS d A i + d i else fS d A i) - d i) (fS d T i))) else Lg e1 e2 d i (if A i = true then fS d A i + d i else fS d A i) (fS d T i) := by
        cases hA : A i
        · rw [if_neg nft, Wt_0 hA]
          by_cases c : e1 i = true ∧ d i ≤ fS d A i
          · rw [if_pos c]; exact Nat.le_trans ih (Nat.le_max_left _ _)
          · rw [if_neg c]; exact ih
        · obtain ⟨w1, w2⟩ := Wt_1 (by omega) hA
          rw [if_pos rfl, if_pos ⟨h1 hA, by omega⟩, w1, show fS d A i + d i - d i = fS d A i by omega]
          refine Nat.le_trans ?_ (Nat.le_max_right _ _)
          rw [hvy, hvy, if_neg (by omega), if_neg (by omega)]
          omega
      split
      · exact Nat.le_trans key (Nat.le_max_left _ _)
      · exact key
    · obtain ⟨q1, q2⟩ := h2 hT
      rw [if_pos rfl, q2, if_neg nft, if_pos ⟨q1, by omega⟩, Wt_0 q2, show fS d T i + d i - d i = fS d T i by omega]
      exact Nat.le_trans ih (Nat.le_max_right _ _)
theorem cut_lt {i k : Nat} (h : k < i) : (A k && decide (k < i)) = A k := by rw [decide_eq_true h, Bool.and_true]
theorem cut_ge {i k : Nat} (h : ¬ k < i) : (A k && decide (k < i)) = false := by rw [decide_eq_false h, Bool.and_false]
theorem add_lt {i k : Nat} (h : k < i) : (A k || decide (i ≤ k)) = A k := by rw [decide_eq_false (by omega), Bool.or_false]
theorem add_ge {i k : Nat} (h : i ≤ k) : (A k || decide (i ≤ k)) = true := by rw [decide_eq_true h, Bool.or_true]
theorem fS_c0 (i : Nat) : fS d (fun k => A k && decide (k < i)) (i + 1) = fS d A i := by
  rw [fS, sm_s, cut_ge (by omega), if_neg nft]
  exact fS_cong fun k hk => cut_lt hk
theorem fS_c1 (i : Nat) : fS d (fun k => A k || decide (i ≤ k)) (i + 1) = fS d A i + d i := by
  rw [fS, sm_s, add_ge (Nat.le_refl i), if_pos rfl]
  exact congrArg (· + d i) (fS_cong fun k hk => add_lt hk)
theorem Lg_at : ∀ i, i ≤ 40 → ∀ x y, Lg e1 e2 d i x y = 0 ∨ ∃ A T, vp e1 e2 A T i ∧ fS d A i = x ∧ fS d T i = y ∧ Lg e1 e2 d i x y = Wt A i
  | 0, _, x, y => by
    by_cases h : x = 0 ∧ y = 0
    · refine Or.inr ⟨fun _ => false, fun _ => false, fun k hk => absurd hk (Nat.not_lt_zero k), h.1.symm, h.2.symm, ?_⟩
      show (if x = 0 ∧ y = 0 then 69269232549888 else 0) = (63 - 0) * 1099511627776 + 0
      rw [if_pos h]
    · exact Or.inl (if_neg h)
  | i + 1, hi, x, y => by
    rw [Lg]
    have old : ∀ z, Lg e1 e2 d i x z = 0 ∨ ∃ A T, vp e1 e2 A T (i + 1) ∧ A i = false ∧ T i = false ∧ fS d A (i + 1) = x ∧ fS d T (i + 1) = z ∧ fS d T i = z ∧ Lg e1 e2 d i x z = Wt A (i + 1) := by
      intro z
      rcases Lg_at i (by omega) x z with h | ⟨A, T, h1, h2, h3, h4⟩
      · exact Or.inl h
      · refine Or.inr ⟨fun k => A k && decide (k < i), fun k => T k && decide (k < i), fun k hk => ?_, cut_ge (by omega), cut_ge (by omega), (fS_c0 i).trans h2, (fS_c0 i).trans h3, (fS_cong fun k hk => cut_lt hk).trans h3, ?_⟩
        · by_cases c : k < i
          · have g1 : (A k && decide (k < i)) = A k := cut_lt c
            have g2 : (T k && decide (k < i)) = T k := cut_lt c
            show ((A k && decide (k < i)) = true → _) ∧ ((T k && decide (k < i)) = true → _ ∧ (A k && decide (k < i)) = false)
            rw [g1, g2]; exact h1 k c
          · have g1 : (A k && decide (k < i)) = false := cut_ge c
            have g2 : (T k && decide (k < i)) = false := cut_ge c
            show ((A k && decide (k < i)) = true → _) ∧ ((T k && decide (k < i)) = true → _ ∧ (A k && decide (k < i)) = false)
            rw [g1, g2]; exact ⟨fun z => absurd z nft, fun z => absurd z nft⟩
        · rw [h4, Wt_0 (A := fun k => A k && decide (k < i)) (cut_ge (by omega))]
          exact (Wt_cong fun k hk => cut_lt hk).symm
    have fst : (if e1 i = true ∧ d i ≤ x then max (Lg e1 e2 d i x y) (hvy i (Lg e1 e2 d i (x - d i) y)) else Lg e1 e2 d i x y) = 0 ∨ ∃ A T, vp e1 e2 A T (i + 1) ∧ fS d A (i + 1) = x ∧ fS d T (i + 1) = y ∧ (if e1 i = true ∧ d i ≤ x then max (Lg e1 e2 d i x y) (hvy i (Lg e1 e2 d i (x - d i) y)) else Lg e1 e2 d i x y) = Wt A (i + 1) := by
      have old' : Lg e1 e2 d i x y = 0 ∨ ∃ A T, vp e1 e2 A T (i + 1) ∧ fS d A (i + 1) = x ∧ fS d T (i + 1) = y ∧ Lg e1 e2 d i x y = Wt A (i + 1) := by
        rcases old y with h | ⟨A, T, h1, -, -, h2, h3, -, h4⟩
        · exact Or.inl h
        · exact Or.inr ⟨A, T, h1, h2, h3, h4⟩
      by_cases c : e1 i = true ∧ d i ≤ x
      · rw [if_pos c]
        have new : hvy i (Lg e1 e2 d i (x - d i) y) = 0 ∨ ∃ A T, vp e1 e2 A T (i + 1) ∧ fS d A (i + 1) = x ∧ fS d T (i + 1) = y ∧ hvy i (Lg e1 e2 d i (x - d i) y) = Wt A (i + 1) := by
          rcases Lg_at i (by omega) (x - d i) y with h | ⟨A, T, h1, h2, h3, h4⟩
          · exact Or.inl (by rw [h]; rfl)
          · refine Or.inr ⟨fun k => A k || decide (i ≤ k), fun k => T k && decide (k < i), fun k hk => ?_, ?_, (fS_c0 i).trans h3, ?_⟩
            · by_cases c' : k < i
              · have g1 : (A k || decide (i ≤ k)) = A k := add_lt c'
                have g2 : (T k && decide (k < i)) = T k := cut_lt c'
                show ((A k || decide (i ≤ k)) = true → _) ∧ ((T k && decide (k < i)) = true → _ ∧ (A k || decide (i ≤ k)) = false)
                rw [g1, g2]; exact h1 k c'
              · have g2 : (T k && decide (k < i)) = false := cut_ge c'
                have ek : k = i := by omega
                show ((A k || decide (i ≤ k)) = true → _) ∧ ((T k && decide (k < i)) = true → _ ∧ (A k || decide (i ≤ k)) = false)
                rw [g2]; exact ⟨fun _ => by rw [ek]; exact c.1, fun z => absurd z nft⟩
            · rw [fS_c1, h2]; omega
            · rw [(Wt_1 (A := fun k => A k || decide (i ≤ k)) (by omega) (add_ge (Nat.le_refl i))).1, h4]
              exact congrArg (hvy i) (Wt_cong fun k hk => add_lt hk).symm
        rcases Nat.le_total (Lg e1 e2 d i x y) (hvy i (Lg e1 e2 d i (x - d i) y)) with h | h
        · rw [Nat.max_eq_right h]; exact new
        · rw [Nat.max_eq_left h]; exact old'
      · rw [if_neg c]; exact old'
    by_cases c : e2 i = true ∧ d i ≤ y
    · rw [if_pos c]
      have tom : Lg e1 e2 d i x (y - d i) = 0 ∨ ∃ A T, vp e1 e2 A T (i + 1) ∧ fS d A (i + 1) = x ∧ fS d T (i + 1) = y ∧ Lg e1 e2 d i x (y - d i) = Wt A (i + 1) := by
        rcases old (y - d i) with h | ⟨A, T, h1, hA, hT, h2, h3, h3', h4⟩
        · exact Or.inl h
        · refine Or.inr ⟨A, fun k => T k || decide (i ≤ k), fun k hk => ?_, h2, ?_, h4⟩
          · by_cases c' : k < i
            · have g2 : (T k || decide (i ≤ k)) = T k := add_lt c'
              show (A k = true → _) ∧ ((T k || decide (i ≤ k)) = true → _ ∧ A k = false)
              rw [g2]; exact h1 k (by omega)
            · have ek : k = i := by omega
              refine ⟨(h1 k hk).1, fun _ => ?_⟩
              rw [ek]; exact ⟨c.1, hA⟩
          · rw [fS_c1, h3']; omega
      obtain ⟨W, eW⟩ : ∃ W, W = (if e1 i = true ∧ d i ≤ x then max (Lg e1 e2 d i x y) (hvy i (Lg e1 e2 d i (x - d i) y)) else Lg e1 e2 d i x y) := ⟨_, rfl⟩
      rw [← eW] at fst ⊢
      rcases Nat.le_total W (Lg e1 e2 d i x (y - d i)) with h | h
      · rw [Nat.max_eq_right h]; exact tom
      · rw [Nat.max_eq_left h]; exact fst
    · rw [if_neg c]; exact fst
/-! from the end -/
def tg (e1 e2 : Nat → Bool) (d : Nat → Nat) (N : Nat) : Nat → Nat → Nat → Nat
  | 0, x, y => if x + y = 0 then 0 else 10000
  | k + 1, x, y =>
    let b := if x < ddv e1 d (N - (k + 1)) then tg e1 e2 d N k x y else if tg e1 e2 d N k x y ≤ tg e1 e2 d N k (x - ddv e1 d (N - (k + 1))) y + 1 then tg e1 e2 d N k x y else tg e1 e2 d N k (x - ddv e1 d (N - (k + 1))) y + 1
    if y < ddv e2 d (N - (k + 1)) then b else if b ≤ tg e1 e2 d N k x (y - ddv e2 d (N - (k + 1))) then b else tg e1 e2 d N k x (y - ddv e2 d (N - (k + 1)))
variable {N n m : Nat}
/-- three ways: what the table takes -/
theorem tg_w {k x y : Nat} : tg e1 e2 d N (k + 1) x y ≤ tg e1 e2 d N k x y ∧ (ddv e1 d (N - (k + 1)) ≤ x → tg e1 e2 d N (k + 1) x y ≤ tg e1 e2 d N k (x - ddv e1 d (N - (k + 1))) y + 1) ∧ (ddv e2 d (N - (k + 1)) ≤ y → tg e1 e2 d N (k + 1) x y ≤ tg e1 e2 d N k x (y - ddv e2 d (N - (k + 1)))) ∧ (tg e1 e2 d N (k + 1) x y = tg e1 e2 d N k x y ∨ (ddv e1 d (N - (k + 1)) ≤ x ∧ tg e1 e2 d N (k + 1) x y = tg e1 e2 d N k (x - ddv e1 d (N - (k + 1))) y + 1) ∨ (ddv e2 d (N - (k + 1)) ≤ y ∧ tg e1 e2 d N (k + 1) x y = tg e1 e2 d N k x (y - ddv e2 d (N - (k + 1))))) := by
  rw [tg]
  generalize tg e1 e2 d N k x y = p
  generalize tg e1 e2 d N k (x - ddv e1 d (N - (k + 1))) y = q
  generalize tg e1 e2 d N k x (y - ddv e2 d (N - (k + 1))) = r
  generalize ddv e1 d (N - (k + 1)) = D1
  generalize ddv e2 d (N - (k + 1)) = D2
  by_cases c1 : x < D1
  · rw [if_pos c1]
    by_cases c2 : y < D2
    · rw [if_pos c2]; omega
    · rw [if_neg c2]
      by_cases c3 : p ≤ r
      · rw [if_pos c3]; omega
      · rw [if_neg c3]; omega
  · rw [if_neg c1]
    by_cases c4 : p ≤ q + 1
    · rw [if_pos c4]
      by_cases c2 : y < D2
      · rw [if_pos c2]; omega
      · rw [if_neg c2]
        by_cases c3 : p ≤ r
        · rw [if_pos c3]; omega
        · rw [if_neg c3]; omega
    · rw [if_neg c4]
      by_cases c2 : y < D2
      · rw [if_pos c2]; omega
      · rw [if_neg c2]
        by_cases c3 : q + 1 ≤ r
        · rw [if_pos c3]; omega
        · rw [if_neg c3]; omega
theorem tg_cap : ∀ k x y, tg e1 e2 d N k x y ≤ 10000
  | 0, x, y => by rw [tg]; split <;> omega
  | k + 1, x, y => Nat.le_trans tg_w.1 (tg_cap k x y)
theorem tg_low (h : vp e1 e2 A T N) : ∀ k, k ≤ N → tg e1 e2 d N k (sf (fun k => if A k then d k else 0) N k) (sf (fun k => if T k then d k else 0) N k) ≤ sf (cf A) N k
  | 0, _ => by rw [sf, sf, tg, if_pos rfl]; exact Nat.zero_le _
  | k + 1, hk => by
    have ih := tg_low h k (by omega)
    obtain ⟨h1, h2⟩ := h (N - (k + 1)) (by omega)
    have w := tg_w (e1 := e1) (e2 := e2) (d := d) (N := N) (k := k) (x := sf (fun k => if A k then d k else 0) N (k + 1)) (y := sf (fun k => if T k then d k else 0) N (k + 1))
    have sA : sf (fun k => if A k then d k else 0) N (k + 1) = (if A (N - (k + 1)) then d (N - (k + 1)) else 0) + sf (fun k => if A k then d k else 0) N k := rfl
    have sT : sf (fun k => if T k then d k else 0) N (k + 1) = (if T (N - (k + 1)) then d (N - (k + 1)) else 0) + sf (fun k => if T k then d k else 0) N k := rfl
    have sC : sf (cf A) N (k + 1) = (if A (N - (k + 1)) then 1 else 0) + sf (cf A) N k := rfl
    rw [sA, sT] at w
    rw [sA, sT, sC]
    cases hT : T (N - (k + 1))
    · rw [hT, if_neg nft, Nat.zero_add] at w
      rw [if_neg nft, Nat.zero_add]
      cases hA : A (N - (k + 1))
      · rw [hA, if_neg nft, Nat.zero_add] at w
        rw [if_neg nft, if_neg nft, Nat.zero_add, Nat.zero_add]
        exact Nat.le_trans w.1 ih
      · have eD : ddv e1 d (N - (k + 1)) = d (N - (k + 1)) := if_pos (h1 hA)
        rw [hA, if_pos rfl, eD] at w
        rw [if_pos rfl, if_pos rfl]
        have := w.2.1 (by omega)
        rw [Nat.add_sub_cancel_left] at this
        omega
    · obtain ⟨q1, q2⟩ := h2 hT
      have eD : ddv e2 d (N - (k + 1)) = d (N - (k + 1)) := if_pos q1
      rw [hT, if_pos rfl, q2, if_neg nft, eD, Nat.zero_add] at w
      rw [if_pos rfl, q2, if_neg nft, if_neg nft, Nat.zero_add, Nat.zero_add]
      have := w.2.2.1 (by omega)
      rw [Nat.add_sub_cancel_left] at this
      omega
end
