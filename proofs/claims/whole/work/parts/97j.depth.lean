/-! THE SEARCH: how deep a place stands; the first hit is a fewest one (pure) -/
section
variable {m : Nat → Nat} {s0 : St}
/-- the place i stands k deep -/
def Chn (P : Nat → Nat) : Nat → Nat → Prop
  | 0, i => i = 0
  | k + 1, i => 0 < i ∧ Chn P k (P i)
theorem Chn_ex {P : Nat → Nat} {t : Nat} (hP : ∀ i, 1 ≤ i → i < t → P i < i) : ∀ b i, i < b → i < t → ∃ k, k ≤ i ∧ Chn P k i := by
  intro b
  induction b with
  | zero => intro i h; omega
  | succ b ih =>
    intro i h1 h2
    by_cases e : i = 0
    · exact ⟨0, Nat.zero_le _, e⟩
    · have := hP i (by omega) h2
      obtain ⟨k, h3, h4⟩ := ih (P i) (by omega) (by omega)
      exact ⟨k + 1, by omega, by omega, h4⟩
theorem Chn_un {P : Nat → Nat} : ∀ k k' i, Chn P k i → Chn P k' i → k = k' := by
  intro k
  induction k with
  | zero =>
    intro k' i h h'
    cases k' with
    | zero => rfl
    | succ k' =>
      have h : i = 0 := h
      have := h'.1
      omega
  | succ k ih =>
    intro k' i h h'
    cases k' with
    | zero =>
      have h' : i = 0 := h'
      have := h.1
      omega
    | succ k' => rw [ih k' (P i) h.2 h'.2]
theorem Chn_mono {P : Nat → Nat} {t : Nat} (hM : ∀ i j, i ≤ j → j < t → P i ≤ P j) (hP : ∀ i, 1 ≤ i → i < t → P i < i) : ∀ k k' i j, i ≤ j → j < t → Chn P k i → Chn P k' j → k ≤ k' := by
  intro k
  induction k with
  | zero => intro k' i j _ _ _ _; exact Nat.zero_le _
  | succ k ih =>
    intro k' i j hij hj h h'
    cases k' with
    | zero =>
      have h' : j = 0 := h'
      have := h.1
      omega
    | succ k' =>
      have h1 := h'.1
      have := ih k' (P i) (P j) (hM i j hij hj) (by have := hP j h1 hj; omega) h.2 h'.2
      omega
theorem Chn_cong {P P' : Nat → Nat} {t : Nat} (hP : ∀ i, 1 ≤ i → i < t → P i < i) (e : ∀ i, i < t → P' i = P i) : ∀ k i, i < t → Chn P k i → Chn P' k i := by
  intro k
  induction k with
  | zero => intro i _ h; exact h
  | succ k ih =>
    intro i hi h
    have h1 := h.1
    have := hP i h1 hi
    exact ⟨h1, by rw [e i hi]; exact ih (P i) (by omega) h.2⟩
theorem BI_P {c : Cf} (hb : BI m s0 c) : ∀ i, 1 ≤ i → i < c.1 → c.2.2 i < i := fun i h1 h2 => (hb.2.2.2.2.2 i h1 h2).1
theorem BI_R {c : Cf} (hb : BI m s0 c) : ∀ k i, i < c.1 → Chn c.2.2 k i → Rch m s0 k (c.2.1 i) := by
  intro k
  induction k with
  | zero =>
    intro i _ h
    have h : i = 0 := h
    rw [h]
    exact hb.2.1
  | succ k ih =>
    intro i hi h
    have h1 := h.1
    obtain ⟨q1, q2, q3⟩ := hb.2.2.2.2.2 i h1 hi
    refine ⟨c.2.1 (c.2.2 i), (c.2.1 i).1, ih _ (by omega) h.2, (hb.2.2.2.1 i hi).1.1, q2, ?_⟩
    exact q3
/-- what is nearer than the head has been looked at -/
theorem BS_near {h K : Nat} (hb : BS m s0 h) (hh : h < (bfs m s0 h).1) (hK : Chn (bfs m s0 h).2.2 K h) : ∀ k s, k < K → Rch m s0 k s → ∃ i, i < h ∧ (bfs m s0 h).2.1 i = s := by
  obtain ⟨b1, b2, b3, b4⟩ := hb
  have hP := BI_P b1
  have back : ∀ i k', i < (bfs m s0 h).1 → Chn (bfs m s0 h).2.2 k' i → k' < K → i < h := fun i k' hi hk' hlt => by
    refine Nat.lt_of_not_le fun hle => ?_
    have := Chn_mono b2.2 hP K k' h i hle hi hK hk'
    omega
  have key : ∀ k s, k < K → Rch m s0 k s → ∃ i k', i < (bfs m s0 h).1 ∧ (bfs m s0 h).2.1 i = s ∧ k' ≤ k ∧ Chn (bfs m s0 h).2.2 k' i := by
    intro k
    induction k with
    | zero =>
      intro s _ hr
      have hr : s = s0 := hr
      exact ⟨0, 0, by have := b1.1; omega, by rw [hr]; exact b1.2.1, Nat.le_refl _, rfl⟩
    | succ k ih =>
      intro s hk hr
      obtain ⟨s', w, r1, r2, r3, r4⟩ := hr
      obtain ⟨i, k', i1, i2, i3, i4⟩ := ih s' (by omega) r1
      have ih' := back i k' i1 i4 (by omega)
      obtain ⟨j, j1, j2, j3⟩ := b3 i ih' w r2 (by rw [i2]; exact r3)
      by_cases e : j = 0
      · exact ⟨0, 0, by omega, by rw [← e, j2, i2, r4], Nat.zero_le _, rfl⟩
      · have hPj := hP j (by omega) j1
        obtain ⟨k2, -, c2⟩ := Chn_ex hP ((bfs m s0 h).2.2 j + 1) ((bfs m s0 h).2.2 j) (by omega) (by omega)
        have := Chn_mono b2.2 hP k2 k' ((bfs m s0 h).2.2 j) i j3 i1 c2 i4
        exact ⟨j, k2 + 1, j1, by rw [j2, i2, r4], by omega, by omega, c2⟩
  intro k s hk hr
  obtain ⟨i, k', i1, i2, i3, i4⟩ := key k s hk hr
  exact ⟨i, back i k' i1 i4 (by omega), i2⟩
/-- the first hit stands below 480 -/
theorem BS_short (hk : okm m) (h0 : okS m s0) (hl : s0.2.length ≤ vN m) {h K w : Nat} (hw : w < vW m) (hb : BS m s0 h) (hh : h < (bfs m s0 h).1) (hK : Chn (bfs m s0 h).2.2 K h) (hg : gok m ((bfs m s0 h).2.1 h) w) (hno : ∀ i, i < h → ¬ gok m ((bfs m s0 h).2.1 i) w) : K + 1 ≤ 480 := by
  refine short hk h0 hl hw (BI_R hb.1 K h hh hK) hg fun k s' hr hg' => ?_
  refine Nat.le_of_not_lt fun hlt => ?_
  obtain ⟨i, i1, i2⟩ := BS_near hb hh hK k s' hlt hr
  exact hno i i1 (by rw [i2]; exact hg')
end
