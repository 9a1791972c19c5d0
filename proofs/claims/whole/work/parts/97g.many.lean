/-! THE SEARCH: how many states there can be -/
section
variable {m : Nat → Nat}
theorem ph : ∀ (M t : Nat) (f : Nat → Nat), (∀ i, i < t → f i < M) → (∀ i j, i < t → j < t → f i = f j → i = j) → t ≤ M
  | 0, t, f, h, _ => by
    refine Nat.le_of_not_lt fun c => ?_
    exact absurd (h 0 c) (Nat.not_lt_zero _)
  | M + 1, t, f, h, hi => by
    by_cases c : ∃ i0, i0 < t ∧ f i0 = M
    · obtain ⟨i0, h0, e0⟩ := c
      have := ph M (t - 1) (fun i => f (if i = i0 then t - 1 else i)) (fun i hi' => by
        show f (if i = i0 then t - 1 else i) < M
        by_cases e : i = i0
        · rw [if_pos e]
          have h1 := h (t - 1) (by omega)
          have h2 : f (t - 1) ≠ M := fun z => by
            have := hi (t - 1) i0 (by omega) h0 (z.trans e0.symm)
            omega
          omega
        · rw [if_neg e]
          have h1 := h i (by omega)
          have h2 : f i ≠ M := fun z => e (hi i i0 (by omega) h0 (z.trans e0.symm))
          omega) (fun i j hi' hj' e => by
        have e : f (if i = i0 then t - 1 else i) = f (if j = i0 then t - 1 else j) := e
        by_cases ei : i = i0
        · by_cases ej : j = i0
          · omega
          · rw [if_pos ei, if_neg ej] at e
            have := hi (t - 1) j (by omega) (by omega) e
            omega
        · by_cases ej : j = i0
          · rw [if_neg ei, if_pos ej] at e
            have := hi i (t - 1) (by omega) (by omega) e
            omega
          · rw [if_neg ei, if_neg ej] at e
            exact hi i j (by omega) (by omega) e)
      omega
    · have := ph M t f (fun i hi' => by
        have h1 := h i hi'
        have h2 : f i ≠ M := fun z => c ⟨i, hi', z⟩
        omega) hi
      omega
/-- the rank of four unlike numbers below 24 -/
def r2 (a b : Nat) : Nat := if a < b then b - 1 else b
def r3 (a b c : Nat) : Nat := (if a < c then (if b < c then c - 2 else c - 1) else (if b < c then c - 1 else c))
def r4 (a b c d : Nat) : Nat := d - (if a < d then 1 else 0) - (if b < d then 1 else 0) - (if c < d then 1 else 0)
def rk4 (a b c d : Nat) : Nat := ((a * 23 + r2 a b) * 22 + r3 a b c) * 21 + r4 a b c d
theorem r2_lt {a b : Nat} (ha : a < 24) (hb : b < 24) (h : a ≠ b) : r2 a b < 23 := by unfold r2; split <;> omega
theorem r3_lt {a b c : Nat} (ha : a < 24) (hb : b < 24) (hc : c < 24) (h1 : a ≠ b) (h2 : a ≠ c) (h3 : b ≠ c) : r3 a b c < 22 := by
  unfold r3
  split <;> split <;> omega
theorem r4_lt {a b c d : Nat} (ha : a < 24) (hb : b < 24) (hc : c < 24) (hd : d < 24) (h1 : a ≠ b) (h2 : a ≠ c) (h3 : b ≠ c) (h4 : a ≠ d) (h5 : b ≠ d) (h6 : c ≠ d) : r4 a b c d < 21 := by
  unfold r4
  split <;> split <;> split <;> omega
theorem r2_inj {a b b' : Nat} (h : a ≠ b) (h' : a ≠ b') (e : r2 a b = r2 a b') : b = b' := by
  unfold r2 at e
  split at e <;> split at e <;> omega
theorem r3_inj {a b c c' : Nat} (h : a ≠ b) (h1 : a ≠ c) (h2 : b ≠ c) (h1' : a ≠ c') (h2' : b ≠ c') (e : r3 a b c = r3 a b c') : c = c' := by
  unfold r3 at e
  split at e <;> split at e <;> split at e <;> split at e <;> omega
theorem r4_inj {a b c d d' : Nat} (h1 : a ≠ b) (h2 : a ≠ c) (h3 : b ≠ c) (h4 : a ≠ d) (h5 : b ≠ d) (h6 : c ≠ d) (h4' : a ≠ d') (h5' : b ≠ d') (h6' : c ≠ d') (e : r4 a b c d = r4 a b c d') : d = d' := by
  unfold r4 at e
  by_cases q1 : a < d <;> by_cases q2 : b < d <;> by_cases q3 : c < d <;> by_cases q4 : a < d' <;> by_cases q5 : b < d' <;> by_cases q6 : c < d' <;> simp only [q1, q2, q3, q4, q5, q6, if_true, if_false] at e <;> omega
def d4b (s : St) : Bool := match s.2 with
  | [a, b, c] => decide (s.1 ≠ a ∧ s.1 ≠ b ∧ s.1 ≠ c ∧ a ≠ b ∧ a ≠ c ∧ b ≠ c)
  | _ => false
theorem d4b_of {s : St} (h : dst4 s) : d4b s = true := by
  obtain ⟨a, b, c, e, h1⟩ := h
  unfold d4b
  rw [e]
  exact decide_eq_true h1
theorem d4b_to {s : St} (h : d4b s = true) : dst4 s := by
  obtain ⟨o, l⟩ := s
  unfold d4b at h
  match l, h with
  | [a, b, c], h => exact ⟨a, b, c, rfl, of_decide_eq_true h⟩
def rkS (R : Nat) (s0 s : St) : Nat :=
  if R ≤ 2 then 625 * s.1 + 25 * c25 s.2 0 + c25 s.2 1
  else if d4b s = true then rk4 s.1 (s.2.getD 0 0) (s.2.getD 1 0) (s.2.getD 2 0)
  else if s = s0 then 255024
  else if s.2 = (s0.1 :: s0.2).take 3 then 255025 + s.1
  else 255050 + (24 * s.1 + s.2.getD 0 0)
theorem rk4_lt {s : St} (h24 : vW m ≤ 24) (hs : okS m s) (h : dst4 s) : rk4 s.1 (s.2.getD 0 0) (s.2.getD 1 0) (s.2.getD 2 0) < 255024 := by
  obtain ⟨a, b, c, e, h1, h2, h3, h4, h5, h6⟩ := h
  obtain ⟨k1, -, k2⟩ := hs
  rw [e] at k2
  have ka := k2 a (by simp)
  have kb := k2 b (by simp)
  have kc := k2 c (by simp)
  rw [e]
  show rk4 s.1 a b c < 255024
  have x1 := r2_lt (a := s.1) (b := a) (by omega) (by omega) h1
  have x2 := r3_lt (a := s.1) (b := a) (c := b) (by omega) (by omega) (by omega) h1 h2 h4
  have x3 := r4_lt (a := s.1) (b := a) (c := b) (d := c) (by omega) (by omega) (by omega) (by omega) h1 h2 h4 h3 h5 h6
  unfold rk4
  omega
theorem rk4_inj {s s' : St} (h24 : vW m ≤ 24) (hs : okS m s) (hs' : okS m s') (h : dst4 s) (h' : dst4 s') (e : rk4 s.1 (s.2.getD 0 0) (s.2.getD 1 0) (s.2.getD 2 0) = rk4 s'.1 (s'.2.getD 0 0) (s'.2.getD 1 0) (s'.2.getD 2 0)) : s = s' := by
  obtain ⟨o, l⟩ := s
  obtain ⟨o', l'⟩ := s'
  obtain ⟨a, b, c, el, h1, h2, h3, h4, h5, h6⟩ := h
  obtain ⟨a', b', c', el', h1', h2', h3', h4', h5', h6'⟩ := h'
  obtain ⟨k1, -, k2⟩ := hs
  obtain ⟨k1', -, k2'⟩ := hs'
  dsimp only at el el' h1 h2 h3 h1' h2' h3' k1 k1' k2 k2' e
  subst el
  subst el'
  have ka := k2 a (by simp)
  have kb := k2 b (by simp)
  have kc := k2 c (by simp)
  have ka' := k2' a' (by simp)
  have kb' := k2' b' (by simp)
  have kc' := k2' c' (by simp)
  have e : rk4 o a b c = rk4 o' a' b' c' := e
  have x1 := r2_lt (a := o) (b := a) (by omega) (by omega) h1
  have x2 := r3_lt (a := o) (b := a) (c := b) (by omega) (by omega) (by omega) h1 h2 h4
  have x3 := r4_lt (a := o) (b := a) (c := b) (d := c) (by omega) (by omega) (by omega) (by omega) h1 h2 h4 h3 h5 h6
  have y1 := r2_lt (a := o') (b := a') (by omega) (by omega) h1'
  have y2 := r3_lt (a := o') (b := a') (c := b') (by omega) (by omega) (by omega) h1' h2' h4'
  have y3 := r4_lt (a := o') (b := a') (c := b') (d := c') (by omega) (by omega) (by omega) (by omega) h1' h2' h4' h3' h5' h6'
  unfold rk4 at e
  have eo : o = o' := by omega
  have e2 : r2 o a = r2 o' a' := by omega
  have e3 : r3 o a b = r3 o' a' b' := by omega
  have e4 : r4 o a b c = r4 o' a' b' c' := by omega
  subst eo
  have ea := r2_inj h1 h1' e2
  subst ea
  have eb := r3_inj h1 h2 h4 h2' h4' e3
  subst eb
  have ec := r4_inj h1 h2 h4 h3 h5 h6 h3' h5' h6' e4
  subst ec
  rfl
theorem rkS_lt (hp : okp m) {s0 s : St} (hs : okS m s) (hT : vN m = 3 → Tf s0 s) : rkS (vN m) s0 s < 255640 := by
  have h24 := hp.1
  have c0 := c25_lt hp hs.2 0
  have c1 := c25_lt hp hs.2 1
  have k1 := hs.1
  unfold rkS
  split
  · omega
  · split
    · next h => have := rk4_lt h24 hs (d4b_to h); omega
    · split
      · omega
      · split
        · omega
        · have : s.2.getD 0 0 < 24 := by
            rw [List.getD_eq_getElem?_getD]
            cases h : s.2[0]? with
            | none => show 0 < 24; decide
            | some x =>
              have := hs.2.2 x (List.mem_of_getElem? h)
              show x < 24
              omega
          omega
theorem rkS_inj (hp : okp m) (hN : vN m ≤ 3) {s0 s s' : St} (hs : okS m s) (hs' : okS m s') (hl : s.2.length ≤ vN m) (hl' : s'.2.length ≤ vN m) (hT : vN m = 3 → Tf s0 s) (hT' : vN m = 3 → Tf s0 s') (e : rkS (vN m) s0 s = rkS (vN m) s0 s') : s = s' := by
  have h24 := hp.1
  unfold rkS at e
  by_cases c : vN m ≤ 2
  · rw [if_pos c, if_pos c] at e
    have c0 := c25_lt hp hs.2 0
    have c1 := c25_lt hp hs.2 1
    have c0' := c25_lt hp hs'.2 0
    have c1' := c25_lt hp hs'.2 1
    have k1 := hs.1
    have k2 := hs'.1
    have e1 : s.1 = s'.1 := by omega
    have e2 : s.2 = s'.2 := c25_inj hs.2.1 hs'.2.1 fun i hi => by
      have : i = 0 ∨ i = 1 ∨ i = 2 := by omega
      rcases this with rfl | rfl | rfl
      · omega
      · omega
      · unfold c25
        rw [List.getElem?_eq_none (by omega), List.getElem?_eq_none (by omega)]
    exact Prod.ext e1 e2
  · have h3 : vN m = 3 := by omega
    rw [if_neg c, if_neg c] at e
    have T := hT h3
    have T' := hT' h3
    by_cases d : d4b s = true
    · have L := rk4_lt h24 hs (d4b_to d)
      rw [if_pos d] at e
      by_cases d' : d4b s' = true
      · rw [if_pos d'] at e
        exact rk4_inj h24 hs hs' (d4b_to d) (d4b_to d') e
      · rw [if_neg d'] at e
        exfalso
        split at e
        · omega
        · split at e <;> omega
    · rw [if_neg d] at e
      by_cases d' : d4b s' = true
      · have L := rk4_lt h24 hs' (d4b_to d')
        rw [if_pos d'] at e
        exfalso
        split at e
        · omega
        · split at e <;> omega
      · rw [if_neg d'] at e
        have k1 := hs.1
        have k2 := hs'.1
        by_cases z : s = s0
        · by_cases z' : s' = s0
          · exact z.trans z'.symm
          · rw [if_pos z, if_neg z'] at e
            exfalso
            split at e <;> omega
        · by_cases z' : s' = s0
          · rw [if_neg z, if_pos z'] at e
            exfalso
            split at e <;> omega
          · rw [if_neg z, if_neg z'] at e
            by_cases w : s.2 = (s0.1 :: s0.2).take 3
            · by_cases w' : s'.2 = (s0.1 :: s0.2).take 3
              · rw [if_pos w, if_pos w'] at e
                exact Prod.ext (by omega) (w.trans w'.symm)
              · rw [if_pos w, if_neg w'] at e
                omega
            · by_cases w' : s'.2 = (s0.1 :: s0.2).take 3
              · rw [if_neg w, if_pos w'] at e
                omega
              · rw [if_neg w, if_neg w'] at e
                rcases T with T | ⟨T, -⟩ | ⟨v, T, -⟩ | T
                · exact absurd T z
                · exact absurd T w
                · rcases T' with T' | ⟨T', -⟩ | ⟨v', T', -⟩ | T'
                  · exact absurd T' z'
                  · exact absurd T' w'
                  · have g1 : s.2.getD 0 0 = v := by rw [T]; rfl
                    have g2 : s'.2.getD 0 0 = v' := by rw [T']; rfl
                    have b1 := hs.2.2 v (by rw [T]; exact List.mem_cons_self)
                    have b2 := hs'.2.2 v' (by rw [T']; exact List.mem_cons_self)
                    rw [g1, g2] at e
                    have ev : v = v' := by omega
                    exact Prod.ext (by omega) (by rw [T, T', ev])
                  · exact absurd (d4b_of T') d'
                · exact absurd (d4b_of T) d
/-- no search has more -/
theorem BI_many (hk : okm m) {s0 : St} {c : Cf} (hb : BI m s0 c) (hl : ∀ i, i < c.1 → (c.2.1 i).2.length ≤ vN m) : c.1 ≤ 255640 := by
  obtain ⟨b1, b2, b3, b4, b5, b6⟩ := hb
  exact ph 255640 c.1 (fun i => rkS (vN m) s0 (c.2.1 i)) (fun i hi => rkS_lt hk.1 (b4 i hi).1 (b4 i hi).2) (fun i j hi hj e => b5 i j hi hj (rkS_inj hk.1 hk.2.1.2.1 (b4 i hi).1 (b4 j hj).1 (hl i hi) (hl j hj) (b4 i hi).2 (b4 j hj).2 e))
theorem BI_len {s0 : St} {c : Cf} (hb : BI m s0 c) (h0 : s0.2.length ≤ vN m) : ∀ i, i < c.1 → (c.2.1 i).2.length ≤ vN m := by
  obtain ⟨b1, b2, b3, b4, b5, b6⟩ := hb
  intro i hi
  by_cases e : i = 0
  · rw [e, b2]; exact h0
  · obtain ⟨q1, q2, q3⟩ := b6 i (by omega) hi
    rw [q3]
    show (ps m _ _).length ≤ vN m
    rw [ps, List.length_take]
    omega
theorem BI_cap (hk : okm m) {s0 : St} {c : Cf} (hb : BI m s0 c) (h0 : s0.2.length ≤ vN m) : c.1 ≤ 255640 := BI_many hk hb (BI_len hb h0)
end
