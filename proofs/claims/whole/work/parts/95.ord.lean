/-! ORDERS: the pure part: the best of all orders, and the same with what can't be better left out -/
section
variable {N : Nat} {ev : List Nat → Nat}
abbrev OB := Nat × List Nat
def obU (b : OB) (v : Nat) (o : List Nat) : OB := if b.1 ≤ v then (v + 1, o) else b
def obT (F : List Nat → OB → OB) (pre : List Nat) (b : OB) : Nat → OB
  | 0 => b
  | i + 1 => if pre.contains i = true then obT F pre b i else F (pre ++ [i]) (obT F pre b i)
def TO (N : Nat) (ev : List Nat → Nat) : Nat → List Nat → OB → OB
  | 0, pre, b => obU b (ev pre) pre
  | r + 1, pre, b => obT (fun p c => TO N ev r p c) pre b N
def obC (g : OB → Bool) (F : List Nat → OB → OB) (pre : List Nat) (b : OB) : Nat → OB
  | 0 => b
  | i + 1 => if pre.contains i = true then obC g F pre b i else if g (obC g F pre b i) = true then obC g F pre b i else F (pre ++ [i]) (obC g F pre b i)
def CO (N : Nat) (ev : List Nat → Nat) : Nat → List Nat → OB → OB
  | 0, pre, b => obU b (ev pre) pre
  | r + 1, pre, b => obC (fun c => decide (ev pre + (r + 1) < c.1)) (fun p c => CO N ev r p c) pre b N
theorem obT_id {F : List Nat → OB → OB} {pre : List Nat} {b : OB} (h : ∀ i, F (pre ++ [i]) b = b) : ∀ i, obT F pre b i = b
  | 0 => rfl
  | i + 1 => by
    rw [obT, obT_id h i]
    split
    · rfl
    · exact h i
theorem TO_no (hm : ∀ p i, ev (p ++ [i]) ≤ ev p + 1) : ∀ r pre b, ev pre + r < b.1 → TO N ev r pre b = b
  | 0, pre, b, h => by
    rw [TO, obU, if_neg (by omega)]
  | r + 1, pre, b, h => by
    rw [TO]
    exact obT_id (fun i => TO_no hm r (pre ++ [i]) b (by have := hm pre i; omega)) N
theorem CO_TO (hm : ∀ p i, ev (p ++ [i]) ≤ ev p + 1) : ∀ r pre b, CO N ev r pre b = TO N ev r pre b
  | 0, pre, b => rfl
  | r + 1, pre, b => by
    rw [CO, TO]
    have key : ∀ i, obC (fun c => decide (ev pre + (r + 1) < c.1)) (fun p c => CO N ev r p c) pre b i = obT (fun p c => TO N ev r p c) pre b i := fun i => by
      induction i with
      | zero => rfl
      | succ i ih =>
        rw [obC, obT, ih]
        by_cases c : pre.contains i = true
        · rw [if_pos c, if_pos c]
        · rw [if_neg c, if_neg c]
          obtain ⟨b', eb⟩ : ∃ b', b' = obT (fun p c => TO N ev r p c) pre b i := ⟨_, rfl⟩
          rw [← eb]
          by_cases c2 : ev pre + (r + 1) < b'.1
          · rw [if_pos (decide_eq_true c2)]
            exact (TO_no hm r (pre ++ [i]) b' (by have := hm pre i; omega)).symm
          · rw [if_neg (by rw [decide_eq_false c2]; decide)]
            exact CO_TO hm r (pre ++ [i]) b'
    exact key N
theorem TO_pos : ∀ r pre b, 1 ≤ b.1 → 1 ≤ (TO N ev r pre b).1
  | 0, pre, b, h => by
    rw [TO, obU]
    split
    · exact Nat.le_add_left 1 _
    · exact h
  | r + 1, pre, b, h => by
    rw [TO]
    have key : ∀ i, 1 ≤ (obT (fun p c => TO N ev r p c) pre b i).1 := fun i => by
      induction i with
      | zero => exact h
      | succ i ih =>
        rw [obT]
        split
        · exact ih
        · exact TO_pos r _ _ ih
    exact key N
theorem TO_rng : ∀ r d b, d + r = N → 1 ≤ (TO N ev r (List.range d) b).1
  | 0, d, b, _ => by
    rw [TO, obU]
    split
    · exact Nat.le_add_left 1 _
    · omega
  | r + 1, d, b, h => by
    rw [TO]
    have key : ∀ i, d < i → 1 ≤ (obT (fun p c => TO N ev r p c) (List.range d) b i).1 := fun i => by
      induction i with
      | zero => intro z; exact absurd z (Nat.not_lt_zero d)
      | succ i ih =>
        intro hi
        rw [obT]
        by_cases c : i = d
        · rw [c]
          have hn : ¬ (List.range d).contains d = true := by rw [List.contains_iff_mem, List.mem_range]; omega
          rw [if_neg hn, ← List.range_succ]
          exact TO_rng r (d + 1) _ (by omega)
        · split
          · exact ih (by omega)
          · exact TO_pos r _ _ (ih (by omega))
    exact key N (by omega)
/-- what is found is as long as asked -/
theorem TO_len : ∀ r pre b, pre.length + r = N → (1 ≤ b.1 → b.2.length = N) → 1 ≤ (TO N ev r pre b).1 → (TO N ev r pre b).2.length = N
  | 0, pre, b, h, hb, h1 => by
    rw [TO, obU] at h1 ⊢
    split at h1
    · next c => rw [if_pos c]; exact h
    · next c => rw [if_neg c]; exact hb h1
  | r + 1, pre, b, h, hb, h1 => by
    rw [TO] at h1 ⊢
    have key : ∀ i, (1 ≤ (obT (fun p c => TO N ev r p c) pre b i).1 → (obT (fun p c => TO N ev r p c) pre b i).2.length = N) := fun i => by
      induction i with
      | zero => exact hb
      | succ i ih =>
        rw [obT]
        split
        · exact ih
        · intro z
          exact TO_len r (pre ++ [i]) _ (by rw [List.length_append, List.length_singleton]; omega) ih z
    exact key N h1
end
section
variable {m : Nat → Nat}
/-- a debt paid where it can be -/
def pyd (m : Nat → Nat) (k : Nat) : Nat → Nat := if pT m k ≤ 40 then cl (pM m k) k else m
def pyo (m : Nat → Nat) (k : Nat) : Nat := if pT m k ≤ 40 then 1 else 0
def pyl (m : Nat → Nat) (l : List Nat) : Nat → Nat := l.foldl pyd m
def pye (m : Nat → Nat) : List Nat → Nat
  | [] => 0
  | k :: t => pyo m k + pye (pyd m k) t
theorem pyl_app (m : Nat → Nat) (l : List Nat) (k : Nat) : pyl m (l ++ [k]) = pyd (pyl m l) k := by
  rw [pyl, List.foldl_append]; rfl
theorem pye_app (k : Nat) : ∀ (l : List Nat) (m : Nat → Nat), pye m (l ++ [k]) = pye m l + pyo (pyl m l) k
  | [], m => by
    show pyo m k + 0 = 0 + pyo m k
    omega
  | a :: t, m => by
    show pyo m a + pye (pyd m a) (t ++ [k]) = pyo m a + pye (pyd m a) t + pyo (pyl (pyd m a) t) k
    rw [pye_app k t (pyd m a)]; omega
theorem pyo_le (m : Nat → Nat) (k : Nat) : pyo m k ≤ 1 := by rw [pyo]; split <;> omega
theorem pye_le : ∀ (l : List Nat) (m : Nat → Nat), pye m l ≤ l.length
  | [], m => Nat.le_refl 0
  | a :: t, m => by
    have h1 := pyo_le m a
    have h2 := pye_le t (pyd m a)
    rw [pye, List.length_cons]; omega
/-- what payments leave as it was -/
def SM (m m' : Nat → Nat) : Prop := okm m' ∧ (∀ j, j < 132 → m' j = m j) ∧ ∀ k i, i < 3 → db m' k i = db m k i
theorem SM.rf (hk : okm m) : SM m m := ⟨hk, fun _ _ => rfl, fun _ _ _ => rfl⟩
theorem SM_pyd {m' : Nat → Nat} (h : SM m m') {k : Nat} (hk : k < vD m) : SM m (pyd m' k) := by
  obtain ⟨h1, h2, h3⟩ := h
  have eD : vD m' = vD m := h2 2 (by decide)
  have h40 := h1.2.1.1
  obtain ⟨q1, q2, -⟩ := h1.2.2.2.2.2.2.2.2 k (by omega)
  rw [pyd]
  split
  · have hkM : okm (pM m' k) := mvs_ok h1 q2 _ (Nat.le_refl _)
    have eDM : vD (pM m' k) = vD m' := mvs_lo _ 2 (by decide)
    refine ⟨cl_ok hkM (by omega), fun j hj => ?_, fun d i hi => ?_⟩
    · rw [cl_lo (by omega)]
      exact (mvs_lo _ j hj).trans (h2 j hj)
    · rw [cl_db (by omega) (by omega)]
      exact (mvs_hi _ h40 _ (by omega)).trans (h3 d i hi)
  · exact ⟨h1, h2, h3⟩
theorem pyl_SM (hk : okm m) : ∀ (l : List Nat), (∀ k ∈ l, k < vD m) → SM m (pyl m l) := by
  have key : ∀ (l : List Nat) (m' : Nat → Nat), SM m m' → (∀ k ∈ l, k < vD m) → SM m (pyl m' l) := by
    intro l
    induction l with
    | nil => intro m' h _; exact h
    | cons a t ih =>
      intro m' h hl
      exact ih (pyd m' a) (SM_pyd h (hl a List.mem_cons_self)) (fun k hk => hl k (List.mem_cons_of_mem _ hk))
  exact fun l hl => key l m (SM.rf hk) hl
end
