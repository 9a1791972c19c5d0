/-! WAYS: the pure part -/
section
variable {m : Nat → Nat} {go : Nat} {gl : List Nat}
def cw (m : Nat → Nat) (go : Nat) (gl : List Nat) : Nat → Nat → List Nat → Nat
  | 0, o, l => if o = go ∧ l = gl then 1 else 0
  | k + 1, o, l => fb_sm (fun w => if wy m o l w = 0 then cw m go gl k w (ps m o l) else 0) (vW m)
/-- whether somebody can be the i-th of a row that ends well -/
def hb (m : Nat → Nat) (go : Nat) (gl : List Nat) : Nat → Nat → List Nat → Nat → Nat → Bool
  | 0, _, _, _, _ => false
  | k + 1, o, l, 0, x => decide (wy m o l x = 0) && decide (0 < cw m go gl k x (ps m o l))
  | k + 1, o, l, i + 1, x => ex (fun w => decide (wy m o l w = 0) && hb m go gl k w (ps m o l) i x) (vW m)
theorem bs_or (p q : Nat → Bool) (n : Nat) : bs p n ||| bs q n = bs (fun k => p k || q k) n := by
  refine Nat.eq_of_testBit_eq fun k => ?_
  rw [Nat.testBit_or, bs_bit, bs_bit, bs_bit]
  cases decide (k < n) <;> simp
theorem sm_0 {f : Nat → Nat} : ∀ {n : Nat}, (∀ k, k < n → f k = 0) → fb_sm f n = 0
  | 0, _ => rfl
  | n + 1, h => by rw [fb_sm_succ, sm_0 (fun k hk => h k (by omega)), h n (by omega)]
theorem sm_pos {f : Nat → Nat} : ∀ {n : Nat}, 0 < fb_sm f n ↔ ∃ k, k < n ∧ 0 < f k
  | 0 => ⟨fun z => absurd z (Nat.lt_irrefl 0), fun ⟨k, h, _⟩ => absurd h (Nat.not_lt_zero k)⟩
  | n + 1 => by
    rw [fb_sm_succ]
    constructor
    · intro h
      by_cases c : 0 < fb_sm f n
      · obtain ⟨k, h1, h2⟩ := sm_pos.mp c
        exact ⟨k, by omega, h2⟩
      · exact ⟨n, by omega, by omega⟩
    · rintro ⟨k, h1, h2⟩
      by_cases c : k = n
      · subst c; omega
      · have := sm_pos.mpr ⟨k, (by omega : k < n), h2⟩
        omega
theorem sm_le {f : Nat → Nat} {B : Nat} : ∀ {n : Nat}, (∀ k, k < n → f k ≤ B) → fb_sm f n ≤ n * B
  | 0, _ => by rw [Nat.zero_mul]; exact Nat.le_refl 0
  | n + 1, h => by
    have h1 := sm_le (n := n) (fun k hk => h k (by omega))
    have h2 := h n (by omega)
    rw [fb_sm_succ, Nat.add_mul, Nat.one_mul]
    omega
theorem cw_le (h24 : vW m ≤ 24) : ∀ k o l, cw m go gl k o l ≤ 24 ^ k
  | 0, o, l => by
    rw [cw]
    split
    · exact Nat.le_refl 1
    · exact Nat.zero_le _
  | k + 1, o, l => by
    rw [cw, Nat.pow_succ, Nat.mul_comm]
    refine Nat.le_trans (sm_le (B := 24 ^ k) fun w _ => ?_) (Nat.mul_le_mul_right _ h24)
    split
    · exact cw_le h24 k w _
    · exact Nat.zero_le _
theorem hb_0 : ∀ k o l i x, cw m go gl k o l = 0 → x < vW m → hb m go gl k o l i x = false
  | 0, _, _, _, _, _, _ => rfl
  | k + 1, o, l, 0, x, h, hx => by
    rw [hb]
    by_cases c : wy m o l x = 0
    · have : ¬ 0 < cw m go gl k x (ps m o l) := fun z => by
        rw [cw] at h
        have := (sm_pos (f := fun w => if wy m o l w = 0 then cw m go gl k w (ps m o l) else 0) (n := vW m)).mpr ⟨x, hx, by show 0 < if wy m o l x = 0 then _ else _; rw [if_pos c]; exact z⟩
        omega
      rw [decide_eq_false this, Bool.and_false]
    · rw [decide_eq_false c, Bool.false_and]
  | k + 1, o, l, i + 1, x, h, hx => by
    rw [hb, Bool.eq_false_iff]
    intro z
    obtain ⟨w, h1, h2⟩ := ex_iff.mp z
    rw [Bool.and_eq_true, decide_eq_true_eq] at h2
    have hz : cw m go gl k w (ps m o l) = 0 := by
      rw [cw] at h
      refine Nat.eq_zero_of_not_pos fun q => ?_
      have := (sm_pos (f := fun w => if wy m o l w = 0 then cw m go gl k w (ps m o l) else 0) (n := vW m)).mpr ⟨w, h1, by show 0 < if wy m o l w = 0 then _ else _; rw [if_pos h2.1]; exact q⟩
      omega
    have := hb_0 k w (ps m o l) i x hz hx
    rw [this] at h2
    exact absurd h2.2 nft
/-- what the end says of the row -/
theorem cw_fin (hgl : gl.length ≤ vN m) : ∀ k o l, 0 < cw m go gl k o l → ∀ i x y, (o :: l)[i]? = some x → (go :: gl)[k + i]? = some y → x = y
  | 0, o, l, h, i, x, y, h1, h2 => by
    rw [cw] at h
    by_cases c : o = go ∧ l = gl
    · rw [c.1, c.2] at h1
      rw [Nat.zero_add, h1] at h2
      exact Option.some.inj h2
    · rw [if_neg c] at h; exact absurd h (Nat.lt_irrefl 0)
  | k + 1, o, l, h, i, x, y, h1, h2 => by
    rw [cw] at h
    obtain ⟨w, w1, w2⟩ := sm_pos.mp h
    by_cases c : wy m o l w = 0
    · rw [if_pos c] at w2
      have hlen : k + 1 + i < (go :: gl).length := (List.getElem?_eq_some_iff.mp h2).1
      rw [List.length_cons] at hlen
      refine cw_fin hgl k w (ps m o l) w2 (i + 1) x y ?_ (by rw [← h2]; congr 1; omega)
      rw [List.getElem?_cons_succ, ps, List.getElem?_take, if_pos (by omega)]
      exact h1
    · rw [if_neg c] at w2; exact absurd w2 (Nat.lt_irrefl 0)
theorem cw_len : ∀ k o l, 0 < cw m go gl k o l → l.length ≤ vN m → gl.length = if k + l.length < vN m then k + l.length else vN m
  | 0, o, l, h, hl => by
    rw [cw] at h
    by_cases c : o = go ∧ l = gl
    · rw [← c.2]
      split <;> omega
    · rw [if_neg c] at h; exact absurd h (Nat.lt_irrefl 0)
  | k + 1, o, l, h, hl => by
    rw [cw] at h
    obtain ⟨w, w1, w2⟩ := sm_pos.mp h
    by_cases c : wy m o l w = 0
    · rw [if_pos c] at w2
      have e : (ps m o l).length = if l.length < vN m then l.length + 1 else vN m := by
        rw [ps, List.length_take, List.length_cons]
        split <;> omega
      have := cw_len k w (ps m o l) w2 (by rw [e]; split <;> omega)
      rw [this, e]
      by_cases c2 : l.length < vN m
      · rw [if_pos c2]
        by_cases c3 : k + (l.length + 1) < vN m
        · rw [if_pos c3, if_pos (by omega)]; omega
        · rw [if_neg c3, if_neg (by omega)]
      · rw [if_neg c2, if_neg (by omega), if_neg (by omega)]
    · rw [if_neg c] at w2; exact absurd w2 (Nat.lt_irrefl 0)
/-- of the rows that begin with one of the first j: what stands where -/
def hj (m : Nat → Nat) (go : Nat) (gl : List Nat) (k o : Nat) (l : List Nat) (j : Nat) : Nat → Nat
  | 0 => bs (fun x => decide (wy m o l x = 0) && decide (0 < cw m go gl k x (ps m o l))) j
  | i + 1 => bs (fun x => ex (fun w => decide (wy m o l w = 0) && hb m go gl k w (ps m o l) i x) j) (vW m)
def cj (m : Nat → Nat) (go : Nat) (gl : List Nat) (k o : Nat) (l : List Nat) (j : Nat) : Nat := fb_sm (fun w => if wy m o l w = 0 then cw m go gl k w (ps m o l) else 0) j
theorem hj_end (k o : Nat) (l : List Nat) (i : Nat) : hj m go gl k o l (vW m) i = bs (hb m go gl (k + 1) o l i) (vW m) := by
  cases i <;> rfl
theorem hj_0 (k o : Nat) (l : List Nat) (i : Nat) : hj m go gl k o l 0 i = 0 := by
  cases i with
  | zero => rfl
  | succ i => exact bs_zero.mpr fun x _ => rfl
/-- one more -/
theorem hj_s (k o : Nat) (l : List Nat) {j : Nat} (hc : wy m o l j = 0) (i : Nat) : hj m go gl k o l (j + 1) i = hj m go gl k o l j i ||| (if i = 0 then (if 0 < cw m go gl k j (ps m o l) then 2 ^ j else 0) else bs (hb m go gl k j (ps m o l) (i - 1)) (vW m)) := by
  cases i with
  | zero =>
    rw [if_pos rfl, hj, bs_s, hj, decide_eq_true hc, Bool.true_and]
    by_cases c : 0 < cw m go gl k j (ps m o l)
    · rw [if_pos (decide_eq_true c), if_pos c]
    · rw [if_neg (by rw [decide_eq_false c]; decide), if_neg c, Nat.or_zero]
  | succ i =>
    rw [if_neg (by omega), hj, hj, bs_or, Nat.add_sub_cancel]
    refine bs_cong fun x _ => ?_
    rw [ex, decide_eq_true hc, Bool.true_and]
theorem hj_n (k o : Nat) (l : List Nat) {j : Nat} (hj' : j < vW m) (hc : wy m o l j = 0 → cw m go gl k j (ps m o l) = 0) (i : Nat) : hj m go gl k o l (j + 1) i = hj m go gl k o l j i := by
  by_cases c : wy m o l j = 0
  · have z := hc c
    rw [hj_s k o l c, z]
    by_cases c2 : i = 0
    · rw [if_pos c2, if_neg (Nat.lt_irrefl 0), Nat.or_zero]
    · rw [if_neg c2, bs_zero.mpr (fun x hx => hb_0 k j (ps m o l) (i - 1) x z hx), Nat.or_zero]
  · cases i with
    | zero =>
      rw [hj, hj, bs_s, decide_eq_false c, Bool.false_and, if_neg nft]
    | succ i =>
      rw [hj, hj]
      refine bs_cong fun x _ => ?_
      rw [ex, decide_eq_false c, Bool.false_and, Bool.or_false]
theorem cj_s (k o : Nat) (l : List Nat) (j : Nat) : cj m go gl k o l (j + 1) = cj m go gl k o l j + if wy m o l j = 0 then cw m go gl k j (ps m o l) else 0 := by
  rw [cj, fb_sm_succ, cj]
theorem hj_lt (h24 : vW m ≤ 24) (k o : Nat) (l : List Nat) {j : Nat} (h : j ≤ vW m) (i : Nat) : hj m go gl k o l j i < 16777216 := by
  cases i with
  | zero => exact Nat.lt_of_lt_of_le (bs_lt _ j) (show 2 ^ j ≤ 2 ^ 24 from Nat.pow_le_pow_right (by decide) (by omega))
  | succ i => exact Nat.lt_of_lt_of_le (bs_lt _ (vW m)) (show 2 ^ vW m ≤ 2 ^ 24 from Nat.pow_le_pow_right (by decide) (by omega))
end
