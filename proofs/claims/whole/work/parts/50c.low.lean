/-! the lowest bit -/
/-- the bits from place k on -/
def lb (x k : Nat) : Nat := x / 2 ^ k * 2 ^ k
theorem lb_bit (x k i : Nat) : (lb x k).testBit i = (decide (k ≤ i) && x.testBit i) := by
  unfold lb
  rw [Nat.testBit_mul_two_pow]
  by_cases h : k ≤ i
  · rw [decide_eq_true h, Nat.testBit_div_two_pow, Nat.sub_add_cancel h]
  · rw [decide_eq_false h, Bool.false_and, Bool.false_and]
theorem lb_0 (x : Nat) : lb x 0 = x := by unfold lb; omega
theorem lb_le (x k : Nat) : lb x k ≤ x := Nat.div_mul_le_self x (2 ^ k)
theorem lb_end {x k : Nat} (h : x < 2 ^ k) : lb x k = 0 := by unfold lb; rw [Nat.div_eq_of_lt h, Nat.zero_mul]
theorem lb_no {x k : Nat} (h : x.testBit k = false) : lb x k = lb x (k + 1) := by
  apply Nat.eq_of_testBit_eq
  intro i
  rw [lb_bit, lb_bit]
  by_cases hi : i = k
  · rw [hi, h, Bool.and_false, Bool.and_false]
  · rw [decide_eq_decide.mpr (show k ≤ i ↔ k + 1 ≤ i from ⟨fun z => by omega, fun z => by omega⟩)]
theorem lb_split {x k : Nat} (h : x.testBit k = true) : lb x k = lb x (k + 1) + 2 ^ k := by
  unfold lb
  have e : x / 2 ^ k % 2 = 1 := by
    have := Nat.testBit_eq_decide_div_mod_eq (x := x) (i := k)
    rw [h] at this
    exact of_decide_eq_true this.symm
  have e2 : x / 2 ^ (k + 1) = x / 2 ^ k / 2 := by rw [Nat.pow_succ, Nat.div_div_eq_div_mul]
  rw [e2, Nat.pow_succ]
  generalize x / 2 ^ k = y at *
  have : y = 2 * (y / 2) + 1 := by omega
  conv => lhs; rw [this]
  rw [Nat.add_mul, Nat.one_mul, Nat.mul_comm 2, Nat.mul_assoc, Nat.mul_comm 2 (2 ^ k)]
theorem lb_ne {x k : Nat} (h : x.testBit k = true) : 0 < lb x k := by
  rw [lb_split h]
  exact Nat.lt_of_lt_of_le (Nat.two_pow_pos k) (Nat.le_add_left _ _)
theorem lb_and {x k : Nat} (h : x.testBit k = true) : lb x k &&& (lb x k - 1) = lb x (k + 1) := by
  have e : lb x k - 1 = 2 ^ (k + 1) * (x / 2 ^ (k + 1)) + (2 ^ k - 1) := by
    rw [lb_split h]
    unfold lb
    rw [Nat.mul_comm]
    have := Nat.two_pow_pos k
    omega
  have hq : 2 ^ k - 1 < 2 ^ (k + 1) := by
    rw [Nat.pow_succ]
    have := Nat.two_pow_pos k
    omega
  apply Nat.eq_of_testBit_eq
  intro i
  rw [Nat.testBit_and, e, Nat.testBit_two_pow_mul_add _ hq, lb_bit, lb_bit]
  by_cases h1 : i < k + 1
  · rw [if_pos h1, Nat.testBit_two_pow_sub_one]
    by_cases h2 : k ≤ i
    · rw [decide_eq_false (show ¬ i < k by omega), Bool.and_false, decide_eq_false (show ¬ k + 1 ≤ i by omega), Bool.false_and]
    · rw [decide_eq_false h2, Bool.false_and, Bool.false_and, decide_eq_false (show ¬ k + 1 ≤ i by omega), Bool.false_and]
  · rw [if_neg h1, Nat.testBit_div_two_pow, decide_eq_true (show k ≤ i by omega), Bool.true_and, decide_eq_true (show k + 1 ≤ i by omega), Bool.true_and, Nat.sub_add_cancel (by omega), Bool.and_self]
theorem lb_I {x k : Nat} (h : x.testBit k = true) (hx : x < 2147483648) : nI (lb x k) &&& (nI (lb x k) - 1) = nI (lb x (k + 1)) ∧ ¬ nI (lb x k) = 0 := by
  have h1 := lb_ne h
  have h2 := lb_le x k
  constructor
  · rw [show (1 : Int32) = nI 1 from rfl, z_sub h1, fa_and, lb_and h]
  · exact nI_ne0 h1 (by omega)
theorem lb_neg {x k : Nat} (h : x.testBit k = true) (hk : k < 31) : nI (lb x k) &&& -(nI (lb x k)) = nI (2 ^ k) := by
  apply b_ext
  intro i hi
  rw [b_and, z_bt, z_bt, lb_bit, decide_eq_true hi, Bool.true_and, Bool.true_and, Nat.testBit_two_pow]
  have e : bt (-(nI (lb x k))) i = ((BitVec.ofNat 32 (lb x k)).getLsbD i ^^ decide (∃ j, j < i ∧ (BitVec.ofNat 32 (lb x k)).getLsbD j = true)) := by
    unfold bt
    rw [Int32.toBitVec_neg]
    show (-(BitVec.ofNat 32 (lb x k))).getLsbD i = _
    rw [BitVec.getLsbD_neg, decide_eq_true hi, Bool.true_and]
  rw [e]
  have g : ∀ j, j < 32 → (BitVec.ofNat 32 (lb x k)).getLsbD j = (decide (k ≤ j) && x.testBit j) := fun j hj => by rw [BitVec.getLsbD_ofNat, lb_bit, decide_eq_true hj, Bool.true_and]
  rw [g i hi]
  by_cases h1 : k ≤ i
  · rw [decide_eq_true h1, Bool.true_and]
    by_cases h2 : k = i
    · subst h2
      rw [h, decide_eq_false]
      · simp
      · rintro ⟨j, hj, hb⟩
        rw [g j (by omega), decide_eq_false (by omega), Bool.false_and] at hb
        cases hb
    · rw [decide_eq_true (show ∃ j, j < i ∧ (BitVec.ofNat 32 (lb x k)).getLsbD j = true from ⟨k, by omega, by rw [g k (by omega), decide_eq_true (Nat.le_refl k), Bool.true_and, h]⟩), decide_eq_false h2]
      cases x.testBit i <;> rfl
  · rw [decide_eq_false h1, Bool.false_and, Bool.false_and, decide_eq_false (fun z => h1 (by omega))]
theorem lb_lowest (n : Nat) (S : rvS) {x k : Nat} (h : x.testBit k = true) (hk : k < 31) : fnX12_lowest n S (nI (lb x k)) = some (nI k) := by
  unfold fnX12_lowest
  have e : nI (2 ^ k) - 1 = nI (2 ^ k - 1) := by
    rw [show (1 : Int32) = nI 1 from rfl, z_sub (Nat.two_pow_pos k)]
  have hb : 2 ^ k - 1 < 4294967296 := by
    have := Nat.pow_lt_pow_right (a := 2) (by decide) hk
    omega
  rw [lb_neg h hk, e, pc_32 n S hb, Option.bind_some]
  have : fb_ct (fun i => (2 ^ k - 1).testBit i) 32 = k := by
    have e1 : 32 = k + (32 - k) := by omega
    rw [e1, fb_ct_split]
    have a1 : fb_ct (fun i => (2 ^ k - 1).testBit i) k = k := fb_ct_all.mpr (fun i hi => by rw [Nat.testBit_two_pow_sub_one, decide_eq_true hi])
    have a2 : fb_ct (fun i => (2 ^ k - 1).testBit (k + i)) (32 - k) = 0 := fb_ct_zero.mpr (fun i _ => by rw [Nat.testBit_two_pow_sub_one, decide_eq_false (by omega)])
    rw [a1, a2, Nat.add_zero]
  rw [this]
/-! loops -/
theorem lp {α β : Type} {F : Nat → α → Option β} (P : Nat → α → Prop) (Q : Option β → Prop) (N : Nat)
    (hs : ∀ i x q, i < N → P i x → Q (F (q + 1) x) ∨ ∃ y, F (q + 1) x = F q y ∧ P (i + 1) y)
    (hl : ∀ x q, P N x → Q (F (q + 1) x)) : ∀ {i : Nat} {x : α} {q : Nat}, i ≤ N → P i x → N - i < q → Q (F q x) := by
  intro i x q hi hp hq
  obtain ⟨d, hd⟩ : ∃ d, d = N - i := ⟨_, rfl⟩
  induction d generalizing i x q with
  | zero =>
    obtain ⟨q', rfl⟩ : ∃ q', q = q' + 1 := ⟨q - 1, by omega⟩
    have e : i = N := by omega
    subst e
    exact hl x q' hp
  | succ d ih =>
    obtain ⟨q', rfl⟩ : ∃ q', q = q' + 1 := ⟨q - 1, by omega⟩
    rcases hs i x q' (by omega) hp with h | ⟨y, h1, h2⟩
    · exact h
    · rw [h1]
      exact ih (by omega) h2 (by omega) (by omega)
/-- a loop whose places are known -/
theorem lpd {α β : Type} {F : Nat → α → Option β} (g : Nat → α) (r : Option β) (N : Nat)
    (hs : ∀ i q, i < N → F (q + 1) (g i) = F q (g (i + 1))) (hl : ∀ q, F (q + 1) (g N) = r) : ∀ {i q : Nat}, i ≤ N → N - i < q → F q (g i) = r := by
  intro i q hi hq
  exact lp (F := F) (fun i x => x = g i) (fun o => o = r) N (fun i x q h hp => by subst hp; exact Or.inr ⟨_, hs i q h, rfl⟩) (fun x q hp => by subst hp; exact hl q) hi rfl hq
