/-! TOOLS: cells by their check, numbers, masks, loops -/
section
variable (S : rvS) (c a k : Nat) (v : Int32) (w : Int64) (r : Option Nat)
theorem tk_gI : rv_gI S c a k = (rv_ck S c a).map (fun _ => S.2.1 a k) := by
  unfold rv_gI rv_ck; split <;> rfl
theorem tk_gL : rv_gL S c a k = (rv_ck S c a).map (fun _ => S.2.2.1 a k) := by
  unfold rv_gL rv_ck; split <;> rfl
theorem tk_gR : rv_gR S c a k = (rv_ck S c a).bind (fun _ => S.2.2.2 a k) := by
  unfold rv_gR rv_ck; split <;> rfl
theorem tk_pI : rv_pI S c a k v = (rv_ck S c a).map (fun _ => rv_sI S a k v) := by
  unfold rv_pI rv_ck; split <;> rfl
theorem tk_pL : rv_pL S c a k w = (rv_ck S c a).map (fun _ => rv_sL S a k w) := by
  unfold rv_pL rv_ck; split <;> rfl
theorem tk_rI : (rv_sI S a k v).2.2.2 = S.2.2.2 := rfl
theorem tk_rL : (rv_sL S a k w).2.2.2 = S.2.2.2 := rfl
theorem tk_1I : (rv_sI S a k v).1 = S.1 := rfl
theorem tk_1L : (rv_sL S a k w).1 = S.1 := rfl
end
theorem tk_ix {n j : Nat} (hj : j < n) (hn : n < 2147483648) : rv_ix n (nI j) = some j := rv_ix_of hj hn
/-! numbers -/
theorem z_mul (a b : Nat) : nI a * nI b = nI (a * b) := (Int32.ofNat_mul a b).symm
theorem z_sub {a b : Nat} (h : b ≤ a) : nI a - nI b = nI (a - b) := by
  have e : a = (a - b) + b := by omega
  have e2 : nI a = nI (a - b) + nI b := by rw [nI_add]; exact congrArg nI e
  rw [e2, Int32.add_sub_cancel]
theorem z_le {a b : Nat} (ha : a < 2147483648) (hb : b < 2147483648) : nI a ≤ nI b ↔ a ≤ b := nI_leI ha hb
theorem z_lt {a b : Nat} (ha : a < 2147483648) (hb : b < 2147483648) : nI a < nI b ↔ a < b := nI_ltI ha hb
theorem z_eq {a b : Nat} (ha : a < 2147483648) (hb : b < 2147483648) : nI a = nI b ↔ a = b := nI_eq ha hb
def iM : Int32 := -1
theorem z_m1 : -(nI 1) = iM := Int32.toInt_inj.mp (by decide +kernel)
theorem z_ltM {a : Nat} (ha : a < 2147483648) : (nI a < iM) = False := by
  rw [eq_iff_iff, iff_false, Int32.lt_iff_toInt_lt, nI_toInt ha]
  show ¬ ((a : Int) < -1)
  omega
theorem z_Mlt {a : Nat} (ha : a < 2147483648) : (iM < nI a) = True := by
  rw [eq_iff_iff, iff_true, Int32.lt_iff_toInt_lt, nI_toInt ha]
  show (-1 : Int) < (a : Int)
  omega
theorem z_leM {a : Nat} (ha : a < 2147483648) : (nI a ≤ iM) = False := by
  rw [eq_iff_iff, iff_false, Int32.le_iff_toInt_le, nI_toInt ha]
  show ¬ ((a : Int) ≤ -1)
  omega
theorem z_Mle {a : Nat} (ha : a < 2147483648) : (iM ≤ nI a) = True := by
  rw [eq_iff_iff, iff_true, Int32.le_iff_toInt_le, nI_toInt ha]
  show (-1 : Int) ≤ (a : Int)
  omega
theorem z_eqM {a : Nat} (ha : a < 2147483648) : (nI a = iM) = False := by
  rw [eq_iff_iff, iff_false]
  intro h
  have := congrArg Int32.toInt h
  rw [nI_toInt ha] at this
  have e : iM.toInt = -1 := rfl
  rw [e] at this
  omega
theorem z_Meq {a : Nat} (ha : a < 2147483648) : (iM = nI a) = False := by
  rw [eq_iff_iff, iff_false]
  intro h
  have := z_eqM ha
  rw [← this]
  exact h.symm
theorem z_bt (x i : Nat) : bt (nI x) i = (decide (i < 32) && x.testBit i) := by
  show (BitVec.ofNat 32 x).getLsbD i = _
  rw [BitVec.getLsbD_ofNat]
theorem z_ush {x j : Nat} (hx : x < 4294967296) (hj : j < 32) : ((nI x).toUInt32 >>> ((nI j).toUInt32 &&& Int32.toUInt32 31)).toInt32 = nI (x / 2 ^ j) := by
  apply b_ext
  intro i hi
  rw [b_ushr j hj, z_bt, z_bt, Nat.testBit_div_two_pow, decide_eq_true hi, Bool.true_and, Nat.add_comm i j]
  by_cases h : j + i < 32
  · rw [decide_eq_true h, Bool.true_and]
  · rw [decide_eq_false h, Bool.false_and, Nat.testBit_lt_two_pow]
    exact Nat.lt_of_lt_of_le hx (Nat.pow_le_pow_right (n := 2) (by decide) (by omega : 32 ≤ j + i))
theorem z_and1 (x : Nat) : nI x &&& nI 1 = nI (x % 2) := fa_mask x 1
theorem z_bit0 {x j : Nat} (hx : x < 4294967296) (hj : j < 32) : (((nI x).toUInt32 >>> ((nI j).toUInt32 &&& Int32.toUInt32 31)).toInt32 &&& 1 = 0) ↔ x.testBit j = false := by
  rw [z_ush hx hj]
  show nI (x / 2 ^ j) &&& nI (2 ^ 0) = 0 ↔ _
  rw [fa_bit (by decide), Nat.testBit_div_two_pow, Nat.zero_add]
theorem z_sshr {x j : Nat} (hx : x < 2147483648) (hj : j < 32) : nI x >>> (nI j &&& 31) = nI (x / 2 ^ j) := by
  apply b_ext
  intro i hi
  rw [b_sshr j hj _ hi, z_bt, z_bt, z_bt, Nat.testBit_div_two_pow, decide_eq_true hi, Bool.true_and, Nat.add_comm i j]
  by_cases h : j + i < 32
  · rw [if_pos h, decide_eq_true h, Bool.true_and]
  · rw [if_neg h, Nat.testBit_lt_two_pow (i := 31) (by omega), Nat.testBit_lt_two_pow (i := j + i), Bool.and_false]
    exact Nat.lt_of_lt_of_le hx (Nat.pow_le_pow_right (n := 2) (by decide) (by omega : 31 ≤ j + i))
theorem z_bit1 {x j : Nat} (hx : x < 2147483648) (hj : j < 32) : ((nI x >>> (nI j &&& 31)) &&& 1 = 1) ↔ x.testBit j = true := by
  rw [z_sshr hx hj]
  show nI (x / 2 ^ j) &&& nI (2 ^ 1 - 1) = nI 1 ↔ _
  rw [fa_mask, nI_eq (by omega) (by decide), Nat.testBit_eq_decide_div_mod_eq, decide_eq_true_iff]
theorem z_shl {j : Nat} (hj : j < 32) : (1 : Int32) <<< (nI j &&& 31) = nI (2 ^ j) := by
  apply b_ext
  intro i hi
  have e : (1 : Int32) = nI 1 := rfl
  rw [b_shl j hj _ hi, e, z_bt, z_bt, decide_eq_true hi, Bool.true_and, Nat.testBit_two_pow]
  by_cases h : j = i
  · subst h; simp
  · by_cases h2 : j ≤ i
    · rw [decide_eq_true h2, Bool.true_and, decide_eq_false h]
      have : (1 : Nat).testBit (i - j) = false := Nat.testBit_lt_two_pow (Nat.one_lt_two_pow (by omega))
      rw [this, Bool.and_false]
    · rw [decide_eq_false h2, Bool.false_and, decide_eq_false h]
/-! masks: the numbers below n for which p holds -/
def bs (p : Nat → Bool) : Nat → Nat
  | 0 => 0
  | n + 1 => if p n then bs p n ||| 2 ^ n else bs p n
theorem bs_bit (p : Nat → Bool) (n k : Nat) : (bs p n).testBit k = (decide (k < n) && p k) := by
  induction n with
  | zero => rw [bs, Nat.zero_testBit, decide_eq_false (Nat.not_lt_zero k), Bool.false_and]
  | succ n ih =>
    rw [bs]
    by_cases h : k = n
    · subst h
      rw [decide_eq_true (Nat.lt_succ_self k), Bool.true_and]
      have e : (bs p k).testBit k = false := by rw [ih, decide_eq_false (Nat.lt_irrefl k), Bool.false_and]
      cases hp : p k
      · rw [if_neg (by decide), e]
      · rw [if_pos rfl, Nat.testBit_or, Nat.testBit_two_pow_self, Bool.or_true]
    · have e : decide (k < n + 1) = decide (k < n) := decide_eq_decide.mpr ⟨fun z => by omega, fun z => by omega⟩
      rw [e, ← ih]
      cases p n
      · rw [if_neg (by decide)]
      · rw [if_pos rfl, Nat.testBit_or, Nat.testBit_two_pow_of_ne (fun z => h z.symm), Bool.or_false]
theorem bs_lt (p : Nat → Bool) (n : Nat) : bs p n < 2 ^ n := Nat.lt_pow_two_of_testBit _ (fun i hi => by rw [bs_bit, decide_eq_false (by omega), Bool.false_and])
theorem bs_cong {p q : Nat → Bool} {n : Nat} (h : ∀ k, k < n → p k = q k) : bs p n = bs q n := by
  apply Nat.eq_of_testBit_eq
  intro i
  rw [bs_bit, bs_bit]
  by_cases hi : i < n
  · rw [h i hi]
  · rw [decide_eq_false hi, Bool.false_and, Bool.false_and]
theorem bs_of {x n : Nat} (h : x < 2 ^ n) : bs (fun k => x.testBit k) n = x := by
  apply Nat.eq_of_testBit_eq
  intro i
  rw [bs_bit]
  by_cases hi : i < n
  · rw [decide_eq_true hi, Bool.true_and]
  · rw [decide_eq_false hi, Bool.false_and, Nat.testBit_lt_two_pow (Nat.lt_of_lt_of_le h (Nat.pow_le_pow_right (by decide) (by omega)))]
theorem bs_zero {p : Nat → Bool} {n : Nat} : bs p n = 0 ↔ ∀ k, k < n → p k = false := by
  constructor
  · intro h k hk
    have := bs_bit p n k
    rw [h, Nat.zero_testBit, decide_eq_true hk, Bool.true_and] at this
    exact this.symm
  · intro h
    apply Nat.eq_of_testBit_eq
    intro i
    rw [bs_bit, Nat.zero_testBit]
    by_cases hi : i < n
    · rw [h i hi, Bool.and_false]
    · rw [decide_eq_false hi, Bool.false_and]
theorem bs_lt32 (p : Nat → Bool) {n : Nat} (h : n ≤ 31) : bs p n < 2147483648 := Nat.lt_of_lt_of_le (bs_lt p n) (Nat.pow_le_pow_right (n := 2) (by decide) h)
theorem bs_ext {x y n : Nat} (hx : x < 2 ^ n) (hy : y < 2 ^ n) (h : ∀ k, k < n → x.testBit k = y.testBit k) : x = y := by
  rw [← bs_of hx, ← bs_of hy]
  exact bs_cong h
/-! how many bits: the JDK's bitCount -/
theorem pc_and {a b ma mb : Nat} (ha : a < 256) (hm : ma < 256) : (a + 256 * b) &&& (ma + 256 * mb) = (a &&& ma) + 256 * (b &&& mb) := by
  have e : ∀ x y : Nat, x + 256 * y = 2 ^ 8 * y + x := fun x y => by omega
  have ha2 : a < 2 ^ 8 := ha
  have hm2 : ma < 2 ^ 8 := hm
  have hq : a &&& ma < 2 ^ 8 := Nat.and_lt_two_pow a hm2
  apply Nat.eq_of_testBit_eq
  intro i
  rw [e, e, e, Nat.testBit_and, Nat.testBit_two_pow_mul_add _ ha2, Nat.testBit_two_pow_mul_add _ hm2, Nat.testBit_two_pow_mul_add _ hq]
  by_cases h : i < 8
  · rw [if_pos h, if_pos h, if_pos h, Nat.testBit_and]
  · rw [if_neg h, if_neg h, if_neg h, Nat.testBit_and]
/-- a mask of k bytes -/
def pc_M (m : Nat) : Nat → Nat
  | 0 => 0
  | k + 1 => m + 256 * pc_M m k
/-- of each byte how many bits -/
def pc_w : Nat → Nat → Nat
  | 0, _ => 0
  | k + 1, x => fb_ct (fun i => x.testBit i) 8 % 256 + 256 * pc_w k (x / 256)
def pc_a (M x : Nat) : Nat := x - ((x / 2) &&& M)
def pc_b (M x : Nat) : Nat := (x &&& M) + ((x / 4) &&& M)
def pc_c (M x : Nat) : Nat := (x + x / 16) &&& M
theorem pc_a1 : ∀ a, a < 256 → ((a / 2) &&& 85) ≤ a ∧ (a / 2 + 128 &&& 85) = ((a / 2) &&& 85) := by decide +kernel
theorem pc_b1 : ∀ a, a < 256 → (a / 4 + 64 &&& 51) = ((a / 4) &&& 51) ∧ (a / 4 + 128 &&& 51) = ((a / 4) &&& 51) ∧ (a / 4 + 192 &&& 51) = ((a / 4) &&& 51) ∧ (a &&& 51) + ((a / 4) &&& 51) < 120 := by decide +kernel
theorem pc_s1 {a b M : Nat} (ha : a < 256) (hb : (b / 2 &&& M) ≤ b) : pc_a (85 + 256 * M) (a + 256 * b) = pc_a 85 a + 256 * pc_a M b := by
  unfold pc_a
  have e : (a + 256 * b) / 2 = (a / 2 + 128 * (b % 2)) + 256 * (b / 2) := by omega
  have h := pc_a1 a ha
  rw [e, pc_and (by omega) (by decide)]
  have e2 : (a / 2 + 128 * (b % 2)) &&& 85 = (a / 2) &&& 85 := by
    rcases Nat.mod_two_eq_zero_or_one b with z | z
    · rw [z]; rfl
    · rw [z]; exact h.2
  rw [e2]
  omega
theorem pc_s2 {a b M : Nat} (ha : a < 256) : pc_b (51 + 256 * M) (a + 256 * b) = pc_b 51 a + 256 * pc_b M b := by
  unfold pc_b
  have e : (a + 256 * b) / 4 = (a / 4 + 64 * (b % 4)) + 256 * (b / 4) := by omega
  have h := pc_b1 a ha
  rw [e, pc_and (b := b) ha (by decide), pc_and (by omega) (by decide)]
  have e2 : (a / 4 + 64 * (b % 4)) &&& 51 = (a / 4) &&& 51 := by
    have : b % 4 = 0 ∨ b % 4 = 1 ∨ b % 4 = 2 ∨ b % 4 = 3 := by omega
    rcases this with z | z | z | z
    · rw [z]; rfl
    · rw [z]; exact h.1
    · rw [z]; exact h.2.1
    · rw [z]; exact h.2.2.1
  rw [e2]
  omega
theorem pc_s3 {a b M : Nat} (ha : a + a / 16 < 128) (hb : b % 16 < 8) : pc_c (15 + 256 * M) (a + 256 * b) = pc_c 15 a + 256 * pc_c M b := by
  unfold pc_c
  have e : (a + 256 * b) + (a + 256 * b) / 16 = (a + a / 16 + 16 * (b % 16)) + 256 * (b + b / 16) := by omega
  rw [e, pc_and (by omega) (by decide)]
  have e2 : ∀ x : Nat, x &&& 15 = x % 16 := fun x => Nat.and_two_pow_sub_one_eq_mod x 4
  rw [e2, e2]
  omega
theorem pc_byte : ∀ a, a < 256 → pc_c 15 (pc_b 51 (pc_a 85 a)) = fb_ct (fun i => a.testBit i) 8 ∧ pc_a 85 a < 256 ∧ pc_b 51 (pc_a 85 a) + pc_b 51 (pc_a 85 a) / 16 < 128 ∧ pc_b 51 (pc_a 85 a) % 16 < 8 := by decide +kernel
theorem pc_le (x : Nat) : ∀ k, (x / 2 &&& pc_M 85 k) ≤ x := fun k => Nat.le_trans Nat.and_le_left (Nat.div_le_self x 2)
theorem pc_low {a b : Nat} (ha : a < 256) : ∀ i, i < 8 → (a + 256 * b).testBit i = a.testBit i := fun i hi => by
  have e : a + 256 * b = 2 ^ 8 * b + a := by omega
  rw [e, Nat.testBit_two_pow_mul_add _ ha, if_pos hi]
theorem pc_all : ∀ (k x : Nat), x < 256 ^ k → pc_c (pc_M 15 k) (pc_b (pc_M 51 k) (pc_a (pc_M 85 k) x)) = pc_w k x ∧ (pc_b (pc_M 51 k) (pc_a (pc_M 85 k) x)) % 16 < 8 := by
  intro k
  induction k with
  | zero =>
    intro x hx
    have e : x = 0 := by omega
    subst e
    exact ⟨rfl, by decide⟩
  | succ k ih =>
    intro x hx
    have ha : x % 256 < 256 := Nat.mod_lt _ (by decide)
    have hb : x / 256 < 256 ^ k := by
      rw [Nat.pow_succ] at hx
      exact Nat.div_lt_of_lt_mul (by omega)
    obtain ⟨i1, i2⟩ := ih (x / 256) hb
    obtain ⟨b1, b2, b3, b4⟩ := pc_byte (x % 256) ha
    have ex : x = x % 256 + 256 * (x / 256) := by omega
    have e1 : pc_a (pc_M 85 (k + 1)) x = pc_a 85 (x % 256) + 256 * pc_a (pc_M 85 k) (x / 256) := by
      conv => lhs; rw [ex]
      exact pc_s1 ha (pc_le _ k)
    have e2 : pc_b (pc_M 51 (k + 1)) (pc_a (pc_M 85 (k + 1)) x) = pc_b 51 (pc_a 85 (x % 256)) + 256 * pc_b (pc_M 51 k) (pc_a (pc_M 85 k) (x / 256)) := by
      rw [e1]
      exact pc_s2 b2
    rw [e2]
    refine ⟨?_, by omega⟩
    have e3 := pc_s3 (M := pc_M 15 k) b3 i2
    rw [show pc_M 15 (k + 1) = 15 + 256 * pc_M 15 k from rfl, e3, i1, b1, pc_w]
    have e4 : fb_ct (fun i => x.testBit i) 8 = fb_ct (fun i => (x % 256).testBit i) 8 := fb_ct_cong (fun i hi => by
      conv => lhs; rw [ex]
      exact pc_low ha i hi)
    have e5 : fb_ct (fun i => (x % 256).testBit i) 8 ≤ 8 := fb_ct_le _ 8
    rw [e4]
    omega
theorem pc_ct (x : Nat) (k : Nat) : fb_ct (fun i => x.testBit i) (8 + k) = fb_ct (fun i => x.testBit i) 8 + fb_ct (fun i => (x / 256).testBit i) k := by
  rw [fb_ct_split]
  congr 1
  exact fb_ct_cong (fun i _ => by
    show x.testBit (8 + i) = (x / 2 ^ 8).testBit i
    rw [Nat.testBit_div_two_pow, Nat.add_comm])
