/-! TOOLS: cells by their check, numbers, masks, loops -/
section
variable (S : rvS) (c a k : Nat) (v : Int32) (w : Int64) (r : Option Nat)
theorem tk_gI : rv_gI S c a k = (rv_ck S c a).map (fun _ => S.2.1 a k) := by
  unfold rv_gI rv_ck; split <;> rfl
theorem tk_gL : rv_gL S c a k = (rv_ck S c a).map (fun _ => S.2.2.1 a k) := by
  unfold rv_gL rv_ck; split <;> rfl
theorem tk_gR : rv_gR S c a k = (rv_ck S c a).bind (fun _ => S.2.2.2 a k) := by
  unfold rv_gR rv_ck; split <;> rfl
theorem tk_pI : rv_pI S c a k v = (rv_ck S c a).map (fun _ => rv_sI S a k v) := by
  unfold rv_pI rv_ck; split <;> rfl
theorem tk_pL : rv_pL S c a k w = (rv_ck S c a).map (fun _ => rv_sL S a k w) := by
  unfold rv_pL rv_ck; split <;> rfl
theorem tk_rI : (rv_sI S a k v).2.2.2 = S.2.2.2 := rfl
theorem tk_rL : (rv_sL S a k w).2.2.2 = S.2.2.2 := rfl
theorem tk_1I : (rv_sI S a k v).1 = S.1 := rfl
theorem tk_1L : (rv_sL S a k w).1 = S.1 := rfl
end
theorem tk_ix {n j : Nat} (hj : j < n) (hn : n < 2147483648) : rv_ix n (nI j) = some j := rv_ix_of hj hn
/-! numbers -/
theorem z_mul (a b : Nat) : nI a * nI b = nI (a * b) := (Int32.ofNat_mul a b).symm
theorem z_sub {a b : Nat} (h : b ≤ a) : nI a - nI b = nI (a - b) := by
  have e : a = (a - b) + b := by omega
  have e2 : nI a = nI (a - b) + nI b := by rw [nI_add]; exact congrArg nI e
  rw [e2, Int32.add_sub_cancel]
theorem z_le {a b : Nat} (ha : a < 2147483648) (hb : b < 2147483648) : nI a ≤ nI b ↔ a ≤ b := nI_leI ha hb
theorem z_lt {a b : Nat} (ha : a < 2147483648) (hb : b < 2147483648) : nI a < nI b ↔ a < b := nI_ltI ha hb
theorem z_eq {a b : Nat} (ha : a < 2147483648) (hb : b < 2147483648) : nI a = nI b ↔ a = b := nI_eq ha hb
def iM : Int32 := -1
theorem z_m1 : -(nI 1) = iM := rfl
theorem z_ltM {a : Nat} (ha : a < 2147483648) : (nI a < iM) = False := by
  rw [eq_iff_iff, iff_false, Int32.lt_iff_toInt_lt, nI_toInt ha]
  show ¬ ((a : Int) < -1)
  omega
theorem z_Mlt {a : Nat} (ha : a < 2147483648) : (iM < nI a) = True := by
  rw [eq_iff_iff, iff_true, Int32.lt_iff_toInt_lt, nI_toInt ha]
  show (-1 : Int) < (a : Int)
  omega
theorem z_leM {a : Nat} (ha : a < 2147483648) : (nI a ≤ iM) = False := by
  rw [eq_iff_iff, iff_false, Int32.le_iff_toInt_le, nI_toInt ha]
  show ¬ ((a : Int) ≤ -1)
  omega
theorem z_Mle {a : Nat} (ha : a < 2147483648) : (iM ≤ nI a) = True := by
  rw [eq_iff_iff, iff_true, Int32.le_iff_toInt_le, nI_toInt ha]
  show (-1 : Int) ≤ (a : Int)
  omega
theorem z_eqM {a : Nat} (ha : a < 2147483648) : (nI a = iM) = False := by
  rw [eq_iff_iff, iff_false]
  intro h
  have := congrArg Int32.toInt h
  rw [nI_toInt ha] at this
  have e : iM.toInt = -1 := rfl
  rw [e] at this
  omega
theorem z_Meq {a : Nat} (ha : a < 2147483648) : (iM = nI a) = False := by
  rw [eq_comm]; exact z_eqM ha
theorem z_bt (x i : Nat) : bt (nI x) i = (decide (i < 32) && x.testBit i) := by
  show (BitVec.ofNat 32 x).getLsbD i = _
  rw [BitVec.getLsbD_ofNat]
theorem z_ush {x j : Nat} (hx : x < 4294967296) (hj : j < 32) : ((nI x).toUInt32 >>> ((nI j).toUInt32 &&& Int32.toUInt32 31)).toInt32 = nI (x / 2 ^ j) := by
  apply b_ext
  intro i hi
  rw [b_ushr j hj, z_bt, z_bt, Nat.testBit_div_two_pow, decide_eq_true hi, Bool.true_and, Nat.add_comm i j]
  by_cases h : j + i < 32
  · rw [decide_eq_true h, Bool.true_and]
  · rw [decide_eq_false h, Bool.false_and, Nat.testBit_lt_two_pow]
    exact Nat.lt_of_lt_of_le hx (Nat.pow_le_pow_right (n := 2) (by decide) (by omega : 32 ≤ j + i))
theorem z_and1 (x : Nat) : nI x &&& nI 1 = nI (x % 2) := fa_mask x 1
theorem z_bit0 {x j : Nat} (hx : x < 4294967296) (hj : j < 32) : (((nI x).toUInt32 >>> ((nI j).toUInt32 &&& Int32.toUInt32 31)).toInt32 &&& 1 = 0) ↔ x.testBit j = false := by
  rw [z_ush hx hj]
  show nI (x / 2 ^ j) &&& nI (2 ^ 0) = 0 ↔ _
  rw [fa_bit (by decide), Nat.testBit_div_two_pow, Nat.zero_add]
theorem z_sshr {x j : Nat} (hx : x < 2147483648) (hj : j < 32) : nI x >>> (nI j &&& 31) = nI (x / 2 ^ j) := by
  apply b_ext
  intro i hi
  rw [b_sshr j hj _ hi, z_bt, z_bt, z_bt, Nat.testBit_div_two_pow, decide_eq_true hi, Bool.true_and, Nat.add_comm i j]
  by_cases h : j + i < 32
  · rw [if_pos h, decide_eq_true h, Bool.true_and]
  · rw [if_neg h, Nat.testBit_lt_two_pow (i := 31) (by omega), Nat.testBit_lt_two_pow (i := j + i), Bool.and_false]
    exact Nat.lt_of_lt_of_le hx (Nat.pow_le_pow_right (n := 2) (by decide) (by omega : 31 ≤ j + i))
theorem z_bit1 {x j : Nat} (hx : x < 2147483648) (hj : j < 32) : ((nI x >>> (nI j &&& 31)) &&& 1 = 1) ↔ x.testBit j = true := by
  rw [z_sshr hx hj]
  show nI (x / 2 ^ j) &&& nI (2 ^ 1 - 1) = nI 1 ↔ _
  rw [fa_mask, nI_eq (by omega) (by decide), Nat.testBit_eq_decide_div_mod_eq, decide_eq_true_iff]
  rfl
theorem z_shl {j : Nat} (hj : j < 32) : (1 : Int32) <<< (nI j &&& 31) = nI (2 ^ j) := by
  apply b_ext
  intro i hi
  have e : (1 : Int32) = nI 1 := rfl
  rw [b_shl j hj _ hi, e, z_bt, z_bt, decide_eq_true hi, Bool.true_and, Nat.testBit_two_pow]
  by_cases h : j = i
  · subst h; simp
  · by_cases h2 : j ≤ i
    · rw [decide_eq_true h2, Bool.true_and, decide_eq_false h]
      have : (1 : Nat).testBit (i - j) = false := Nat.testBit_lt_two_pow (Nat.one_lt_two_pow (by omega))
      rw [this, Bool.and_false]
    · rw [decide_eq_false h2, Bool.false_and, decide_eq_false h]
/-! masks: the numbers below n for which p holds -/
def bs (p : Nat → Bool) : Nat → Nat
  | 0 => 0
  | n + 1 => if p n then bs p n ||| 2 ^ n else bs p n
theorem bs_bit (p : Nat → Bool) (n k : Nat) : (bs p n).testBit k = (decide (k < n) && p k) := by
  induction n with
  | zero => rw [bs, Nat.zero_testBit, decide_eq_false (Nat.not_lt_zero k), Bool.false_and]
  | succ n ih =>
    rw [bs]
    by_cases h : k = n
    · subst h
      rw [decide_eq_true (Nat.lt_succ_self k), Bool.true_and]
      have e : (bs p k).testBit k = false := by rw [ih, decide_eq_false (Nat.lt_irrefl k), Bool.false_and]
      cases hp : p k
      · rw [if_neg (by decide), e]
      · rw [if_pos rfl, Nat.testBit_or, Nat.testBit_two_pow_self, Bool.or_true]
    · have e : decide (k < n + 1) = decide (k < n) := decide_eq_decide.mpr ⟨fun z => by omega, fun z => by omega⟩
      rw [e, ← ih]
      cases p n
      · rw [if_neg (by decide)]
      · rw [if_pos rfl, Nat.testBit_or, Nat.testBit_two_pow_of_ne (fun z => h z.symm), Bool.or_false]
theorem bs_lt (p : Nat → Bool) (n : Nat) : bs p n < 2 ^ n := Nat.lt_pow_two_of_testBit _ (fun i hi => by rw [bs_bit, decide_eq_false (by omega), Bool.false_and])
theorem bs_cong {p q : Nat → Bool} {n : Nat} (h : ∀ k, k < n → p k = q k) : bs p n = bs q n := by
  apply Nat.eq_of_testBit_eq
  intro i
  rw [bs_bit, bs_bit]
  by_cases hi : i < n
  · rw [h i hi]
  · rw [decide_eq_false hi, Bool.false_and, Bool.false_and]
theorem bs_of {x n : Nat} (h : x < 2 ^ n) : bs (fun k => x.testBit k) n = x := by
  apply Nat.eq_of_testBit_eq
  intro i
  rw [bs_bit]
  by_cases hi : i < n
  · rw [decide_eq_true hi, Bool.true_and]
  · rw [decide_eq_false hi, Bool.false_and, Nat.testBit_lt_two_pow (Nat.lt_of_lt_of_le h (Nat.pow_le_pow_right (by decide) (by omega)))]
theorem bs_zero {p : Nat → Bool} {n : Nat} : bs p n = 0 ↔ ∀ k, k < n → p k = false := by
  constructor
  · intro h k hk
    have := bs_bit p n k
    rw [h, Nat.zero_testBit, decide_eq_true hk, Bool.true_and] at this
    exact this.symm
  · intro h
    apply Nat.eq_of_testBit_eq
    intro i
    rw [bs_bit, Nat.zero_testBit]
    by_cases hi : i < n
    · rw [h i hi, Bool.and_false]
    · rw [decide_eq_false hi, Bool.false_and]
theorem bs_lt32 (p : Nat → Bool) {n : Nat} (h : n ≤ 31) : bs p n < 2147483648 := Nat.lt_of_lt_of_le (bs_lt p n) (Nat.pow_le_pow_right (n := 2) (by decide) h)
theorem bs_ext {x y n : Nat} (hx : x < 2 ^ n) (hy : y < 2 ^ n) (h : ∀ k, k < n → x.testBit k = y.testBit k) : x = y := by
  rw [← bs_of hx, ← bs_of hy]
  exact bs_cong h
/-! how many bits: the JDK's bitCount -/
theorem pc_and {a b ma mb : Nat} (ha : a < 256) (hm : ma < 256) : (a + 256 * b) &&& (ma + 256 * mb) = (a &&& ma) + 256 * (b &&& mb) := by
  have e : ∀ x y : Nat, x + 256 * y = 2 ^ 8 * y + x := fun x y => by omega
  have ha2 : a < 2 ^ 8 := ha
  have hm2 : ma < 2 ^ 8 := hm
  have hq : a &&& ma < 2 ^ 8 := Nat.and_lt_two_pow a hm2
  apply Nat.eq_of_testBit_eq
  intro i
  rw [e, e, e, Nat.testBit_and, Nat.testBit_two_pow_mul_add _ ha2, Nat.testBit_two_pow_mul_add _ hm2, Nat.testBit_two_pow_mul_add _ hq]
  by_cases h : i < 8
  · rw [if_pos h, if_pos h, if_pos h, Nat.testBit_and]
  · rw [if_neg h, if_neg h, if_neg h, Nat.testBit_and]
/-- a mask of k bytes -/
def pc_M (m : Nat) : Nat → Nat
  | 0 => 0
  | k + 1 => m + 256 * pc_M m k
/-- of each byte how many bits -/
def pc_w : Nat → Nat → Nat
  | 0, _ => 0
  | k + 1, x => fb_ct (fun i => x.testBit i) 8 % 256 + 256 * pc_w k (x / 256)
def pc_a (M x : Nat) : Nat := x - ((x / 2) &&& M)
def pc_b (M x : Nat) : Nat := (x &&& M) + ((x / 4) &&& M)
def pc_c (M x : Nat) : Nat := (x + x / 16) &&& M
theorem pc_a1 : ∀ a, a < 256 → ((a / 2) &&& 85) ≤ a ∧ (a / 2 + 128 &&& 85) = ((a / 2) &&& 85) := by decide +kernel
theorem pc_b1 : ∀ a, a < 256 → (a / 4 + 64 &&& 51) = ((a / 4) &&& 51) ∧ (a / 4 + 128 &&& 51) = ((a / 4) &&& 51) ∧ (a / 4 + 192 &&& 51) = ((a / 4) &&& 51) ∧ (a &&& 51) + ((a / 4) &&& 51) < 120 := by decide +kernel
theorem pc_s1 {a b M : Nat} (ha : a < 256) (hb : (b / 2 &&& M) ≤ b) : pc_a (85 + 256 * M) (a + 256 * b) = pc_a 85 a + 256 * pc_a M b := by
  unfold pc_a
  have e : (a + 256 * b) / 2 = (a / 2 + 128 * (b % 2)) + 256 * (b / 2) := by omega
  have h := pc_a1 a ha
  rw [e, pc_and (by omega) (by decide)]
  have e2 : (a / 2 + 128 * (b % 2)) &&& 85 = (a / 2) &&& 85 := by
    rcases Nat.mod_two_eq_zero_or_one b with z | z
    · rw [z]; rfl
    · rw [z]; exact h.2
  rw [e2]
  omega
theorem pc_s2 {a b M : Nat} (ha : a < 256) : pc_b (51 + 256 * M) (a + 256 * b) = pc_b 51 a + 256 * pc_b M b := by
  unfold pc_b
  have e : (a + 256 * b) / 4 = (a / 4 + 64 * (b % 4)) + 256 * (b / 4) := by omega
  have h := pc_b1 a ha
  rw [e, pc_and (by omega) (by decide), pc_and ha (by decide)]
  have e2 : (a / 4 + 64 * (b % 4)) &&& 51 = (a / 4) &&& 51 := by
    have : b % 4 = 0 ∨ b % 4 = 1 ∨ b % 4 = 2 ∨ b % 4 = 3 := by omega
    rcases this with z | z | z | z
    · rw [z]; rfl
    · rw [z]; exact h.1
    · rw [z]; exact h.2.1
    · rw [z]; exact h.2.2.1
  rw [e2]
  omega
theorem pc_s3 {a b M : Nat} (ha : a + a / 16 < 128) (hb : b % 16 < 8) : pc_c (15 + 256 * M) (a + 256 * b) = pc_c 15 a + 256 * pc_c M b := by
  unfold pc_c
  have e : (a + 256 * b) + (a + 256 * b) / 16 = (a + a / 16 + 16 * (b % 16)) + 256 * (b + b / 16) := by omega
  rw [e, pc_and (by omega) (by decide)]
  have e2 : ∀ x : Nat, x &&& 15 = x % 16 := fun x => Nat.and_two_pow_sub_one_eq_mod x 4
  rw [e2, e2]
  omega
theorem pc_byte : ∀ a, a < 256 → pc_c 15 (pc_b 51 (pc_a 85 a)) = fb_ct (fun i => a.testBit i) 8 ∧ pc_a 85 a < 256 ∧ pc_b 51 (pc_a 85 a) + pc_b 51 (pc_a 85 a) / 16 < 128 ∧ pc_b 51 (pc_a 85 a) % 16 < 8 := by decide +kernel
theorem pc_le (x : Nat) : ∀ k, (x / 2 &&& pc_M 85 k) ≤ x := fun k => Nat.le_trans Nat.and_le_left (Nat.div_le_self x 2)
theorem pc_low {a b : Nat} (ha : a < 256) : ∀ i, i < 8 → (a + 256 * b).testBit i = a.testBit i := fun i hi => by
  have e : a + 256 * b = 2 ^ 8 * b + a := by omega
  rw [e, Nat.testBit_two_pow_mul_add _ ha, if_pos hi]
theorem pc_all : ∀ (k x : Nat), x < 256 ^ k → pc_c (pc_M 15 k) (pc_b (pc_M 51 k) (pc_a (pc_M 85 k) x)) = pc_w k x ∧ (pc_b (pc_M 51 k) (pc_a (pc_M 85 k) x)) % 16 < 8 := by
  intro k
  induction k with
  | zero =>
    intro x hx
    have e : x = 0 := by omega
    subst e
    exact ⟨rfl, by decide⟩
  | succ k ih =>
    intro x hx
    have ha : x % 256 < 256 := Nat.mod_lt _ (by decide)
    have hb : x / 256 < 256 ^ k := by
      rw [Nat.pow_succ] at hx
      exact Nat.div_lt_of_lt_mul (by omega)
    obtain ⟨i1, i2⟩ := ih (x / 256) hb
    obtain ⟨b1, b2, b3, b4⟩ := pc_byte (x % 256) ha
    have ex : x = x % 256 + 256 * (x / 256) := by omega
    have e1 : pc_a (pc_M 85 (k + 1)) x = pc_a 85 (x % 256) + 256 * pc_a (pc_M 85 k) (x / 256) := by
      conv => lhs; rw [ex]
      exact pc_s1 ha (pc_le _ k)
    have e2 : pc_b (pc_M 51 (k + 1)) (pc_a (pc_M 85 (k + 1)) x) = pc_b 51 (pc_a 85 (x % 256)) + 256 * pc_b (pc_M 51 k) (pc_a (pc_M 85 k) (x / 256)) := by
      rw [e1]
      exact pc_s2 b2
    rw [e2]
    refine ⟨?_, by omega⟩
    have e3 := pc_s3 (M := pc_M 15 k) b3 i2
    rw [show pc_M 15 (k + 1) = 15 + 256 * pc_M 15 k from rfl, e3, i1, b1, pc_w]
    have e4 : fb_ct (fun i => x.testBit i) 8 = fb_ct (fun i => (x % 256).testBit i) 8 := fb_ct_cong (fun i hi => by
      conv => lhs; rw [ex]
      exact pc_low ha i hi)
    have e5 : fb_ct (fun i => (x % 256).testBit i) 8 ≤ 8 := fb_ct_le _ 8
    rw [e4]
    omega
theorem pc_ct (x : Nat) (k : Nat) : fb_ct (fun i => x.testBit i) (8 + k) = fb_ct (fun i => x.testBit i) 8 + fb_ct (fun i => (x / 256).testBit i) k := by
  rw [fb_ct_split]
  congr 1
  exact fb_ct_cong (fun i _ => by
    show x.testBit (8 + i) = (x / 2 ^ 8).testBit i
    rw [Nat.testBit_div_two_pow, Nat.add_comm])
theorem pc_32 (n : Nat) (S : rvS) {x : Nat} (hx : x < 4294967296) : fnJ6_bitCount_0f7a4 n S (nI x) = some (nI (fb_ct (fun i => x.testBit i) 32)) := by
  have m1 : (1431655765 : Int32) = nI (pc_M 85 4) := by decide +kernel
  have m2 : (858993459 : Int32) = nI (pc_M 51 4) := by decide +kernel
  have m3 : (252645135 : Int32) = nI (pc_M 15 4) := by decide +kernel
  have m4 : (63 : Int32) = nI (2 ^ 6 - 1) := rfl
  have l1 : (1 : Int32) = nI 1 := rfl
  have l2 : (2 : Int32) = nI 2 := rfl
  have l4 : (4 : Int32) = nI 4 := rfl
  have l8 : (8 : Int32) = nI 8 := rfl
  have l16 : (16 : Int32) = nI 16 := rfl
  have k2 : pc_M 51 4 = 858993459 := by decide +kernel
  have k3 : pc_M 15 4 = 252645135 := by decide +kernel
  obtain ⟨hw, -⟩ := pc_all 4 x hx
  have c1 : pc_a (pc_M 85 4) x < 4294967296 := Nat.lt_of_le_of_lt (Nat.sub_le _ _) hx
  have c2 : pc_b (pc_M 51 4) (pc_a (pc_M 85 4) x) < 4294967296 := by
    unfold pc_b
    have q1 := Nat.and_le_right (n := pc_a (pc_M 85 4) x) (m := pc_M 51 4)
    have q2 := Nat.and_le_right (n := pc_a (pc_M 85 4) x / 4) (m := pc_M 51 4)
    omega
  have e1 : nI x - (((nI x).toUInt32 >>> ((1 : Int32).toUInt32 &&& Int32.toUInt32 31)).toInt32 &&& (1431655765 : Int32)) = nI (pc_a (pc_M 85 4) x) := by
    rw [l1, z_ush hx (by decide), m1, fa_and, z_sub (pc_le x 4)]
    rfl
  have e2 : (nI (pc_a (pc_M 85 4) x) &&& (858993459 : Int32)) + (((nI (pc_a (pc_M 85 4) x)).toUInt32 >>> ((2 : Int32).toUInt32 &&& Int32.toUInt32 31)).toInt32 &&& (858993459 : Int32)) = nI (pc_b (pc_M 51 4) (pc_a (pc_M 85 4) x)) := by
    rw [l2, z_ush c1 (by decide), m2, fa_and, fa_and, nI_add]
    rfl
  have e3 : (nI (pc_b (pc_M 51 4) (pc_a (pc_M 85 4) x)) + ((nI (pc_b (pc_M 51 4) (pc_a (pc_M 85 4) x))).toUInt32 >>> ((4 : Int32).toUInt32 &&& Int32.toUInt32 31)).toInt32) &&& (252645135 : Int32) = nI (pc_w 4 x) := by
    rw [l4, z_ush c2 (by decide), m3, nI_add, fa_and, ← hw]
    rfl
  have b0 : ∀ y : Nat, fb_ct (fun i => y.testBit i) 8 ≤ 8 := fun y => fb_ct_le _ 8
  have w0 : pc_w 4 x = fb_ct (fun i => x.testBit i) 8 % 256 + 256 * (fb_ct (fun i => (x / 256).testBit i) 8 % 256 + 256 * (fb_ct (fun i => (x / 256 / 256).testBit i) 8 % 256 + 256 * (fb_ct (fun i => (x / 256 / 256 / 256).testBit i) 8 % 256 + 256 * 0))) := rfl
  have f0 : fb_ct (fun i => x.testBit i) 32 = fb_ct (fun i => x.testBit i) 8 + (fb_ct (fun i => (x / 256).testBit i) 8 + (fb_ct (fun i => (x / 256 / 256).testBit i) 8 + fb_ct (fun i => (x / 256 / 256 / 256).testBit i) 8)) := by
    rw [pc_ct x 24, pc_ct (x / 256) 16, pc_ct (x / 256 / 256) 8]
  have g0 := b0 x
  have g1 := b0 (x / 256)
  have g2 := b0 (x / 256 / 256)
  have g3 := b0 (x / 256 / 256 / 256)
  generalize fb_ct (fun i => x.testBit i) 8 = p0 at *
  generalize fb_ct (fun i => (x / 256).testBit i) 8 = p1 at *
  generalize fb_ct (fun i => (x / 256 / 256).testBit i) 8 = p2 at *
  generalize fb_ct (fun i => (x / 256 / 256 / 256).testBit i) 8 = p3 at *
  have d1 : pc_w 4 x < 4294967296 := by omega
  have e4 : nI (pc_w 4 x) + ((nI (pc_w 4 x)).toUInt32 >>> ((8 : Int32).toUInt32 &&& Int32.toUInt32 31)).toInt32 = nI (pc_w 4 x + pc_w 4 x / 256) := by
    rw [l8, z_ush d1 (by decide), nI_add]
  have d2 : pc_w 4 x + pc_w 4 x / 256 < 4294967296 := by omega
  have e5 : nI (pc_w 4 x + pc_w 4 x / 256) + ((nI (pc_w 4 x + pc_w 4 x / 256)).toUInt32 >>> ((16 : Int32).toUInt32 &&& Int32.toUInt32 31)).toInt32 = nI (pc_w 4 x + pc_w 4 x / 256 + (pc_w 4 x + pc_w 4 x / 256) / 65536) := by
    rw [l16, z_ush d2 (by decide), nI_add]
  unfold fnJ6_bitCount_0f7a4 rv_lt
  rw [e1, e2, e3, e4, e5, m4, fa_mask]
  apply congrArg (fun z => some (nI z))
  omega
theorem pc_64 (n : Nat) (S : rvS) {x : Nat} (hx : x < 18446744073709551616) : fnJ13_bitCount_95d88 n S (lN x) = some (nI (fb_ct (fun i => x.testBit i) 64)) := by
  have m1 : (6148914691236517205 : Int64) = lN (pc_M 85 8) := by decide +kernel
  have m2 : (3689348814741910323 : Int64) = lN (pc_M 51 8) := by decide +kernel
  have m3 : (1085102592571150095 : Int64) = lN (pc_M 15 8) := by decide +kernel
  have m4 : (127 : Int32) = nI (2 ^ 7 - 1) := rfl
  have k2 : pc_M 51 8 = 3689348814741910323 := by decide +kernel
  have k3 : pc_M 15 8 = 1085102592571150095 := by decide +kernel
  obtain ⟨hw, -⟩ := pc_all 8 x hx
  have c1 : pc_a (pc_M 85 8) x < 18446744073709551616 := Nat.lt_of_le_of_lt (Nat.sub_le _ _) hx
  have c2 : pc_b (pc_M 51 8) (pc_a (pc_M 85 8) x) < 18446744073709551616 := by
    unfold pc_b
    have q1 := Nat.and_le_right (n := pc_a (pc_M 85 8) x) (m := pc_M 51 8)
    have q2 := Nat.and_le_right (n := pc_a (pc_M 85 8) x / 4) (m := pc_M 51 8)
    omega
  have sh : ∀ {y : Nat} (k : Nat), y < 18446744073709551616 → k < 64 → ((lN y).toUInt64 >>> ((nI k).toInt64.toUInt64 &&& Int64.toUInt64 63)).toInt64 = lN (y / 2 ^ k) := fun k h1 h2 => wb_shr h1 h2
  have e1 : lN x - (((lN x).toUInt64 >>> ((1 : Int32).toInt64.toUInt64 &&& Int64.toUInt64 63)).toInt64 &&& (6148914691236517205 : Int64)) = lN (pc_a (pc_M 85 8) x) := by
    have := sh (y := x) 1 hx (by decide)
    rw [show (1 : Int32) = nI 1 from rfl, this, m1, fb_andL, lN_sub (pc_le x 8)]
    rfl
  have e2 : (lN (pc_a (pc_M 85 8) x) &&& (3689348814741910323 : Int64)) + (((lN (pc_a (pc_M 85 8) x)).toUInt64 >>> ((2 : Int32).toInt64.toUInt64 &&& Int64.toUInt64 63)).toInt64 &&& (3689348814741910323 : Int64)) = lN (pc_b (pc_M 51 8) (pc_a (pc_M 85 8) x)) := by
    rw [show (2 : Int32) = nI 2 from rfl, sh 2 c1 (by decide), m2, fb_andL, fb_andL, lN_add]
    rfl
  have e3 : (lN (pc_b (pc_M 51 8) (pc_a (pc_M 85 8) x)) + ((lN (pc_b (pc_M 51 8) (pc_a (pc_M 85 8) x))).toUInt64 >>> ((4 : Int32).toInt64.toUInt64 &&& Int64.toUInt64 63)).toInt64) &&& (1085102592571150095 : Int64) = lN (pc_w 8 x) := by
    rw [show (4 : Int32) = nI 4 from rfl, sh 4 c2 (by decide), m3, lN_add, fb_andL, ← hw]
    rfl
  have b0 : ∀ y : Nat, fb_ct (fun i => y.testBit i) 8 ≤ 8 := fun y => fb_ct_le _ 8
  have w0 : ∀ k y, pc_w (k + 1) y = fb_ct (fun i => y.testBit i) 8 % 256 + 256 * pc_w k (y / 256) := fun _ _ => rfl
  have w1 : ∀ y, pc_w 0 y = 0 := fun _ => rfl
  have f0 : fb_ct (fun i => x.testBit i) 64 = fb_ct (fun i => x.testBit i) 8 + (fb_ct (fun i => (x / 256).testBit i) 8 + (fb_ct (fun i => (x / 256 / 256).testBit i) 8 + (fb_ct (fun i => (x / 256 / 256 / 256).testBit i) 8 + (fb_ct (fun i => (x / 256 / 256 / 256 / 256).testBit i) 8 + (fb_ct (fun i => (x / 256 / 256 / 256 / 256 / 256).testBit i) 8 + (fb_ct (fun i => (x / 256 / 256 / 256 / 256 / 256 / 256).testBit i) 8 + fb_ct (fun i => (x / 256 / 256 / 256 / 256 / 256 / 256 / 256).testBit i) 8)))))) := by
    rw [pc_ct x 56, pc_ct _ 48, pc_ct _ 40, pc_ct _ 32, pc_ct _ 24, pc_ct _ 16, pc_ct _ 8]
  have v0 := w0 7 x
  have v1 := w0 6 (x / 256)
  have v2 := w0 5 (x / 256 / 256)
  have v3 := w0 4 (x / 256 / 256 / 256)
  have v4 := w0 3 (x / 256 / 256 / 256 / 256)
  have v5 := w0 2 (x / 256 / 256 / 256 / 256 / 256)
  have v6 := w0 1 (x / 256 / 256 / 256 / 256 / 256 / 256)
  have v7 := w0 0 (x / 256 / 256 / 256 / 256 / 256 / 256 / 256)
  rw [w1] at v7
  have g0 := b0 x
  have g1 := b0 (x / 256)
  have g2 := b0 (x / 256 / 256)
  have g3 := b0 (x / 256 / 256 / 256)
  have g4 := b0 (x / 256 / 256 / 256 / 256)
  have g5 := b0 (x / 256 / 256 / 256 / 256 / 256)
  have g6 := b0 (x / 256 / 256 / 256 / 256 / 256 / 256)
  have g7 := b0 (x / 256 / 256 / 256 / 256 / 256 / 256 / 256)
  clear w0 w1 b0 hw c1 c2
  generalize pc_w (7 + 1) x = u0 at *
  generalize pc_w (6 + 1) (x / 256) = u1 at *
  generalize pc_w (5 + 1) (x / 256 / 256) = u2 at *
  generalize pc_w (4 + 1) (x / 256 / 256 / 256) = u3 at *
  generalize pc_w (3 + 1) (x / 256 / 256 / 256 / 256) = u4 at *
  generalize pc_w (2 + 1) (x / 256 / 256 / 256 / 256 / 256) = u5 at *
  generalize pc_w (1 + 1) (x / 256 / 256 / 256 / 256 / 256 / 256) = u6 at *
  generalize pc_w (0 + 1) (x / 256 / 256 / 256 / 256 / 256 / 256 / 256) = u7 at *
  generalize fb_ct (fun i => x.testBit i) 8 = p0 at *
  generalize fb_ct (fun i => (x / 256).testBit i) 8 = p1 at *
  generalize fb_ct (fun i => (x / 256 / 256).testBit i) 8 = p2 at *
  generalize fb_ct (fun i => (x / 256 / 256 / 256).testBit i) 8 = p3 at *
  generalize fb_ct (fun i => (x / 256 / 256 / 256 / 256).testBit i) 8 = p4 at *
  generalize fb_ct (fun i => (x / 256 / 256 / 256 / 256 / 256).testBit i) 8 = p5 at *
  generalize fb_ct (fun i => (x / 256 / 256 / 256 / 256 / 256 / 256).testBit i) 8 = p6 at *
  generalize fb_ct (fun i => (x / 256 / 256 / 256 / 256 / 256 / 256 / 256).testBit i) 8 = p7 at *
  rw [Nat.mod_eq_of_lt (by omega)] at v0 v1 v2 v3 v4 v5 v6 v7
  have d1 : u0 < 18446744073709551616 := by omega
  have q1 : u0 / 256 = u1 := by omega
  have e4 : lN u0 + ((lN u0).toUInt64 >>> ((8 : Int32).toInt64.toUInt64 &&& Int64.toUInt64 63)).toInt64 = lN (u0 + u1) := by
    rw [show (8 : Int32) = nI 8 from rfl, sh 8 d1 (by decide), lN_add, show u0 / 2 ^ 8 = u0 / 256 from rfl, q1]
  have d2 : u0 + u1 < 18446744073709551616 := by omega
  have q2 : (u0 + u1) / 65536 = u2 + u3 := by omega
  have e5 : lN (u0 + u1) + ((lN (u0 + u1)).toUInt64 >>> ((16 : Int32).toInt64.toUInt64 &&& Int64.toUInt64 63)).toInt64 = lN (u0 + u1 + (u2 + u3)) := by
    rw [show (16 : Int32) = nI 16 from rfl, sh 16 d2 (by decide), lN_add, show (u0 + u1) / 2 ^ 16 = (u0 + u1) / 65536 from rfl, q2]
  have d3 : u0 + u1 + (u2 + u3) < 18446744073709551616 := by omega
  have q3 : (u0 + u1 + (u2 + u3)) / 4294967296 = u4 + u5 + (u6 + u7) := by omega
  have e6 : lN (u0 + u1 + (u2 + u3)) + ((lN (u0 + u1 + (u2 + u3))).toUInt64 >>> ((32 : Int32).toInt64.toUInt64 &&& Int64.toUInt64 63)).toInt64 = lN (u0 + u1 + (u2 + u3) + (u4 + u5 + (u6 + u7))) := by
    rw [show (32 : Int32) = nI 32 from rfl, sh 32 d3 (by decide), lN_add, show (u0 + u1 + (u2 + u3)) / 2 ^ 32 = (u0 + u1 + (u2 + u3)) / 4294967296 from rfl, q3]
  unfold fnJ13_bitCount_95d88 rv_lt
  rw [e1, e2, e3, e4, e5, e6, lN_i, m4, fa_mask]
  apply congrArg (fun z => some (nI z))
  omega
/-! the lowest bit -/
/-- the bits from place k on -/
def lb (x k : Nat) : Nat := x / 2 ^ k * 2 ^ k
theorem lb_bit (x k i : Nat) : (lb x k).testBit i = (decide (k ≤ i) && x.testBit i) := by
  unfold lb
  rw [Nat.testBit_mul_two_pow]
  by_cases h : k ≤ i
  · rw [decide_eq_true h, Nat.testBit_div_two_pow, Nat.sub_add_cancel h]
  · rw [decide_eq_false h, Bool.false_and, Bool.false_and]
theorem lb_0 (x : Nat) : lb x 0 = x := by unfold lb; omega
theorem lb_le (x k : Nat) : lb x k ≤ x := Nat.div_mul_le_self x (2 ^ k)
theorem lb_end {x k : Nat} (h : x < 2 ^ k) : lb x k = 0 := by unfold lb; rw [Nat.div_eq_of_lt h, Nat.zero_mul]
theorem lb_no {x k : Nat} (h : x.testBit k = false) : lb x k = lb x (k + 1) := by
  apply Nat.eq_of_testBit_eq
  intro i
  rw [lb_bit, lb_bit]
  by_cases hi : i = k
  · rw [hi, h, Bool.and_false, Bool.and_false]
  · rw [decide_eq_decide.mpr (show k ≤ i ↔ k + 1 ≤ i from ⟨fun z => by omega, fun z => by omega⟩)]
theorem lb_split {x k : Nat} (h : x.testBit k = true) : lb x k = lb x (k + 1) + 2 ^ k := by
  unfold lb
  have e : x / 2 ^ k % 2 = 1 := by
    have := Nat.testBit_eq_decide_div_mod_eq (x := x) (i := k)
    rw [h] at this
    exact of_decide_eq_true this.symm
  have e2 : x / 2 ^ (k + 1) = x / 2 ^ k / 2 := by rw [Nat.pow_succ, Nat.div_div_eq_div_mul]
  rw [e2, Nat.pow_succ]
  generalize x / 2 ^ k = y at *
  have : y = 2 * (y / 2) + 1 := by omega
  conv => lhs; rw [this]
  rw [Nat.add_mul, Nat.one_mul, Nat.mul_comm 2, Nat.mul_assoc, Nat.mul_comm 2 (2 ^ k)]
theorem lb_ne {x k : Nat} (h : x.testBit k = true) : 0 < lb x k := by
  rw [lb_split h]
  exact Nat.lt_of_lt_of_le (Nat.two_pow_pos k) (Nat.le_add_left _ _)
theorem lb_and {x k : Nat} (h : x.testBit k = true) : lb x k &&& (lb x k - 1) = lb x (k + 1) := by
  have e : lb x k - 1 = 2 ^ (k + 1) * (x / 2 ^ (k + 1)) + (2 ^ k - 1) := by
    rw [lb_split h]
    unfold lb
    rw [Nat.mul_comm]
    have := Nat.two_pow_pos k
    omega
  have hq : 2 ^ k - 1 < 2 ^ (k + 1) := by
    rw [Nat.pow_succ]
    have := Nat.two_pow_pos k
    omega
  apply Nat.eq_of_testBit_eq
  intro i
  rw [Nat.testBit_and, e, Nat.testBit_two_pow_mul_add _ hq, lb_bit, lb_bit]
  by_cases h1 : i < k + 1
  · rw [if_pos h1, Nat.testBit_two_pow_sub_one]
    by_cases h2 : k ≤ i
    · rw [decide_eq_false (show ¬ i < k by omega), Bool.and_false, decide_eq_false (show ¬ k + 1 ≤ i by omega), Bool.false_and]
    · rw [decide_eq_false h2, Bool.false_and, Bool.false_and, decide_eq_false (show ¬ k + 1 ≤ i by omega), Bool.false_and]
  · rw [if_neg h1, Nat.testBit_div_two_pow, decide_eq_true (show k ≤ i by omega), Bool.true_and, decide_eq_true (show k + 1 ≤ i by omega), Bool.true_and, Nat.sub_add_cancel (by omega), Bool.and_self]
theorem lb_I {x k : Nat} (h : x.testBit k = true) (hx : x < 2147483648) : nI (lb x k) &&& (nI (lb x k) - 1) = nI (lb x (k + 1)) ∧ ¬ nI (lb x k) = 0 := by
  have h1 := lb_ne h
  have h2 := lb_le x k
  constructor
  · rw [show (1 : Int32) = nI 1 from rfl, z_sub h1, fa_and, lb_and h]
  · exact nI_ne0 h1 (by omega)
theorem lb_neg {x k : Nat} (h : x.testBit k = true) (hk : k < 31) : nI (lb x k) &&& -(nI (lb x k)) = nI (2 ^ k) := by
  apply b_ext
  intro i hi
  rw [b_and, z_bt, z_bt, lb_bit, decide_eq_true hi, Bool.true_and, Bool.true_and, Nat.testBit_two_pow]
  have e : bt (-(nI (lb x k))) i = ((BitVec.ofNat 32 (lb x k)).getLsbD i ^^ decide (∃ j, j < i ∧ (BitVec.ofNat 32 (lb x k)).getLsbD j = true)) := by
    unfold bt
    rw [Int32.toBitVec_neg]
    show (-(BitVec.ofNat 32 (lb x k))).getLsbD i = _
    rw [BitVec.getLsbD_neg, decide_eq_true hi, Bool.true_and]
  rw [e]
  have g : ∀ j, j < 32 → (BitVec.ofNat 32 (lb x k)).getLsbD j = (decide (k ≤ j) && x.testBit j) := fun j hj => by rw [BitVec.getLsbD_ofNat, lb_bit, decide_eq_true hj, Bool.true_and]
  rw [g i hi]
  by_cases h1 : k ≤ i
  · rw [decide_eq_true h1, Bool.true_and]
    by_cases h2 : k = i
    · subst h2
      rw [h, decide_eq_false]
      · rfl
      · rintro ⟨j, hj, hb⟩
        rw [g j (by omega), decide_eq_false (by omega), Bool.false_and] at hb
        cases hb
    · rw [decide_eq_true (show ∃ j, j < i ∧ (BitVec.ofNat 32 (lb x k)).getLsbD j = true from ⟨k, by omega, by rw [g k (by omega), decide_eq_true (Nat.le_refl k), Bool.true_and, h]⟩), decide_eq_false h2]
      cases x.testBit i <;> rfl
  · rw [decide_eq_false h1, Bool.false_and, Bool.false_and, decide_eq_false (fun z => h1 (by omega))]
theorem lb_lowest (n : Nat) (S : rvS) {x k : Nat} (h : x.testBit k = true) (hk : k < 31) : fnX12_lowest n S (nI (lb x k)) = some (nI k) := by
  unfold fnX12_lowest
  have e : nI (2 ^ k) - 1 = nI (2 ^ k - 1) := by
    rw [show (1 : Int32) = nI 1 from rfl, z_sub (Nat.two_pow_pos k)]
  have hb : 2 ^ k - 1 < 4294967296 := by
    have := Nat.pow_lt_pow_right (a := 2) (by decide) hk
    omega
  rw [lb_neg h hk, e, pc_32 n S hb, Option.bind_some]
  have : fb_ct (fun i => (2 ^ k - 1).testBit i) 32 = k := by
    have e1 : 32 = k + (32 - k) := by omega
    rw [e1, fb_ct_split]
    have a1 : fb_ct (fun i => (2 ^ k - 1).testBit i) k = k := fb_ct_all.mpr (fun i hi => by rw [Nat.testBit_two_pow_sub_one, decide_eq_true hi])
    have a2 : fb_ct (fun i => (2 ^ k - 1).testBit (k + i)) (32 - k) = 0 := fb_ct_zero.mpr (fun i _ => by rw [Nat.testBit_two_pow_sub_one, decide_eq_false (by omega)])
    rw [a1, a2, Nat.add_zero]
  rw [this]
/-! loops -/
theorem lp {α β : Type} {F : Nat → α → Option β} (P : Nat → α → Prop) (Q : Option β → Prop) (N : Nat)
    (hs : ∀ i x q, i < N → P i x → Q (F (q + 1) x) ∨ ∃ y, F (q + 1) x = F q y ∧ P (i + 1) y)
    (hl : ∀ x q, P N x → Q (F (q + 1) x)) : ∀ {i : Nat} {x : α} {q : Nat}, i ≤ N → P i x → N - i < q → Q (F q x) := by
  intro i x q hi hp hq
  obtain ⟨d, hd⟩ : ∃ d, d = N - i := ⟨_, rfl⟩
  induction d generalizing i x q with
  | zero =>
    obtain ⟨q', rfl⟩ : ∃ q', q = q' + 1 := ⟨q - 1, by omega⟩
    have e : i = N := by omega
    subst e
    exact hl x q' hp
  | succ d ih =>
    obtain ⟨q', rfl⟩ : ∃ q', q = q' + 1 := ⟨q - 1, by omega⟩
    rcases hs i x q' (by omega) hp with h | ⟨y, h1, h2⟩
    · exact h
    · rw [h1]
      exact ih (by omega) h2 (by omega) (by omega)
/-- a loop whose places are known -/
theorem lpd {α β : Type} {F : Nat → α → Option β} (g : Nat → α) (r : Option β) (N : Nat)
    (hs : ∀ i q, i < N → F (q + 1) (g i) = F q (g (i + 1))) (hl : ∀ q, F (q + 1) (g N) = r) : ∀ {i q : Nat}, i ≤ N → N - i < q → F q (g i) = r := by
  intro i q hi hq
  exact lp (F := F) (fun i x => x = g i) (fun o => o = r) N (fun i x q h hp => by subst hp; exact Or.inr ⟨_, hs i q h, rfl⟩) (fun x q hp => by subst hp; exact hl q) hi rfl hq
