/-! FEW: the fewest coins that make a sum, and of those the first -/
section
variable (e : Nat → Bool) (d : Nat → Nat)
def fS (d : Nat → Nat) (A : Nat → Bool) (i : Nat) : Nat := fb_sm (fun k => if A k then d k else 0) i
def vl (A : Nat → Bool) (i : Nat) : Nat := fb_sm (fun k => if A k then 2 ^ (39 - k) else 0) i
def hvy (i w : Nat) : Nat := if w = 0 then 0 else w - 1099511627776 + 2 ^ (39 - i)
def Lf : Nat → Nat → Nat
  | 0, x => if x = 0 then 69269232549888 else 0
  | i + 1, x => if e i = true ∧ d i ≤ x then max (Lf i x) (hvy i (Lf i (x - d i))) else Lf i x
def Wt (A : Nat → Bool) (i : Nat) : Nat := (63 - fb_ct A i) * 1099511627776 + vl A i
def ifin (A : Nat → Bool) (i : Nat) : Prop := ∀ k, k < i → A k = true → e k = true
end
section
variable {e : Nat → Bool} {d : Nat → Nat} {A : Nat → Bool}
theorem fw_half {i : Nat} (hi : i < 40) : 2 ^ (40 - i) = 2 * 2 ^ (39 - i) := by
  rw [show 40 - i = (39 - i) + 1 by omega, Nat.pow_succ]; omega
theorem vl_lt (A : Nat → Bool) (i : Nat) (hi : i ≤ 40) : vl A i + 2 ^ (40 - i) ≤ 1099511627776 := by
  induction i with
  | zero => show 0 + 2 ^ 40 ≤ _; decide
  | succ i ih =>
    have h1 := ih (by omega)
    have h2 := fw_half (i := i) (by omega)
    rw [vl, sm_s, ← vl, show 40 - (i + 1) = 39 - i by omega]
    split <;> omega
theorem nft : ¬ (false = true) := by decide
theorem smi_cong {A B : Nat → Bool} {f : Nat → Nat} {i : Nat} (h : ∀ k, k < i → A k = B k) : fb_sm (fun k => if A k then f k else 0) i = fb_sm (fun k => if B k then f k else 0) i := fb_sm_cong fun k hk => by rw [h k hk]
theorem Wt_cong {A B : Nat → Bool} {i : Nat} (h : ∀ k, k < i → A k = B k) : Wt A i = Wt B i := by
  rw [Wt, Wt, fb_ct_cong h, show vl A i = vl B i from smi_cong h]
theorem fS_cong {A B : Nat → Bool} {i : Nat} (h : ∀ k, k < i → A k = B k) : fS d A i = fS d B i := smi_cong h
theorem Wt_1 {i : Nat} (hi : i < 40) (h : A i = true) : Wt A (i + 1) = hvy i (Wt A i) ∧ 1099511627776 ≤ Wt A i := by
  have c := fb_ct_le A i
  have e1 : vl A (i + 1) = vl A i + 2 ^ (39 - i) := by rw [vl, sm_s, if_pos h]; rfl
  have e2 : fb_ct A (i + 1) = fb_ct A i + 1 := by rw [ct_s, if_pos h]
  rw [hvy, Wt, Wt, e1, e2]
  refine ⟨?_, by omega⟩
  rw [if_neg (by omega)]
  omega
theorem Wt_0 {i : Nat} (h : A i = false) : Wt A (i + 1) = Wt A i := by
  have g : ¬ A i = true := by rw [h]; decide
  rw [Wt, Wt, vl, vl, sm_s, ct_s, if_neg g, if_neg g]
theorem Lf_up : ∀ i, i ≤ 40 → ∀ A, ifin e A i → Wt A i ≤ Lf e d i (fS d A i)
  | 0, _, A, _ => by
    show (63 - 0) * 1099511627776 + 0 ≤ if fS d A 0 = 0 then 69269232549888 else 0
    rw [show fS d A 0 = 0 from rfl, if_pos rfl]
    decide
  | i + 1, hi, A, hA => by
    have ih := Lf_up i (by omega) A (fun k hk => hA k (by omega))
    rw [fS, sm_s, Lf]
    cases h : A i
    · rw [if_neg nft, Wt_0 h, ← fS]
      by_cases c : e i = true ∧ d i ≤ fS d A i
      · rw [if_pos c]; exact Nat.le_trans ih (Nat.le_max_left _ _)
      · rw [if_neg c]; exact ih
    · obtain ⟨w1, w2⟩ := Wt_1 (by omega) h
      rw [if_pos rfl, ← fS, if_pos ⟨hA i (by omega) h, by omega⟩, w1, show fS d A i + d i - d i = fS d A i by omega]
      refine Nat.le_trans ?_ (Nat.le_max_right _ _)
      rw [hvy, hvy, if_neg (by omega), if_neg (by omega)]
      omega
theorem Lf_at : ∀ i, i ≤ 40 → ∀ x, Lf e d i x = 0 ∨ ∃ A, ifin e A i ∧ fS d A i = x ∧ Lf e d i x = Wt A i
  | 0, _, x => by
    by_cases h : x = 0
    · refine Or.inr ⟨fun _ => false, fun k hk => absurd hk (Nat.not_lt_zero k), h.symm, ?_⟩
      show (if x = 0 then 69269232549888 else 0) = (63 - 0) * 1099511627776 + 0
      rw [if_pos h]
    · exact Or.inl (if_neg h)
  | i + 1, hi, x => by
    rw [Lf]
    have old : Lf e d i x = 0 ∨ ∃ A, ifin e A (i + 1) ∧ fS d A (i + 1) = x ∧ Lf e d i x = Wt A (i + 1) := by
      rcases Lf_at i (by omega) x with h | ⟨A, h1, h2, h3⟩
      · exact Or.inl h
      · have g : ∀ k, k < i → (A k && decide (k < i)) = A k := fun k hk => by rw [decide_eq_true hk, Bool.and_true]
        have gi : (A i && decide (i < i)) = false := by rw [decide_eq_false (by omega), Bool.and_false]
        refine Or.inr ⟨fun k => A k && decide (k < i), fun k hk h => ?_, ?_, ?_⟩
        · rcases Nat.lt_succ_iff_lt_or_eq.mp hk with c | c
          · exact h1 k c ((g k c).symm.trans h)
          · subst c; exact absurd (gi.symm.trans h) nft
        · rw [← h2, fS, sm_s, gi, if_neg nft]
          exact fS_cong g
        · rw [h3, Wt_0 (A := fun k => A k && decide (k < i)) gi]
          exact (Wt_cong g).symm
    by_cases c : e i = true ∧ d i ≤ x
    · rw [if_pos c]
      have new : hvy i (Lf e d i (x - d i)) = 0 ∨ ∃ A, ifin e A (i + 1) ∧ fS d A (i + 1) = x ∧ hvy i (Lf e d i (x - d i)) = Wt A (i + 1) := by
        rcases Lf_at i (by omega) (x - d i) with h | ⟨A, h1, h2, h3⟩
        · exact Or.inl (by rw [h]; rfl)
        · have g : ∀ k, k < i → (A k || decide (i ≤ k)) = A k := fun k hk => by rw [decide_eq_false (by omega), Bool.or_false]
          have gi : (A i || decide (i ≤ i)) = true := by rw [decide_eq_true (Nat.le_refl i), Bool.or_true]
          refine Or.inr ⟨fun k => A k || decide (i ≤ k), fun k hk h => ?_, ?_, ?_⟩
          · rcases Nat.lt_succ_iff_lt_or_eq.mp hk with c' | c'
            · exact h1 k c' ((g k c').symm.trans h)
            · subst c'; exact c.1
          · rw [fS, sm_s, gi, if_pos rfl, ← fS, fS_cong g, h2]
            omega
          · rw [(Wt_1 (A := fun k => A k || decide (i ≤ k)) (by omega) gi).1, h3]
            exact congrArg (hvy i) (Wt_cong g).symm
      rcases Nat.le_total (Lf e d i x) (hvy i (Lf e d i (x - d i))) with h | h
      · rw [Nat.max_eq_right h]; exact new
      · rw [Nat.max_eq_left h]; exact old
    · rw [if_neg c]; exact old
/-! from the end -/
def ddv (e : Nat → Bool) (d : Nat → Nat) (i : Nat) : Nat := if e i then d i else 1000
def tb (e : Nat → Bool) (d : Nat → Nat) (N : Nat) : Nat → Nat → Nat
  | 0, x => if x = 0 then 0 else 10000
  | k + 1, x => if x < ddv e d (N - (k + 1)) then tb e d N k x else if tb e d N k x ≤ tb e d N k (x - ddv e d (N - (k + 1))) + 1 then tb e d N k x else tb e d N k (x - ddv e d (N - (k + 1))) + 1
def sf (f : Nat → Nat) (N : Nat) : Nat → Nat
  | 0 => 0
  | k + 1 => f (N - (k + 1)) + sf f N k
theorem sf_all (f : Nat → Nat) (N : Nat) : ∀ k, k ≤ N → fb_sm f (N - k) + sf f N k = fb_sm f N
  | 0, _ => rfl
  | k + 1, h => by
    have h1 := sf_all f N k (by omega)
    rw [show N - k = (N - (k + 1)) + 1 by omega, fb_sm_succ] at h1
    rw [sf]
    omega
theorem sf_N (f : Nat → Nat) (N : Nat) : sf f N N = fb_sm f N := by
  have := sf_all f N N (Nat.le_refl N)
  rw [Nat.sub_self] at this
  have z : fb_sm f 0 = 0 := rfl
  omega
theorem tb_le {N k x : Nat} : tb e d N (k + 1) x ≤ tb e d N k x := by
  rw [tb]
  split
  · exact Nat.le_refl _
  · split
    · exact Nat.le_refl _
    · omega
theorem tb_le2 {N k x : Nat} (h : ddv e d (N - (k + 1)) ≤ x) : tb e d N (k + 1) x ≤ tb e d N k (x - ddv e d (N - (k + 1))) + 1 := by
  rw [tb, if_neg (by omega)]
  split
  · assumption
  · exact Nat.le_refl _
theorem tb_cap {N : Nat} : ∀ k x, tb e d N k x ≤ 10000
  | 0, x => by rw [tb]; split <;> omega
  | k + 1, x => Nat.le_trans tb_le (tb_cap k x)
abbrev cf (A : Nat → Bool) : Nat → Nat := fun k => if A k then 1 else 0
theorem cf_ct (A : Nat → Bool) : ∀ i, fb_sm (cf A) i = fb_ct A i
  | 0 => rfl
  | i + 1 => by
    rw [fb_sm_succ, ct_s, cf_ct A i]
    show fb_ct A i + (if A i then 1 else 0) = _
    cases A i <;> rfl
theorem tb_low {N : Nat} (hA : ifin e A N) : ∀ k, k ≤ N → tb e d N k (sf (fun k => if A k then d k else 0) N k) ≤ sf (cf A) N k
  | 0, _ => by rw [sf, tb, if_pos rfl]; exact Nat.zero_le _
  | k + 1, h => by
    have ih := tb_low hA k (by omega)
    rw [sf, sf]
    cases c : A (N - (k + 1))
    · rw [if_neg nft, Nat.zero_add, cf, c, if_neg nft, Nat.zero_add]
      exact Nat.le_trans tb_le ih
    · have e1 : ddv e d (N - (k + 1)) = d (N - (k + 1)) := if_pos (hA _ (by omega) c)
      rw [if_pos rfl, cf, c, if_pos rfl]
      have := tb_le2 (e := e) (d := d) (N := N) (k := k) (x := d (N - (k + 1)) + sf (fun k => if A k then d k else 0) N k) (by omega)
      rw [e1, show d (N - (k + 1)) + sf (fun k => if A k then d k else 0) N k - d (N - (k + 1)) = sf (fun k => if A k then d k else 0) N k by omega] at this
      omega
def tkb (e : Nat → Bool) (d : Nat → Nat) (N i x : Nat) : Bool := decide (ddv e d i ≤ x ∧ tb e d N (N - (i + 1)) (x - ddv e d i) + 1 = tb e d N (N - i) x)
def rx (e : Nat → Bool) (d : Nat → Nat) (N X : Nat) : Nat → Nat
  | 0 => X
  | i + 1 => if tkb e d N i (rx e d N X i) then rx e d N X i - ddv e d i else rx e d N X i
def Bf (e : Nat → Bool) (d : Nat → Nat) (N X i : Nat) : Bool := tkb e d N i (rx e d N X i)
variable {N X : Nat}
theorem tk_no {i x : Nat} (hi : i < N) (h : tkb e d N i x = false) : tb e d N (N - (i + 1)) x = tb e d N (N - i) x := by
  have h := of_decide_eq_false h
  rw [show N - i = (N - (i + 1)) + 1 by omega] at h ⊢
  rw [tb, show N - (N - (i + 1) + 1) = i by omega] at h ⊢
  by_cases c : x < ddv e d i
  · rw [if_pos c]
  · rw [if_neg c] at h ⊢
    by_cases c2 : tb e d N (N - (i + 1)) x ≤ tb e d N (N - (i + 1)) (x - ddv e d i) + 1
    · rw [if_pos c2]
    · rw [if_neg c2] at h
      exact absurd ⟨by omega, rfl⟩ h
theorem rx_le : ∀ i, rx e d N X i ≤ X
  | 0 => Nat.le_refl _
  | i + 1 => by
    have := rx_le i
    rw [rx]
    split <;> omega
theorem Bf_e {i : Nat} (hX : X ≤ 999) (h : Bf e d N X i = true) : e i = true ∧ d i ≤ rx e d N X i ∧ rx e d N X (i + 1) = rx e d N X i - d i ∧ tb e d N (N - (i + 1)) (rx e d N X i - d i) + 1 = tb e d N (N - i) (rx e d N X i) := by
  have h1 := of_decide_eq_true h
  have h2 := rx_le (e := e) (d := d) (N := N) (X := X) i
  have he : e i = true := by
    cases c : e i
    · have : ddv e d i = 1000 := by rw [ddv, c]; rfl
      omega
    · rfl
  have e1 : ddv e d i = d i := if_pos he
  rw [e1] at h1
  refine ⟨he, h1.1, ?_, h1.2⟩
  rw [rx, if_pos (show tkb e d N i (rx e d N X i) = true from h), e1]
theorem walk (hX : X ≤ 999) : ∀ i, i ≤ N → tb e d N (N - i) (rx e d N X i) + fb_ct (Bf e d N X) i = tb e d N N X ∧ fS d (Bf e d N X) i + rx e d N X i = X
  | 0, _ => ⟨rfl, Nat.zero_add X⟩
  | i + 1, hi => by
    obtain ⟨h1, h2⟩ := walk hX i (by omega)
    rw [ct_s, fS, sm_s, ← fS]
    cases c : Bf e d N X i
    · have e1 : rx e d N X (i + 1) = rx e d N X i := by rw [rx, if_neg (by rw [← Bf, c]; decide)]
      rw [if_neg nft, if_neg nft, e1, tk_no (by omega) c]
      exact ⟨h1, h2⟩
    · obtain ⟨b1, b2, b3, b4⟩ := Bf_e hX c
      rw [if_pos rfl, if_pos rfl, b3]
      omega
theorem Bf_in (hX : X ≤ 999) (i : Nat) : ifin e (Bf e d N X) i := fun _ _ h => (Bf_e hX h).1
theorem walk_end (hX : X ≤ 999) (h : tb e d N N X < 10000) : fb_ct (Bf e d N X) N = tb e d N N X ∧ fS d (Bf e d N X) N = X := by
  obtain ⟨h1, h2⟩ := walk (e := e) (d := d) (N := N) (X := X) hX N (Nat.le_refl N)
  rw [Nat.sub_self, tb] at h1
  by_cases c : rx e d N X N = 0
  · rw [if_pos c] at h1
    omega
  · rw [if_neg c] at h1
    omega
theorem vt_lt (hN : N ≤ 40) : ∀ k, k ≤ N → sf (fun k => if A k then 2 ^ (39 - k) else 0) N k + 1 ≤ 2 ^ (40 - (N - k))
  | 0, _ => by rw [sf]; exact Nat.one_le_two_pow
  | k + 1, h => by
    have ih := vt_lt hN k (by omega)
    have h2 := fw_half (i := N - (k + 1)) (by omega)
    rw [show 40 - (N - k) = 39 - (N - (k + 1)) by omega] at ih
    rw [sf]
    split <;> omega
theorem lex (hN : N ≤ 40) (hX : X ≤ 999) (hA : ifin e A N) : ∀ k, k ≤ N → sf (fun k => if A k then d k else 0) N k = rx e d N X (N - k) → sf (cf A) N k = tb e d N k (rx e d N X (N - k)) → sf (fun k => if A k then 2 ^ (39 - k) else 0) N k ≤ sf (fun k => if Bf e d N X k then 2 ^ (39 - k) else 0) N k
  | 0, _, _, _ => Nat.le_refl _
  | k + 1, h, h1, h2 => by
    have ih := lex hN hX hA k (by omega)
    have lo := tb_low (d := d) hA k (by omega)
    have vt := vt_lt (A := A) hN k (by omega)
    have ei : N - k = N - (k + 1) + 1 := by omega
    rw [ei] at ih vt
    rw [sf] at h1 h2
    rw [sf, sf]
    have et : N - (N - (k + 1)) = k + 1 := by omega
    have et2 : N - (N - (k + 1) + 1) = k := by omega
    have e40 : 40 - (N - (k + 1) + 1) = 39 - (N - (k + 1)) := by omega
    rw [e40] at vt
    cases cb : Bf e d N X (N - (k + 1))
    · have r1 : rx e d N X (N - (k + 1) + 1) = rx e d N X (N - (k + 1)) := by rw [rx, if_neg (by rw [← Bf, cb]; decide)]
      have t1 := tk_no (by omega) cb
      rw [et, et2] at t1
      cases ca : A (N - (k + 1))
      · rw [cf, ca] at h2
        rw [ca] at h1
        have g1 : ¬ (false = true) := by decide
        rw [if_neg g1, Nat.zero_add] at h1 h2
        rw [if_neg g1]
        have := ih (by rw [r1]; exact h1) (by rw [r1, h2, t1])
        omega
      · exfalso
        rw [cf, ca] at h2
        rw [ca] at h1
        rw [if_pos rfl] at h1 h2
        have he := hA _ (by omega) ca
        have e1 : ddv e d (N - (k + 1)) = d (N - (k + 1)) := if_pos he
        have cb := of_decide_eq_false cb
        rw [e1, et, et2] at cb
        have l2 := tb_le2 (e := e) (d := d) (N := N) (k := k) (x := rx e d N X (N - (k + 1))) (by omega)
        rw [e1] at l2
        have es : sf (fun k => if A k then d k else 0) N k = rx e d N X (N - (k + 1)) - d (N - (k + 1)) := by omega
        rw [es] at lo
        exact cb ⟨by omega, by omega⟩
    · obtain ⟨b1, b2, b3, b4⟩ := Bf_e hX cb
      rw [et, et2] at b4
      rw [if_pos rfl]
      cases ca : A (N - (k + 1))
      · rw [if_neg nft]
        omega
      · rw [cf, ca] at h2
        rw [ca] at h1
        rw [if_pos rfl] at h1 h2
        rw [if_pos rfl]
        have := ih (by rw [b3]; omega) (by rw [b3]; omega)
        omega
theorem few (hN : N ≤ 40) (hX : X ≤ 999) : (10000 ≤ tb e d N N X ∧ Lf e d N X = 0) ∨ (tb e d N N X ≤ 40 ∧ fb_ct (Bf e d N X) N = tb e d N N X ∧ Lf e d N X = Wt (Bf e d N X) N) := by
  rcases Lf_at (e := e) (d := d) N hN X with h | ⟨A, a1, a2, a3⟩
  · refine Or.inl ⟨Nat.le_of_not_lt fun c => ?_, h⟩
    obtain ⟨w1, w2⟩ := walk_end hX c
    have u := Lf_up (e := e) (d := d) N hN (Bf e d N X) (Bf_in hX N)
    rw [w2, h] at u
    have := fb_ct_le (Bf e d N X) N
    rw [Wt] at u
    omega
  · have lo := tb_low (d := d) a1 N (Nat.le_refl N)
    rw [sf_N, sf_N, cf_ct, ← fS, a2] at lo
    have ca := fb_ct_le A N
    obtain ⟨w1, w2⟩ := walk_end (e := e) (d := d) (N := N) hX (by omega)
    have u := Lf_up (e := e) (d := d) N hN (Bf e d N X) (Bf_in hX N)
    rw [w2, a3] at u
    have v1 := vl_lt A N hN
    have v2 := vl_lt (Bf e d N X) N hN
    have p1 : 1 ≤ 2 ^ (40 - N) := Nat.one_le_two_pow
    refine Or.inr ⟨by omega, w1, ?_⟩
    rw [a3]
    rw [Wt, Wt] at u ⊢
    have ec : fb_ct A N = tb e d N N X := by
      rw [w1] at u
      omega
    have lx := lex (d := d) hN hX a1 N (Nat.le_refl N) (by rw [Nat.sub_self, sf_N, ← fS, a2]; rfl) (by rw [Nat.sub_self, sf_N, cf_ct, ec]; rfl)
    rw [sf_N, sf_N, ← vl, ← vl] at lx
    rw [ec, w1] at u ⊢
    omega
/-! the weight's bits -/
def wq (A : Nat → Bool) (c : Nat) : Nat → Nat
  | 0 => c
  | i + 1 => 2 * wq A c i + if A i then 1 else 0
theorem wq_v (A : Nat → Bool) (c : Nat) : ∀ i, i ≤ 40 → c * 1099511627776 + vl A i = 2 ^ (40 - i) * wq A c i
  | 0, _ => by show c * 1099511627776 + 0 = 1099511627776 * c; omega
  | i + 1, h => by
    have ih := wq_v A c i (by omega)
    have h2 := fw_half (i := i) (by omega)
    rw [h2, Nat.mul_assoc, Nat.mul_left_comm] at ih
    rw [vl, sm_s, ← vl, wq, show 40 - (i + 1) = 39 - i by omega, Nat.mul_add]
    cases A i
    · rw [if_neg nft, if_neg nft]; omega
    · rw [if_pos rfl, if_pos rfl]; omega
theorem wq_b (A : Nat → Bool) (c : Nat) : ∀ i t, t < i → (wq A c i).testBit t = A (i - 1 - t)
  | 0, t, h => absurd h (Nat.not_lt_zero t)
  | i + 1, 0, _ => by
    rw [wq, Nat.testBit_zero, show i + 1 - 1 - 0 = i by omega]
    cases A i
    · rw [if_neg nft]; exact decide_eq_false (by omega)
    · rw [if_pos rfl]; exact decide_eq_true (by omega)
  | i + 1, t + 1, h => by
    rw [wq, Nat.testBit_succ, show (2 * wq A c i + if A i then 1 else 0) / 2 = wq A c i by split <;> omega, wq_b A c i t (by omega)]
    congr 1
    omega
theorem Wt_b {i k : Nat} (hi : i ≤ 40) (hk : k < 40) : (Wt A i).testBit (39 - k) = (decide (k < i) && A k) := by
  rw [Wt, wq_v A _ i hi, Nat.mul_comm, Nat.testBit_mul_two_pow]
  by_cases c : k < i
  · rw [decide_eq_true c, decide_eq_true (show 40 - i ≤ 39 - k by omega), wq_b A _ i _ (by omega), show i - 1 - (39 - k - (40 - i)) = k by omega]
  · rw [decide_eq_false c, decide_eq_false (show ¬ 40 - i ≤ 39 - k by omega)]
    rfl
theorem Wt_lt {i : Nat} (hi : i ≤ 40) : Wt A i < 140737488355328 := by
  have := vl_lt A i hi
  have p1 : 1 ≤ 2 ^ (40 - i) := Nat.one_le_two_pow
  rw [Wt]
  omega
theorem Wt_ge {i : Nat} (hi : i ≤ 40) : 1099511627776 ≤ Wt A i := by
  have := fb_ct_le A i
  rw [Wt]
  omega
theorem Lf_cap {i : Nat} (hi : i ≤ 40) (x : Nat) : Lf e d i x < 140737488355328 ∧ (Lf e d i x = 0 ∨ 1099511627776 ≤ Lf e d i x) := by
  rcases Lf_at (e := e) (d := d) i hi x with h | ⟨A, -, -, h⟩
  · rw [h]; exact ⟨by decide, Or.inl rfl⟩
  · rw [h]; exact ⟨Wt_lt hi, Or.inr (Wt_ge hi)⟩
end
