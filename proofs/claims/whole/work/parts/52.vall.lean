/-! THE VALLEY as numbers: m is the reference's row; what both sides say of it -/
abbrev vW (m : Nat → Nat) : Nat := m 0
abbrev vC (m : Nat → Nat) : Nat := m 1
abbrev vD (m : Nat → Nat) : Nat := m 2
abbrev vN (m : Nat → Nat) : Nat := m 3
abbrev vF (m : Nat → Nat) : Nat := m 4
abbrev vL (m : Nat → Nat) : Nat := m 5
abbrev at_ (m : Nat → Nat) (w : Nat) : Nat := m (8 + 5 * w)
abbrev mt (m : Nat → Nat) (w : Nat) : Nat := m (9 + 5 * w)
abbrev de (m : Nat → Nat) (w : Nat) : Nat := m (10 + 5 * w)
abbrev sg (m : Nat → Nat) (w : Nat) : Nat := m (11 + 5 * w)
abbrev ea (m : Nat → Nat) (w : Nat) : Nat := m (12 + 5 * w)
abbrev rd (m : Nat → Nat) (v : Nat) : Nat := m (128 + v)
abbrev va (m : Nat → Nat) (c : Nat) : Nat := m (132 + 6 * c)
abbrev ow (m : Nat → Nat) (c : Nat) : Nat := m (133 + 6 * c)
abbrev mn (m : Nat → Nat) (c : Nat) : Nat := m (134 + 6 * c)
abbrev rm (m : Nat → Nat) (c i : Nat) : Nat := m (135 + 6 * c + i)
abbrev db (m : Nat → Nat) (k i : Nat) : Nat := m (372 + 4 * k + i)
/-- the names on a rim, the latest first -/
def rl (m : Nat → Nat) (c : Nat) : List Nat := match mn m c with
  | 0 => []
  | 1 => [rm m c 0]
  | 2 => [rm m c 0, rm m c 1]
  | _ => [rm m c 0, rm m c 1, rm m c 2]
/-- a rim as the class holds it -/
def rb : List Nat → Nat
  | [] => 0
  | a :: t => (a + 1) + 32 * rb t
/-- whether a is of the house of b -/
def sh (m : Nat → Nat) (a b : Nat) : Bool := decide (a = b) || decide (mt m a = b + 1)
def nr (m : Nat → Nat) (a b : Nat) : Bool := (rd m a).testBit b
/-- why a coin of o with a rim l does not go to w -/
def wy (m : Nat → Nat) (o : Nat) (l : List Nat) (w : Nat) : Nat :=
  if 0 < de m w then 1 else if sh m w o then 2 else if l.any (fun x => sh m w x) then 3 else if nr m (at_ m w) (at_ m o) then 0 else 4
def gs (m : Nat → Nat) (o : Nat) (l : List Nat) : Nat := bs (fun w => decide (wy m o l w = 0)) (vW m)
def ps (m : Nat → Nat) (o : Nat) (l : List Nat) : List Nat := (o :: l).take (vN m)
/-- a house as bits -/
def hs (m : Nat → Nat) (w : Nat) : Nat := if mt m w = 0 then 2 ^ w else 2 ^ w ||| 2 ^ (mt m w - 1)
/-- whom a village's coins can come to -/
def rc (m : Nat → Nat) (v : Nat) : Nat := bs (fun w => nr m v (at_ m w) && decide (de m w = 0)) (vW m)
/-- a list of names: few, each of somebody -/
abbrev okl (m : Nat → Nat) (l : List Nat) : Prop := l.length ≤ 3 ∧ ∀ x ∈ l, x < vW m
/-- what is true of every valley -/
def okp (m : Nat → Nat) : Prop := vW m ≤ 24 ∧ (∀ w, w < vW m → at_ m w < 4) ∧ (∀ w, w < vW m → mt m w ≤ vW m ∧ de m w ≤ 1 ∧ sg m w ≤ 1) ∧ (∀ a b, a < vW m → b < vW m → mt m a = b + 1 → mt m b = a + 1 ∧ a ≠ b) ∧ (∀ v, v < 4 → rd m v < 16 ∧ (rd m v).testBit v = true) ∧ (∀ a b, a < 4 → b < 4 → nr m a b = nr m b a)
def okc (m : Nat → Nat) : Prop := vC m ≤ 40 ∧ vN m ≤ 3 ∧ ∀ c, c < vC m → 1 ≤ va m c ∧ va m c ≤ 99 ∧ ow m c < vW m ∧ mn m c ≤ vN m ∧ ∀ i, i < mn m c → rm m c i < vW m
def okd (m : Nat → Nat) : Prop := vD m ≤ 12 ∧ 1 ≤ vF m ∧ vF m ≤ 99 ∧ vL m ≤ 2 ∧ m 6 ≤ 16 ∧ m 6 ≤ vW m ∧ ∀ k, k < vD m → db m k 0 < vW m ∧ db m k 1 < vW m ∧ db m k 0 ≠ db m k 1 ∧ 1 ≤ db m k 2 ∧ db m k 2 ≤ 999 ∧ db m k 3 ≤ 1
theorem rl_len {m : Nat → Nat} {c : Nat} (h : mn m c ≤ 3) : (rl m c).length = mn m c := by
  unfold rl
  have : mn m c = 0 ∨ mn m c = 1 ∨ mn m c = 2 ∨ mn m c = 3 := by omega
  rcases this with e | e | e | e <;> rw [e] <;> rfl
theorem rl_get {m : Nat → Nat} {c : Nat} (h : mn m c ≤ 3) {i : Nat} (hi : i < mn m c) : (rl m c)[i]? = some (rm m c i) := by
  unfold rl
  have : mn m c = 0 ∨ mn m c = 1 ∨ mn m c = 2 ∨ mn m c = 3 := by omega
  rcases this with e | e | e | e <;> rw [e] at hi ⊢
  · omega
  · have : i = 0 := by omega
    subst this; rfl
  · have : i = 0 ∨ i = 1 := by omega
    rcases this with rfl | rfl <;> rfl
  · have : i = 0 ∨ i = 1 ∨ i = 2 := by omega
    rcases this with rfl | rfl | rfl <;> rfl
theorem okc.l {m : Nat → Nat} (h : okc m) {c : Nat} (hc : c < vC m) : okl m (rl m c) := by
  obtain ⟨-, h3, hh⟩ := h
  obtain ⟨-, -, -, h4, h5⟩ := hh c hc
  have hl : mn m c ≤ 3 := by omega
  refine ⟨by rw [rl_len hl]; exact hl, fun x hx => ?_⟩
  obtain ⟨i, hi, e⟩ := List.getElem_of_mem hx
  rw [rl_len hl] at hi
  have e2 := rl_get hl hi
  rw [List.getElem?_eq_getElem (by rw [rl_len hl]; exact hi), e] at e2
  have := Option.some.inj e2
  rw [this]
  exact h5 i hi
theorem hs_bit (m : Nat → Nat) (w b : Nat) : (hs m w).testBit b = (decide (b = w) || decide (mt m w = b + 1)) := by
  unfold hs
  by_cases h : mt m w = 0
  · rw [if_pos h, Nat.testBit_two_pow, h]
    by_cases h2 : w = b
    · subst h2; simp
    · have h4 : ¬ b = w := fun z => h2 z.symm
      simp [h2, h4]
  · rw [if_neg h, Nat.testBit_or, Nat.testBit_two_pow, Nat.testBit_two_pow]
    by_cases h2 : w = b
    · subst h2; simp
    · by_cases h3 : mt m w = b + 1
      · simp [h3]
      · have : ¬ mt m w - 1 = b := by omega
        have h4 : ¬ b = w := fun z => h2 z.symm
        simp [h2, h3, this, h4]
theorem hs_lt {m : Nat → Nat} (h : okp m) {w : Nat} (hw : w < vW m) : hs m w < 2 ^ 24 := by
  obtain ⟨h1, -, h3, -⟩ := h
  have h4 := (h3 w hw).1
  unfold hs
  have a : 2 ^ w < 2 ^ 24 := Nat.pow_lt_pow_right (by decide) (by omega)
  split
  · exact a
  · exact Nat.or_lt_two_pow a (Nat.pow_lt_pow_right (by decide) (by omega))
/-- a house's bit is: is of this house -/
theorem hs_sh {m : Nat → Nat} (h : okp m) {w b : Nat} (hw : w < vW m) (hb : b < vW m) : (hs m w).testBit b = sh m b w := by
  rw [hs_bit]
  unfold sh
  obtain ⟨-, -, -, h4, -⟩ := h
  congr 1
  apply decide_eq_decide.mpr
  exact ⟨fun z => (h4 w b hw hb z).1, fun z => (h4 b w hb hw z).1⟩
theorem rb_lt : ∀ {l : List Nat}, (∀ x ∈ l, x < 31) → rb l < 32 ^ l.length := by
  intro l
  induction l with
  | nil => intro _; decide
  | cons a t ih =>
    intro h
    have h1 := ih (fun x hx => h x (List.mem_cons_of_mem _ hx))
    have h2 := h a List.mem_cons_self
    rw [rb, List.length_cons, Nat.pow_succ]
    omega
theorem okl.lt {m : Nat → Nat} {l : List Nat} (hp : okp m) (h : okl m l) : rb l < 32768 := by
  have h1 := hp.1
  have h2 := rb_lt (l := l) (fun x hx => by have := h.2 x hx; omega)
  have h3 : 32 ^ l.length ≤ 32 ^ 3 := Nat.pow_le_pow_right (by decide) h.1
  have e : (32 : Nat) ^ 3 = 32768 := rfl
  omega
/-! THE CELLS of a valley: v its number, v+1 its folk, v+8 its purse, v+12 its sentence -/
def vb (v : Nat) : Prop := v = 67 ∨ v = 87 ∨ v = 149 ∨ v = 169
def fb (f : Nat) : Prop := f = 68 ∨ f = 88 ∨ f = 150 ∨ f = 170
def pb (p : Nat) : Prop := p = 75 ∨ p = 95 ∨ p = 157 ∨ p = 177 ∨ p = 123 ∨ p = 127 ∨ p = 131 ∨ p = 135 ∨ p = 139 ∨ p = 143
theorem vb.f {v : Nat} (h : vb v) : fb (v + 1) := by
  rcases h with rfl | rfl | rfl | rfl
  · exact Or.inl rfl
  · exact Or.inr (Or.inl rfl)
  · exact Or.inr (Or.inr (Or.inl rfl))
  · exact Or.inr (Or.inr (Or.inr rfl))
theorem vb.p {v : Nat} (h : vb v) : pb (v + 8) := by
  rcases h with rfl | rfl | rfl | rfl
  · exact Or.inl rfl
  · exact Or.inr (Or.inl rfl)
  · exact Or.inr (Or.inr (Or.inl rfl))
  · exact Or.inr (Or.inr (Or.inr (Or.inl rfl)))
abbrev FS (S : rvS) (f : Nat) : Prop := rv_ck S 0 f = some () ∧ S.2.2.2 f 3 = some (f + 1) ∧ S.2.2.2 f 4 = some (f + 2) ∧ S.2.2.2 f 5 = some (f + 3) ∧ S.2.2.2 f 6 = some (f + 4) ∧ S.2.2.2 f 7 = some (f + 5) ∧ S.2.2.2 f 8 = some (f + 6) ∧ rv_ln S 0 (f + 1) = some 24 ∧ rv_ln S 0 (f + 2) = some 24 ∧ rv_ln S 0 (f + 3) = some 24 ∧ rv_ln S 1 (f + 4) = some 24 ∧ rv_ln S 0 (f + 5) = some 4 ∧ rv_ln S 0 (f + 6) = some 4
abbrev PS (S : rvS) (p : Nat) : Prop := rv_ck S 5 p = some () ∧ S.2.2.2 p 2 = some (p + 1) ∧ S.2.2.2 p 3 = some (p + 2) ∧ S.2.2.2 p 4 = some (p + 3) ∧ rv_ln S 0 (p + 1) = some 40 ∧ rv_ln S 0 (p + 2) = some 40 ∧ rv_ln S 0 (p + 3) = some 40
abbrev VS (S : rvS) (v : Nat) : Prop := rv_ck S 8 v = some () ∧ S.2.2.2 v 0 = some (v + 1) ∧ S.2.2.2 v 1 = some (v + 8) ∧ S.2.2.2 v 2 = some (v + 12) ∧ S.2.2.2 v 3 = some (v + 17) ∧ S.2.2.2 v 4 = some (v + 18) ∧ S.2.2.2 v 5 = some (v + 19) ∧ rv_ln S 0 (v + 17) = some 12 ∧ rv_ln S 0 (v + 18) = some 12 ∧ rv_ln S 0 (v + 19) = some 12
theorem rf_of {S : rvS} (h : rv_B S) {a k b : Nat} (hm : (a, k, b) ∈ rv_rf0) : S.2.2.2 a k = some b := h.2 _ hm
theorem FS_of {S : rvS} (h : rv_B S) {f : Nat} (hf : fb f) : FS S f := by
  rcases hf with rfl | rfl | rfl | rfl <;> refine ⟨h.ck rfl rfl, rf_of h (by decide), rf_of h (by decide), rf_of h (by decide), rf_of h (by decide), rf_of h (by decide), rf_of h (by decide), h.ln rfl rfl, h.ln rfl rfl, h.ln rfl rfl, h.ln rfl rfl, h.ln rfl rfl, h.ln rfl rfl⟩
theorem PS_of {S : rvS} (h : rv_B S) {p : Nat} (hp : pb p) : PS S p := by
  rcases hp with rfl | rfl | rfl | rfl | rfl | rfl | rfl | rfl | rfl | rfl <;> exact ⟨h.ck rfl rfl, rf_of h (by decide), rf_of h (by decide), rf_of h (by decide), h.ln rfl rfl, h.ln rfl rfl, h.ln rfl rfl⟩
theorem VS_of {S : rvS} (h : rv_B S) {v : Nat} (hv : vb v) : VS S v := by
  rcases hv with rfl | rfl | rfl | rfl <;> exact ⟨h.ck rfl rfl, rf_of h (by decide), rf_of h (by decide), rf_of h (by decide), rf_of h (by decide), rf_of h (by decide), rf_of h (by decide), h.ln rfl rfl, h.ln rfl rfl, h.ln rfl rfl⟩
/-- the folk at f is that of m -/
abbrev FR (S : rvS) (f : Nat) (m : Nat → Nat) : Prop := S.2.1 f 0 = nI (vW m) ∧ S.2.1 f 1 = nI (bs (fun w => decide (0 < de m w)) (vW m)) ∧ S.2.1 f 2 = nI (bs (fun w => decide (0 < sg m w)) (vW m)) ∧ (∀ w, w < vW m → S.2.1 (f + 1) w = nI (at_ m w)) ∧ (∀ w, w < vW m → S.2.1 (f + 2) w = nI (hs m w)) ∧ (∀ w, w < vW m → S.2.1 (f + 3) w = nI (ea m w)) ∧ (∀ j, j < 4 → S.2.1 (f + 5) j = nI (rd m j)) ∧ (∀ j, j < 4 → S.2.1 (f + 6) j = nI (rc m j))
/-- the purse at p is that of m -/
abbrev PR (S : rvS) (p : Nat) (m : Nat → Nat) : Prop := S.2.1 p 0 = nI (vC m) ∧ S.2.1 p 1 = nI (vN m) ∧ (∀ c, c < vC m → S.2.1 (p + 1) c = nI (va m c)) ∧ (∀ c, c < vC m → S.2.1 (p + 2) c = nI (ow m c)) ∧ (∀ c, c < vC m → S.2.1 (p + 3) c = nI (rb (rl m c)))
abbrev DR (S : rvS) (v : Nat) (m : Nat → Nat) : Prop := S.2.1 v 6 = nI (vD m) ∧ S.2.1 v 7 = nI (bs (fun k => decide (0 < db m k 3)) (vD m)) ∧ S.2.1 v 8 = nI (vF m) ∧ S.2.1 v 9 = nI (vL m) ∧ (∀ k, k < vD m → S.2.1 (v + 17) k = nI (db m k 0)) ∧ (∀ k, k < vD m → S.2.1 (v + 18) k = nI (db m k 1)) ∧ (∀ k, k < vD m → S.2.1 (v + 19) k = nI (db m k 2))
