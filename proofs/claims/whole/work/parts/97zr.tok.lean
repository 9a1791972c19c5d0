/-! TEXTS: what a token is (pure); the words -/
section
def tq_lt (x : Nat) : Bool := decide (97 ≤ x) && decide (x ≤ 122)
def tq_dg (x : Nat) : Bool := decide (48 ≤ x) && decide (x ≤ 57)
def tq_rn (x : Nat) : Bool := tq_lt x || tq_dg x
def tq_bk (x : Nat) : Bool := decide (x = 32) || decide (x = 10)
def tq_mk (x : Nat) : Bool := decide (x = 59) || (decide (60 ≤ x) && decide (x ≤ 62)) || decide (x = 40) || decide (x = 41) || decide (x = 46)
def tq_skp (b : Nat → Nat) : Nat → Nat → Nat
  | p, 0 => p
  | p, r + 1 => if tq_bk (b p) = true then tq_skp b (p + 1) r else p
def tq_run (b : Nat → Nat) : Nat → Nat → List Nat
  | _, 0 => []
  | p, r + 1 => if tq_rn (b p) = true then b p :: tq_run b (p + 1) r else []
def tq_dec (l : List Nat) : Nat := l.foldl (fun v x => 10 * v + (x - 48)) 0
/-- a token: where it begins, where it ends, its kind (0 the end, 1 none, 2 a word, 3 a number, else the sign), its number, its letters -/
abbrev Tk := Nat × Nat × Nat × Nat × List Nat
def tq_kd (l : List Nat) : Nat := if l.all tq_lt = true ∧ l.length ≤ 8 then 2 else if l.all tq_dg = true ∧ l.length ≤ 3 then 3 else 1
def tq_nx (b : Nat → Nat) (L M p : Nat) : Tk :=
  if M < L ∧ M ≤ tq_skp b p (L - p) then (M, tq_skp b p (L - p), 1, 0, [])
  else if L ≤ tq_skp b p (L - p) then (tq_skp b p (L - p), tq_skp b p (L - p), 0, 0, [])
  else if tq_rn (b (tq_skp b p (L - p))) = true then (tq_skp b p (L - p), tq_skp b p (L - p) + (tq_run b (tq_skp b p (L - p)) (L - tq_skp b p (L - p))).length, tq_kd (tq_run b (tq_skp b p (L - p)) (L - tq_skp b p (L - p))), tq_dec (tq_run b (tq_skp b p (L - p)) (L - tq_skp b p (L - p))), (tq_run b (tq_skp b p (L - p)) (L - tq_skp b p (L - p))).map (fun x => x - 96))
  else (tq_skp b p (L - p), tq_skp b p (L - p) + 1, if tq_mk (b (tq_skp b p (L - p))) = true then b (tq_skp b p (L - p)) else 1, 0, [])
theorem tq_skp_le (b : Nat → Nat) : ∀ r p, p ≤ tq_skp b p r ∧ tq_skp b p r ≤ p + r := by
  intro r
  induction r with
  | zero => intro p; exact ⟨Nat.le_refl _, Nat.le_refl _⟩
  | succ r ih =>
    intro p
    rw [tq_skp]
    split
    · have := ih (p + 1); omega
    · omega
theorem tq_run_le (b : Nat → Nat) : ∀ r p, (tq_run b p r).length ≤ r ∧ ∀ x ∈ tq_run b p r, tq_rn x = true := by
  intro r
  induction r with
  | zero => intro p; exact ⟨Nat.le_refl _, fun x hx => by cases hx⟩
  | succ r ih =>
    intro p
    rw [tq_run]
    split
    · rename_i h
      obtain ⟨h1, h2⟩ := ih (p + 1)
      refine ⟨by rw [List.length_cons]; omega, fun x hx => ?_⟩
      rcases List.mem_cons.mp hx with rfl | hx
      · exact h
      · exact h2 x hx
    · exact ⟨Nat.zero_le _, fun x hx => by cases hx⟩
/-! codes of words: at most one word has a code -/
def cR (B : Nat) : List Nat → Nat
  | [] => 0
  | x :: t => x + B * cR B t
theorem cR_inj {B : Nat} (hB : 27 ≤ B) : ∀ {l k : List Nat}, (∀ x ∈ l, 1 ≤ x ∧ x ≤ 26) → (∀ x ∈ k, 1 ≤ x ∧ x ≤ 26) → cR B l = cR B k → l = k := by
  intro l
  induction l with
  | nil =>
    intro k _ hk e
    match k, hk, e with
    | [], _, _ => rfl
    | y :: t, hk, e =>
      have := (hk y List.mem_cons_self).1
      simp only [cR] at e
      omega
  | cons x t ih =>
    intro k hl hk e
    match k, hk, e with
    | [], _, e =>
      have := (hl x List.mem_cons_self).1
      simp only [cR] at e
      omega
    | y :: s, hk, e =>
      have h1 := hl x List.mem_cons_self
      have h2 := hk y List.mem_cons_self
      simp only [cR] at e
      have e1 : x = y := by
        have q1 : (x + B * cR B t) % B = x := by rw [Nat.add_mul_mod_self_left]; exact Nat.mod_eq_of_lt (by omega)
        have q2 : (y + B * cR B s) % B = y := by rw [Nat.add_mul_mod_self_left]; exact Nat.mod_eq_of_lt (by omega)
        rw [← q1, ← q2, e]
      subst e1
      have e2 : B * cR B t = B * cR B s := by omega
      have e3 := Nat.eq_of_mul_eq_mul_left (by omega) e2
      rw [ih (fun z hz => hl z (List.mem_cons_of_mem _ hz)) (fun z hz => hk z (List.mem_cons_of_mem _ hz)) e3]
theorem cR_fold (B : Nat) : ∀ (l : List Nat), l.foldl (fun v x => B * v + x) 0 = cR B l.reverse := by
  have key : ∀ (k : List Nat), (k.reverse).foldl (fun v x => B * v + x) 0 = cR B k := by
    intro k
    induction k with
    | nil => rfl
    | cons x t ih =>
      rw [List.reverse_cons, List.foldl_append, ih]
      show B * cR B t + x = x + B * cR B t
      omega
  intro l
  have := key l.reverse
  rwa [List.reverse_reverse] at this
theorem cF_inj {B : Nat} (hB : 27 ≤ B) {l k : List Nat} (hl : ∀ x ∈ l, 1 ≤ x ∧ x ≤ 26) (hk : ∀ x ∈ k, 1 ≤ x ∧ x ≤ 26) (e : l.foldl (fun v x => B * v + x) 0 = k.foldl (fun v x => B * v + x) 0) : l = k := by
  rw [cR_fold, cR_fold] at e
  have := cR_inj hB (fun x hx => hl x (List.mem_reverse.mp hx)) (fun x hx => hk x (List.mem_reverse.mp hx)) e
  exact List.reverse_inj.mp this
theorem cR_lt {B : Nat} (hB : 27 ≤ B) : ∀ {l : List Nat}, (∀ x ∈ l, 1 ≤ x ∧ x ≤ 26) → cR B l < B ^ l.length := by
  intro l
  induction l with
  | nil => intro _; exact Nat.one_pos
  | cons x t ih =>
    intro h
    have h1 := h x List.mem_cons_self
    have h2 := ih (fun z hz => h z (List.mem_cons_of_mem _ hz))
    rw [cR, List.length_cons, Nat.pow_succ]
    have h3 : B * (cR B t + 1) ≤ B * B ^ t.length := Nat.mul_le_mul_left B h2
    rw [Nat.mul_add, Nat.mul_one] at h3
    rw [Nat.mul_comm (B ^ t.length) B]
    omega
/-- letters of a word -/
def okL (l : List Nat) : Prop := 1 ≤ l.length ∧ l.length ≤ 8 ∧ ∀ x ∈ l, 1 ≤ x ∧ x ≤ 26
theorem c32_inj {l k : List Nat} (hl : okL l) (hk : okL k) (e : c32 l = c32 k) : l = k := cF_inj (B := 32) (by decide) hl.2.2 hk.2.2 e
theorem c27_inj {l k : List Nat} (hl : okL l) (hk : okL k) (e : c27 l = c27 k) : l = k := cF_inj (B := 27) (by decide) hl.2.2 hk.2.2 e
theorem c32_lt {l : List Nat} (h : okL l) : c32 l < 1099511627776 := by
  have e : c32 l = cR 32 l.reverse := cR_fold 32 l
  have h1 := cR_lt (B := 32) (by decide) (l := l.reverse) (fun x hx => h.2.2 x (List.mem_reverse.mp hx))
  rw [List.length_reverse] at h1
  have h2 : 32 ^ l.length ≤ 32 ^ 8 := Nat.pow_le_pow_right (by decide) h.2.1
  have h3 : (32 : Nat) ^ 8 = 1099511627776 := rfl
  omega
theorem c27_lt {l : List Nat} (h : okL l) : c27 l < 1099511627776 := by
  have e : c27 l = cR 27 l.reverse := cR_fold 27 l
  have h1 := cR_lt (B := 27) (by decide) (l := l.reverse) (fun x hx => h.2.2 x (List.mem_reverse.mp hx))
  rw [List.length_reverse] at h1
  have h2 : 27 ^ l.length ≤ 27 ^ 8 := Nat.pow_le_pow_right (by decide) h.2.1
  have h3 : (27 : Nat) ^ 8 ≤ 1099511627776 := by decide
  omega
theorem c32_pos {l : List Nat} (h : okL l) : 0 < c32 l := by
  rcases Nat.eq_zero_or_pos (c32 l) with z | z
  · have : l = [] := cF_inj (B := 32) (by decide) h.2.2 (k := []) (fun x hx => by cases hx) (by exact z)
    have h1 := h.1
    rw [this] at h1
    exact absurd h1 (by decide)
  · exact z
/-- the words, as letters -/
def WL (k : Nat) : List Nat := ([[18, 9, 13], [23, 8, 15], [18, 15, 1, 4], [3, 15, 9, 14], [15, 23, 5, 19], [19, 20, 18, 1, 14, 7, 5, 18], [6, 5, 5], [4, 5, 1, 4], [18, 21, 2, 2, 5, 4], [19, 20, 1, 25, 19], [8, 5, 9, 18, 19], [15, 18], [1, 14, 4], [14, 15, 20], [8, 5, 12, 4], [2, 5, 1, 18, 19], [7, 15, 5, 19], [19, 20, 21, 3, 11], [6, 15, 18, 7, 5, 4], [22, 1, 12, 21, 5], [14, 1, 13, 5, 19], [16, 12, 1, 3, 5]] : List (List Nat)).getD k []
theorem WL_ok : ∀ k, k < 22 → okL (WL k) := by
  have h : ∀ k, k < 22 → 1 ≤ (WL k).length ∧ (WL k).length ≤ 8 ∧ (WL k).all (fun x => decide (1 ≤ x ∧ x ≤ 26)) = true := by decide +kernel
  intro k hk
  obtain ⟨h1, h2, h3⟩ := h k hk
  exact ⟨h1, h2, fun x hx => of_decide_eq_true (List.all_eq_true.mp h3 x hx)⟩
theorem WL_ne : ∀ i, i < 22 → ∀ j, j < 22 → WL i = WL j → i = j := by decide +kernel
theorem WL_c : ∀ k, k < 22 → rv_wcode k = lN (c32 (WL k)) := by decide +kernel
def woF (l : List Nat) : Nat → Nat → Nat
  | 0, _ => 22
  | r + 1, i => if WL i = l then i else woF l r (i + 1)
/-- which word it is: 22 a name -/
def wo (l : List Nat) : Nat := woF l 22 0
theorem woF_of {l : List Nat} : ∀ r i, i + r = 22 → (woF l r i < 22 → WL (woF l r i) = l) ∧ (∀ k, i ≤ k → k < 22 → WL k = l → woF l r i = k) ∧ woF l r i ≤ 22 := by
  intro r
  induction r with
  | zero => intro i hi; exact ⟨fun h => absurd h (Nat.lt_irrefl 22), fun k h1 h2 _ => absurd h2 (by omega), Nat.le_refl _⟩
  | succ r ih =>
    intro i hi
    rw [woF]
    by_cases c : WL i = l
    · rw [if_pos c]
      exact ⟨fun _ => c, fun k h1 h2 h3 => WL_ne i (by omega) k h2 (c.trans h3.symm), by omega⟩
    · rw [if_neg c]
      obtain ⟨g1, g2, g3⟩ := ih (i + 1) (by omega)
      refine ⟨g1, fun k h1 h2 h3 => ?_, g3⟩
      by_cases e : k = i
      · rw [e] at h3; exact absurd h3 c
      · exact g2 k (by omega) h2 h3
theorem wo_eq {l : List Nat} {k : Nat} (hk : k < 22) : wo l = k ↔ WL k = l := by
  obtain ⟨g1, g2, g3⟩ := woF_of (l := l) 22 0 rfl
  constructor
  · intro h
    have := g1 (by unfold wo at h; omega)
    unfold wo at h
    rwa [h] at this
  · intro h
    exact g2 k (Nat.zero_le _) hk h
theorem wo_lt (l : List Nat) : wo l < 23 := by
  have := (woF_of (l := l) 22 0 rfl).2.2
  unfold wo
  omega
/-- the class finds the word -/
theorem k_of (n : Nat) (hn : 30 ≤ n) (S : rvS) {l : List Nat} (hl : okL l) : fnX11_of n S (lN (c32 l)) = some (wo l) := by
  have hlt := c32_lt hl
  have hp := c32_pos hl
  rw [fnX11_of]
  have z23' : (23 : Int32) = nI 23 := by rw [fa_lit]
  have e0 : (0 : Int32) = nI 0 := by rw [fa_lit]
  rw [z23', e0]
  have key : ∀ r i q, i + r = 22 → r + 1 < q → cX11_of_10 n S q (lN (c32 l)) (nI 23) (nI i) = some (woF l r i) := by
    intro r
    induction r with
    | zero =>
      intro i q hi hq
      obtain ⟨q, rfl⟩ : ∃ q', q = q' + 2 := ⟨q - 2, by omega⟩
      have : i = 22 := by omega
      subst this
      rw [cX11_of_10, if_neg (by rw [n_le (by omega) (by omega)]; decide)]
      rw [show rv_ix 23 (nI 22) = some 22 from tk_ix (by decide) (by decide), Option.bind_some, show rv_wd 22 = some () from rfl, Option.bind_some]
      rw [if_neg, rv_lt, z1, nI_add, cX11_of_10, if_pos (by rw [n_le (by omega) (by omega)]; decide)]
      · rfl
      · rw [show rv_wcode 22 = lN 0 from rfl, z0]
        simp (disch := first | assumption | omega) only [m_cmp]
        omega
    | succ r ih =>
      intro i q hi hq
      obtain ⟨q, rfl⟩ : ∃ q', q = q' + 1 := ⟨q - 1, by omega⟩
      rw [cX11_of_10, if_neg (by rw [n_le (by omega) (by omega)]; omega)]
      rw [tk_ix (n := 23) (j := i) (by omega) (by decide), Option.bind_some, wd_23 (by omega), Option.bind_some, WL_c i (by omega), woF]
      have wl := c32_lt (WL_ok i (by omega))
      rw [z0]
      simp (disch := first | assumption | omega) only [m_cmp]
      by_cases c : WL i = l
      · rw [if_pos (by rw [c]), if_pos c]
      · rw [if_neg (fun e => c (c32_inj (WL_ok i (by omega)) hl e)), if_neg c, rv_lt, z1, nI_add]
        exact ih (i + 1) q (by omega) (by omega)
  exact key 22 0 n rfl (by omega)
theorem wordOf0 : ∀ k, k < 22 → fnX13_wordOf 0 rv_S0 (nI k) = some (lN (c27 (WL k))) := by decide +kernel
theorem m_wordOf (n : Nat) (S : rvS) {k : Nat} (hk : k < 22) : fnX13_wordOf n S (nI k) = some (lN (c27 (WL k))) := wordOf0 k hk
end
