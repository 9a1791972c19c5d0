/-! THE PURSE, what is asked of it -/
section
variable {n : Nat} {S : rvS} {f p : Nat} {m : Nat → Nat}
theorem n_ushl (x : Nat) {j : Nat} (hj : j < 32) : nI x <<< (nI j &&& nI 31) = nI (x * 2 ^ j) := by
  apply b_ext
  intro i hi
  show bt (nI x <<< (nI j &&& 31)) i = _
  rw [b_shl j hj _ hi, z_bt, z_bt, Nat.testBit_mul_two_pow, decide_eq_true hi, Bool.true_and]
  by_cases h : j ≤ i
  · rw [decide_eq_true (show i - j < 32 by omega), Bool.true_and]
  · rw [decide_eq_false h, Bool.false_and, Bool.false_and]
theorem z_01 : nI 0 - nI 1 = iM := rfl
/-- the number on a rim's place, or NONE -/
def nmI (l : List Nat) (i : Nat) : Int32 := match l[i]? with
  | some x => nI x
  | none => iM
theorem rb_at : ∀ (i : Nat) {l : List Nat}, (∀ x ∈ l, x < 31) → rb l / 32 ^ i % 32 = match l[i]? with
    | some x => x + 1
    | none => 0 := by
  intro i
  induction i with
  | zero =>
    intro l h
    cases l with
    | nil => rfl
    | cons a t =>
      have := h a List.mem_cons_self
      rw [rb, Nat.pow_zero, Nat.div_one]
      show _ = a + 1
      omega
  | succ i ih =>
    intro l h
    cases l with
    | nil => rw [rb, Nat.zero_div]; rfl
    | cons a t =>
      have h1 := h a List.mem_cons_self
      have h2 := ih (l := t) (fun x hx => h x (List.mem_cons_of_mem _ hx))
      have e : rb (a :: t) / 32 ^ (i + 1) = rb t / 32 ^ i := by
        rw [Nat.pow_succ, Nat.mul_comm, ← Nat.div_div_eq_div_mul, rb]
        congr 1
        omega
      rw [e, h2]
      rfl
theorem k_nameOn (hp : okp m) {l : List Nat} (hl : okl m l) {i : Nat} (hi : i < 4) : fnX6_nameOn n S (nI (rb l)) (nI i) = some (nmI l i) := by
  have h1 := hl.lt hp
  have h2 := hp.1
  have h3 := rb_at i (l := l) (fun x hx => by have := hl.2 x hx; omega)
  have e : rb l / 2 ^ (5 * i) % 32 = rb l / 32 ^ i % 32 := by rw [Nat.pow_mul]
  rw [fnX6_nameOn]
  simp (disch := first | assumption | omega) only [z0, z1, z2, z3, z4, z5, z6, z7, z8, z9, z10, z11, z12, z13, z15, z16, z17, z18, z20, z21, z23, z24, z25, z31, z32, z39, z40, z41, z46, z48, z50, z57, z59, z60, z61, z62, z63, z64, z97, z98, z99, z100, z101, z102, z103, z104, z105, z106, z107, z108, z109, z110, z111, z112, z113, z114, z115, z116, z117, z118, z119, z120, z121, z122, z128, z132, z200, z240, z255, z372, z390625, z400, z420, z421, z422, z662, z900, z940, z999, z1000, z1024, z2000, z5860, z10000, z12345, z15625, z266240, z1048575, z1064960, z1103515245, z_m1, z_mul, n_ush, n_and31, e, h3]
  unfold nmI
  cases l[i]? with
  | none => rfl
  | some x =>
    show some (nI (x + 1) - nI 1) = some (nI x)
    rw [z_sub (by omega), Nat.add_sub_cancel]
theorem k_hasC (hS : PS S p) (hR : PR S p m) (hc : okc m) {c : Nat} (h : c < vC m) : fnX6_has n S p (nI c) = some (nI 1) := by
  have h1 := hc.1
  simp (disch := first | assumption | omega) only [fnX6_has, tk_gI, tk_gL, tk_gR, tk_pI, tk_pL, rv_aI, rv_aL, rv_aR, rv_uI, rv_uL, rv_uB, rv_uZ, pu_ckI, pu_ckL, pu_lnI, pu_lnL, tk_rI, tk_rL, Option.bind_some, Option.map_some, rv_lt, tk_ix, z0, z1, z2, z3, z4, z5, z6, z7, z8, z9, z10, z11, z12, z13, z15, z16, z17, z18, z20, z21, z23, z24, z25, z31, z32, z39, z40, z41, z46, z48, z50, z57, z59, z60, z61, z62, z63, z64, z97, z98, z99, z100, z101, z102, z103, z104, z105, z106, z107, z108, z109, z110, z111, z112, z113, z114, z115, z116, z117, z118, z119, z120, z121, z122, z128, z132, z200, z240, z255, z372, z390625, z400, z420, z421, z422, z662, z900, z940, z999, z1000, z1024, z2000, z5860, z10000, z12345, z15625, z266240, z1048575, z1064960, z1103515245, z_m1, n_le, n_lt, n_eq, n_bit0, n_bit1, n_sbit0, n_shl, z_ltM, z_Mlt, z_leM, z_Mle, z_eqM, z_Meq, bI0, bI1, bI_01, bI_01t, bI_10, bI_10f, if_true, if_false, eq_self, reduceCtorEq, if_pos, if_neg, hS, hR, Nat.not_lt_zero]
theorem k_nameAt (hS : PS S p) (hR : PR S p m) (hp : okp m) (hc : okc m) {c : Nat} (h : c < vC m) {i : Nat} (hi : i < 3) : fnX6_nameAt n S p (nI c) (nI i) = some (nmI (rl m c) i) := by
  have h1 := hc.1
  simp (disch := first | assumption | omega) only [fnX6_nameAt, tk_gI, tk_gL, tk_gR, tk_pI, tk_pL, rv_aI, rv_aL, rv_aR, rv_uI, rv_uL, rv_uB, rv_uZ, pu_ckI, pu_ckL, pu_lnI, pu_lnL, tk_rI, tk_rL, Option.bind_some, Option.map_some, rv_lt, tk_ix, z0, z1, z2, z3, z4, z5, z6, z7, z8, z9, z10, z11, z12, z13, z15, z16, z17, z18, z20, z21, z23, z24, z25, z31, z32, z39, z40, z41, z46, z48, z50, z57, z59, z60, z61, z62, z63, z64, z97, z98, z99, z100, z101, z102, z103, z104, z105, z106, z107, z108, z109, z110, z111, z112, z113, z114, z115, z116, z117, z118, z119, z120, z121, z122, z128, z132, z200, z240, z255, z372, z390625, z400, z420, z421, z422, z662, z900, z940, z999, z1000, z1024, z2000, z5860, z10000, z12345, z15625, z266240, z1048575, z1064960, z1103515245, z_m1, n_le, n_lt, n_eq, n_bit0, n_bit1, n_sbit0, n_shl, z_ltM, z_Mlt, z_leM, z_Mle, z_eqM, z_Meq, bI0, bI1, bI_01, bI_01t, bI_10, bI_10f, if_true, if_false, eq_self, reduceCtorEq, if_pos, if_neg, hS, hR, Nat.not_lt_zero, k_hasC hS hR hc h, k_nameOn hp (hc.l h)]
theorem l3 {l : List Nat} (h : l.length ≤ 3) : l = [] ∨ (∃ a, l = [a]) ∨ (∃ a b, l = [a, b]) ∨ ∃ a b c, l = [a, b, c] := by
  match l, h with
  | [], _ => exact Or.inl rfl
  | [a], _ => exact Or.inr (Or.inl ⟨a, rfl⟩)
  | [a, b], _ => exact Or.inr (Or.inr (Or.inl ⟨a, b, rfl⟩))
  | [a, b, c], _ => exact Or.inr (Or.inr (Or.inr ⟨a, b, c, rfl⟩))
  | _ :: _ :: _ :: _ :: _, h => simp at h
theorem un {β : Type} {F : Nat → β} {r : β} (k : Nat) {z : Nat} (h : ∀ q, F (q + k) = r) (hk : k ≤ z) : F z = r := by
  have := h (z - k)
  rwa [Nat.sub_add_cancel hk] at this
theorem nm_0 (a : Nat) (t : List Nat) : nmI (a :: t) 0 = nI a := rfl
theorem nm_n (i : Nat) : nmI [] i = iM := rfl
theorem nm_1 (a : Nat) (t : List Nat) : nmI (a :: t) 1 = nmI t 0 := rfl
theorem nm_2 (a : Nat) (t : List Nat) : nmI (a :: t) 2 = nmI t 1 := rfl
theorem okl.all {l : List Nat} (hp : okp m) (hl : okl m l) : ∀ x ∈ l, x < 24 := fun x hx => by have := hl.2 x hx; have := hp.1; omega
theorem k_names (hn : 10 ≤ n) (hS : PS S p) (hR : PR S p m) (hp : okp m) (hc : okc m) {c : Nat} (h : c < vC m) : fnX6_names n S p (nI c) = some (nI (rl m c).length) := by
  have k0 := k_nameAt (n := n) hS hR hp hc h (i := 0) (by decide)
  have k1 := k_nameAt (n := n) hS hR hp hc h (i := 1) (by decide)
  have k2 := k_nameAt (n := n) hS hR hp hc h (i := 2) (by decide)
  have hl := hc.l h
  have h24 := hl.all hp
  rw [fnX6_names]
  refine un 4 (F := fun z => cX6_names_4 n S z p (nI c) 0 0) (fun q => ?_) (by omega)
  show cX6_names_4 n S (q + 4) p (nI c) 0 0 = _
  rcases l3 hl.1 with e | ⟨x, e⟩ | ⟨x, y, e⟩ | ⟨x, y, z, e⟩ <;> rw [e] at k0 k1 k2 h24 ⊢ <;> simp only [List.mem_cons, List.not_mem_nil, or_false, forall_eq_or_imp, forall_eq] at h24 <;> simp (disch := first | assumption | omega) only [cX6_names_4, tk_gI, tk_gL, tk_gR, tk_pI, tk_pL, rv_aI, rv_aL, rv_aR, rv_uI, rv_uL, rv_uB, rv_uZ, pu_ckI, pu_ckL, pu_lnI, pu_lnL, tk_rI, tk_rL, Option.bind_some, Option.map_some, rv_lt, tk_ix, z0, z1, z2, z3, z4, z5, z6, z7, z8, z9, z10, z11, z12, z13, z15, z16, z17, z18, z20, z21, z23, z24, z25, z31, z32, z39, z40, z41, z46, z48, z50, z57, z59, z60, z61, z62, z63, z64, z97, z98, z99, z100, z101, z102, z103, z104, z105, z106, z107, z108, z109, z110, z111, z112, z113, z114, z115, z116, z117, z118, z119, z120, z121, z122, z128, z132, z200, z240, z255, z372, z390625, z400, z420, z421, z422, z662, z900, z940, z999, z1000, z1024, z2000, z5860, z10000, z12345, z15625, z266240, z1048575, z1064960, z1103515245, z_m1, n_le, n_lt, n_eq, n_bit0, n_bit1, n_sbit0, n_shl, z_ltM, z_Mlt, z_leM, z_Mle, z_eqM, z_Meq, bI0, bI1, bI_01, bI_01t, bI_10, bI_10f, if_true, if_false, eq_self, reduceCtorEq, if_pos, if_neg, nI_add, z_mul, z_sub, hS, k0, k1, k2, nm_0, nm_1, nm_2, nm_n, Nat.reduceAdd, Nat.zero_add, List.length_cons, List.length_nil]
theorem k_bears (hn : 10 ≤ n) (hS : PS S p) (hR : PR S p m) (hp : okp m) (hc : okc m) {c : Nat} (h : c < vC m) {w : Nat} (hw : w < 2147483648) : fnX6_bears n S p (nI c) (nI w) = some (bI ((rl m c).contains w)) := by
  have k0 := k_nameAt (n := n) hS hR hp hc h (i := 0) (by decide)
  have k1 := k_nameAt (n := n) hS hR hp hc h (i := 1) (by decide)
  have k2 := k_nameAt (n := n) hS hR hp hc h (i := 2) (by decide)
  have hl := hc.l h
  have h24 := hl.all hp
  rw [fnX6_bears]
  refine un 4 (F := fun z => cX6_bears_2 n S z p (nI c) (nI w) 0) (fun q => ?_) (by omega)
  show cX6_bears_2 n S (q + 4) p (nI c) (nI w) 0 = _
  rcases l3 hl.1 with e | ⟨x, e⟩ | ⟨x, y, e⟩ | ⟨x, y, z, e⟩ <;> rw [e] at k0 k1 k2 h24 ⊢ <;> simp only [List.mem_cons, List.not_mem_nil, or_false, forall_eq_or_imp, forall_eq] at h24 <;> simp (disch := first | assumption | omega) only [cX6_bears_2, tk_gI, tk_gL, tk_gR, tk_pI, tk_pL, rv_aI, rv_aL, rv_aR, rv_uI, rv_uL, rv_uB, rv_uZ, pu_ckI, pu_ckL, pu_lnI, pu_lnL, tk_rI, tk_rL, Option.bind_some, Option.map_some, rv_lt, tk_ix, z0, z1, z2, z3, z4, z5, z6, z7, z8, z9, z10, z11, z12, z13, z15, z16, z17, z18, z20, z21, z23, z24, z25, z31, z32, z39, z40, z41, z46, z48, z50, z57, z59, z60, z61, z62, z63, z64, z97, z98, z99, z100, z101, z102, z103, z104, z105, z106, z107, z108, z109, z110, z111, z112, z113, z114, z115, z116, z117, z118, z119, z120, z121, z122, z128, z132, z200, z240, z255, z372, z390625, z400, z420, z421, z422, z662, z900, z940, z999, z1000, z1024, z2000, z5860, z10000, z12345, z15625, z266240, z1048575, z1064960, z1103515245, z_m1, n_le, n_lt, n_eq, n_bit0, n_bit1, n_sbit0, n_shl, z_ltM, z_Mlt, z_leM, z_Mle, z_eqM, z_Meq, bI0, bI1, bI_01, bI_01t, bI_10, bI_10f, if_true, if_false, eq_self, reduceCtorEq, if_pos, if_neg, nI_add, z_mul, z_sub, hS, k0, k1, k2, nm_0, nm_1, nm_2, nm_n, Nat.reduceAdd, Nat.zero_add, List.contains_cons, List.contains_nil]
  · rfl
  · by_cases c1 : x = w
    · subst c1; simp [bI]
    · have : ¬ w = x := fun z => c1 z.symm
      simp [bI, c1, this]
  · by_cases c1 : x = w
    · subst c1; simp [bI]
    · have d1 : ¬ w = x := fun z => c1 z.symm
      by_cases c2 : y = w
      · subst c2; simp [bI, c1]
      · have d2 : ¬ w = y := fun z => c2 z.symm
        simp [bI, c1, c2, d1, d2]
  · by_cases c1 : x = w
    · subst c1; simp [bI]
    · have d1 : ¬ w = x := fun z => c1 z.symm
      by_cases c2 : y = w
      · subst c2; simp [bI, c1]
      · have d2 : ¬ w = y := fun z => c2 z.symm
        by_cases c3 : z = w
        · subst c3; simp [bI, c1, c2]
        · have d3 : ¬ w = z := fun z => c3 z.symm
          simp [bI, c1, c2, c3, d1, d2, d3]
theorem rb_take (k : Nat) : ∀ {l : List Nat}, (∀ x ∈ l, x < 31) → rb l % 32 ^ k = rb (l.take k) := by
  induction k with
  | zero => intro l _; rw [Nat.pow_zero, Nat.mod_one, List.take_zero]; rfl
  | succ k ih =>
    intro l h
    cases l with
    | nil => rw [rb, Nat.zero_mod, List.take_nil]; rfl
    | cons a t =>
      have h1 := h a List.mem_cons_self
      have h2 := ih (l := t) (fun x hx => h x (List.mem_cons_of_mem _ hx))
      rw [List.take_succ_cons, rb, rb, ← h2, Nat.pow_succ, Nat.mul_comm (32 ^ k) 32, Nat.mod_mul]
      have e1 : (a + 1 + 32 * rb t) % 32 = a + 1 := by omega
      have e2 : (a + 1 + 32 * rb t) / 32 = rb t := by omega
      rw [e1, e2]
theorem k_rimAfter (hS : PS S p) (hR : PR S p m) (hp : okp m) (hc : okc m) {o : Nat} (ho : o < vW m) {l : List Nat} (hl : okl m l) : fnX6_rimAfter n S p (nI o) (nI (rb l)) = some (nI (rb (ps m o l))) := by
  have h1 := hl.lt hp
  have h2 := hp.1
  have h3 := hc.2.1
  have hm : ∀ x ∈ o :: l, x < 31 := fun x hx => by
    rcases List.mem_cons.mp hx with rfl | hx
    · omega
    · have := hl.2 x hx; omega
  have e := rb_take (vN m) hm
  have e2 : nI (rb l * 2 ^ 5) ||| nI (o + 1) = nI (o + 1 + 32 * rb l) := by
    have := fa_or_sum (rb l) (show o + 1 < 2 ^ 5 by omega)
    rw [Nat.mul_comm] at this
    rw [this]
    exact congrArg nI (by omega)
  have e3 : ∀ x : Nat, nI x &&& nI (2 ^ (5 * vN m) - 1) = nI (x % 32 ^ vN m) := fun x => by
    rw [fa_mask, Nat.pow_mul]
  have e4 : 1 ≤ 2 ^ (5 * vN m) := Nat.two_pow_pos _
  rw [fnX6_rimAfter]
  simp (disch := first | assumption | omega) only [tk_gI, tk_gL, tk_gR, tk_pI, tk_pL, rv_aI, rv_aL, rv_aR, rv_uI, rv_uL, rv_uB, rv_uZ, pu_ckI, pu_ckL, pu_lnI, pu_lnL, tk_rI, tk_rL, Option.bind_some, Option.map_some, rv_lt, tk_ix, z0, z1, z2, z3, z4, z5, z6, z7, z8, z9, z10, z11, z12, z13, z15, z16, z17, z18, z20, z21, z23, z24, z25, z31, z32, z39, z40, z41, z46, z48, z50, z57, z59, z60, z61, z62, z63, z64, z97, z98, z99, z100, z101, z102, z103, z104, z105, z106, z107, z108, z109, z110, z111, z112, z113, z114, z115, z116, z117, z118, z119, z120, z121, z122, z128, z132, z200, z240, z255, z372, z390625, z400, z420, z421, z422, z662, z900, z940, z999, z1000, z1024, z2000, z5860, z10000, z12345, z15625, z266240, z1048575, z1064960, z1103515245, z_m1, hS, hR, z_mul, n_ushl, Nat.one_mul, nI_add, e2, z_sub, e3]
  rw [← rb, e]
  rfl
theorem ps_ok (hc : okc m) {o : Nat} (ho : o < vW m) {l : List Nat} (hl : okl m l) : okl m (ps m o l) := by
  have h3 := hc.2.1
  refine ⟨by rw [ps, List.length_take]; omega, fun x hx => ?_⟩
  rcases List.mem_cons.mp (List.mem_of_mem_take hx) with rfl | h
  · exact ho
  · exact hl.2 x h
theorem k_move (hS : PS S p) (hR : PR S p m) (hp : okp m) (hc : okc m) {c : Nat} (h : c < vC m) (x : Int32) : fnX6_move n S p (nI c) x = some (rv_sI (rv_sI S (p + 3) c (nI (rb (ps m (ow m c) (rl m c))))) (p + 2) c x) := by
  have h1 := hc.1
  have h2 := (hc.2.2 c h).2.2.1
  simp (disch := first | assumption | omega) only [fnX6_move, tk_gI, tk_gL, tk_gR, tk_pI, tk_pL, rv_aI, rv_aL, rv_aR, rv_uI, rv_uL, rv_uB, rv_uZ, pu_ckI, pu_ckL, pu_lnI, pu_lnL, tk_rI, tk_rL, Option.bind_some, Option.map_some, rv_lt, tk_ix, z0, z1, z2, z3, z4, z5, z6, z7, z8, z9, z10, z11, z12, z13, z15, z16, z17, z18, z20, z21, z23, z24, z25, z31, z32, z39, z40, z41, z46, z48, z50, z57, z59, z60, z61, z62, z63, z64, z97, z98, z99, z100, z101, z102, z103, z104, z105, z106, z107, z108, z109, z110, z111, z112, z113, z114, z115, z116, z117, z118, z119, z120, z121, z122, z128, z132, z200, z240, z255, z372, z390625, z400, z420, z421, z422, z662, z900, z940, z999, z1000, z1024, z2000, z5860, z10000, z12345, z15625, z266240, z1048575, z1064960, z1103515245, z_m1, n_le, n_lt, n_eq, n_bit0, n_bit1, n_sbit0, n_shl, z_ltM, z_Mlt, z_leM, z_Mle, z_eqM, z_Meq, bI0, bI1, bI_01, bI_01t, bI_10, bI_10f, if_true, if_false, eq_self, reduceCtorEq, if_pos, if_neg, hS, hR, k_hasC hS hR hc h, k_rimAfter hS hR hp hc h2 (hc.l h)]
/-! masks of coins -/
theorem bs_64 (q : Nat → Bool) {k : Nat} (h : k ≤ 40) : bs q k < 1099511627776 := Nat.lt_of_lt_of_le (bs_lt q k) (Nat.pow_le_pow_right (n := 2) (by decide) h)
theorem bs_s (q : Nat → Bool) (i : Nat) : bs q (i + 1) = if q i = true then bs q i ||| 2 ^ i else bs q i := rfl
theorem k_coinsOf (hn : 50 ≤ n) (hS : PS S p) (hR : PR S p m) (hp : okp m) (hc : okc m) {w : Nat} (hw : w < 2147483648) : fnX6_coinsOf n S p (nI w) = some (lN (bs (fun c => decide (ow m c = w)) (vC m))) := by
  have h1 := hc.1
  have h24 := hp.1
  rw [fnX6_coinsOf]
  refine lpd (F := fun q (x : Int64 × Int32) => cX6_coinsOf_5 n S q p (nI w) x.1 x.2) (fun i => (lN (bs (fun c => decide (ow m c = w)) i), nI i)) _ (vC m) (fun i q hi => ?_) (fun q => ?_) (i := 0) (q := n) (Nat.zero_le _) (by omega)
  · have h2 := (hc.2.2 i hi).2.2.1
    show cX6_coinsOf_5 n S (q + 1) p (nI w) (lN (bs _ i)) (nI i) = cX6_coinsOf_5 n S q p (nI w) (lN (bs _ (i + 1))) (nI (i + 1))
    rw [cX6_coinsOf_5, bs_s]
    simp (disch := first | assumption | omega) only [tk_gI, tk_gL, tk_gR, tk_pI, tk_pL, rv_aI, rv_aL, rv_aR, rv_uI, rv_uL, rv_uB, rv_uZ, pu_ckI, pu_ckL, pu_lnI, pu_lnL, tk_rI, tk_rL, Option.bind_some, Option.map_some, rv_lt, tk_ix, z0, z1, z2, z3, z4, z5, z6, z7, z8, z9, z10, z11, z12, z13, z15, z16, z17, z18, z20, z21, z23, z24, z25, z31, z32, z39, z40, z41, z46, z48, z50, z57, z59, z60, z61, z62, z63, z64, z97, z98, z99, z100, z101, z102, z103, z104, z105, z106, z107, z108, z109, z110, z111, z112, z113, z114, z115, z116, z117, z118, z119, z120, z121, z122, z128, z132, z200, z240, z255, z372, z390625, z400, z420, z421, z422, z662, z900, z940, z999, z1000, z1024, z2000, z5860, z10000, z12345, z15625, z266240, z1048575, z1064960, z1103515245, z_m1, y0, y1, y27, y63, y96, y1099511627776, y69269232549888, n_le, n_lt, n_eq, n_bit0, n_bit1, n_sbit0, n_shl, z_ltM, z_Mlt, z_leM, z_Mle, z_eqM, z_Meq, bI0, bI1, bI_01, bI_01t, bI_10, bI_10f, if_true, if_false, eq_self, reduceCtorEq, if_pos, if_neg, hS, hR, n_l, m_shl, m_shl2, fb_orL, nI_add, decide_eq_true_eq]
    by_cases c1 : ow m i = w
    · rw [if_pos c1, if_pos c1]
    · rw [if_neg c1, if_neg c1]
  · show cX6_coinsOf_5 n S (q + 1) p (nI w) (lN (bs _ (vC m))) (nI (vC m)) = _
    rw [cX6_coinsOf_5]
    simp (disch := first | assumption | omega) only [tk_gI, tk_gL, tk_gR, tk_pI, tk_pL, rv_aI, rv_aL, rv_aR, rv_uI, rv_uL, rv_uB, rv_uZ, pu_ckI, pu_ckL, pu_lnI, pu_lnL, tk_rI, tk_rL, Option.bind_some, Option.map_some, rv_lt, tk_ix, z0, z1, z2, z3, z4, z5, z6, z7, z8, z9, z10, z11, z12, z13, z15, z16, z17, z18, z20, z21, z23, z24, z25, z31, z32, z39, z40, z41, z46, z48, z50, z57, z59, z60, z61, z62, z63, z64, z97, z98, z99, z100, z101, z102, z103, z104, z105, z106, z107, z108, z109, z110, z111, z112, z113, z114, z115, z116, z117, z118, z119, z120, z121, z122, z128, z132, z200, z240, z255, z372, z390625, z400, z420, z421, z422, z662, z900, z940, z999, z1000, z1024, z2000, z5860, z10000, z12345, z15625, z266240, z1048575, z1064960, z1103515245, z_m1, y0, y1, y27, y63, y96, y1099511627776, y69269232549888, n_le, n_lt, n_eq, n_bit0, n_bit1, n_sbit0, n_shl, z_ltM, z_Mlt, z_leM, z_Mle, z_eqM, z_Meq, bI0, bI1, bI_01, bI_01t, bI_10, bI_10f, if_true, if_false, eq_self, reduceCtorEq, if_pos, if_neg, hS, hR]
theorem k_goingTo (hn : 50 ≤ n) (hF : FS S f) (hFR : FR S f m) (hS : PS S p) (hR : PR S p m) (hp : okp m) (hc : okc m) {a b : Nat} (ha : a < vW m) (hb : b < vW m) : fnX6_goingTo n S p f (nI a) (nI b) = some (lN (bs (fun c => decide (ow m c = a) && decide (wy m a (rl m c) b = 0)) (vC m))) := by
  have h1 := hc.1
  have h24 := hp.1
  rw [fnX6_goingTo]
  refine lpd (F := fun q (x : Int64 × Int32) => cX6_goingTo_6 n S q p f (nI a) (nI b) x.1 x.2) (fun i => (lN (bs (fun c => decide (ow m c = a) && decide (wy m a (rl m c) b = 0)) i), nI i)) _ (vC m) (fun i q hi => ?_) (fun q => ?_) (i := 0) (q := n) (Nat.zero_le _) (by omega)
  · have h2 := (hc.2.2 i hi).2.2.1
    have h4 := gs_lt hp a (rl m i)
    show cX6_goingTo_6 n S (q + 1) p f (nI a) (nI b) (lN (bs _ i)) (nI i) = cX6_goingTo_6 n S q p f (nI a) (nI b) (lN (bs _ (i + 1))) (nI (i + 1))
    rw [cX6_goingTo_6, bs_s]
    simp (disch := first | assumption | omega) only [tk_gI, tk_gL, tk_gR, tk_pI, tk_pL, rv_aI, rv_aL, rv_aR, rv_uI, rv_uL, rv_uB, rv_uZ, pu_ckI, pu_ckL, pu_lnI, pu_lnL, tk_rI, tk_rL, Option.bind_some, Option.map_some, rv_lt, tk_ix, z0, z1, z2, z3, z4, z5, z6, z7, z8, z9, z10, z11, z12, z13, z15, z16, z17, z18, z20, z21, z23, z24, z25, z31, z32, z39, z40, z41, z46, z48, z50, z57, z59, z60, z61, z62, z63, z64, z97, z98, z99, z100, z101, z102, z103, z104, z105, z106, z107, z108, z109, z110, z111, z112, z113, z114, z115, z116, z117, z118, z119, z120, z121, z122, z128, z132, z200, z240, z255, z372, z390625, z400, z420, z421, z422, z662, z900, z940, z999, z1000, z1024, z2000, z5860, z10000, z12345, z15625, z266240, z1048575, z1064960, z1103515245, z_m1, y0, y1, y27, y63, y96, y1099511627776, y69269232549888, n_le, n_lt, n_eq, n_bit0, n_bit1, n_sbit0, n_shl, z_ltM, z_Mlt, z_leM, z_Mle, z_eqM, z_Meq, bI0, bI1, bI_01, bI_01t, bI_10, bI_10f, if_true, if_false, eq_self, reduceCtorEq, if_pos, if_neg, hS, hR, hF, n_l, m_shl, m_shl2, fb_orL, nI_add, k_goers (show 10 ≤ n by omega) hF hFR hp ha (hc.l hi), gs_bit hb]
    by_cases c1 : ow m i = a
    · rw [if_pos c1]
      by_cases c2 : wy m a (rl m i) b = 0
      · simp [c1, c2]
      · simp [c1, c2]
    · simp [c1]
  · show cX6_goingTo_6 n S (q + 1) p f (nI a) (nI b) (lN (bs _ (vC m))) (nI (vC m)) = _
    rw [cX6_goingTo_6]
    simp (disch := first | assumption | omega) only [tk_gI, tk_gL, tk_gR, tk_pI, tk_pL, rv_aI, rv_aL, rv_aR, rv_uI, rv_uL, rv_uB, rv_uZ, pu_ckI, pu_ckL, pu_lnI, pu_lnL, tk_rI, tk_rL, Option.bind_some, Option.map_some, rv_lt, tk_ix, z0, z1, z2, z3, z4, z5, z6, z7, z8, z9, z10, z11, z12, z13, z15, z16, z17, z18, z20, z21, z23, z24, z25, z31, z32, z39, z40, z41, z46, z48, z50, z57, z59, z60, z61, z62, z63, z64, z97, z98, z99, z100, z101, z102, z103, z104, z105, z106, z107, z108, z109, z110, z111, z112, z113, z114, z115, z116, z117, z118, z119, z120, z121, z122, z128, z132, z200, z240, z255, z372, z390625, z400, z420, z421, z422, z662, z900, z940, z999, z1000, z1024, z2000, z5860, z10000, z12345, z15625, z266240, z1048575, z1064960, z1103515245, z_m1, y0, y1, y27, y63, y96, y1099511627776, y69269232549888, n_le, n_lt, n_eq, n_bit0, n_bit1, n_sbit0, n_shl, z_ltM, z_Mlt, z_leM, z_Mle, z_eqM, z_Meq, bI0, bI1, bI_01, bI_01t, bI_10, bI_10f, if_true, if_false, eq_self, reduceCtorEq, if_pos, if_neg, hS, hR]
theorem k_worth (hn : 50 ≤ n) (hS : PS S p) (hR : PR S p m) (hc : okc m) {X : Nat} (hX : X < 18446744073709551616) : fnX6_worth n S p (lN X) = some (nI (fb_sm (fun c => if X.testBit c then va m c else 0) (vC m))) := by
  have h1 := hc.1
  rw [fnX6_worth]
  refine lpd (F := fun q (x : Int32 × Int32) => cX6_worth_5 n S q p (lN X) x.1 x.2) (fun i => (nI (fb_sm (fun c => if X.testBit c then va m c else 0) i), nI i)) _ (vC m) (fun i q hi => ?_) (fun q => ?_) (i := 0) (q := n) (Nat.zero_le _) (by omega)
  · show cX6_worth_5 n S (q + 1) p (lN X) (nI (fb_sm _ i)) (nI i) = cX6_worth_5 n S q p (lN X) (nI (fb_sm _ (i + 1))) (nI (i + 1))
    rw [cX6_worth_5, fb_sm_succ]
    simp (disch := first | assumption | omega) only [tk_gI, tk_gL, tk_gR, tk_pI, tk_pL, rv_aI, rv_aL, rv_aR, rv_uI, rv_uL, rv_uB, rv_uZ, pu_ckI, pu_ckL, pu_lnI, pu_lnL, tk_rI, tk_rL, Option.bind_some, Option.map_some, rv_lt, tk_ix, z0, z1, z2, z3, z4, z5, z6, z7, z8, z9, z10, z11, z12, z13, z15, z16, z17, z18, z20, z21, z23, z24, z25, z31, z32, z39, z40, z41, z46, z48, z50, z57, z59, z60, z61, z62, z63, z64, z97, z98, z99, z100, z101, z102, z103, z104, z105, z106, z107, z108, z109, z110, z111, z112, z113, z114, z115, z116, z117, z118, z119, z120, z121, z122, z128, z132, z200, z240, z255, z372, z390625, z400, z420, z421, z422, z662, z900, z940, z999, z1000, z1024, z2000, z5860, z10000, z12345, z15625, z266240, z1048575, z1064960, z1103515245, z_m1, y0, y1, y27, y63, y96, y1099511627776, y69269232549888, n_le, n_lt, n_eq, n_bit0, n_bit1, n_sbit0, n_shl, z_ltM, z_Mlt, z_leM, z_Mle, z_eqM, z_Meq, bI0, bI1, bI_01, bI_01t, bI_10, bI_10f, if_true, if_false, eq_self, reduceCtorEq, if_pos, if_neg, hS, hR, m_bit0, nI_add]
    cases X.testBit i
    · simp
    · simp
  · show cX6_worth_5 n S (q + 1) p (lN X) (nI (fb_sm _ (vC m))) (nI (vC m)) = _
    rw [cX6_worth_5]
    simp (disch := first | assumption | omega) only [tk_gI, tk_gL, tk_gR, tk_pI, tk_pL, rv_aI, rv_aL, rv_aR, rv_uI, rv_uL, rv_uB, rv_uZ, pu_ckI, pu_ckL, pu_lnI, pu_lnL, tk_rI, tk_rL, Option.bind_some, Option.map_some, rv_lt, tk_ix, z0, z1, z2, z3, z4, z5, z6, z7, z8, z9, z10, z11, z12, z13, z15, z16, z17, z18, z20, z21, z23, z24, z25, z31, z32, z39, z40, z41, z46, z48, z50, z57, z59, z60, z61, z62, z63, z64, z97, z98, z99, z100, z101, z102, z103, z104, z105, z106, z107, z108, z109, z110, z111, z112, z113, z114, z115, z116, z117, z118, z119, z120, z121, z122, z128, z132, z200, z240, z255, z372, z390625, z400, z420, z421, z422, z662, z900, z940, z999, z1000, z1024, z2000, z5860, z10000, z12345, z15625, z266240, z1048575, z1064960, z1103515245, z_m1, y0, y1, y27, y63, y96, y1099511627776, y69269232549888, n_le, n_lt, n_eq, n_bit0, n_bit1, n_sbit0, n_shl, z_ltM, z_Mlt, z_leM, z_Mle, z_eqM, z_Meq, bI0, bI1, bI_01, bI_01t, bI_10, bI_10f, if_true, if_false, eq_self, reduceCtorEq, if_pos, if_neg, hS, hR]
end
