/-! DIES -/
section
variable {n : Nat} {S : rvS} {m m' : Nat → Nat} {wd : Nat → List Nat}
/-- a rim when w is dead -/
def rn (law w h : Nat) (l : List Nat) : List Nat := if law = 0 then l.filter (fun x => decide (x ≠ w)) else l.map (fun x => if x = w then h else x)
/-- the reference's rub, name by name: i read, left written -/
def rb1 (law w h c : Nat) : List Nat → Nat → (Nat → Nat) → Nat → Nat
  | [], left, m => u1 m (134 + 6 * c) left
  | x :: t, left, m => if x = w ∧ law = 0 then rb1 law w h c t left m else rb1 law w h c t (left + 1) (u1 m (135 + 6 * c + left) (if x = w then h else x))
theorem rb1_off {law w h c : Nat} : ∀ (t : List Nat) (left : Nat) (m : Nat → Nat) {k : Nat}, (k < 134 + 6 * c ∨ (135 + 6 * c ≤ k ∧ k < 135 + 6 * c + left) ∨ 135 + 6 * c + left + t.length ≤ k) → rb1 law w h c t left m k = m k := by
  intro t
  induction t with
  | nil => intro left m k hk; rw [rb1, u1_ne _ _ (by omega)]
  | cons x t ih =>
    intro left m k hk
    rw [List.length_cons] at hk
    rw [rb1]
    split
    · exact ih left m (by omega)
    · rw [ih (left + 1) _ (by omega), u1_ne _ _ (by omega)]
theorem rn_nil (law w h : Nat) : rn law w h [] = [] := by unfold rn; split <;> rfl
theorem rn_cons (law w h x : Nat) (t : List Nat) : rn law w h (x :: t) = if x = w ∧ law = 0 then rn law w h t else (if x = w then h else x) :: rn law w h t := by
  unfold rn
  by_cases c : law = 0
  · rw [if_pos c, if_pos c]
    by_cases c2 : x = w
    · rw [if_pos ⟨c2, c⟩, List.filter_cons, if_neg (by simp [c2])]
    · rw [if_neg (fun z => c2 z.1), if_neg c2, List.filter_cons, if_pos (by simp [c2])]
  · rw [if_neg c, if_neg c, if_neg (fun z => c z.2), List.map_cons]
theorem rb1_in {law w h c : Nat} : ∀ (t : List Nat) (left : Nat) (m : Nat → Nat), mn (rb1 law w h c t left m) c = left + (rn law w h t).length ∧ ∀ j x, (rn law w h t)[j]? = some x → rb1 law w h c t left m (135 + 6 * c + (left + j)) = x := by
  intro t
  induction t with
  | nil => intro left m; rw [rn_nil]; exact ⟨u1_eq _ _ _, fun j x hx => by cases hx⟩
  | cons y t ih =>
    intro left m
    rw [rb1, rn_cons]
    split
    · exact ih left m
    · obtain ⟨i1, i2⟩ := ih (left + 1) (u1 m (135 + 6 * c + left) (if y = w then h else y))
      refine ⟨by rw [i1, List.length_cons]; omega, fun j x hx => ?_⟩
      cases j with
      | zero =>
        have e : (if y = w then h else y) = x := Option.some.inj hx
        rw [rb1_off t (left + 1) _ (by omega), Nat.add_zero, u1_eq, e]
      | succ j =>
        have := i2 j x hx
        rw [show left + (j + 1) = left + 1 + j by omega]
        exact this
theorem rn_len (law w h : Nat) (l : List Nat) : (rn law w h l).length ≤ l.length := by
  unfold rn
  split
  · exact List.length_filter_le _ _
  · rw [List.length_map]; exact Nat.le_refl _
theorem rn_mem {law w h : Nat} {l : List Nat} {N : Nat} (hl : ∀ x ∈ l, x < N) (hh : h < N) : ∀ x ∈ rn law w h l, x < N := by
  intro x hx
  unfold rn at hx
  split at hx
  · exact hl x (List.mem_filter.mp hx).1
  · obtain ⟨y, hy, e⟩ := List.mem_map.mp hx
    split at e
    · omega
    · rw [← e]; exact hl y hy
theorem rl_of {l : List Nat} {c : Nat} (h1 : mn m c = l.length) (h2 : l.length ≤ 3) (h3 : ∀ j x, l[j]? = some x → rm m c j = x) : rl m c = l := by
  apply List.ext_getElem?
  intro j
  by_cases hj : j < l.length
  · rw [rl_get (by omega) (by omega), List.getElem?_eq_getElem hj]
    exact congrArg some (h3 j _ (List.getElem?_eq_getElem hj))
  · rw [List.getElem?_eq_none (by rw [rl_len (by omega)]; omega), List.getElem?_eq_none (by omega)]
def rub (law w h c : Nat) (m : Nat → Nat) : Nat → Nat := rb1 law w h c (rl m c) 0 m
theorem rub_rl {law w h c : Nat} (hm : mn m c ≤ 3) : rl (rub law w h c m) c = rn law w h (rl m c) ∧ mn (rub law w h c m) c = (rn law w h (rl m c)).length := by
  obtain ⟨h1, h2⟩ := rb1_in (law := law) (w := w) (h := h) (c := c) (rl m c) 0 m
  have hlen : (rn law w h (rl m c)).length ≤ 3 := by
    have := rn_len law w h (rl m c)
    rw [rl_len hm] at this
    omega
  rw [Nat.zero_add] at h1
  refine ⟨?_, h1⟩
  have hq : mn (rub law w h c m) c = (rn law w h (rl m c)).length := h1
  have g : ∀ j x, (rn law w h (rl m c))[j]? = some x → rm (rub law w h c m) c j = x := fun j x hx => by
    have := h2 j x hx
    rw [Nat.zero_add] at this
    exact this
  exact rl_of hq hlen g
theorem rub_off {law w h c k : Nat} (hm : mn m c ≤ 3) (hk : k < 134 + 6 * c ∨ 138 + 6 * c ≤ k) : rub law w h c m k = m k := rb1_off _ _ _ (by rw [rl_len hm]; omega)
/-- the reference's loop -/
theorem m_rub1 {law w h c : Nat} (hlaw : law ≤ 2) (hw : w < 2147483648) (hc : c < 40) {q0 : Nat} (h3 : q0 ≤ 3) : ∀ (t : List Nat) (q i left : Nat) (m : Nat → Nat) (S : rvS), rv_B S → MR S m → vL m = law → mn m c = q0 → (∀ x ∈ t, x < 2147483648) → i + t.length = q0 → left ≤ i → (∀ j x, t[j]? = some x → rm m c (i + j) = x) → t.length < q → ∃ S', cX13_rub_16 n q S 189 (nI w) (nI h) (nI (132 + 6 * c)) (nI left) (nI i) = some S' ∧ rvf [191] S S' ∧ MR S' (rb1 law w h c t left m) ∧ R42 S S' := by
  intro t
  induction t with
  | nil =>
    intro q i left m S hB hM hl hn ht hi hle hr hq
    obtain ⟨q, rfl⟩ : ∃ q', q = q' + 1 := ⟨q - 1, by omega⟩
    rw [List.length_nil] at hi
    have e1 : S.2.1 191 (134 + 6 * c) = nI q0 := by rw [hM _ (by omega), ← hn]
    refine ⟨rv_sI S 191 (134 + 6 * c) (nI left), ?_, rvf.sIr S _ _ rfl, hM.u _ _, R42.u (fun _ _ => rfl) _ (by omega)⟩
    have e2 : 132 + 6 * c + 2 = 134 + 6 * c := by omega
    rw [cX13_rub_16]
    simp (disch := first | assumption | omega) only [cX13_rub_95, tk_gI, tk_gL, tk_gR, tk_pI, tk_pL, rv_aI, rv_aL, rv_aR, rv_uI, rv_uL, rv_uB, rv_uZ, pu_ckI, pu_ckL, pu_lnI, pu_lnL, tk_rI, tk_rL, Option.bind_some, Option.map_some, rv_lt, tk_ix, z0, z1, z2, z3, z4, z5, z6, z7, z8, z9, z10, z11, z12, z13, z15, z16, z17, z18, z20, z21, z23, z24, z25, z31, z32, z39, z40, z41, z46, z48, z50, z57, z59, z60, z61, z62, z63, z64, z97, z98, z99, z100, z101, z102, z103, z104, z105, z106, z107, z108, z109, z110, z111, z112, z113, z114, z115, z116, z117, z118, z119, z120, z121, z122, z128, z132, z200, z240, z255, z372, z390625, z400, z420, z421, z422, z662, z900, z940, z999, z1000, z1024, z2000, z5860, z10000, z12345, z15625, z266240, z1048575, z1064960, z1103515245, z_m1, n_le, n_lt, n_eq, n_bit0, n_bit1, n_sbit0, n_shl, z_ltM, z_Mlt, z_leM, z_Mle, z_eqM, z_Meq, bI0, bI1, bI_01, bI_01t, bI_10, bI_10f, if_true, if_false, eq_self, reduceCtorEq, if_pos, if_neg, rc_189 hB, rf_of hB (show (189, 14, 191) ∈ rv_rf0 by decide), rn_191 hB, nI_add, e2, e1]
  | cons x t ih =>
    intro q i left m S hB hM hl hn ht hi hle hr hq
    obtain ⟨q, rfl⟩ : ∃ q', q = q' + 1 := ⟨q - 1, by omega⟩
    rw [List.length_cons] at hi hq
    have e1 : S.2.1 191 (134 + 6 * c) = nI q0 := by rw [hM _ (by omega), ← hn]
    have e2 : 132 + 6 * c + 2 = 134 + 6 * c := by omega
    have e3 : 132 + 6 * c + 3 + i = 135 + 6 * c + i := by omega
    have e4 : 132 + 6 * c + 3 + left = 135 + 6 * c + left := by omega
    have ex : S.2.1 191 (135 + 6 * c + i) = nI x := by
      rw [hM _ (by omega)]
      exact congrArg nI (hr 0 x rfl)
    have e5 : S.2.1 191 5 = nI law := by rw [hM _ (by decide), ← hl]
    have hx := ht x List.mem_cons_self
    have htt : ∀ y ∈ t, y < 2147483648 := fun y hy => ht y (List.mem_cons_of_mem _ hy)
    rw [rb1]
    have f1 := fun v => rvf.sIr S (a := 191) (135 + 6 * c + left) v rfl
    have step : ∀ y, ∃ S', cX13_rub_16 n q (rv_sI S 191 (135 + 6 * c + left) (nI y)) 189 (nI w) (nI h) (nI (132 + 6 * c)) (nI (left + 1)) (nI (i + 1)) = some S' ∧ rvf [191] S S' ∧ MR S' (rb1 law w h c t (left + 1) (u1 m (135 + 6 * c + left) y)) ∧ R42 S S' := fun y => by
      obtain ⟨S', g1, g2, g3, g4⟩ := ih q (i + 1) (left + 1) (u1 m (135 + 6 * c + left) y) _ ((f1 (nI y)).B hB) (hM.u _ y) (by rw [← hl]; exact u1_ne _ _ (by omega)) (by rw [← hn]; exact u1_ne _ _ (by omega)) htt (by omega) (by omega) (fun j z hz => by
        rw [show rm (u1 m (135 + 6 * c + left) y) c (i + 1 + j) = rm m c (i + 1 + j) from u1_ne _ _ (by omega)]
        have := hr (j + 1) z hz
        rw [show i + 1 + j = i + (j + 1) by omega]
        exact this) (by omega)
      exact ⟨S', g1, (f1 (nI y)).tr g2, g3, (R42.u (fun _ _ => rfl) _ (by omega)).tr g4⟩
    by_cases c1 : x = w
    · by_cases c2 : law = 0
      · rw [if_pos ⟨c1, c2⟩]
        obtain ⟨S', g1, g2⟩ := ih q (i + 1) left m S hB hM hl hn htt (by omega) (by omega) (fun j z hz => by
          have := hr (j + 1) z hz
          rw [show i + 1 + j = i + (j + 1) by omega]
          exact this) (by omega)
        refine ⟨S', ?_, g2⟩
        rw [cX13_rub_16]
        simp (disch := first | assumption | omega) only [tk_gI, tk_gL, tk_gR, tk_pI, tk_pL, rv_aI, rv_aL, rv_aR, rv_uI, rv_uL, rv_uB, rv_uZ, pu_ckI, pu_ckL, pu_lnI, pu_lnL, tk_rI, tk_rL, Option.bind_some, Option.map_some, rv_lt, tk_ix, z0, z1, z2, z3, z4, z5, z6, z7, z8, z9, z10, z11, z12, z13, z15, z16, z17, z18, z20, z21, z23, z24, z25, z31, z32, z39, z40, z41, z46, z48, z50, z57, z59, z60, z61, z62, z63, z64, z97, z98, z99, z100, z101, z102, z103, z104, z105, z106, z107, z108, z109, z110, z111, z112, z113, z114, z115, z116, z117, z118, z119, z120, z121, z122, z128, z132, z200, z240, z255, z372, z390625, z400, z420, z421, z422, z662, z900, z940, z999, z1000, z1024, z2000, z5860, z10000, z12345, z15625, z266240, z1048575, z1064960, z1103515245, z_m1, n_le, n_lt, n_eq, n_bit0, n_bit1, n_sbit0, n_shl, z_ltM, z_Mlt, z_leM, z_Mle, z_eqM, z_Meq, bI0, bI1, bI_01, bI_01t, bI_10, bI_10f, if_true, if_false, eq_self, reduceCtorEq, if_pos, if_neg, rc_189 hB, rf_of hB (show (189, 14, 191) ∈ rv_rf0 by decide), rn_191 hB, nI_add, e2, e1, e3, ex, e5]
        exact g1
      · rw [if_neg (fun k => c2 k.2), if_pos c1]
        obtain ⟨S', g1, g2⟩ := step h
        refine ⟨S', ?_, g2⟩
        rw [cX13_rub_16]
        simp (disch := first | assumption | omega) only [cX13_rub_62, tk_gI, tk_gL, tk_gR, tk_pI, tk_pL, rv_aI, rv_aL, rv_aR, rv_uI, rv_uL, rv_uB, rv_uZ, pu_ckI, pu_ckL, pu_lnI, pu_lnL, tk_rI, tk_rL, Option.bind_some, Option.map_some, rv_lt, tk_ix, z0, z1, z2, z3, z4, z5, z6, z7, z8, z9, z10, z11, z12, z13, z15, z16, z17, z18, z20, z21, z23, z24, z25, z31, z32, z39, z40, z41, z46, z48, z50, z57, z59, z60, z61, z62, z63, z64, z97, z98, z99, z100, z101, z102, z103, z104, z105, z106, z107, z108, z109, z110, z111, z112, z113, z114, z115, z116, z117, z118, z119, z120, z121, z122, z128, z132, z200, z240, z255, z372, z390625, z400, z420, z421, z422, z662, z900, z940, z999, z1000, z1024, z2000, z5860, z10000, z12345, z15625, z266240, z1048575, z1064960, z1103515245, z_m1, n_le, n_lt, n_eq, n_bit0, n_bit1, n_sbit0, n_shl, z_ltM, z_Mlt, z_leM, z_Mle, z_eqM, z_Meq, bI0, bI1, bI_01, bI_01t, bI_10, bI_10f, if_true, if_false, eq_self, reduceCtorEq, if_pos, if_neg, rc_189 hB, rf_of hB (show (189, 14, 191) ∈ rv_rf0 by decide), rn_191 hB, nI_add, e2, e1, e3, ex, e5, e4]
        exact g1
    · rw [if_neg (fun k => c1 k.1), if_neg c1]
      obtain ⟨S', g1, g2⟩ := step x
      refine ⟨S', ?_, g2⟩
      rw [cX13_rub_16]
      simp (disch := first | assumption | omega) only [cX13_rub_62, tk_gI, tk_gL, tk_gR, tk_pI, tk_pL, rv_aI, rv_aL, rv_aR, rv_uI, rv_uL, rv_uB, rv_uZ, pu_ckI, pu_ckL, pu_lnI, pu_lnL, tk_rI, tk_rL, Option.bind_some, Option.map_some, rv_lt, tk_ix, z0, z1, z2, z3, z4, z5, z6, z7, z8, z9, z10, z11, z12, z13, z15, z16, z17, z18, z20, z21, z23, z24, z25, z31, z32, z39, z40, z41, z46, z48, z50, z57, z59, z60, z61, z62, z63, z64, z97, z98, z99, z100, z101, z102, z103, z104, z105, z106, z107, z108, z109, z110, z111, z112, z113, z114, z115, z116, z117, z118, z119, z120, z121, z122, z128, z132, z200, z240, z255, z372, z390625, z400, z420, z421, z422, z662, z900, z940, z999, z1000, z1024, z2000, z5860, z10000, z12345, z15625, z266240, z1048575, z1064960, z1103515245, z_m1, n_le, n_lt, n_eq, n_bit0, n_bit1, n_sbit0, n_shl, z_ltM, z_Mlt, z_leM, z_Mle, z_eqM, z_Meq, bI0, bI1, bI_01, bI_01t, bI_10, bI_10f, if_true, if_false, eq_self, reduceCtorEq, if_pos, if_neg, rc_189 hB, rf_of hB (show (189, 14, 191) ∈ rv_rf0 by decide), rn_191 hB, nI_add, e2, e1, e3, ex, e4]
      exact g1
theorem m_rub (hn : 10 ≤ n) (hB : rv_B S) (hM : MR S m) (hlaw : vL m ≤ 2) {w h c : Nat} (hw : w < 2147483648) (hc : c < 40) (h3 : mn m c ≤ 3) (hx : ∀ x ∈ rl m c, x < 2147483648) : ∃ S', fnX13_rub n S 189 (nI c) (nI w) (nI h) = some S' ∧ rvf [191] S S' ∧ MR S' (rub (vL m) w h c m) ∧ R42 S S' := by
  have hlen := rl_len h3
  obtain ⟨S', e, g⟩ := m_rub1 (n := n) (law := vL m) (w := w) (h := h) (c := c) hlaw hw hc h3 (rl m c) n 0 0 m S hB hM rfl rfl hx (by omega) (Nat.le_refl 0) (fun j x hj => by
    have hj2 : j < mn m c := by rw [← hlen]; exact (List.getElem?_eq_some_iff.mp hj).1
    rw [rl_get h3 hj2] at hj
    rw [Nat.zero_add]
    exact Option.some.inj hj) (by omega)
  refine ⟨S', ?_, g⟩
  rw [fnX13_rub]
  simp only [rv_lt, z0, z1, z2, z3, z4, z5, z6, z7, z8, z9, z10, z11, z12, z13, z15, z16, z17, z18, z20, z21, z23, z24, z25, z31, z32, z39, z40, z41, z46, z48, z50, z57, z59, z60, z61, z62, z63, z64, z97, z98, z99, z100, z101, z102, z103, z104, z105, z106, z107, z108, z109, z110, z111, z112, z113, z114, z115, z116, z117, z118, z119, z120, z121, z122, z128, z132, z200, z240, z255, z372, z390625, z400, z420, z421, z422, z662, z900, z940, z999, z1000, z1024, z2000, z5860, z10000, z12345, z15625, z266240, z1048575, z1064960, z1103515245, z_m1, nI_add, z_mul]
  exact e
end
