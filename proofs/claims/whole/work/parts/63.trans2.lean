/-! ROAD, STEAL, WED, BORN, CHANGE -/
section
variable {n : Nat} {S : rvS} {m m' : Nat → Nat} {wd : Nat → List Nat}
def u1 (m : Nat → Nat) (k v : Nat) : Nat → Nat := fun j => if j = k then v else m j
theorem u1_eq (m : Nat → Nat) (k v : Nat) : u1 m k v k = v := if_pos rfl
theorem u1_ne (m : Nat → Nat) {k j : Nat} (v : Nat) (h : j ≠ k) : u1 m k v j = m j := if_neg h
theorem MR.u (h : MR S m) (k v : Nat) : MR (rv_sI S 191 k (nI v)) (u1 m k v) := fun j hj => by
  by_cases c : j = k
  · subst c; rw [rv_sI_eq, u1_eq]
  · rw [rv_sI_k _ _ c, u1_ne m v c]; exact h j hj
theorem R42.u {S S' : rvS} (h : R42 S S') {k : Nat} (v : Int32) (hk : k < 420) : R42 S (rv_sI S' 191 k v) := fun j hj => by
  rw [rv_sI_k _ _ (by omega)]; exact h j hj
/-- the folk at f but for whom its villages can come to -/
abbrev FR0 (S : rvS) (f : Nat) (m : Nat → Nat) : Prop := S.2.1 f 0 = nI (vW m) ∧ S.2.1 f 1 = nI (bs (fun w => decide (0 < de m w)) (vW m)) ∧ S.2.1 f 2 = nI (bs (fun w => decide (0 < sg m w)) (vW m)) ∧ (∀ w, w < vW m → S.2.1 (f + 1) w = nI (at_ m w)) ∧ (∀ w, w < vW m → S.2.1 (f + 2) w = nI (hs m w)) ∧ (∀ w, w < vW m → S.2.1 (f + 3) w = nI (ea m w)) ∧ (∀ j, j < 4 → S.2.1 (f + 5) j = nI (rd m j))
theorem FR.z {f : Nat} (h : FR S f m) : FR0 S f m := ⟨h.1, h.2.1, h.2.2.1, h.2.2.2.1, h.2.2.2.2.1, h.2.2.2.2.2.1, h.2.2.2.2.2.2.1⟩
theorem k_isDead0 {f : Nat} (hS : FS S f) (hR : FR0 S f m) (hp : okp m) {w : Nat} (hw : w < vW m) : fnX1_isDead n S f (nI w) = some (bI (decide (0 < de m w))) := by
  have h1 := hp.1
  have hb := bs_24 (fun w => decide (0 < de m w)) h1
  simp (disch := first | assumption | omega) only [fnX1_isDead, tk_gI, tk_gL, tk_gR, tk_pI, tk_pL, rv_aI, rv_aL, rv_aR, rv_uI, rv_uL, rv_uB, rv_uZ, pu_ckI, pu_ckL, pu_lnI, pu_lnL, tk_rI, tk_rL, Option.bind_some, Option.map_some, rv_lt, tk_ix, z0, z1, z2, z3, z4, z5, z6, z7, z8, z9, z10, z11, z12, z13, z15, z16, z17, z18, z20, z21, z23, z24, z25, z31, z32, z39, z40, z41, z46, z48, z50, z57, z59, z60, z61, z62, z63, z64, z97, z98, z99, z100, z101, z102, z103, z104, z105, z106, z107, z108, z109, z110, z111, z112, z113, z114, z115, z116, z117, z118, z119, z120, z121, z122, z128, z132, z200, z240, z255, z372, z390625, z400, z420, z421, z422, z662, z900, z940, z999, z1000, z1024, z2000, z5860, z10000, z12345, z15625, z266240, z1048575, z1064960, z1103515245, z_m1, n_le, n_lt, n_eq, n_bit0, n_bit1, n_sbit0, n_shl, z_ltM, z_Mlt, z_leM, z_Mle, z_eqM, z_Meq, bI0, bI1, bI_01, bI_01t, bI_10, bI_10f, if_true, if_false, eq_self, reduceCtorEq, hS, hR, bs_bit, decide_eq_true hw, Bool.true_and]
theorem k_areNear0 {f : Nat} (hS : FS S f) (hR : FR0 S f m) (hp : okp m) {a b : Nat} (ha : a < 4) (hb : b < 4) : fnX1_areNear n S f (nI a) (nI b) = some (bI (nr m a b)) := by
  have h1 := (hp.2.2.2.2.1 a ha).1
  simp (disch := first | assumption | omega) only [fnX1_areNear, tk_gI, tk_gL, tk_gR, tk_pI, tk_pL, rv_aI, rv_aL, rv_aR, rv_uI, rv_uL, rv_uB, rv_uZ, pu_ckI, pu_ckL, pu_lnI, pu_lnL, tk_rI, tk_rL, Option.bind_some, Option.map_some, rv_lt, tk_ix, z0, z1, z2, z3, z4, z5, z6, z7, z8, z9, z10, z11, z12, z13, z15, z16, z17, z18, z20, z21, z23, z24, z25, z31, z32, z39, z40, z41, z46, z48, z50, z57, z59, z60, z61, z62, z63, z64, z97, z98, z99, z100, z101, z102, z103, z104, z105, z106, z107, z108, z109, z110, z111, z112, z113, z114, z115, z116, z117, z118, z119, z120, z121, z122, z128, z132, z200, z240, z255, z372, z390625, z400, z420, z421, z422, z662, z900, z940, z999, z1000, z1024, z2000, z5860, z10000, z12345, z15625, z266240, z1048575, z1064960, z1103515245, z_m1, n_le, n_lt, n_eq, n_bit0, n_bit1, n_sbit0, n_shl, z_ltM, z_Mlt, z_leM, z_Mle, z_eqM, z_Meq, bI0, bI1, bI_01, bI_01t, bI_10, bI_10f, if_true, if_false, eq_self, reduceCtorEq, if_pos, if_neg, hS, hR, k_isVillage]
  rfl
theorem FR0.w {f a k : Nat} {v : Int32} (h : FR0 S f m) (h1 : ∀ i, i < 6 → f + i ≠ a) : FR0 (rv_sI S a k v) f m := by
  obtain ⟨a1, a2, a3, a4, a5, a6, a7⟩ := h
  have e0 := h1 0 (by decide)
  have e1 := h1 1 (by decide)
  have e2 := h1 2 (by decide)
  have e3 := h1 3 (by decide)
  have e5 := h1 5 (by decide)
  rw [Nat.add_zero] at e0
  refine ⟨?_, ?_, ?_, fun w hw => ?_, fun w hw => ?_, fun w hw => ?_, fun w hw => ?_⟩
  · rw [rv_sI_a _ _ _ e0]; exact a1
  · rw [rv_sI_a _ _ _ e0]; exact a2
  · rw [rv_sI_a _ _ _ e0]; exact a3
  · rw [rv_sI_a _ _ _ e1]; exact a4 w hw
  · rw [rv_sI_a _ _ _ e2]; exact a5 w hw
  · rw [rv_sI_a _ _ _ e3]; exact a6 w hw
  · rw [rv_sI_a _ _ _ e5]; exact a7 w hw
theorem k_refresh (hn : 50 ≤ n) (hB : rv_B S) {f : Nat} (hf : fb f) (hR : FR0 S f m) (hp : okp m) : ∃ S', fnX1_refresh n S f = some S' ∧ rvf [f + 6] S S' ∧ FR S' f m := by
  have h24 := hp.1
  have hrw : rwb (f + 6) = true := by rcases hf with rfl | rfl | rfl | rfl <;> rfl
  have inner : ∀ (S1 : rvS) (K : Nat → Int32 → rvS → Option rvS) (v : Nat), v < 4 → rv_B S1 → FR0 S1 f m → cX1_refresh_11 n K n S1 f (nI v) (nI 0) (nI 0) = K f (nI (v + 1)) (rv_sI S1 (f + 6) v (nI (rc m v))) := by
    intro S1 K v hv hB1 hR1
    have hS := FS_of hB1 hf
    refine lpd (F := fun q (x : Int32 × Int32) => cX1_refresh_11 n K q S1 f (nI v) x.1 x.2) (fun i => (nI (bs (fun w => nr m v (at_ m w) && decide (de m w = 0)) i), nI i)) _ (vW m) (fun i q hi => ?_) (fun q => ?_) (i := 0) (q := n) (Nat.zero_le _) (by omega)
    · have ha := hp.2.1 i hi
      show cX1_refresh_11 n K (q + 1) S1 f (nI v) (nI (bs _ i)) (nI i) = cX1_refresh_11 n K q S1 f (nI v) (nI (bs _ (i + 1))) (nI (i + 1))
      rw [cX1_refresh_11, bs_s]
      simp (disch := first | assumption | omega) only [tk_gI, tk_gL, tk_gR, tk_pI, tk_pL, rv_aI, rv_aL, rv_aR, rv_uI, rv_uL, rv_uB, rv_uZ, pu_ckI, pu_ckL, pu_lnI, pu_lnL, tk_rI, tk_rL, Option.bind_some, Option.map_some, rv_lt, tk_ix, z0, z1, z2, z3, z4, z5, z6, z7, z8, z9, z10, z11, z12, z13, z15, z16, z17, z18, z20, z21, z23, z24, z25, z31, z32, z39, z40, z41, z46, z48, z50, z57, z59, z60, z61, z62, z63, z64, z97, z98, z99, z100, z101, z102, z103, z104, z105, z106, z107, z108, z109, z110, z111, z112, z113, z114, z115, z116, z117, z118, z119, z120, z121, z122, z128, z132, z200, z240, z255, z372, z390625, z400, z420, z421, z422, z662, z900, z940, z999, z1000, z1024, z2000, z5860, z10000, z12345, z15625, z266240, z1048575, z1064960, z1103515245, z_m1, n_le, n_lt, n_eq, n_bit0, n_bit1, n_sbit0, n_shl, z_ltM, z_Mlt, z_leM, z_Mle, z_eqM, z_Meq, bI0, bI1, bI_01, bI_01t, bI_10, bI_10f, if_true, if_false, eq_self, reduceCtorEq, if_pos, if_neg, hS, hR1, k_areNear0 hS hR1 hp hv ha, k_isDead0 hS hR1 hp hi, fa_or, nI_add]
      by_cases c1 : de m i = 0
      · have c2 : ¬ 0 < de m i := by omega
        cases nr m v (at_ m i) <;> simp [c1]
      · have c2 : 0 < de m i := by omega
        cases nr m v (at_ m i) <;> simp [c1, c2]
    · show cX1_refresh_11 n K (q + 1) S1 f (nI v) (nI (bs _ (vW m))) (nI (vW m)) = _
      rw [cX1_refresh_11]
      simp (disch := first | assumption | omega) only [cX1_refresh_53, tk_gI, tk_gL, tk_gR, tk_pI, tk_pL, rv_aI, rv_aL, rv_aR, rv_uI, rv_uL, rv_uB, rv_uZ, pu_ckI, pu_ckL, pu_lnI, pu_lnL, tk_rI, tk_rL, Option.bind_some, Option.map_some, rv_lt, tk_ix, z0, z1, z2, z3, z4, z5, z6, z7, z8, z9, z10, z11, z12, z13, z15, z16, z17, z18, z20, z21, z23, z24, z25, z31, z32, z39, z40, z41, z46, z48, z50, z57, z59, z60, z61, z62, z63, z64, z97, z98, z99, z100, z101, z102, z103, z104, z105, z106, z107, z108, z109, z110, z111, z112, z113, z114, z115, z116, z117, z118, z119, z120, z121, z122, z128, z132, z200, z240, z255, z372, z390625, z400, z420, z421, z422, z662, z900, z940, z999, z1000, z1024, z2000, z5860, z10000, z12345, z15625, z266240, z1048575, z1064960, z1103515245, z_m1, n_le, n_lt, n_eq, n_bit0, n_bit1, n_sbit0, n_shl, z_ltM, z_Mlt, z_leM, z_Mle, z_eqM, z_Meq, bI0, bI1, bI_01, bI_01t, bI_10, bI_10f, if_true, if_false, eq_self, reduceCtorEq, if_pos, if_neg, hS, hR1, nI_add]
      rfl
  obtain ⟨S', e, f1, g⟩ : ∃ S', cX1_refresh_2 n n S f 0 = some S' ∧ rvf [f + 6] S S' ∧ ∀ j, j < 4 → S'.2.1 (f + 6) j = nI (rc m j) := by
    refine lp (F := fun q (x : rvS × Int32) => cX1_refresh_2 n q x.1 f x.2) (fun i x => x.2 = nI i ∧ (rvf [f + 6] S x.1 ∧ FR0 x.1 f m) ∧ ∀ j, j < i → x.1.2.1 (f + 6) j = nI (rc m j)) (fun o => ∃ S', o = some S' ∧ rvf [f + 6] S S' ∧ ∀ j, j < 4 → S'.2.1 (f + 6) j = nI (rc m j)) 4 (fun i x q hi hx => Or.inr ?_) (fun x q hx => ?_) (i := 0) (x := (S, 0)) (q := n) (Nat.zero_le _) ⟨rfl, ⟨rvf.rf _ _, hR⟩, fun j hj => absurd hj (Nat.not_lt_zero j)⟩ (by omega)
    · obtain ⟨S1, x2⟩ := x
      obtain ⟨rfl, ⟨f1, r1⟩, g⟩ := hx
      have f1 : rvf [f + 6] S S1 := f1
      have r1 : FR0 S1 f m := r1
      have hB1 := f1.B hB
      refine ⟨(rv_sI S1 (f + 6) i (nI (rc m i)), nI (i + 1)), ?_, rfl, ⟨f1.tr (rvf.sIr S1 i _ hrw), r1.w (fun j hj => by omega)⟩, fun j hj => ?_⟩
      · show cX1_refresh_2 n (q + 1) S1 f (nI i) = cX1_refresh_2 n q _ f (nI (i + 1))
        rw [cX1_refresh_2]
        simp (disch := first | assumption | omega) only [z0, z1, z2, z3, z4, z5, z6, z7, z8, z9, z10, z11, z12, z13, z15, z16, z17, z18, z20, z21, z23, z24, z25, z31, z32, z39, z40, z41, z46, z48, z50, z57, z59, z60, z61, z62, z63, z64, z97, z98, z99, z100, z101, z102, z103, z104, z105, z106, z107, z108, z109, z110, z111, z112, z113, z114, z115, z116, z117, z118, z119, z120, z121, z122, z128, z132, z200, z240, z255, z372, z390625, z400, z420, z421, z422, z662, z900, z940, z999, z1000, z1024, z2000, z5860, z10000, z12345, z15625, z266240, z1048575, z1064960, z1103515245, z_m1, n_le, n_lt, n_eq, n_bit0, n_bit1, n_sbit0, n_shl, z_ltM, z_Mlt, z_leM, z_Mle, z_eqM, z_Meq, bI0, bI1, bI_01, bI_01t, bI_10, bI_10f, if_true, if_false, eq_self, reduceCtorEq, if_pos, if_neg, inner S1 _ i hi hB1 r1]
      · show (rv_sI S1 (f + 6) i _).2.1 (f + 6) j = _
        by_cases c : j = i
        · subst c; exact rv_sI_eq _ _ _ _
        · rw [rv_sI_k _ _ c]; exact g j (by omega)
    · obtain ⟨S1, x2⟩ := x
      obtain ⟨rfl, ⟨f1, r1⟩, g⟩ := hx
      refine ⟨S1, ?_, f1, g⟩
      show cX1_refresh_2 n (q + 1) S1 f (nI 4) = _
      rw [cX1_refresh_2]
      simp (disch := first | assumption | omega) only [z0, z1, z2, z3, z4, z5, z6, z7, z8, z9, z10, z11, z12, z13, z15, z16, z17, z18, z20, z21, z23, z24, z25, z31, z32, z39, z40, z41, z46, z48, z50, z57, z59, z60, z61, z62, z63, z64, z97, z98, z99, z100, z101, z102, z103, z104, z105, z106, z107, z108, z109, z110, z111, z112, z113, z114, z115, z116, z117, z118, z119, z120, z121, z122, z128, z132, z200, z240, z255, z372, z390625, z400, z420, z421, z422, z662, z900, z940, z999, z1000, z1024, z2000, z5860, z10000, z12345, z15625, z266240, z1048575, z1064960, z1103515245, z_m1, n_le, n_lt, n_eq, n_bit0, n_bit1, n_sbit0, n_shl, z_ltM, z_Mlt, z_leM, z_Mle, z_eqM, z_Meq, bI0, bI1, bI_01, bI_01t, bI_10, bI_10f, if_true, if_false, eq_self, reduceCtorEq, if_pos, if_neg]
  refine ⟨S', e, f1, ?_⟩
  have k : ∀ a, rwb a = true → a ≠ f + 6 → ∀ j, S'.2.1 a j = S.2.1 a j := fun a h1 h2 j => f1.row h1 (by simp [h2]) j
  have hr : ∀ i, i < 7 → rwb (f + i) = true := by
    rcases hf with rfl | rfl | rfl | rfl <;> decide
  obtain ⟨a1, a2, a3, a4, a5, a6, a7⟩ := hR
  refine ⟨?_, ?_, ?_, fun w hw => ?_, fun w hw => ?_, fun w hw => ?_, fun w hw => ?_, g⟩
  · rw [k f (hr 0 (by decide)) (by omega)]; exact a1
  · rw [k f (hr 0 (by decide)) (by omega)]; exact a2
  · rw [k f (hr 0 (by decide)) (by omega)]; exact a3
  · rw [k (f + 1) (hr 1 (by decide)) (by omega)]; exact a4 w hw
  · rw [k (f + 2) (hr 2 (by decide)) (by omega)]; exact a5 w hw
  · rw [k (f + 3) (hr 3 (by decide)) (by omega)]; exact a6 w hw
  · rw [k (f + 5) (hr 5 (by decide)) (by omega)]; exact a7 w hw
/-! a road more -/
def jn (m : Nat → Nat) (a b : Nat) : Nat → Nat := u1 (u1 m (128 + a) (rd m a ||| 2 ^ b)) (128 + b) (rd m b ||| 2 ^ a)
theorem jn_off {a b : Nat} {k : Nat} (h : k < 128 ∨ 132 ≤ k) (ha : a < 4) (hb : b < 4) : jn m a b k = m k := by
  unfold jn
  rw [u1_ne _ _ (by omega), u1_ne _ _ (by omega)]
theorem jn_rd {a b v : Nat} (h : a ≠ b) : rd (jn m a b) v = if v = b then rd m b ||| 2 ^ a else if v = a then rd m a ||| 2 ^ b else rd m v := by
  show jn m a b (128 + v) = _
  unfold jn
  by_cases c1 : v = b
  · subst c1; rw [u1_eq, if_pos rfl]
  · rw [u1_ne _ _ (by omega), if_neg c1]
    by_cases c2 : v = a
    · subst c2; rw [u1_eq, if_pos rfl]
    · rw [u1_ne _ _ (by omega), if_neg c2]
theorem jn_nr {a b x y : Nat} (h : a ≠ b) : nr (jn m a b) x y = (nr m x y || (decide (x = a) && decide (y = b)) || (decide (x = b) && decide (y = a))) := by
  unfold nr
  rw [jn_rd h]
  by_cases c1 : x = b
  · subst c1
    rw [if_pos rfl, Nat.testBit_or, Nat.testBit_two_pow]
    have : ¬ x = a := fun z => h z.symm
    simp [this, eq_comm]
  · rw [if_neg c1]
    by_cases c2 : x = a
    · subst c2
      rw [if_pos rfl, Nat.testBit_or, Nat.testBit_two_pow]
      simp [c1, eq_comm]
    · rw [if_neg c2]
      simp [c1, c2]
theorem jn_okp (hp : okp m) {a b : Nat} (ha : a < 4) (hb : b < 4) (h : a ≠ b) : okp (jn m a b) := by
  obtain ⟨h1, h2, h3, h4, h5, h6⟩ := hp
  have e : ∀ k, k < 128 → jn m a b k = m k := fun k hk => jn_off (Or.inl hk) ha hb
  have e0 : vW (jn m a b) = vW m := e 0 (by decide)
  refine ⟨by rw [e0]; exact h1, fun w hw => ?_, fun w hw => ?_, fun x y hx hy => ?_, fun v hv => ?_, fun x y hx hy => ?_⟩
  · rw [e0] at hw
    rw [show at_ (jn m a b) w = at_ m w from e _ (by omega)]; exact h2 w hw
  · rw [e0] at hw
    rw [e0, show mt (jn m a b) w = mt m w from e _ (by omega), show de (jn m a b) w = de m w from e _ (by omega), show sg (jn m a b) w = sg m w from e _ (by omega)]; exact h3 w hw
  · rw [e0] at hx hy
    rw [show mt (jn m a b) x = mt m x from e _ (by omega), show mt (jn m a b) y = mt m y from e _ (by omega)]; exact h4 x y hx hy
  · rw [jn_rd h]
    have p : ∀ k, k < 4 → 2 ^ k < 2 ^ 4 := fun k hk => Nat.pow_lt_pow_right (by decide) hk
    split
    · exact ⟨Nat.or_lt_two_pow (n := 4) (h5 b hb).1 (p a ha), by rename_i z; subst z; rw [Nat.testBit_or, (h5 v hv).2, Bool.true_or]⟩
    · split
      · exact ⟨Nat.or_lt_two_pow (n := 4) (h5 a ha).1 (p b hb), by rename_i z; subst z; rw [Nat.testBit_or, (h5 v hv).2, Bool.true_or]⟩
      · exact h5 v hv
  · rw [jn_nr h, jn_nr h, h6 x y hx hy, Bool.or_assoc, Bool.or_assoc]
    congr 1
    rw [Bool.or_comm, Bool.and_comm, Bool.and_comm (decide (x = a))]
theorem okc.c (h : okc m) (e0 : m' 0 = m 0) (e1 : m' 1 = m 1) (e3 : m' 3 = m 3) (e : ∀ k, 132 ≤ k → k < 372 → m' k = m k) : okc m' := by
  obtain ⟨h1, h2, h3⟩ := h
  have e0 : vW m' = vW m := e0
  have e1 : vC m' = vC m := e1
  have e3 : vN m' = vN m := e3
  refine ⟨by rw [e1]; exact h1, by rw [e3]; exact h2, fun c hc => ?_⟩
  rw [e1] at hc
  obtain ⟨g1, g2, g3, g4, g5⟩ := h3 c hc
  have r2 : mn m' c = mn m c := e _ (by omega) (by omega)
  refine ⟨by rw [show va m' c = va m c from e _ (by omega) (by omega)]; exact g1, by rw [show va m' c = va m c from e _ (by omega) (by omega)]; exact g2, by rw [e0, show ow m' c = ow m c from e _ (by omega) (by omega)]; exact g3, by rw [e3, r2]; exact g4, fun i hi => ?_⟩
  rw [r2] at hi
  rw [e0, show rm m' c i = rm m c i from e _ (by omega) (by omega)]
  exact g5 i hi
theorem PR.c {p : Nat} (h : PR S p m) (hc : vC m ≤ 40) (e1 : m' 1 = m 1) (e3 : m' 3 = m 3) (e : ∀ k, 132 ≤ k → k < 372 → m' k = m k) : PR S p m' := by
  obtain ⟨b1, b2, b3, b4, b5⟩ := h
  have e1 : vC m' = vC m := e1
  have e3 : vN m' = vN m := e3
  refine ⟨by rw [e1]; exact b1, by rw [e3]; exact b2, fun c hc => ?_, fun c hc => ?_, fun c hc => ?_⟩ <;> rw [e1] at hc
  · rw [show va m' c = va m c from e _ (by omega) (by omega)]; exact b3 c hc
  · rw [show ow m' c = ow m c from e _ (by omega) (by omega)]; exact b4 c hc
  · unfold rl
    rw [show mn m' c = mn m c from e _ (by omega) (by omega), show rm m' c 0 = rm m c 0 from e _ (by omega) (by omega), show rm m' c 1 = rm m c 1 from e _ (by omega) (by omega), show rm m' c 2 = rm m c 2 from e _ (by omega) (by omega)]; exact b5 c hc
theorem okd.c2 (h : okd m) (h24 : vW m ≤ 24) (e : ∀ k, k < 8 → m' k = m k) (e2 : ∀ k, 372 ≤ k → m' k = m k) : okd m' := by
  obtain ⟨h1, h2, h3, h4, h5, h6, h7⟩ := h
  have e0 : vW m' = vW m := e 0 (by decide)
  have e3 : vD m' = vD m := e 2 (by decide)
  have e4 : vF m' = vF m := e 4 (by decide)
  have e5 : vL m' = vL m := e 5 (by decide)
  have e6 : m' 6 = m 6 := e 6 (by decide)
  refine ⟨by rw [e3]; exact h1, by rw [e4]; exact h2, by rw [e4]; exact h3, by rw [e5]; exact h4, by rw [e6]; exact h5, by rw [e6, e0]; exact h6, fun k hk => ?_⟩
  rw [e3] at hk
  have g : ∀ i, db m' k i = db m k i := fun i => e2 _ (by omega)
  rw [g, g, g, g, e0]
  exact h7 k hk
theorem DR.c2 {v : Nat} (h : DR S v m) (e3 : m' 2 = m 2) (e4 : m' 4 = m 4) (e5 : m' 5 = m 5) (e2 : ∀ k, 372 ≤ k → m' k = m k) : DR S v m' := by
  obtain ⟨c1, c2, c3, c4, c5, c6, c7⟩ := h
  have e3 : vD m' = vD m := e3
  have g : ∀ k i, db m' k i = db m k i := fun k i => e2 _ (by omega)
  refine ⟨by rw [e3]; exact c1, ?_, by rw [show vF m' = vF m from e4]; exact c3, by rw [show vL m' = vL m from e5]; exact c4, fun k hk => ?_, fun k hk => ?_, fun k hk => ?_⟩
  · rw [e3, c2]
    exact congrArg nI (bs_cong fun k _ => by rw [g])
  · rw [e3] at hk; rw [g]; exact c5 k hk
  · rw [e3] at hk; rw [g]; exact c6 k hk
  · rw [e3] at hk; rw [g]; exact c7 k hk
theorem jn_okm (hk : okm m) {a b : Nat} (ha : a < 4) (hb : b < 4) (h : a ≠ b) : okm (jn m a b) := by
  obtain ⟨hp, hc, hd⟩ := hk
  have e : ∀ k, k < 128 ∨ 132 ≤ k → jn m a b k = m k := fun k hk => jn_off hk ha hb
  exact ⟨jn_okp hp ha hb h, hc.c (e 0 (by decide)) (e 1 (by decide)) (e 3 (by decide)) (fun k h1 h2 => e k (by omega)), hd.c2 hp.1 (fun k hk => e k (by omega)) (fun k hk => e k (by omega))⟩
theorem k_join (hn : 50 ≤ n) (hB : rv_B S) {f : Nat} (hf : fb f) (hR : FR S f m) (hp : okp m) {a b : Nat} (ha : a < 4) (hb : b < 4) (h : a ≠ b) : ∃ S', fnX1_join n S f (nI a) (nI b) = some S' ∧ rvf [f + 5, f + 6] S S' ∧ FR S' f (jn m a b) := by
  have hS := FS_of hB hf
  have hrw : rwb (f + 5) = true := by rcases hf with rfl | rfl | rfl | rfl <;> rfl
  obtain ⟨a1, a2, a3, a4, a5, a6, a7, a8⟩ := id hR
  have e : ∀ k, k < 128 → jn m a b k = m k := fun k hk => jn_off (Or.inl hk) ha hb
  have e0 : vW (jn m a b) = vW m := e 0 (by decide)
  have h24 := hp.1
  obtain ⟨S2, eS2⟩ : ∃ S2, S2 = rv_sI (rv_sI S (f + 5) a (nI (rd m a ||| 2 ^ b))) (f + 5) b (nI (rd m b ||| 2 ^ a)) := ⟨_, rfl⟩
  have f2 : rvf [f + 5] S S2 := by
    rw [eS2]
    exact (rvf.sIr S a _ hrw).tr (rvf.sIr _ b _ hrw)
  have hB2 := f2.B hB
  have r0 : FR0 S2 f (jn m a b) := by
    rw [eS2]
    have q : ∀ i, f + 5 ≠ i → ∀ k, (rv_sI (rv_sI S (f + 5) a (nI (rd m a ||| 2 ^ b))) (f + 5) b (nI (rd m b ||| 2 ^ a))).2.1 i k = S.2.1 i k := fun i hi k => by
      rw [rv_sI_a _ _ _ (fun z => hi z.symm), rv_sI_a _ _ _ (fun z => hi z.symm)]
    refine ⟨?_, ?_, ?_, fun w hw => ?_, fun w hw => ?_, fun w hw => ?_, fun j hj => ?_⟩
    · rw [q _ (by omega), e0]; exact a1
    · rw [q _ (by omega), e0, a2]
      exact congrArg nI (bs_cong fun w hw => by rw [show de (jn m a b) w = de m w from e _ (by omega)])
    · rw [q _ (by omega), e0, a3]
      exact congrArg nI (bs_cong fun w hw => by rw [show sg (jn m a b) w = sg m w from e _ (by omega)])
    · rw [e0] at hw; rw [q _ (by omega), show at_ (jn m a b) w = at_ m w from e _ (by omega)]; exact a4 w hw
    · rw [e0] at hw; rw [q _ (by omega)]; unfold hs; rw [show mt (jn m a b) w = mt m w from e _ (by omega)]; exact a5 w hw
    · rw [e0] at hw; rw [q _ (by omega), show ea (jn m a b) w = ea m w from e _ (by omega)]; exact a6 w hw
    · rw [jn_rd h]
      by_cases c1 : j = b
      · subst c1; rw [rv_sI_eq, if_pos rfl]
      · rw [rv_sI_k _ _ c1, if_neg c1]
        by_cases c2 : j = a
        · subst c2; rw [rv_sI_eq, if_pos rfl]
        · rw [rv_sI_k _ _ c2, if_neg c2]; exact a7 j hj
  obtain ⟨S', e3, f3, g3⟩ := k_refresh hn hB2 hf r0 (jn_okp hp ha hb h)
  have rb1 : (rv_sI S (f + 5) a (nI (rd m a ||| 2 ^ b))).2.1 (f + 5) b = nI (rd m b) := by rw [rv_sI_k _ _ (fun z => h z.symm)]; exact a7 b hb
  refine ⟨S', ?_, (f2.mono (by simp)).tr (f3.mono (by simp)), g3⟩
  simp (disch := first | assumption | omega) only [fnX1_join, tk_gI, tk_gL, tk_gR, tk_pI, tk_pL, rv_aI, rv_aL, rv_aR, rv_uI, rv_uL, rv_uB, rv_uZ, pu_ckI, pu_ckL, pu_lnI, pu_lnL, tk_rI, tk_rL, Option.bind_some, Option.map_some, rv_lt, tk_ix, z0, z1, z2, z3, z4, z5, z6, z7, z8, z9, z10, z11, z12, z13, z15, z16, z17, z18, z20, z21, z23, z24, z25, z31, z32, z39, z40, z41, z46, z48, z50, z57, z59, z60, z61, z62, z63, z64, z97, z98, z99, z100, z101, z102, z103, z104, z105, z106, z107, z108, z109, z110, z111, z112, z113, z114, z115, z116, z117, z118, z119, z120, z121, z122, z128, z132, z200, z240, z255, z372, z390625, z400, z420, z421, z422, z662, z900, z940, z999, z1000, z1024, z2000, z5860, z10000, z12345, z15625, z266240, z1048575, z1064960, z1103515245, z_m1, n_le, n_lt, n_eq, n_bit0, n_bit1, n_sbit0, n_shl, z_ltM, z_Mlt, z_leM, z_Mle, z_eqM, z_Meq, bI0, bI1, bI_01, bI_01t, bI_10, bI_10f, if_true, if_false, eq_self, reduceCtorEq, if_pos, if_neg, hS, a7 a ha, rb1, k_isVillage, n_shl, fa_or]
  rw [← eS2, e3]
  rfl
theorem op_road (hn : 500 ≤ n) (hV : VI S m wd) (x y : Int32) : ∃ r S1 S' m', fnX12_road n S 64 x y = some (r, S1) ∧ fnX13_road n S1 189 x y = some (r, S') ∧ QS S S' m' wd := by
  obtain ⟨hB, hR, hL, hk, -⟩ := id hV; have hp := hk.1; have hc := hk.2.1; have hd := hk.2.2; obtain ⟨S6, e6, hB6, f6, hM6, r6, b6⟩ := start_ok hn hB hL; have hC := CS_of hB; have hv : vb 67 := Or.inl rfl; have hVS := VS_of hB hv; have hFS := FS_of hB hv.f; have hPS := PS_of hB hv.p; have h24 := hp.1; have h40 := hc.1; have n10 : 10 ≤ n := (by omega); have n50 : 50 ≤ n := (by omega)
  obtain ⟨hF, hP, hD⟩ := id hR
  have same : ∀ {r : Int32}, fnX12_road n S 64 x y = some (r, S) → (∃ S', fnX13_road n S 189 x y = some (r, S') ∧ QS S S' m wd) → ∃ r S1 S' m', fnX12_road n S 64 x y = some (r, S1) ∧ fnX13_road n S1 189 x y = some (r, S') ∧ QS S S' m' wd := fun h1 ⟨S', h2, h3⟩ => ⟨_, S, S', m, h1, h2, h3⟩
  rcases rng x (N := 4) (by omega) with ⟨a, ha, rfl⟩ | hx
  · rcases rng y (N := 4) (by omega) with ⟨b, hb, rfl⟩ | hy
    · cases cn : nr m a b
      · have hab : a ≠ b := fun z => by
          subst z
          have := (hp.2.2.2.2.1 a ha).2
          unfold nr at cn
          rw [this] at cn
          cases cn
        have ka := k_areNear (n := n) hFS hF hp ha hb
        rw [cn] at ka
        obtain ⟨S1, e1, f1, g1⟩ := k_join n50 hB hv.f hF hp ha hb hab
        have f1 : rvf [73, 74] S S1 := f1
        have hB1 := f1.B hB
        obtain ⟨S2, e2, hB2, f2, hM2, r2, b2⟩ := start_ok hn hB1 (hL.f f1 rfl rfl)
        have kn := m_near (n := n) hB2 hM2 hp ha hb
        rw [cn] at kn
        have q1 : S2.2.1 191 (128 + a) = nI (rd m a) := hM2 _ (by omega)
        have q2 : (rv_sI S2 191 (128 + a) (nI (rd m a ||| 2 ^ b))).2.1 191 (128 + b) = nI (rd m b) := by rw [rv_sI_k _ _ (by omega)]; exact hM2 _ (by omega)
        have fz : rvf [189000, 189022, 191] S1 (rv_sI (rv_sI S2 191 (128 + a) (nI (rd m a ||| 2 ^ b))) 191 (128 + b) (nI (rd m b ||| 2 ^ a))) := (f2.w rfl rfl).w rfl rfl
        refine ⟨nI 1, S1, _, jn m a b, ?_, ?_, QS.two hV f1 fz rfl rfl rfl rfl ?_ ((hM2.u _ _).u _ _) b2 (jn_okm hk ha hb hab) (jn_off (by omega) ha hb) (jn_off (by omega) ha hb) ((r2.u _ (by omega)).u _ (by omega))⟩
        · simp (disch := first | assumption | omega) only [fnX12_road, tk_gI, tk_gL, tk_gR, tk_pI, tk_pL, rv_aI, rv_aL, rv_aR, rv_uI, rv_uL, rv_uB, rv_uZ, pu_ckI, pu_ckL, pu_lnI, pu_lnL, tk_rI, tk_rL, Option.bind_some, Option.map_some, rv_lt, tk_ix, z0, z1, z2, z3, z4, z5, z6, z7, z8, z9, z10, z11, z12, z13, z15, z16, z17, z18, z20, z21, z23, z24, z25, z31, z32, z39, z40, z41, z46, z48, z50, z57, z59, z60, z61, z62, z63, z64, z97, z98, z99, z100, z101, z102, z103, z104, z105, z106, z107, z108, z109, z110, z111, z112, z113, z114, z115, z116, z117, z118, z119, z120, z121, z122, z128, z132, z200, z240, z255, z372, z390625, z400, z420, z421, z422, z662, z900, z940, z999, z1000, z1024, z2000, z5860, z10000, z12345, z15625, z266240, z1048575, z1064960, z1103515245, z_m1, n_le, n_lt, n_eq, n_bit0, n_bit1, n_sbit0, n_shl, z_ltM, z_Mlt, z_leM, z_Mle, z_eqM, z_Meq, bI0, bI1, bI_01, bI_01t, bI_10, bI_10f, if_true, if_false, eq_self, reduceCtorEq, if_pos, if_neg, hC, hVS, hFS, k_isVillage ha, k_isVillage hb, ka, e1]
        · simp (disch := first | assumption | omega) only [fnX13_road, tk_gI, tk_gL, tk_gR, tk_pI, tk_pL, rv_aI, rv_aL, rv_aR, rv_uI, rv_uL, rv_uB, rv_uZ, pu_ckI, pu_ckL, pu_lnI, pu_lnL, tk_rI, tk_rL, Option.bind_some, Option.map_some, rv_lt, tk_ix, z0, z1, z2, z3, z4, z5, z6, z7, z8, z9, z10, z11, z12, z13, z15, z16, z17, z18, z20, z21, z23, z24, z25, z31, z32, z39, z40, z41, z46, z48, z50, z57, z59, z60, z61, z62, z63, z64, z97, z98, z99, z100, z101, z102, z103, z104, z105, z106, z107, z108, z109, z110, z111, z112, z113, z114, z115, z116, z117, z118, z119, z120, z121, z122, z128, z132, z200, z240, z255, z372, z390625, z400, z420, z421, z422, z662, z900, z940, z999, z1000, z1024, z2000, z5860, z10000, z12345, z15625, z266240, z1048575, z1064960, z1103515245, z_m1, n_le, n_lt, n_eq, n_bit0, n_bit1, n_sbit0, n_shl, z_ltM, z_Mlt, z_leM, z_Mle, z_eqM, z_Meq, bI0, bI1, bI_01, bI_01t, bI_10, bI_10f, if_true, if_false, eq_self, reduceCtorEq, if_pos, if_neg, rc_189 hB1, e2, rc_189 hB2, m_isV ha, m_isV hb, kn, rf_of hB2 (show (189, 14, 191) ∈ rv_rf0 by decide), rn_191 hB2, nI_add, q1, q2, n_shl, fa_or]
        · have qC : CR S1 67 m → CR S1 67 (jn m a b) := fun z => ⟨g1, z.2.1.c h40 (jn_off (by omega) ha hb) (jn_off (by omega) ha hb) (fun k h1 h2 => jn_off (by omega) ha hb), z.2.2.c2 (jn_off (by omega) ha hb) (jn_off (by omega) ha hb) (jn_off (by omega) ha hb) (fun k h1 => jn_off (by omega) ha hb)⟩
          have p1 : ∀ k, S1.2.1 (67 + 8) k = S.2.1 (67 + 8) k := f1.row rfl rfl
          have p2 : ∀ k, S1.2.1 (67 + 8 + 1) k = S.2.1 (67 + 8 + 1) k := f1.row rfl rfl
          have p3 : ∀ k, S1.2.1 (67 + 8 + 2) k = S.2.1 (67 + 8 + 2) k := f1.row rfl rfl
          have p4 : ∀ k, S1.2.1 (67 + 8 + 3) k = S.2.1 (67 + 8 + 3) k := f1.row rfl rfl
          have d0 : ∀ k, S1.2.1 67 k = S.2.1 67 k := f1.row rfl rfl
          have d1 : ∀ k, S1.2.1 (67 + 17) k = S.2.1 (67 + 17) k := f1.row rfl rfl
          have d2 : ∀ k, S1.2.1 (67 + 18) k = S.2.1 (67 + 18) k := f1.row rfl rfl
          have d3 : ∀ k, S1.2.1 (67 + 19) k = S.2.1 (67 + 19) k := f1.row rfl rfl
          obtain ⟨b1, b2, b3, b4, b5⟩ := hP
          obtain ⟨c1, c2, c3, c4, c5, c6, c7⟩ := hD
          have hP1 : PR S1 (67 + 8) m := ⟨(p1 _).trans b1, (p1 _).trans b2, fun c h => (p2 c).trans (b3 c h), fun c h => (p3 c).trans (b4 c h), fun c h => (p4 c).trans (b5 c h)⟩
          have hD1 : DR S1 67 m := ⟨(d0 _).trans c1, (d0 _).trans c2, (d0 _).trans c3, (d0 _).trans c4, fun c h => (d1 c).trans (c5 c h), fun c h => (d2 c).trans (c6 c h), fun c h => (d3 c).trans (c7 c h)⟩
          exact ⟨g1, hP1.c h40 (jn_off (by omega) ha hb) (jn_off (by omega) ha hb) (fun k h1 h2 => jn_off (by omega) ha hb), hD1.c2 (jn_off (by omega) ha hb) (jn_off (by omega) ha hb) (jn_off (by omega) ha hb) (fun k h1 => jn_off (by omega) ha hb)⟩
      · have ka := k_areNear (n := n) hFS hF hp ha hb
        rw [cn] at ka
        have kn := m_near (n := n) hB6 hM6 hp ha hb
        rw [cn] at kn
        refine same (r := nI 0) ?_ ⟨S6, ?_, QS.s0 hV f6 hM6 r6 b6⟩
        · simp (disch := first | assumption | omega) only [fnX12_road, tk_gI, tk_gL, tk_gR, tk_pI, tk_pL, rv_aI, rv_aL, rv_aR, rv_uI, rv_uL, rv_uB, rv_uZ, pu_ckI, pu_ckL, pu_lnI, pu_lnL, tk_rI, tk_rL, Option.bind_some, Option.map_some, rv_lt, tk_ix, z0, z1, z2, z3, z4, z5, z6, z7, z8, z9, z10, z11, z12, z13, z15, z16, z17, z18, z20, z21, z23, z24, z25, z31, z32, z39, z40, z41, z46, z48, z50, z57, z59, z60, z61, z62, z63, z64, z97, z98, z99, z100, z101, z102, z103, z104, z105, z106, z107, z108, z109, z110, z111, z112, z113, z114, z115, z116, z117, z118, z119, z120, z121, z122, z128, z132, z200, z240, z255, z372, z390625, z400, z420, z421, z422, z662, z900, z940, z999, z1000, z1024, z2000, z5860, z10000, z12345, z15625, z266240, z1048575, z1064960, z1103515245, z_m1, n_le, n_lt, n_eq, n_bit0, n_bit1, n_sbit0, n_shl, z_ltM, z_Mlt, z_leM, z_Mle, z_eqM, z_Meq, bI0, bI1, bI_01, bI_01t, bI_10, bI_10f, if_true, if_false, eq_self, reduceCtorEq, if_pos, if_neg, hC, hVS, hFS, k_isVillage ha, k_isVillage hb, ka]
        · simp (disch := first | assumption | omega) only [fnX13_road, tk_gI, tk_gL, tk_gR, tk_pI, tk_pL, rv_aI, rv_aL, rv_aR, rv_uI, rv_uL, rv_uB, rv_uZ, pu_ckI, pu_ckL, pu_lnI, pu_lnL, tk_rI, tk_rL, Option.bind_some, Option.map_some, rv_lt, tk_ix, z0, z1, z2, z3, z4, z5, z6, z7, z8, z9, z10, z11, z12, z13, z15, z16, z17, z18, z20, z21, z23, z24, z25, z31, z32, z39, z40, z41, z46, z48, z50, z57, z59, z60, z61, z62, z63, z64, z97, z98, z99, z100, z101, z102, z103, z104, z105, z106, z107, z108, z109, z110, z111, z112, z113, z114, z115, z116, z117, z118, z119, z120, z121, z122, z128, z132, z200, z240, z255, z372, z390625, z400, z420, z421, z422, z662, z900, z940, z999, z1000, z1024, z2000, z5860, z10000, z12345, z15625, z266240, z1048575, z1064960, z1103515245, z_m1, n_le, n_lt, n_eq, n_bit0, n_bit1, n_sbit0, n_shl, z_ltM, z_Mlt, z_leM, z_Mle, z_eqM, z_Meq, bI0, bI1, bI_01, bI_01t, bI_10, bI_10f, if_true, if_false, eq_self, reduceCtorEq, if_pos, if_neg, rc_189 hB, e6, rc_189 hB6, m_isV ha, m_isV hb, kn]
    · refine same (r := nI 0) ?_ ⟨S6, ?_, QS.s0 hV f6 hM6 r6 b6⟩
      · simp (disch := first | assumption | omega) only [fnX12_road, tk_gI, tk_gL, tk_gR, tk_pI, tk_pL, rv_aI, rv_aL, rv_aR, rv_uI, rv_uL, rv_uB, rv_uZ, pu_ckI, pu_ckL, pu_lnI, pu_lnL, tk_rI, tk_rL, Option.bind_some, Option.map_some, rv_lt, tk_ix, z0, z1, z2, z3, z4, z5, z6, z7, z8, z9, z10, z11, z12, z13, z15, z16, z17, z18, z20, z21, z23, z24, z25, z31, z32, z39, z40, z41, z46, z48, z50, z57, z59, z60, z61, z62, z63, z64, z97, z98, z99, z100, z101, z102, z103, z104, z105, z106, z107, z108, z109, z110, z111, z112, z113, z114, z115, z116, z117, z118, z119, z120, z121, z122, z128, z132, z200, z240, z255, z372, z390625, z400, z420, z421, z422, z662, z900, z940, z999, z1000, z1024, z2000, z5860, z10000, z12345, z15625, z266240, z1048575, z1064960, z1103515245, z_m1, n_le, n_lt, n_eq, n_bit0, n_bit1, n_sbit0, n_shl, z_ltM, z_Mlt, z_leM, z_Mle, z_eqM, z_Meq, bI0, bI1, bI_01, bI_01t, bI_10, bI_10f, if_true, if_false, eq_self, reduceCtorEq, k_isVillage ha, k_isV0 hy]
      · simp (disch := first | assumption | omega) only [fnX13_road, tk_gI, tk_gL, tk_gR, tk_pI, tk_pL, rv_aI, rv_aL, rv_aR, rv_uI, rv_uL, rv_uB, rv_uZ, pu_ckI, pu_ckL, pu_lnI, pu_lnL, tk_rI, tk_rL, Option.bind_some, Option.map_some, rv_lt, tk_ix, z0, z1, z2, z3, z4, z5, z6, z7, z8, z9, z10, z11, z12, z13, z15, z16, z17, z18, z20, z21, z23, z24, z25, z31, z32, z39, z40, z41, z46, z48, z50, z57, z59, z60, z61, z62, z63, z64, z97, z98, z99, z100, z101, z102, z103, z104, z105, z106, z107, z108, z109, z110, z111, z112, z113, z114, z115, z116, z117, z118, z119, z120, z121, z122, z128, z132, z200, z240, z255, z372, z390625, z400, z420, z421, z422, z662, z900, z940, z999, z1000, z1024, z2000, z5860, z10000, z12345, z15625, z266240, z1048575, z1064960, z1103515245, z_m1, n_le, n_lt, n_eq, n_bit0, n_bit1, n_sbit0, n_shl, z_ltM, z_Mlt, z_leM, z_Mle, z_eqM, z_Meq, bI0, bI1, bI_01, bI_01t, bI_10, bI_10f, if_true, if_false, eq_self, reduceCtorEq, rc_189 hB, e6, rc_189 hB6, m_isV ha, m_isV0 hy]
  · refine same (r := nI 0) ?_ ⟨S6, ?_, QS.s0 hV f6 hM6 r6 b6⟩
    · simp (disch := first | assumption | omega) only [fnX12_road, tk_gI, tk_gL, tk_gR, tk_pI, tk_pL, rv_aI, rv_aL, rv_aR, rv_uI, rv_uL, rv_uB, rv_uZ, pu_ckI, pu_ckL, pu_lnI, pu_lnL, tk_rI, tk_rL, Option.bind_some, Option.map_some, rv_lt, tk_ix, z0, z1, z2, z3, z4, z5, z6, z7, z8, z9, z10, z11, z12, z13, z15, z16, z17, z18, z20, z21, z23, z24, z25, z31, z32, z39, z40, z41, z46, z48, z50, z57, z59, z60, z61, z62, z63, z64, z97, z98, z99, z100, z101, z102, z103, z104, z105, z106, z107, z108, z109, z110, z111, z112, z113, z114, z115, z116, z117, z118, z119, z120, z121, z122, z128, z132, z200, z240, z255, z372, z390625, z400, z420, z421, z422, z662, z900, z940, z999, z1000, z1024, z2000, z5860, z10000, z12345, z15625, z266240, z1048575, z1064960, z1103515245, z_m1, n_le, n_lt, n_eq, n_bit0, n_bit1, n_sbit0, n_shl, z_ltM, z_Mlt, z_leM, z_Mle, z_eqM, z_Meq, bI0, bI1, bI_01, bI_01t, bI_10, bI_10f, if_true, if_false, eq_self, reduceCtorEq, k_isV0 hx]
    · simp (disch := first | assumption | omega) only [fnX13_road, tk_gI, tk_gL, tk_gR, tk_pI, tk_pL, rv_aI, rv_aL, rv_aR, rv_uI, rv_uL, rv_uB, rv_uZ, pu_ckI, pu_ckL, pu_lnI, pu_lnL, tk_rI, tk_rL, Option.bind_some, Option.map_some, rv_lt, tk_ix, z0, z1, z2, z3, z4, z5, z6, z7, z8, z9, z10, z11, z12, z13, z15, z16, z17, z18, z20, z21, z23, z24, z25, z31, z32, z39, z40, z41, z46, z48, z50, z57, z59, z60, z61, z62, z63, z64, z97, z98, z99, z100, z101, z102, z103, z104, z105, z106, z107, z108, z109, z110, z111, z112, z113, z114, z115, z116, z117, z118, z119, z120, z121, z122, z128, z132, z200, z240, z255, z372, z390625, z400, z420, z421, z422, z662, z900, z940, z999, z1000, z1024, z2000, z5860, z10000, z12345, z15625, z266240, z1048575, z1064960, z1103515245, z_m1, n_le, n_lt, n_eq, n_bit0, n_bit1, n_sbit0, n_shl, z_ltM, z_Mlt, z_leM, z_Mle, z_eqM, z_Meq, bI0, bI1, bI_01, bI_01t, bI_10, bI_10f, if_true, if_false, eq_self, reduceCtorEq, rc_189 hB, e6, rc_189 hB6, m_isV0 hx]
end
