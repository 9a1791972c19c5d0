/-! COPIES of valleys -/
section
variable {n : Nat} {S : rvS} {m m' : Nat → Nat} {wd : Nat → List Nat}
/-- all but the rows d to d + 19 is as it was -/
def rvi (d : Nat) (S S' : rvS) : Prop := S'.1 = S.1 ∧ (∀ q ∈ rv_rf0, S'.2.2.2 q.1 q.2.1 = S.2.2.2 q.1 q.2.1) ∧ ∀ a, (a < d ∨ d + 20 ≤ a) → S'.2.1 a = S.2.1 a ∧ S'.2.2.1 a = S.2.2.1 a ∧ S'.2.2.2 a = S.2.2.2 a
theorem rvi.rf (d : Nat) (S : rvS) : rvi d S S := ⟨rfl, fun _ _ => rfl, fun _ _ => ⟨rfl, rfl, rfl⟩⟩
theorem rvi.tr {d : Nat} {S S1 S2 : rvS} (h : rvi d S S1) (k : rvi d S1 S2) : rvi d S S2 := ⟨k.1.trans h.1, fun q hq => (k.2.1 q hq).trans (h.2.1 q hq), fun a ha => ⟨(k.2.2 a ha).1.trans (h.2.2 a ha).1, (k.2.2 a ha).2.1.trans (h.2.2 a ha).2.1, (k.2.2 a ha).2.2.trans (h.2.2 a ha).2.2⟩⟩
theorem rvi.w {d a k : Nat} {v : Int32} {S S1 : rvS} (h : rvi d S S1) (h1 : d ≤ a ∧ a < d + 20) : rvi d S (rv_sI S1 a k v) := h.tr ⟨rfl, fun _ _ => rfl, fun b hb => ⟨funext fun j => rv_sI_a _ _ _ (by omega) _, rfl, rfl⟩⟩
theorem rvi.wL {d a k : Nat} {v : Int64} {S S1 : rvS} (h : rvi d S S1) (h1 : d ≤ a ∧ a < d + 20) : rvi d S (rv_sL S1 a k v) := h.tr ⟨rfl, fun _ _ => rfl, fun b hb => ⟨rfl, funext fun j => rv_sL_a _ _ _ (by omega) _, rfl⟩⟩
theorem rvi.wR {d a k : Nat} {v : Option Nat} {S S1 : rvS} (h : rvi d S S1) (h1 : d ≤ a ∧ a < d + 20) (h2 : ∀ q ∈ rv_rf0, q.1 ≠ a) : rvi d S (rv_sR S1 a k v) := h.tr ⟨rfl, fun q hq => if_neg (fun z => h2 q hq z.1), fun b hb => ⟨rfl, rfl, funext fun j => if_neg (fun z => by omega)⟩⟩
theorem rvi.B {d : Nat} {S S' : rvS} (h : rvi d S S') (hB : rv_B S) : rv_B S' := ⟨by rw [h.1]; exact hB.1, fun q hq => by rw [h.2.1 q hq]; exact hB.2 q hq⟩
theorem rvi.f {d : Nat} {S S' : rvS} (h : rvi d S S') {D : List Nat} (h1 : ∀ i, i < 20 → rwb (d + i) = true ∧ D.elem (d + i) = true) : rvf D S S' := by
  have key : ∀ a k, lc a k ∉ D → a < d ∨ d + 20 ≤ a := fun a k hk => by
    by_cases c : a < d ∨ d + 20 ≤ a
    · exact c
    · exfalso
      obtain ⟨g1, g2⟩ := h1 (a - d) (by omega)
      rw [show d + (a - d) = a by omega] at g1 g2
      rw [lc_row g1] at hk
      exact hk (List.elem_iff.mp g2)
  exact ⟨h.1, ⟨h.2.1, fun a k hk => by rw [(h.2.2 a (key a k hk)).2.2]⟩, fun a k hk => ⟨by rw [(h.2.2 a (key a k hk)).1], by rw [(h.2.2 a (key a k hk)).2.1]⟩⟩
theorem vb_ne {d s : Nat} (hd : vb d) (hs : vb s) (h : d ≠ s) : d + 19 < s ∨ s + 19 < d := by
  rcases hd with rfl | rfl | rfl | rfl <;> rcases hs with rfl | rfl | rfl | rfl <;> omega
theorem rwb_vb {v : Nat} (hv : vb v) : ∀ i, i < 20 → rwb (v + i) = true := by
  rcases hv with rfl | rfl | rfl | rfl <;> decide
/-- reads of what stands apart -/
theorem rvi.I {d : Nat} {S S' : rvS} (h : rvi d S S') {a : Nat} (ha : a < d ∨ d + 20 ≤ a) (k : Nat) : S'.2.1 a k = S.2.1 a k := by rw [(h.2.2 a ha).1]
theorem rvi.L {d : Nat} {S S' : rvS} (h : rvi d S S') {a : Nat} (ha : a < d ∨ d + 20 ≤ a) (k : Nat) : S'.2.2.1 a k = S.2.2.1 a k := by rw [(h.2.2 a ha).2.1]
theorem rvi.R {d : Nat} {S S' : rvS} (h : rvi d S S') {a : Nat} (ha : a < d ∨ d + 20 ≤ a) (k : Nat) : S'.2.2.2 a k = S.2.2.2 a k := by rw [(h.2.2 a ha).2.2]
theorem k_copyF (hn : 50 ≤ n) (hB : rv_B S) {d s : Nat} (hd : vb d) (hs : vb s) (hne : d ≠ s) : ∃ S', fnX1_copyFrom n S (d + 1) (s + 1) = some S' ∧ rvi d S S' ∧ (∀ k, k < 3 → S'.2.1 (d + 1) k = S.2.1 (s + 1) k) ∧ (∀ k, k < 24 → S'.2.1 (d + 1 + 1) k = S.2.1 (s + 1 + 1) k ∧ S'.2.1 (d + 1 + 2) k = S.2.1 (s + 1 + 2) k ∧ S'.2.1 (d + 1 + 3) k = S.2.1 (s + 1 + 3) k ∧ S'.2.2.1 (d + 1 + 4) k = S.2.2.1 (s + 1 + 4) k) ∧ (∀ k, k < 4 → S'.2.1 (d + 1 + 5) k = S.2.1 (s + 1 + 5) k ∧ S'.2.1 (d + 1 + 6) k = S.2.1 (s + 1 + 6) k) ∧ (∀ a, d + 8 ≤ a → ∀ k, S'.2.1 a k = S.2.1 a k) := by
  have ha := vb_ne hd hs hne
  -- the scalars
  obtain ⟨S1, eS1⟩ : ∃ S1, S1 = rv_sI (rv_sI (rv_sI S (d + 1) 0 (S.2.1 (s + 1) 0)) (d + 1) 1 (S.2.1 (s + 1) 1)) (d + 1) 2 (S.2.1 (s + 1) 2) := ⟨_, rfl⟩
  have f1 : rvi d S S1 := by
    rw [eS1]
    exact (((rvi.rf d S).w (by omega)).w (by omega)).w (by omega)
  have hB1 := f1.B hB
  have h1 : ∀ k, k < 3 → S1.2.1 (d + 1) k = S.2.1 (s + 1) k := fun k hk => by
    rw [eS1]
    have : k = 0 ∨ k = 1 ∨ k = 2 := by omega
    rcases this with rfl | rfl | rfl
    · rw [rv_sI_k _ _ (by decide), rv_sI_k _ _ (by decide), rv_sI_eq]
    · rw [rv_sI_k _ _ (by decide), rv_sI_eq]
    · rw [rv_sI_eq]
  have hb1 : ∀ a, d + 8 ≤ a → ∀ k, S1.2.1 a k = S.2.1 a k := fun a haa k => by
    rw [eS1, rv_sI_a _ _ _ (by omega), rv_sI_a _ _ _ (by omega), rv_sI_a _ _ _ (by omega)]
  -- the rows
  have L4 : ∀ S2, rvi d S S2 → ∃ S', cX1_copyFrom_88 n n S2 (d + 1) (s + 1) 0 = some S' ∧ rvi d S2 S' ∧ (∀ k, k < 4 → S'.2.1 (d + 1 + 5) k = S.2.1 (s + 1 + 5) k ∧ S'.2.1 (d + 1 + 6) k = S.2.1 (s + 1 + 6) k) ∧ (∀ a, a ≠ d + 1 + 5 → a ≠ d + 1 + 6 → ∀ k, S'.2.1 a k = S2.2.1 a k) ∧ (∀ a k, S'.2.2.1 a k = S2.2.2.1 a k) := by
    intro S2 f2
    refine lp (F := fun q (x : rvS × Int32) => cX1_copyFrom_88 n q x.1 (d + 1) (s + 1) x.2) (fun i x => x.2 = nI i ∧ (rvi d S2 x.1 ∧ (∀ a, a ≠ d + 1 + 5 → a ≠ d + 1 + 6 → ∀ k, x.1.2.1 a k = S2.2.1 a k) ∧ (∀ a k, x.1.2.2.1 a k = S2.2.2.1 a k)) ∧ ∀ k, k < i → x.1.2.1 (d + 1 + 5) k = S.2.1 (s + 1 + 5) k ∧ x.1.2.1 (d + 1 + 6) k = S.2.1 (s + 1 + 6) k) (fun o => ∃ S', o = some S' ∧ rvi d S2 S' ∧ (∀ k, k < 4 → S'.2.1 (d + 1 + 5) k = S.2.1 (s + 1 + 5) k ∧ S'.2.1 (d + 1 + 6) k = S.2.1 (s + 1 + 6) k) ∧ (∀ a, a ≠ d + 1 + 5 → a ≠ d + 1 + 6 → ∀ k, S'.2.1 a k = S2.2.1 a k) ∧ (∀ a k, S'.2.2.1 a k = S2.2.2.1 a k)) 4 (fun i x q hi hx => Or.inr ?_) (fun x q hx => ?_) (i := 0) (x := (S2, 0)) (q := n) (Nat.zero_le _) ⟨rfl, ⟨rvi.rf _ _, fun _ _ _ _ => rfl, fun _ _ => rfl⟩, fun k hk => absurd hk (Nat.not_lt_zero k)⟩ (by omega)
    · obtain ⟨S3, x2⟩ := x
      obtain ⟨rfl, ⟨f3, g3, l3⟩, r3⟩ := hx
      have f3 : rvi d S2 S3 := f3
      have f23 := f2.tr f3
      have hB3 := f23.B hB
      have hFd := FS_of hB3 hd.f
      have hFs := FS_of hB3 hs.f
      have s5 : S3.2.1 (s + 1 + 5) i = S.2.1 (s + 1 + 5) i := f23.I (by omega) i
      have s6 : ∀ v, (rv_sI S3 (d + 1 + 5) i v).2.1 (s + 1 + 6) i = S.2.1 (s + 1 + 6) i := fun v => by rw [rv_sI_a _ _ _ (by omega)]; exact f23.I (by omega) i
      refine ⟨(rv_sI (rv_sI S3 (d + 1 + 5) i (S.2.1 (s + 1 + 5) i)) (d + 1 + 6) i (S.2.1 (s + 1 + 6) i), nI (i + 1)), ?_, rfl, ⟨(f3.w (by omega)).w (by omega), fun a h5 h6 k => ?_, l3⟩, fun k hk => ?_⟩
      · show cX1_copyFrom_88 n (q + 1) S3 (d + 1) (s + 1) (nI i) = _
        rw [cX1_copyFrom_88]
        repeat (first | (conv => (lhs; arg 1; simp (disch := first | assumption | omega) only [tk_gI, tk_gL, tk_gR, tk_pI, tk_pL, rv_aI, rv_aL, rv_aR, rv_uI, rv_uL, rv_uB, rv_uZ, pu_ckI, pu_ckL, pu_lnI, pu_lnL, tk_rI, tk_rL, Option.bind_some, Option.map_some, rv_lt, tk_ix, z0, z1, z2, z3, z4, z5, z6, z7, z8, z9, z10, z11, z12, z13, z15, z16, z17, z18, z20, z21, z23, z24, z25, z31, z32, z39, z40, z41, z46, z48, z50, z57, z59, z60, z61, z62, z63, z64, z97, z98, z99, z100, z101, z102, z103, z104, z105, z106, z107, z108, z109, z110, z111, z112, z113, z114, z115, z116, z117, z118, z119, z120, z121, z122, z128, z132, z200, z240, z255, z372, z390625, z400, z420, z421, z422, z662, z900, z940, z999, z1000, z1024, z2000, z5860, z10000, z12345, z15625, z266240, z1048575, z1064960, z1103515245, z_m1, n_le, n_lt, n_eq, n_bit0, n_bit1, n_sbit0, n_shl, z_ltM, z_Mlt, z_leM, z_Mle, z_eqM, z_Meq, bI0, bI1, bI_01, bI_01t, bI_10, bI_10f, if_true, if_false, eq_self, reduceCtorEq, hFd, hFs, s5, s6, nI_add])); first | rw [Option.bind_some] | rw [bp_s] | rw [if_true] | rw [if_false] | rw [rv_lt_eq] | rw [if_pos (by omega)] | rw [if_neg (by omega)])
      · rw [rv_sI_a _ _ _ h6, rv_sI_a _ _ _ h5]; exact g3 a h5 h6 k
      · by_cases c : k = i
        · subst c
          exact ⟨by rw [rv_sI_a _ _ _ (by omega), rv_sI_eq], by rw [rv_sI_eq]⟩
        · have := r3 k (by omega)
          exact ⟨by rw [rv_sI_a _ _ _ (by omega), rv_sI_k _ _ c]; exact this.1, by rw [rv_sI_k _ _ c, rv_sI_a _ _ _ (by omega)]; exact this.2⟩
    · obtain ⟨S3, x2⟩ := x
      obtain ⟨rfl, ⟨f3, g3, l3⟩, r3⟩ := hx
      refine ⟨S3, ?_, f3, r3, g3, l3⟩
      show cX1_copyFrom_88 n (q + 1) S3 (d + 1) (s + 1) (nI 4) = _
      rw [cX1_copyFrom_88]
      simp (disch := first | assumption | omega) only [z0, z1, z2, z3, z4, z5, z6, z7, z8, z9, z10, z11, z12, z13, z15, z16, z17, z18, z20, z21, z23, z24, z25, z31, z32, z39, z40, z41, z46, z48, z50, z57, z59, z60, z61, z62, z63, z64, z97, z98, z99, z100, z101, z102, z103, z104, z105, z106, z107, z108, z109, z110, z111, z112, z113, z114, z115, z116, z117, z118, z119, z120, z121, z122, z128, z132, z200, z240, z255, z372, z390625, z400, z420, z421, z422, z662, z900, z940, z999, z1000, z1024, z2000, z5860, z10000, z12345, z15625, z266240, z1048575, z1064960, z1103515245, z_m1, n_le, n_lt, n_eq, n_bit0, n_bit1, n_sbit0, n_shl, z_ltM, z_Mlt, z_leM, z_Mle, z_eqM, z_Meq, bI0, bI1, bI_01, bI_01t, bI_10, bI_10f, if_true, if_false, eq_self, reduceCtorEq, if_pos, if_neg]
  obtain ⟨S', e', f', hh⟩ : ∃ S', cX1_copyFrom_26 n n S1 (d + 1) (s + 1) 0 = some S' ∧ rvi d S S' ∧ (∀ k, k < 3 → S'.2.1 (d + 1) k = S.2.1 (s + 1) k) ∧ (∀ k, k < 24 → S'.2.1 (d + 1 + 1) k = S.2.1 (s + 1 + 1) k ∧ S'.2.1 (d + 1 + 2) k = S.2.1 (s + 1 + 2) k ∧ S'.2.1 (d + 1 + 3) k = S.2.1 (s + 1 + 3) k ∧ S'.2.2.1 (d + 1 + 4) k = S.2.2.1 (s + 1 + 4) k) ∧ (∀ k, k < 4 → S'.2.1 (d + 1 + 5) k = S.2.1 (s + 1 + 5) k ∧ S'.2.1 (d + 1 + 6) k = S.2.1 (s + 1 + 6) k) ∧ (∀ a, d + 8 ≤ a → ∀ k, S'.2.1 a k = S.2.1 a k) := by
    refine lp (F := fun q (x : rvS × Int32) => cX1_copyFrom_26 n q x.1 (d + 1) (s + 1) x.2) (fun i x => x.2 = nI i ∧ (rvi d S x.1 ∧ (∀ k, k < 3 → x.1.2.1 (d + 1) k = S.2.1 (s + 1) k) ∧ (∀ a, d + 8 ≤ a → ∀ k, x.1.2.1 a k = S.2.1 a k)) ∧ ∀ k, k < i → x.1.2.1 (d + 1 + 1) k = S.2.1 (s + 1 + 1) k ∧ x.1.2.1 (d + 1 + 2) k = S.2.1 (s + 1 + 2) k ∧ x.1.2.1 (d + 1 + 3) k = S.2.1 (s + 1 + 3) k ∧ x.1.2.2.1 (d + 1 + 4) k = S.2.2.1 (s + 1 + 4) k) (fun o => ∃ S', o = some S' ∧ rvi d S S' ∧ (∀ k, k < 3 → S'.2.1 (d + 1) k = S.2.1 (s + 1) k) ∧ (∀ k, k < 24 → S'.2.1 (d + 1 + 1) k = S.2.1 (s + 1 + 1) k ∧ S'.2.1 (d + 1 + 2) k = S.2.1 (s + 1 + 2) k ∧ S'.2.1 (d + 1 + 3) k = S.2.1 (s + 1 + 3) k ∧ S'.2.2.1 (d + 1 + 4) k = S.2.2.1 (s + 1 + 4) k) ∧ (∀ k, k < 4 → S'.2.1 (d + 1 + 5) k = S.2.1 (s + 1 + 5) k ∧ S'.2.1 (d + 1 + 6) k = S.2.1 (s + 1 + 6) k) ∧ (∀ a, d + 8 ≤ a → ∀ k, S'.2.1 a k = S.2.1 a k)) 24 (fun i x q hi hx => Or.inr ?_) (fun x q hx => ?_) (i := 0) (x := (S1, 0)) (q := n) (Nat.zero_le _) ⟨rfl, ⟨f1, h1, hb1⟩, fun k hk => absurd hk (Nat.not_lt_zero k)⟩ (by omega)
    · obtain ⟨S3, x2⟩ := x
      obtain ⟨rfl, ⟨f3, g3, b3⟩, r3⟩ := hx
      have f3 : rvi d S S3 := f3
      have hB3 := f3.B hB
      have hFd := FS_of hB3 hd.f
      have hFs := FS_of hB3 hs.f
      have s1 : S3.2.1 (s + 1 + 1) i = S.2.1 (s + 1 + 1) i := f3.I (by omega) i
      have s2 : ∀ v, (rv_sI S3 (d + 1 + 1) i v).2.1 (s + 1 + 2) i = S.2.1 (s + 1 + 2) i := fun v => by rw [rv_sI_a _ _ _ (by omega)]; exact f3.I (by omega) i
      have s3 : ∀ v w, (rv_sI (rv_sI S3 (d + 1 + 1) i v) (d + 1 + 2) i w).2.1 (s + 1 + 3) i = S.2.1 (s + 1 + 3) i := fun v w => by rw [rv_sI_a _ _ _ (by omega), rv_sI_a _ _ _ (by omega)]; exact f3.I (by omega) i
      have s4 : ∀ v w z, (rv_sI (rv_sI (rv_sI S3 (d + 1 + 1) i v) (d + 1 + 2) i w) (d + 1 + 3) i z).2.2.1 (s + 1 + 4) i = S.2.2.1 (s + 1 + 4) i := fun v w z => f3.L (by omega) i
      refine ⟨(rv_sL (rv_sI (rv_sI (rv_sI S3 (d + 1 + 1) i (S.2.1 (s + 1 + 1) i)) (d + 1 + 2) i (S.2.1 (s + 1 + 2) i)) (d + 1 + 3) i (S.2.1 (s + 1 + 3) i)) (d + 1 + 4) i (S.2.2.1 (s + 1 + 4) i), nI (i + 1)), ?_, rfl, ⟨(((f3.w (by omega)).w (by omega)).w (by omega)).wL (by omega), fun k hk => ?_, fun a haa k => ?_⟩, fun k hk => ?_⟩
      · show cX1_copyFrom_26 n (q + 1) S3 (d + 1) (s + 1) (nI i) = _
        rw [cX1_copyFrom_26]
        repeat (first | (conv => (lhs; arg 1; simp (disch := first | assumption | omega) only [tk_gI, tk_gL, tk_gR, tk_pI, tk_pL, rv_aI, rv_aL, rv_aR, rv_uI, rv_uL, rv_uB, rv_uZ, pu_ckI, pu_ckL, pu_lnI, pu_lnL, tk_rI, tk_rL, Option.bind_some, Option.map_some, rv_lt, tk_ix, z0, z1, z2, z3, z4, z5, z6, z7, z8, z9, z10, z11, z12, z13, z15, z16, z17, z18, z20, z21, z23, z24, z25, z31, z32, z39, z40, z41, z46, z48, z50, z57, z59, z60, z61, z62, z63, z64, z97, z98, z99, z100, z101, z102, z103, z104, z105, z106, z107, z108, z109, z110, z111, z112, z113, z114, z115, z116, z117, z118, z119, z120, z121, z122, z128, z132, z200, z240, z255, z372, z390625, z400, z420, z421, z422, z662, z900, z940, z999, z1000, z1024, z2000, z5860, z10000, z12345, z15625, z266240, z1048575, z1064960, z1103515245, z_m1, n_le, n_lt, n_eq, n_bit0, n_bit1, n_sbit0, n_shl, z_ltM, z_Mlt, z_leM, z_Mle, z_eqM, z_Meq, bI0, bI1, bI_01, bI_01t, bI_10, bI_10f, if_true, if_false, eq_self, reduceCtorEq, hFd, hFs, s1, s2, s3, s4, nI_add])); first | rw [Option.bind_some] | rw [bp_s] | rw [if_true] | rw [if_false] | rw [rv_lt_eq] | rw [if_pos (by omega)] | rw [if_neg (by omega)])
      · rw [rd_LI, rv_sI_a _ _ _ (by omega), rv_sI_a _ _ _ (by omega), rv_sI_a _ _ _ (by omega)]; exact g3 k hk
      · rw [rd_LI, rv_sI_a _ _ _ (by omega), rv_sI_a _ _ _ (by omega), rv_sI_a _ _ _ (by omega)]; exact b3 a haa k
      · by_cases c : k = i
        · subst c
          refine ⟨?_, ?_, ?_, ?_⟩
          · rw [rd_LI, rv_sI_a _ _ _ (by omega), rv_sI_a _ _ _ (by omega), rv_sI_eq]
          · rw [rd_LI, rv_sI_a _ _ _ (by omega), rv_sI_eq]
          · rw [rd_LI, rv_sI_eq]
          · rw [rv_sL_eq]
        · obtain ⟨z1, z2, z3, z4⟩ := r3 k (by omega)
          refine ⟨?_, ?_, ?_, ?_⟩
          · rw [rd_LI, rv_sI_a _ _ _ (by omega), rv_sI_a _ _ _ (by omega), rv_sI_k _ _ c]; exact z1
          · rw [rd_LI, rv_sI_a _ _ _ (by omega), rv_sI_k _ _ c, rv_sI_a _ _ _ (by omega)]; exact z2
          · rw [rd_LI, rv_sI_k _ _ c, rv_sI_a _ _ _ (by omega), rv_sI_a _ _ _ (by omega)]; exact z3
          · rw [rv_sL_k _ _ c]; exact z4
    · obtain ⟨S3, x2⟩ := x
      obtain ⟨rfl, ⟨f3, g3, b3⟩, r3⟩ := hx
      obtain ⟨S4, e4, f4, r4, g4, l4⟩ := L4 S3 f3
      refine ⟨S4, ?_, f3.tr f4, fun k hk => (g4 _ (by omega) (by omega) k).trans (g3 k hk), fun k hk => ?_, r4, fun a haa k => (g4 _ (by omega) (by omega) k).trans (b3 a haa k)⟩
      · show cX1_copyFrom_26 n (q + 1) S3 (d + 1) (s + 1) (nI 24) = _
        rw [cX1_copyFrom_26, if_pos (show (24 : Int32) ≤ nI 24 from nI_le (Nat.le_refl 24) (by decide)), e4]
      · obtain ⟨z1, z2, z3, z4⟩ := r3 k hk
        exact ⟨(g4 _ (by omega) (by omega) k).trans z1, (g4 _ (by omega) (by omega) k).trans z2, (g4 _ (by omega) (by omega) k).trans z3, (l4 _ k).trans z4⟩
  refine ⟨S', ?_, f', hh⟩
  have hFd := FS_of hB hd.f
  have hFs := FS_of hB hs.f
  have s1 : ∀ v, (rv_sI S (d + 1) 0 v).2.1 (s + 1) 1 = S.2.1 (s + 1) 1 := fun v => rv_sI_a _ _ _ (by omega) _
  have s2 : ∀ v w, (rv_sI (rv_sI S (d + 1) 0 v) (d + 1) 1 w).2.1 (s + 1) 2 = S.2.1 (s + 1) 2 := fun v w => by rw [rv_sI_a _ _ _ (by omega), rv_sI_a _ _ _ (by omega)]
  rw [fnX1_copyFrom]
  repeat (first | (conv => (lhs; arg 1; simp (disch := first | assumption | omega) only [tk_gI, tk_gL, tk_gR, tk_pI, tk_pL, rv_aI, rv_aL, rv_aR, rv_uI, rv_uL, rv_uB, rv_uZ, pu_ckI, pu_ckL, pu_lnI, pu_lnL, tk_rI, tk_rL, Option.bind_some, Option.map_some, rv_lt, tk_ix, hFd, hFs, s1, s2])); first | rw [Option.bind_some] | rw [bp_s] | rw [if_true] | rw [if_false] | rw [rv_lt_eq] | rw [if_pos (by omega)] | rw [if_neg (by omega)])
  rw [← eS1, e']
end
