/-! COPIES of valleys: the whole; OPENS, IMAGE, RESTORE -/
section
variable {n : Nat} {S : rvS} {m m' : Nat → Nat} {wd : Nat → List Nat}
/-- the cells of the valley d at S' are those of s at S -/
def EqV (S S' : rvS) (d s : Nat) : Prop := (∀ k, k < 3 → S'.2.1 (d + 1) k = S.2.1 (s + 1) k) ∧ (∀ k, k < 24 → S'.2.1 (d + 1 + 1) k = S.2.1 (s + 1 + 1) k ∧ S'.2.1 (d + 1 + 2) k = S.2.1 (s + 1 + 2) k ∧ S'.2.1 (d + 1 + 3) k = S.2.1 (s + 1 + 3) k ∧ S'.2.2.1 (d + 1 + 4) k = S.2.2.1 (s + 1 + 4) k) ∧ (∀ k, k < 4 → S'.2.1 (d + 1 + 5) k = S.2.1 (s + 1 + 5) k ∧ S'.2.1 (d + 1 + 6) k = S.2.1 (s + 1 + 6) k) ∧ (∀ k, k < 2 → S'.2.1 (d + 8) k = S.2.1 (s + 8) k) ∧ (∀ k, k < 40 → S'.2.1 (d + 8 + 1) k = S.2.1 (s + 8 + 1) k ∧ S'.2.1 (d + 8 + 2) k = S.2.1 (s + 8 + 2) k ∧ S'.2.1 (d + 8 + 3) k = S.2.1 (s + 8 + 3) k) ∧ (∀ k, 6 ≤ k → k < 10 → S'.2.1 d k = S.2.1 s k) ∧ (∀ k, k < 12 → S'.2.1 (d + 17) k = S.2.1 (s + 17) k ∧ S'.2.1 (d + 18) k = S.2.1 (s + 18) k ∧ S'.2.1 (d + 19) k = S.2.1 (s + 19) k)
theorem EqV.R {S' : rvS} {d s : Nat} (h : EqV S S' d s) (hR : CR S s m) (hk : okm m) : CR S' d m := by
  obtain ⟨q1, q2, q3, q4, q5, q6, q7⟩ := h
  obtain ⟨⟨a1, a2, a3, a4, a5, a6, a7, a8⟩, ⟨b1, b2, b3, b4, b5⟩, c1, c2, c3, c4, c5, c6, c7⟩ := hR
  have h24 := hk.1.1
  have h40 := hk.2.1.1
  have h12 := hk.2.2.1
  exact ⟨⟨(q1 0 (by decide)).trans a1, (q1 1 (by decide)).trans a2, (q1 2 (by decide)).trans a3, fun w hw => (q2 w (by omega)).1.trans (a4 w hw), fun w hw => (q2 w (by omega)).2.1.trans (a5 w hw), fun w hw => (q2 w (by omega)).2.2.1.trans (a6 w hw), fun j hj => (q3 j hj).1.trans (a7 j hj), fun j hj => (q3 j hj).2.trans (a8 j hj)⟩, ⟨(q4 0 (by decide)).trans b1, (q4 1 (by decide)).trans b2, fun c hc => (q5 c (by omega)).1.trans (b3 c hc), fun c hc => (q5 c (by omega)).2.1.trans (b4 c hc), fun c hc => (q5 c (by omega)).2.2.trans (b5 c hc)⟩, (q6 6 (by decide) (by decide)).trans c1, (q6 7 (by decide) (by decide)).trans c2, (q6 8 (by decide) (by decide)).trans c3, (q6 9 (by decide) (by decide)).trans c4, fun k hk => (q7 k (by omega)).1.trans (c5 k hk), fun k hk => (q7 k (by omega)).2.1.trans (c6 k hk), fun k hk => (q7 k (by omega)).2.2.trans (c7 k hk)⟩
theorem EqV.N {S' : rvS} {d s : Nat} (h : EqV S S' d s) (hN : NC S s m wd) (hk : okm m) : NC S' d m wd := fun w hw => by
  have h24 := hk.1.1
  exact (h.2.1 w (by omega)).2.2.2.trans (hN w hw)
theorem CSn.f {S' : rvS} {v o : Nat} {st : List (Nat × Nat × Nat)} (h : CSn S v o st) (h1 : ∀ a, (a = v + 12 ∨ a = v + 14 ∨ a = v + 15) → S'.2.1 a = S.2.1 a) (h2 : ∀ k, S'.2.2.2 (v + 13) k = S.2.2.2 (v + 13) k) : CSn S' v o st := by
  obtain ⟨c1, c2, c3, c4, c5⟩ := h
  refine ⟨by rw [h1 _ (Or.inl rfl)]; exact c1, by rw [h1 _ (Or.inl rfl)]; exact c2, fun j t hj => ?_, c4, c5⟩
  obtain ⟨z1, z2, z3⟩ := c3 j t hj
  exact ⟨by rw [h2]; exact z1, by rw [h1 _ (Or.inr (Or.inl rfl))]; exact z2, by rw [h1 _ (Or.inr (Or.inr rfl))]; exact z3⟩
theorem k_copy (hn : 50 ≤ n) (hB : rv_B S) {d s : Nat} (hd : vb d) (hs : vb s) (hne : d ≠ s) {o : Nat} {st : List (Nat × Nat × Nat)} (hC : CSn S s o st) : ∃ S', fnX9_copyFrom n S d s = some S' ∧ rvi d S S' ∧ EqV S S' d s ∧ CSn S' d o st := by
  have ha := vb_ne hd hs hne
  obtain ⟨S1, e1, f1, a1, a2, a3, a4⟩ := k_copyF hn hB hd hs hne
  have hB1 := f1.B hB
  obtain ⟨S2, e2, ⟨t1, t2⟩, b1, b2, b3⟩ := k_copyP hn hB1 hd.p hs.p (by omega)
  have f2 : rvi d S1 S2 := ⟨t1, fun q hq => by rw [t2], fun a haa => ⟨funext fun k => b3 a (by omega) k, by rw [t2], by rw [t2]⟩⟩
  have f12 := f1.tr f2
  have hB2 := f2.B hB1
  have hC2 : CSn S2 s o st := hC.f (fun a haa => (f12.2.2 a (by omega)).1) (fun k => f12.R (by omega) k)
  obtain ⟨S3, e3, f3, c3, d3⟩ := k_copyS hn hB2 hd hs hne hC2
  have f13 := f12.tr f3
  have hB3 := f3.B hB2
  have L : ∃ S', cX9_copyFrom_35 n n S3 d s 0 = some S' ∧ rvi d S3 S' ∧ (∀ k, 6 ≤ k → k < 10 → S'.2.1 d k = S.2.1 s k) ∧ (∀ k, k < 12 → S'.2.1 (d + 17) k = S.2.1 (s + 17) k ∧ S'.2.1 (d + 18) k = S.2.1 (s + 18) k ∧ S'.2.1 (d + 19) k = S.2.1 (s + 19) k) ∧ (∀ a, (a ≠ d ∧ a < d + 17) → S'.2.1 a = S3.2.1 a) ∧ S'.2.2 = S3.2.2 := by
    refine lp (F := fun q (x : rvS × Int32) => cX9_copyFrom_35 n q x.1 d s x.2) (fun i x => x.2 = nI i ∧ (rvi d S3 x.1 ∧ (∀ a, a < d + 17 → x.1.2.1 a = S3.2.1 a) ∧ x.1.2.2 = S3.2.2) ∧ ∀ k, k < i → x.1.2.1 (d + 17) k = S.2.1 (s + 17) k ∧ x.1.2.1 (d + 18) k = S.2.1 (s + 18) k ∧ x.1.2.1 (d + 19) k = S.2.1 (s + 19) k) (fun r => ∃ S', r = some S' ∧ rvi d S3 S' ∧ (∀ k, 6 ≤ k → k < 10 → S'.2.1 d k = S.2.1 s k) ∧ (∀ k, k < 12 → S'.2.1 (d + 17) k = S.2.1 (s + 17) k ∧ S'.2.1 (d + 18) k = S.2.1 (s + 18) k ∧ S'.2.1 (d + 19) k = S.2.1 (s + 19) k) ∧ (∀ a, (a ≠ d ∧ a < d + 17) → S'.2.1 a = S3.2.1 a) ∧ S'.2.2 = S3.2.2) 12 (fun i x q hi hx => Or.inr ?_) (fun x q hx => ?_) (i := 0) (x := (S3, 0)) (q := n) (Nat.zero_le _) ⟨rfl, ⟨rvi.rf _ _, fun _ _ => rfl, rfl⟩, fun k hk => absurd hk (Nat.not_lt_zero k)⟩ (by omega)
    · obtain ⟨S4, x2⟩ := x
      obtain ⟨rfl, ⟨f4, g4, l4⟩, r4⟩ := hx
      have f4 : rvi d S3 S4 := f4
      have f14 := f13.tr f4
      have hB4 := f4.B hB3
      have hVd := VS_of hB4 hd
      have hVs := VS_of hB4 hs
      have s1 : S4.2.1 (s + 17) i = S.2.1 (s + 17) i := f14.I (by omega) i
      have s2 : ∀ v, (rv_sI S4 (d + 17) i v).2.1 (s + 18) i = S.2.1 (s + 18) i := fun v => by rw [rv_sI_a _ _ _ (by omega)]; exact f14.I (by omega) i
      have s3 : ∀ v w, (rv_sI (rv_sI S4 (d + 17) i v) (d + 18) i w).2.1 (s + 19) i = S.2.1 (s + 19) i := fun v w => by rw [rv_sI_a _ _ _ (by omega), rv_sI_a _ _ _ (by omega)]; exact f14.I (by omega) i
      refine ⟨(rv_sI (rv_sI (rv_sI S4 (d + 17) i (S.2.1 (s + 17) i)) (d + 18) i (S.2.1 (s + 18) i)) (d + 19) i (S.2.1 (s + 19) i), nI (i + 1)), ?_, rfl, ⟨((f4.w (by omega)).w (by omega)).w (by omega), fun a haa => ?_, l4⟩, fun k hk => ?_⟩
      · show cX9_copyFrom_35 n (q + 1) S4 d s (nI i) = _
        rw [cX9_copyFrom_35]
        repeat (first | (conv => (lhs; arg 1; simp (disch := first | assumption | omega) only [tk_gI, tk_gL, tk_gR, tk_pI, tk_pL, rv_aI, rv_aL, rv_aR, rv_uI, rv_uL, rv_uB, rv_uZ, pu_ckI, pu_ckL, pu_lnI, pu_lnL, tk_rI, tk_rL, Option.bind_some, Option.map_some, rv_lt, tk_ix, z0, z1, z2, z3, z4, z5, z6, z7, z8, z9, z10, z11, z12, z13, z15, z16, z17, z18, z20, z21, z23, z24, z25, z31, z32, z39, z40, z41, z46, z48, z50, z57, z59, z60, z61, z62, z63, z64, z97, z98, z99, z100, z101, z102, z103, z104, z105, z106, z107, z108, z109, z110, z111, z112, z113, z114, z115, z116, z117, z118, z119, z120, z121, z122, z128, z132, z200, z240, z255, z372, z390625, z400, z420, z421, z422, z662, z900, z940, z999, z1000, z1024, z2000, z5860, z10000, z12345, z15625, z266240, z1048575, z1064960, z1103515245, z_m1, n_le, n_lt, n_eq, n_bit0, n_bit1, n_sbit0, n_shl, z_ltM, z_Mlt, z_leM, z_Mle, z_eqM, z_Meq, bI0, bI1, bI_01, bI_01t, bI_10, bI_10f, if_true, if_false, eq_self, reduceCtorEq, hVd, hVs, s1, s2, s3, nI_add])); first | rw [Option.bind_some] | rw [bp_s] | rw [if_true] | rw [if_false] | rw [rv_lt_eq] | rw [if_pos (by omega)] | rw [if_neg (by omega)])
      · refine (funext fun k => ?_)
        rw [rv_sI_a _ _ _ (by omega), rv_sI_a _ _ _ (by omega), rv_sI_a _ _ _ (by omega)]
        exact congrFun (g4 a haa) k
      · by_cases c : k = i
        · subst c
          refine ⟨?_, ?_, ?_⟩
          · rw [rv_sI_a _ _ _ (by omega), rv_sI_a _ _ _ (by omega), rv_sI_eq]
          · rw [rv_sI_a _ _ _ (by omega), rv_sI_eq]
          · rw [rv_sI_eq]
        · obtain ⟨z1, z2, z3⟩ := r4 k (by omega)
          refine ⟨?_, ?_, ?_⟩
          · rw [rv_sI_a _ _ _ (by omega), rv_sI_a _ _ _ (by omega), rv_sI_k _ _ c]; exact z1
          · rw [rv_sI_a _ _ _ (by omega), rv_sI_k _ _ c, rv_sI_a _ _ _ (by omega)]; exact z2
          · rw [rv_sI_k _ _ c, rv_sI_a _ _ _ (by omega), rv_sI_a _ _ _ (by omega)]; exact z3
    · obtain ⟨S4, x2⟩ := x
      obtain ⟨rfl, ⟨f4, g4, l4⟩, r4⟩ := hx
      have f4 : rvi d S3 S4 := f4
      have f14 := f13.tr f4
      have hB4 := f4.B hB3
      have hVd := VS_of hB4 hd
      have hVs := VS_of hB4 hs
      have s6 : S4.2.1 s 6 = S.2.1 s 6 := f14.I (by omega) 6
      have s7 : ∀ v, (rv_sI S4 d 6 v).2.1 s 7 = S.2.1 s 7 := fun v => by rw [rv_sI_a _ _ _ (by omega)]; exact f14.I (by omega) 7
      have s8 : ∀ v w, (rv_sI (rv_sI S4 d 6 v) d 7 w).2.1 s 8 = S.2.1 s 8 := fun v w => by rw [rv_sI_a _ _ _ (by omega), rv_sI_a _ _ _ (by omega)]; exact f14.I (by omega) 8
      have s9 : ∀ v w z, (rv_sI (rv_sI (rv_sI S4 d 6 v) d 7 w) d 8 z).2.1 s 9 = S.2.1 s 9 := fun v w z => by rw [rv_sI_a _ _ _ (by omega), rv_sI_a _ _ _ (by omega), rv_sI_a _ _ _ (by omega)]; exact f14.I (by omega) 9
      refine ⟨rv_sI (rv_sI (rv_sI (rv_sI S4 d 6 (S.2.1 s 6)) d 7 (S.2.1 s 7)) d 8 (S.2.1 s 8)) d 9 (S.2.1 s 9), ?_, (((f4.w (by omega)).w (by omega)).w (by omega)).w (by omega), fun k h6 h10 => ?_, fun k hk => ?_, fun a haa => ?_, l4⟩
      · show cX9_copyFrom_35 n (q + 1) S4 d s (nI 12) = _
        rw [cX9_copyFrom_35, if_pos (show (12 : Int32) ≤ nI 12 from nI_le (Nat.le_refl 12) (by decide)), cX9_copyFrom_83]
        repeat (first | (conv => (lhs; arg 1; simp (disch := first | assumption | omega) only [tk_gI, tk_gL, tk_gR, tk_pI, tk_pL, rv_aI, rv_aL, rv_aR, rv_uI, rv_uL, rv_uB, rv_uZ, pu_ckI, pu_ckL, pu_lnI, pu_lnL, tk_rI, tk_rL, Option.bind_some, Option.map_some, rv_lt, tk_ix, hVd, hVs, s6, s7, s8, s9])); first | rw [Option.bind_some] | rw [bp_s] | rw [if_true] | rw [if_false] | rw [rv_lt_eq] | rw [if_pos (by omega)] | rw [if_neg (by omega)])
      · have : k = 6 ∨ k = 7 ∨ k = 8 ∨ k = 9 := by omega
        rcases this with rfl | rfl | rfl | rfl
        · rw [rv_sI_k _ _ (by decide), rv_sI_k _ _ (by decide), rv_sI_k _ _ (by decide), rv_sI_eq]
        · rw [rv_sI_k _ _ (by decide), rv_sI_k _ _ (by decide), rv_sI_eq]
        · rw [rv_sI_k _ _ (by decide), rv_sI_eq]
        · rw [rv_sI_eq]
      · obtain ⟨z1, z2, z3⟩ := r4 k hk
        refine ⟨?_, ?_, ?_⟩ <;> rw [rv_sI_a _ _ _ (by omega), rv_sI_a _ _ _ (by omega), rv_sI_a _ _ _ (by omega), rv_sI_a _ _ _ (by omega)]
        · exact z1
        · exact z2
        · exact z3
      · refine (funext fun k => ?_)
        rw [rv_sI_a _ _ _ (by omega), rv_sI_a _ _ _ (by omega), rv_sI_a _ _ _ (by omega), rv_sI_a _ _ _ (by omega)]
        exact congrFun (g4 a haa.2) k
  obtain ⟨S', e', f', g1, g2, g3, g4⟩ := L
  have hVd := VS_of hB hd
  have hVs := VS_of hB hs
  have hVd1 := VS_of hB1 hd
  have hVs1 := VS_of hB1 hs
  have hVd2 := VS_of hB2 hd
  have hVs2 := VS_of hB2 hs
  have hFd := FS_of hB hd.f
  have hPd := PS_of hB1 hd.p
  have hSd := SS_of hB2 hd
  refine ⟨S', ?_, f13.tr f', ⟨fun k hk => ?_, fun k hk => ?_, fun k hk => ?_, fun k hk => ?_, fun k hk => ?_, g1, g2⟩, c3.f (fun a haa => g3 a (by omega)) (fun k => by rw [g4])⟩
  · rw [fnX9_copyFrom]
    repeat (first | (conv => (lhs; arg 1; simp (disch := first | assumption | omega) only [tk_gI, tk_gL, tk_gR, tk_pI, tk_pL, rv_aI, rv_aL, rv_aR, rv_uI, rv_uL, rv_uB, rv_uZ, pu_ckI, pu_ckL, pu_lnI, pu_lnL, tk_rI, tk_rL, Option.bind_some, Option.map_some, rv_lt, tk_ix, hVd, hVs, hFd, e1, hVd1, hVs1, hPd, e2, hVd2, hVs2, hSd, e3])); first | rw [Option.bind_some] | rw [bp_s] | rw [if_true] | rw [if_false] | rw [rv_lt_eq] | rw [if_pos (by omega)] | rw [if_neg (by omega)])
    exact e'
  · rw [congrFun (g3 _ (by omega)) k, congrFun (d3 (d + 1) (by omega)).1 k, b3 _ (by omega) k]; exact a1 k hk
  · obtain ⟨z1, z2, z3, z4⟩ := a2 k hk
    refine ⟨?_, ?_, ?_, ?_⟩
    · rw [congrFun (g3 _ (by omega)) k, congrFun (d3 (d + 1 + 1) (by omega)).1 k, b3 _ (by omega) k]; exact z1
    · rw [congrFun (g3 _ (by omega)) k, congrFun (d3 (d + 1 + 2) (by omega)).1 k, b3 _ (by omega) k]; exact z2
    · rw [congrFun (g3 _ (by omega)) k, congrFun (d3 (d + 1 + 3) (by omega)).1 k, b3 _ (by omega) k]; exact z3
    · rw [g4, (d3 (d + 1 + 4) (by omega)).2, t2]; exact z4
  · obtain ⟨z1, z2⟩ := a3 k hk
    refine ⟨?_, ?_⟩
    · rw [congrFun (g3 _ (by omega)) k, congrFun (d3 (d + 1 + 5) (by omega)).1 k, b3 _ (by omega) k]; exact z1
    · rw [congrFun (g3 _ (by omega)) k, congrFun (d3 (d + 1 + 6) (by omega)).1 k, b3 _ (by omega) k]; exact z2
  · rw [congrFun (g3 _ (by omega)) k, congrFun (d3 (d + 8) (by omega)).1 k, b1 k hk]; exact f1.I (by omega) k
  · obtain ⟨z1, z2, z3⟩ := b2 k hk
    refine ⟨?_, ?_, ?_⟩
    · rw [congrFun (g3 _ (by omega)) k, congrFun (d3 (d + 8 + 1) (by omega)).1 k, z1]; exact f1.I (by omega) k
    · rw [congrFun (g3 _ (by omega)) k, congrFun (d3 (d + 8 + 2) (by omega)).1 k, z2]; exact f1.I (by omega) k
    · rw [congrFun (g3 _ (by omega)) k, congrFun (d3 (d + 8 + 3) (by omega)).1 k, z3]; exact f1.I (by omega) k
end
