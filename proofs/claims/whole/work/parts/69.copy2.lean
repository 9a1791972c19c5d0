/-! COPIES of valleys: purse, sentence, the rest -/
section
variable {n : Nat} {S : rvS} {m m' : Nat → Nat} {wd : Nat → List Nat}
theorem k_copyP (hn : 50 ≤ n) (hB : rv_B S) {p s : Nat} (hp : pb p) (hs : pb s) (ha : p + 3 < s ∨ s + 3 < p) : ∃ S', fnX6_copyFrom n S p s = some S' ∧ (S'.1 = S.1 ∧ S'.2.2 = S.2.2) ∧ (∀ k, k < 2 → S'.2.1 p k = S.2.1 s k) ∧ (∀ k, k < 40 → S'.2.1 (p + 1) k = S.2.1 (s + 1) k ∧ S'.2.1 (p + 2) k = S.2.1 (s + 2) k ∧ S'.2.1 (p + 3) k = S.2.1 (s + 3) k) ∧ (∀ a, (a < p ∨ p + 4 ≤ a) → ∀ k, S'.2.1 a k = S.2.1 a k) := by
  obtain ⟨S1, eS1⟩ : ∃ S1, S1 = rv_sI (rv_sI S p 0 (S.2.1 s 0)) p 1 (S.2.1 s 1) := ⟨_, rfl⟩
  have f1 : S1.1 = S.1 ∧ S1.2.2 = S.2.2 := by rw [eS1]; exact ⟨rfl, rfl⟩
  have o1 : ∀ a, (a < p ∨ p + 4 ≤ a) → ∀ k, S1.2.1 a k = S.2.1 a k := fun a haa k => by
    rw [eS1, rv_sI_a _ _ _ (by omega), rv_sI_a _ _ _ (by omega)]
  have h1 : ∀ k, k < 2 → S1.2.1 p k = S.2.1 s k := fun k hk => by
    rw [eS1]
    have : k = 0 ∨ k = 1 := by omega
    rcases this with rfl | rfl
    · rw [rv_sI_k _ _ (by decide), rv_sI_eq]
    · rw [rv_sI_eq]
  have hBo : ∀ S3 : rvS, S3.1 = S.1 ∧ S3.2.2 = S.2.2 → rv_B S3 := fun S3 h => ⟨by rw [h.1]; exact hB.1, fun q hq => by rw [h.2]; exact hB.2 q hq⟩
  obtain ⟨S', e', hh⟩ : ∃ S', cX6_copyFrom_18 n n S1 p s 0 = some S' ∧ (S'.1 = S.1 ∧ S'.2.2 = S.2.2) ∧ (∀ k, k < 2 → S'.2.1 p k = S.2.1 s k) ∧ (∀ k, k < 40 → S'.2.1 (p + 1) k = S.2.1 (s + 1) k ∧ S'.2.1 (p + 2) k = S.2.1 (s + 2) k ∧ S'.2.1 (p + 3) k = S.2.1 (s + 3) k) ∧ (∀ a, (a < p ∨ p + 4 ≤ a) → ∀ k, S'.2.1 a k = S.2.1 a k) := by
    refine lp (F := fun q (x : rvS × Int32) => cX6_copyFrom_18 n q x.1 p s x.2) (fun i x => x.2 = nI i ∧ ((x.1.1 = S.1 ∧ x.1.2.2 = S.2.2) ∧ (∀ k, k < 2 → x.1.2.1 p k = S.2.1 s k) ∧ (∀ a, (a < p ∨ p + 4 ≤ a) → ∀ k, x.1.2.1 a k = S.2.1 a k)) ∧ ∀ k, k < i → x.1.2.1 (p + 1) k = S.2.1 (s + 1) k ∧ x.1.2.1 (p + 2) k = S.2.1 (s + 2) k ∧ x.1.2.1 (p + 3) k = S.2.1 (s + 3) k) (fun o => ∃ S', o = some S' ∧ (S'.1 = S.1 ∧ S'.2.2 = S.2.2) ∧ (∀ k, k < 2 → S'.2.1 p k = S.2.1 s k) ∧ (∀ k, k < 40 → S'.2.1 (p + 1) k = S.2.1 (s + 1) k ∧ S'.2.1 (p + 2) k = S.2.1 (s + 2) k ∧ S'.2.1 (p + 3) k = S.2.1 (s + 3) k) ∧ (∀ a, (a < p ∨ p + 4 ≤ a) → ∀ k, S'.2.1 a k = S.2.1 a k)) 40 (fun i x q hi hx => Or.inr ?_) (fun x q hx => ?_) (i := 0) (x := (S1, 0)) (q := n) (Nat.zero_le _) ⟨rfl, ⟨f1, h1, o1⟩, fun k hk => absurd hk (Nat.not_lt_zero k)⟩ (by omega)
    · obtain ⟨S3, x2⟩ := x
      obtain ⟨rfl, ⟨f3, g3, b3⟩, r3⟩ := hx
      have f3 : S3.1 = S.1 ∧ S3.2.2 = S.2.2 := f3
      have hB3 := hBo S3 f3
      have hPd := PS_of hB3 hp
      have hPs := PS_of hB3 hs
      have s1 : S3.2.1 (s + 1) i = S.2.1 (s + 1) i := b3 _ (by omega) i
      have s2 : ∀ v, (rv_sI S3 (p + 1) i v).2.1 (s + 2) i = S.2.1 (s + 2) i := fun v => by rw [rv_sI_a _ _ _ (by omega)]; exact b3 _ (by omega) i
      have s3 : ∀ v w, (rv_sI (rv_sI S3 (p + 1) i v) (p + 2) i w).2.1 (s + 3) i = S.2.1 (s + 3) i := fun v w => by rw [rv_sI_a _ _ _ (by omega), rv_sI_a _ _ _ (by omega)]; exact b3 _ (by omega) i
      refine ⟨(rv_sI (rv_sI (rv_sI S3 (p + 1) i (S.2.1 (s + 1) i)) (p + 2) i (S.2.1 (s + 2) i)) (p + 3) i (S.2.1 (s + 3) i), nI (i + 1)), ?_, rfl, ⟨f3, fun k hk => ?_, fun a haa k => ?_⟩, fun k hk => ?_⟩
      · show cX6_copyFrom_18 n (q + 1) S3 p s (nI i) = _
        rw [cX6_copyFrom_18]
        repeat (first | (conv => (lhs; arg 1; simp (disch := first | assumption | omega) only [tk_gI, tk_gL, tk_gR, tk_pI, tk_pL, rv_aI, rv_aL, rv_aR, rv_uI, rv_uL, rv_uB, rv_uZ, pu_ckI, pu_ckL, pu_lnI, pu_lnL, tk_rI, tk_rL, Option.bind_some, Option.map_some, rv_lt, tk_ix, z0, z1, z2, z3, z4, z5, z6, z7, z8, z9, z10, z11, z12, z13, z15, z16, z17, z18, z20, z21, z23, z24, z25, z31, z32, z39, z40, z41, z46, z48, z50, z57, z59, z60, z61, z62, z63, z64, z97, z98, z99, z100, z101, z102, z103, z104, z105, z106, z107, z108, z109, z110, z111, z112, z113, z114, z115, z116, z117, z118, z119, z120, z121, z122, z128, z132, z200, z240, z255, z372, z390625, z400, z420, z421, z422, z662, z900, z940, z999, z1000, z1024, z2000, z5860, z10000, z12345, z15625, z266240, z1048575, z1064960, z1103515245, z_m1, n_le, n_lt, n_eq, n_bit0, n_bit1, n_sbit0, n_shl, z_ltM, z_Mlt, z_leM, z_Mle, z_eqM, z_Meq, bI0, bI1, bI_01, bI_01t, bI_10, bI_10f, if_true, if_false, eq_self, reduceCtorEq, hPd, hPs, s1, s2, s3, nI_add])); first | rw [Option.bind_some] | rw [bp_s] | rw [if_true] | rw [if_false] | rw [rv_lt_eq] | rw [if_pos (by omega)] | rw [if_neg (by omega)])
      · rw [rv_sI_a _ _ _ (by omega), rv_sI_a _ _ _ (by omega), rv_sI_a _ _ _ (by omega)]; exact g3 k hk
      · rw [rv_sI_a _ _ _ (by omega), rv_sI_a _ _ _ (by omega), rv_sI_a _ _ _ (by omega)]; exact b3 a haa k
      · by_cases c : k = i
        · subst c
          refine ⟨?_, ?_, ?_⟩
          · rw [rv_sI_a _ _ _ (by omega), rv_sI_a _ _ _ (by omega), rv_sI_eq]
          · rw [rv_sI_a _ _ _ (by omega), rv_sI_eq]
          · rw [rv_sI_eq]
        · obtain ⟨z1, z2, z3⟩ := r3 k (by omega)
          refine ⟨?_, ?_, ?_⟩
          · rw [rv_sI_a _ _ _ (by omega), rv_sI_a _ _ _ (by omega), rv_sI_k _ _ c]; exact z1
          · rw [rv_sI_a _ _ _ (by omega), rv_sI_k _ _ c, rv_sI_a _ _ _ (by omega)]; exact z2
          · rw [rv_sI_k _ _ c, rv_sI_a _ _ _ (by omega), rv_sI_a _ _ _ (by omega)]; exact z3
    · obtain ⟨S3, x2⟩ := x
      obtain ⟨rfl, ⟨f3, g3, b3⟩, r3⟩ := hx
      refine ⟨S3, ?_, f3, g3, r3, b3⟩
      show cX6_copyFrom_18 n (q + 1) S3 p s (nI 40) = _
      rw [cX6_copyFrom_18, if_pos (show (40 : Int32) ≤ nI 40 from nI_le (Nat.le_refl 40) (by decide))]
  refine ⟨S', ?_, hh⟩
  have hPd := PS_of hB hp
  have hPs := PS_of hB hs
  have s1 : ∀ v, (rv_sI S p 0 v).2.1 s 1 = S.2.1 s 1 := fun v => rv_sI_a _ _ _ (by omega) _
  rw [fnX6_copyFrom]
  repeat (first | (conv => (lhs; arg 1; simp (disch := first | assumption | omega) only [tk_gI, tk_gL, tk_gR, tk_pI, tk_pL, rv_aI, rv_aL, rv_aR, rv_uI, rv_uL, rv_uB, rv_uZ, pu_ckI, pu_ckL, pu_lnI, pu_lnL, tk_rI, tk_rL, Option.bind_some, Option.map_some, rv_lt, tk_ix, hPd, hPs, s1])); first | rw [Option.bind_some] | rw [bp_s] | rw [if_true] | rw [if_false] | rw [rv_lt_eq] | rw [if_pos (by omega)] | rw [if_neg (by omega)])
  rw [← eS1, e']
/-! the sentence: how many ones, its steps: word, sign, what about -/
abbrev SS (S : rvS) (v : Nat) : Prop := rv_ck S 6 (v + 12) = some () ∧ S.2.2.2 (v + 12) 0 = some (v + 13) ∧ S.2.2.2 (v + 12) 1 = some (v + 14) ∧ S.2.2.2 (v + 12) 2 = some (v + 15) ∧ S.2.2.2 (v + 12) 3 = some (v + 16) ∧ rv_ln S 4 (v + 13) = some 40 ∧ rv_ln S 0 (v + 14) = some 40 ∧ rv_ln S 0 (v + 15) = some 40 ∧ rv_ln S 1 (v + 16) = some 40
theorem SS_of (hB : rv_B S) {v : Nat} (hv : vb v) : SS S v := by
  rcases hv with rfl | rfl | rfl | rfl <;> exact ⟨hB.ck rfl rfl, rf_of hB (by decide), rf_of hB (by decide), rf_of hB (by decide), rf_of hB (by decide), hB.ln rfl rfl, hB.ln rfl rfl, hB.ln rfl rfl, hB.ln rfl rfl⟩
def CSn (S : rvS) (v : Nat) (o : Nat) (st : List (Nat × Nat × Nat)) : Prop := S.2.1 (v + 12) 4 = nI st.length ∧ S.2.1 (v + 12) 5 = nI o ∧ (∀ j t, st[j]? = some t → S.2.2.2 (v + 13) j = some t.1 ∧ S.2.1 (v + 14) j = nI t.2.1 ∧ S.2.1 (v + 15) j = nI t.2.2) ∧ st.length ≤ 40 ∧ ∀ t ∈ st, t.1 < 23
theorem rf_step : ∀ v, (v = 67 ∨ v = 87 ∨ v = 149 ∨ v = 169) → ∀ q ∈ rv_rf0, q.1 ≠ v + 13 := by
  intro v hv
  rcases hv with rfl | rfl | rfl | rfl <;> decide +kernel
theorem tk_rR (S : rvS) (a k : Nat) (v : Option Nat) (b j : Nat) : (rv_sR S a k v).2.2.2 b j = if b = a ∧ j = k then v else S.2.2.2 b j := rfl
theorem tk_IR (S : rvS) (a k : Nat) (v : Option Nat) : (rv_sR S a k v).2.1 = S.2.1 := rfl
theorem tk_LR (S : rvS) (a k : Nat) (v : Option Nat) : (rv_sR S a k v).2.2.1 = S.2.2.1 := rfl
theorem k_copyS (hn : 50 ≤ n) (hB : rv_B S) {d s : Nat} (hd : vb d) (hs : vb s) (hne : d ≠ s) {o : Nat} {st : List (Nat × Nat × Nat)} (hC : CSn S s o st) : ∃ S', fnX7_copyFrom n S (d + 12) (s + 12) = some S' ∧ rvi d S S' ∧ CSn S' d o st ∧ (∀ a, (a < d + 12 ∨ d + 17 ≤ a) → S'.2.1 a = S.2.1 a ∧ S'.2.2.1 a = S.2.2.1 a) := by
  have ha := vb_ne hd hs hne
  obtain ⟨c1, c2, c3, c4, c5⟩ := hC
  have hrf := rf_step d hd
  refine lp (F := fun q (x : rvS × Int32) => cX7_copyFrom_2 n q x.1 (d + 12) (s + 12) x.2) (fun i x => x.2 = nI i ∧ (rvi d S x.1 ∧ (∀ a, (a < d + 12 ∨ d + 17 ≤ a) → x.1.2.1 a = S.2.1 a ∧ x.1.2.2.1 a = S.2.2.1 a)) ∧ ∀ j t, j < i → st[j]? = some t → x.1.2.2.2 (d + 13) j = some t.1 ∧ x.1.2.1 (d + 14) j = nI t.2.1 ∧ x.1.2.1 (d + 15) j = nI t.2.2) (fun r => ∃ S', r = some S' ∧ rvi d S S' ∧ CSn S' d o st ∧ (∀ a, (a < d + 12 ∨ d + 17 ≤ a) → S'.2.1 a = S.2.1 a ∧ S'.2.2.1 a = S.2.2.1 a)) st.length (fun i x q hi hx => Or.inr ?_) (fun x q hx => ?_) (i := 0) (x := (S, 0)) (q := n) (Nat.zero_le _) ⟨rfl, ⟨rvi.rf _ _, fun _ _ => ⟨rfl, rfl⟩⟩, fun j t hj => absurd hj (Nat.not_lt_zero j)⟩ (by omega)
  · obtain ⟨S3, x2⟩ := x
    obtain ⟨rfl, ⟨f3, g3⟩, r3⟩ := hx
    have f3 : rvi d S S3 := f3
    have hB3 := f3.B hB
    have hSd := SS_of hB3 hd
    have hSs := SS_of hB3 hs
    have et := List.getElem?_eq_getElem hi
    obtain ⟨w1, w2, w3⟩ := c3 i _ et
    have w23 := c5 _ (List.getElem_mem hi)
    generalize st[i] = t at *
    have s4 : S3.2.1 (s + 12) 4 = nI st.length := (f3.I (by omega) 4).trans c1
    have s1 : S3.2.2.2 (s + 13) i = some t.1 := (f3.R (by omega) i).trans w1
    have s2 : S3.2.1 (s + 14) i = nI t.2.1 := (f3.I (by omega) i).trans w2
    have s3 : ∀ v, (rv_sI (rv_sR S3 (d + 13) i (some t.1)) (d + 14) i v).2.1 (s + 15) i = nI t.2.2 := fun v => by
      rw [rv_sI_a _ _ _ (by omega), tk_IR]
      exact (f3.I (by omega) i).trans w3
    have n1 : ¬ (s + 12 = d + 13 ∧ (1 : Nat) = i) := fun z => by omega
    have r0 : ∀ b j, (b ≠ d + 13) → (rv_sR S3 (d + 13) i (some t.1)).2.2.2 b j = S3.2.2.2 b j := fun b j hb => if_neg (fun z => hb z.1)
    have ck : ∀ c a, rv_ck (rv_sR S3 (d + 13) i (some t.1)) c a = rv_ck S3 c a := fun _ _ => rfl
    have ln : ∀ c a, rv_ln (rv_sR S3 (d + 13) i (some t.1)) c a = rv_ln S3 c a := fun _ _ => rfl
    refine ⟨(rv_sI (rv_sI (rv_sR S3 (d + 13) i (some t.1)) (d + 14) i (nI t.2.1)) (d + 15) i (nI t.2.2), nI (i + 1)), ?_, rfl, ⟨((f3.wR (by omega) hrf).w (by omega)).w (by omega), fun a haa => ?_⟩, fun j u hj hu => ?_⟩
    · show cX7_copyFrom_2 n (q + 1) S3 (d + 12) (s + 12) (nI i) = _
      rw [cX7_copyFrom_2]
      have u1 : rv_uW S3 (d + 13) (nI i) t.1 = some (rv_sR S3 (d + 13) i (some t.1)) := by
        unfold rv_uW
        rw [hSd.2.2.2.2.2.1, Option.bind_some, tk_ix (by omega) (by decide), Option.bind_some, if_pos w23]
      repeat (first | (conv => (lhs; arg 1; simp (disch := first | assumption | omega) only [tk_gI, tk_gL, tk_gR, tk_pI, tk_pL, rv_aI, rv_aL, rv_aR, rv_uI, rv_uL, rv_uB, rv_uZ, pu_ckI, pu_ckL, pu_lnI, pu_lnL, tk_rI, tk_rL, Option.bind_some, Option.map_some, rv_lt, tk_ix, z0, z1, z2, z3, z4, z5, z6, z7, z8, z9, z10, z11, z12, z13, z15, z16, z17, z18, z20, z21, z23, z24, z25, z31, z32, z39, z40, z41, z46, z48, z50, z57, z59, z60, z61, z62, z63, z64, z97, z98, z99, z100, z101, z102, z103, z104, z105, z106, z107, z108, z109, z110, z111, z112, z113, z114, z115, z116, z117, z118, z119, z120, z121, z122, z128, z132, z200, z240, z255, z372, z390625, z400, z420, z421, z422, z662, z900, z940, z999, z1000, z1024, z2000, z5860, z10000, z12345, z15625, z266240, z1048575, z1064960, z1103515245, z_m1, n_le, n_lt, n_eq, n_bit0, n_bit1, n_sbit0, n_shl, z_ltM, z_Mlt, z_leM, z_Mle, z_eqM, z_Meq, bI0, bI1, bI_01, bI_01t, bI_10, bI_10f, if_true, if_false, eq_self, reduceCtorEq, hSd, hSs, s4, s1, u1])); first | rw [Option.bind_some] | rw [bp_s] | rw [if_true] | rw [if_false] | rw [rv_lt_eq] | rw [if_pos (by omega)] | rw [if_neg (by omega)])
      repeat (first | (conv => (lhs; arg 1; simp (disch := first | assumption | omega) only [tk_gI, tk_gL, tk_gR, tk_pI, tk_pL, rv_aI, rv_aL, rv_aR, rv_uI, rv_uL, rv_uB, rv_uZ, pu_ckI, pu_ckL, pu_lnI, pu_lnL, tk_rI, tk_rL, Option.bind_some, Option.map_some, rv_lt, tk_ix, z0, z1, z2, z3, z4, z5, z6, z7, z8, z9, z10, z11, z12, z13, z15, z16, z17, z18, z20, z21, z23, z24, z25, z31, z32, z39, z40, z41, z46, z48, z50, z57, z59, z60, z61, z62, z63, z64, z97, z98, z99, z100, z101, z102, z103, z104, z105, z106, z107, z108, z109, z110, z111, z112, z113, z114, z115, z116, z117, z118, z119, z120, z121, z122, z128, z132, z200, z240, z255, z372, z390625, z400, z420, z421, z422, z662, z900, z940, z999, z1000, z1024, z2000, z5860, z10000, z12345, z15625, z266240, z1048575, z1064960, z1103515245, z_m1, n_le, n_lt, n_eq, n_bit0, n_bit1, n_sbit0, n_shl, z_ltM, z_Mlt, z_leM, z_Mle, z_eqM, z_Meq, bI0, bI1, bI_01, bI_01t, bI_10, bI_10f, if_true, if_false, eq_self, reduceCtorEq, hSd, hSs, ck, ln, r0 (d + 12) 1 (by omega), r0 (d + 12) 2 (by omega), r0 (s + 12) 1 (by omega), r0 (s + 12) 2 (by omega), tk_IR, s2, s3, nI_add])); first | rw [Option.bind_some] | rw [bp_s] | rw [if_true] | rw [if_false] | rw [rv_lt_eq] | rw [if_pos (by omega)] | rw [if_neg (by omega)])
    · rw [show (rv_sI (rv_sI (rv_sR S3 (d + 13) i (some t.1)) (d + 14) i (nI t.2.1)) (d + 15) i (nI t.2.2)).2.2.1 = S3.2.2.1 from rfl]
      refine ⟨funext fun k => ?_, (g3 a haa).2⟩
      rw [rv_sI_a _ _ _ (by omega), rv_sI_a _ _ _ (by omega), tk_IR]
      exact congrFun (g3 a haa).1 k
    · by_cases c : j = i
      · subst c
        have := et.symm.trans hu
        cases this
        refine ⟨?_, ?_, ?_⟩
        · show (if d + 13 = d + 13 ∧ j = j then some t.1 else S3.2.2.2 (d + 13) j) = _
          rw [if_pos ⟨rfl, rfl⟩]
        · rw [rv_sI_a _ _ _ (by omega), rv_sI_eq]
        · rw [rv_sI_eq]
      · obtain ⟨z1, z2, z3⟩ := r3 j u (by omega) hu
        refine ⟨?_, ?_, ?_⟩
        · show (if d + 13 = d + 13 ∧ j = i then some t.1 else S3.2.2.2 (d + 13) j) = _
          rw [if_neg (fun z => c z.2)]; exact z1
        · rw [rv_sI_a _ _ _ (by omega), rv_sI_k _ _ c, tk_IR]; exact z2
        · rw [rv_sI_k _ _ c, rv_sI_a _ _ _ (by omega), tk_IR]; exact z3
  · obtain ⟨S3, x2⟩ := x
    obtain ⟨rfl, ⟨f3, g3⟩, r3⟩ := hx
    have f3 : rvi d S S3 := f3
    have hB3 := f3.B hB
    have hSd := SS_of hB3 hd
    have hSs := SS_of hB3 hs
    have s4 : S3.2.1 (s + 12) 4 = nI st.length := (f3.I (by omega) 4).trans c1
    have s5 : ∀ v, (rv_sI S3 (d + 12) 4 v).2.1 (s + 12) 5 = nI o := fun v => by rw [rv_sI_a _ _ _ (by omega)]; exact (f3.I (by omega) 5).trans c2
    refine ⟨rv_sI (rv_sI S3 (d + 12) 4 (nI st.length)) (d + 12) 5 (nI o), ?_, (f3.w (by omega)).w (by omega), ⟨?_, ?_, fun j t hj => ?_, c4, c5⟩, fun a haa => ?_⟩
    · show cX7_copyFrom_2 n (q + 1) S3 (d + 12) (s + 12) (nI st.length) = _
      rw [cX7_copyFrom_2]
      repeat (first | (conv => (lhs; arg 1; simp (disch := first | assumption | omega) only [tk_gI, tk_gL, tk_gR, tk_pI, tk_pL, rv_aI, rv_aL, rv_aR, rv_uI, rv_uL, rv_uB, rv_uZ, pu_ckI, pu_ckL, pu_lnI, pu_lnL, tk_rI, tk_rL, Option.bind_some, Option.map_some, rv_lt, tk_ix, z0, z1, z2, z3, z4, z5, z6, z7, z8, z9, z10, z11, z12, z13, z15, z16, z17, z18, z20, z21, z23, z24, z25, z31, z32, z39, z40, z41, z46, z48, z50, z57, z59, z60, z61, z62, z63, z64, z97, z98, z99, z100, z101, z102, z103, z104, z105, z106, z107, z108, z109, z110, z111, z112, z113, z114, z115, z116, z117, z118, z119, z120, z121, z122, z128, z132, z200, z240, z255, z372, z390625, z400, z420, z421, z422, z662, z900, z940, z999, z1000, z1024, z2000, z5860, z10000, z12345, z15625, z266240, z1048575, z1064960, z1103515245, z_m1, n_le, n_lt, n_eq, n_bit0, n_bit1, n_sbit0, n_shl, z_ltM, z_Mlt, z_leM, z_Mle, z_eqM, z_Meq, bI0, bI1, bI_01, bI_01t, bI_10, bI_10f, if_true, if_false, eq_self, reduceCtorEq, hSd, hSs, s4])); first | rw [Option.bind_some] | rw [bp_s] | rw [if_true] | rw [if_false] | rw [rv_lt_eq] | rw [if_pos (by omega)] | rw [if_neg (by omega)])
      rw [cX7_copyFrom_58]
      repeat (first | (conv => (lhs; arg 1; simp (disch := first | assumption | omega) only [tk_gI, tk_gL, tk_gR, tk_pI, tk_pL, rv_aI, rv_aL, rv_aR, rv_uI, rv_uL, rv_uB, rv_uZ, pu_ckI, pu_ckL, pu_lnI, pu_lnL, tk_rI, tk_rL, Option.bind_some, Option.map_some, rv_lt, tk_ix, z0, z1, z2, z3, z4, z5, z6, z7, z8, z9, z10, z11, z12, z13, z15, z16, z17, z18, z20, z21, z23, z24, z25, z31, z32, z39, z40, z41, z46, z48, z50, z57, z59, z60, z61, z62, z63, z64, z97, z98, z99, z100, z101, z102, z103, z104, z105, z106, z107, z108, z109, z110, z111, z112, z113, z114, z115, z116, z117, z118, z119, z120, z121, z122, z128, z132, z200, z240, z255, z372, z390625, z400, z420, z421, z422, z662, z900, z940, z999, z1000, z1024, z2000, z5860, z10000, z12345, z15625, z266240, z1048575, z1064960, z1103515245, z_m1, n_le, n_lt, n_eq, n_bit0, n_bit1, n_sbit0, n_shl, z_ltM, z_Mlt, z_leM, z_Mle, z_eqM, z_Meq, bI0, bI1, bI_01, bI_01t, bI_10, bI_10f, if_true, if_false, eq_self, reduceCtorEq, hSd, hSs, s4, s5])); first | rw [Option.bind_some] | rw [bp_s] | rw [if_true] | rw [if_false] | rw [rv_lt_eq] | rw [if_pos (by omega)] | rw [if_neg (by omega)])
    · rw [rv_sI_k _ _ (by decide), rv_sI_eq]
    · rw [rv_sI_eq]
    · obtain ⟨z1, z2, z3⟩ := r3 j t (List.getElem?_eq_some_iff.mp hj).1 hj
      exact ⟨z1, by rw [rv_sI_a _ _ _ (by omega), rv_sI_a _ _ _ (by omega)]; exact z2, by rw [rv_sI_a _ _ _ (by omega), rv_sI_a _ _ _ (by omega)]; exact z3⟩
    · refine ⟨funext fun k => ?_, (g3 a haa).2⟩
      rw [rv_sI_a _ _ _ (by omega), rv_sI_a _ _ _ (by omega)]
      exact congrFun (g3 a haa).1 k
end
