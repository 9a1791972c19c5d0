/-! OPENS -/
section
variable {n : Nat} {S : rvS} {m m' : Nat → Nat} {wd : Nat → List Nat}
def cnt (m : Nat → Nat) (a b : Nat) : Nat := fb_ct (stk (jn m a b)) (vC m)
def opS (m : Nat → Nat) (st : Int32 × Nat) (a b : Nat) : Int32 × Nat := if nr m a b then st else if st.1 = iM ∨ cnt m a b < st.2 then (nI (10 * a + b), cnt m a b) else st
def opB (m : Nat → Nat) (a : Nat) (st : Int32 × Nat) : Nat → Int32 × Nat
  | 0 => st
  | i + 1 => opS m (opB m a st i) a (a + 1 + i)
def opA (m : Nat → Nat) : Nat → Int32 × Nat
  | 0 => (iM, 0)
  | a + 1 => opB m a (opA m a) (3 - a)
theorem cnt_le (hk : okm m) (a b : Nat) : cnt m a b ≤ 40 := Nat.le_trans (fb_ct_le _ _) hk.2.1.1
theorem opS_le (hk : okm m) {st : Int32 × Nat} (h : st.2 ≤ 40) (a b : Nat) : (opS m st a b).2 ≤ 40 := by
  unfold opS
  split
  · exact h
  · split
    · exact cnt_le hk a b
    · exact h
theorem opB_le (hk : okm m) {st : Int32 × Nat} (h : st.2 ≤ 40) (a : Nat) : ∀ i, (opB m a st i).2 ≤ 40
  | 0 => h
  | i + 1 => opS_le hk (opB_le hk h a i) a (a + 1 + i)
theorem opA_le (hk : okm m) : ∀ a, (opA m a).2 ≤ 40
  | 0 => Nat.zero_le 40
  | a + 1 => opB_le hk (opA_le hk a) a (3 - a)
theorem CRi {d : Nat} {S' : rvS} {v : Nat} (hR : CR S v m) (f : rvi d S S') (h : v + 19 < d ∨ d + 19 < v) : CR S' v m := by
  have g : ∀ i, i < 20 → ∀ k, S'.2.1 (v + i) k = S.2.1 (v + i) k := fun i hi k => f.I (by omega) k
  obtain ⟨⟨a1, a2, a3, a4, a5, a6, a7, a8⟩, ⟨b1, b2, b3, b4, b5⟩, c1, c2, c3, c4, c5, c6, c7⟩ := hR
  exact ⟨⟨(g 1 (by decide) _).trans a1, (g 1 (by decide) _).trans a2, (g 1 (by decide) _).trans a3, fun w h => (g 2 (by decide) w).trans (a4 w h), fun w h => (g 3 (by decide) w).trans (a5 w h), fun w h => (g 4 (by decide) w).trans (a6 w h), fun w h => (g 6 (by decide) w).trans (a7 w h), fun w h => (g 7 (by decide) w).trans (a8 w h)⟩, ⟨(g 8 (by decide) _).trans b1, (g 8 (by decide) _).trans b2, fun w h => (g 9 (by decide) w).trans (b3 w h), fun w h => (g 10 (by decide) w).trans (b4 w h), fun w h => (g 11 (by decide) w).trans (b5 w h)⟩, (g 0 (by decide) _).trans c1, (g 0 (by decide) _).trans c2, (g 0 (by decide) _).trans c3, (g 0 (by decide) _).trans c4, fun w h => (g 17 (by decide) w).trans (c5 w h), fun w h => (g 18 (by decide) w).trans (c6 w h), fun w h => (g 19 (by decide) w).trans (c7 w h)⟩
theorem rvi_of {d f : Nat} {S S' : rvS} (h : rvf [f + 5, f + 6] S S') (h1 : d ≤ f ∧ f + 6 < d + 20) (h2 : ∀ a, (a < d ∨ d + 20 ≤ a) → ∀ k, lc a k ∉ [f + 5, f + 6]) : rvi d S S' := ⟨h.1, h.2.1.1, fun a ha => ⟨funext fun k => (h.2.2 a k (h2 a ha k)).1, funext fun k => (h.2.2 a k (h2 a ha k)).2, funext fun k => h.2.1.2 a k (h2 a ha k)⟩⟩
theorem k_swr (hn : 50 ≤ n) (hB : rv_B S) (hR : CR S 67 m) (hk : okm m) {o : Nat} {st : List (Nat × Nat × Nat)} (hC : CSn S 67 o st) {a b : Nat} (ha : a < 4) (hb : b < 4) (hab : a ≠ b) : ∃ S', fnX12_stuckWithRoad n S 64 (nI a) (nI b) = some (nI (cnt m a b), S') ∧ rvi 87 S S' := by
  have hv : vb 67 := Or.inl rfl
  have hv2 : vb 87 := Or.inr (Or.inl rfl)
  obtain ⟨S1, e1, f1, q1, c1⟩ := k_copy hn hB hv2 hv (by decide) hC
  have hB1 := f1.B hB
  have hR1 := q1.R hR hk
  obtain ⟨S2, e2, f2, g2⟩ := k_join hn hB1 hv2.f hR1.1 hk.1 ha hb hab
  have f2 : rvf [87 + 1 + 5, 87 + 1 + 6] S1 S2 := f2
  have hB2 := f2.B hB1
  have f2i : rvi 87 S1 S2 := rvi_of f2 (by decide) (fun a haa k => by
    unfold lc
    split
    · rename_i z; simp; omega
    · simp; omega)
  have off : ∀ k, k < 128 ∨ 132 ≤ k → jn m a b k = m k := fun k hk => jn_off hk ha hb
  have hR2 : CR S2 87 (jn m a b) := by
    obtain ⟨-, ⟨b1, b2, b3, b4, b5⟩, z1, z2, z3, z4, z5, z6, z7⟩ := hR1
    have p0 : ∀ k, S2.2.1 (87 + 8) k = S1.2.1 (87 + 8) k := f2.row rfl rfl
    have p1 : ∀ k, S2.2.1 (87 + 8 + 1) k = S1.2.1 (87 + 8 + 1) k := f2.row rfl rfl
    have p2 : ∀ k, S2.2.1 (87 + 8 + 2) k = S1.2.1 (87 + 8 + 2) k := f2.row rfl rfl
    have p3 : ∀ k, S2.2.1 (87 + 8 + 3) k = S1.2.1 (87 + 8 + 3) k := f2.row rfl rfl
    have d0 : ∀ k, S2.2.1 87 k = S1.2.1 87 k := f2.row rfl rfl
    have d1 : ∀ k, S2.2.1 (87 + 17) k = S1.2.1 (87 + 17) k := f2.row rfl rfl
    have d2 : ∀ k, S2.2.1 (87 + 18) k = S1.2.1 (87 + 18) k := f2.row rfl rfl
    have d3 : ∀ k, S2.2.1 (87 + 19) k = S1.2.1 (87 + 19) k := f2.row rfl rfl
    have hP1 : PR S2 (87 + 8) m := ⟨(p0 _).trans b1, (p0 _).trans b2, fun c h => (p1 c).trans (b3 c h), fun c h => (p2 c).trans (b4 c h), fun c h => (p3 c).trans (b5 c h)⟩
    have hD1 : DR S2 87 m := ⟨(d0 _).trans z1, (d0 _).trans z2, (d0 _).trans z3, (d0 _).trans z4, fun c h => (d1 c).trans (z5 c h), fun c h => (d2 c).trans (z6 c h), fun c h => (d3 c).trans (z7 c h)⟩
    exact ⟨g2, hP1.c hk.2.1.1 (off 1 (by decide)) (off 3 (by decide)) (fun k h1 h2 => off k (by omega)), hD1.c2 (off 2 (by decide)) (off 4 (by decide)) (off 5 (by decide)) (fun k h => off k (by omega))⟩
  have ks := k_stuckCoins (n := n) hn hB2 hv2 hR2 (jn_okm hk ha hb hab)
  have e1' : vC (jn m a b) = vC m := off 1 (by decide)
  rw [e1'] at ks
  have h40 := hk.2.1.1
  have h64 := bs_64 (stk (jn m a b)) h40
  have hC0 := CS_of hB
  have r642 : S.2.2.2 64 2 = some 87 := rf_of hB (by decide)
  have r642a : S1.2.2.2 64 2 = some 87 := rf_of hB1 (by decide)
  have r642b : S2.2.2.2 64 2 = some 87 := rf_of hB2 (by decide)
  have hVS0 := VS_of hB hv2
  have hVS1 := VS_of hB1 hv2
  have hVS2 := VS_of hB2 hv2
  have hFS1 := FS_of hB1 hv2.f
  refine ⟨S2, ?_, f1.tr f2i⟩
  rw [fnX12_stuckWithRoad]
  repeat (first | (conv => (lhs; arg 1; simp (disch := first | assumption | omega) only [tk_gI, tk_gL, tk_gR, tk_pI, tk_pL, rv_aI, rv_aL, rv_aR, rv_uI, rv_uL, rv_uB, rv_uZ, pu_ckI, pu_ckL, pu_lnI, pu_lnL, tk_rI, tk_rL, Option.bind_some, Option.map_some, rv_lt, tk_ix, hC0, rc_64 hB1, rc_64 hB2, r642, r642a, r642b, hVS0, hVS1, hVS2, hFS1, e1, e2, ks, pc_64 n S2 (show bs (stk (jn m a b)) (vC m) < 18446744073709551616 by omega), ct_bs (stk (jn m a b)) (show vC m ≤ 64 by omega)])); first | rw [Option.bind_some] | rw [bp_s] | rw [if_true] | rw [if_false] | rw [rv_lt_eq] | rw [if_pos (by omega)] | rw [if_neg (by omega)])
  rfl
theorem k_opens (hn : 50 ≤ n) (hB : rv_B S) (hR : CR S 67 m) (hk : okm m) {o : Nat} {st : List (Nat × Nat × Nat)} (hC : CSn S 67 o st) : ∃ S', fnX12_opens n S 64 = some ((opA m 4).1, S') ∧ rvi 87 S S' := by
  have hv : vb 67 := Or.inl rfl
  have inner : ∀ (K : Nat → Int32 → Int32 → Int32 → rvS → Option (Int32 × rvS)) (a : Nat), a < 4 → ∀ S1, rvi 87 S S1 → ∃ S', cX12_opens_16 n K n S1 64 (opA m a).1 (nI (opA m a).2) (nI a) (nI (a + 1)) = K 64 (opA m (a + 1)).1 (nI (opA m (a + 1)).2) (nI (a + 1)) S' ∧ rvi 87 S S' := by
    intro K a ha S1 f1
    refine lp (F := fun q (x : rvS × Int32 × Int32 × Int32) => cX12_opens_16 n K q x.1 64 x.2.1 x.2.2.1 (nI a) x.2.2.2) (fun i x => x.2 = ((opB m a (opA m a) i).1, nI (opB m a (opA m a) i).2, nI (a + 1 + i)) ∧ rvi 87 S x.1) (fun r => ∃ S', r = K 64 (opA m (a + 1)).1 (nI (opA m (a + 1)).2) (nI (a + 1)) S' ∧ rvi 87 S S') (3 - a) (fun i x q hi hx => Or.inr ?_) (fun x q hx => ?_) (i := 0) (x := (S1, (opA m a).1, nI (opA m a).2, nI (a + 1))) (q := n) (Nat.zero_le _) ⟨rfl, f1⟩ (by omega)
    · obtain ⟨S2, x1, x2, x3⟩ := x
      obtain ⟨hx, f2⟩ := hx
      simp only [Prod.mk.injEq] at hx
      obtain ⟨rfl, rfl, rfl⟩ := hx
      have f2 : rvi 87 S S2 := f2
      have hB2 := f2.B hB
      have hR2 := CRi hR f2 (by omega)
      have hC2 : CSn S2 67 o st := hC.f (fun a haa => (f2.2.2 a (by omega)).1) (fun k => f2.R (by omega) k)
      have hCS := CS_of hB2
      have hVS := VS_of hB2 hv
      have hFS := FS_of hB2 hv.f
      have ka := k_areNear (n := n) hFS hR2.1 hk.1 ha (show a + 1 + i < 4 by omega)
      obtain ⟨S3, e3, f3⟩ := k_swr hn hB2 hR2 hk hC2 ha (show a + 1 + i < 4 by omega) (by omega)
      have le1 := opB_le hk (opA_le hk a) a i
      have le2 := cnt_le hk a (a + 1 + i)
      rw [opB, opS]
      cases cn : nr m a (a + 1 + i)
      · rw [cn] at ka
        by_cases cc : (opB m a (opA m a) i).1 = iM ∨ cnt m a (a + 1 + i) < (opB m a (opA m a) i).2
        · refine ⟨(S3, nI (10 * a + (a + 1 + i)), nI (cnt m a (a + 1 + i)), nI (a + 1 + (i + 1))), ?_, ?_, f2.tr f3⟩
          · show cX12_opens_16 n K (q + 1) S2 64 (opB m a (opA m a) i).1 (nI (opB m a (opA m a) i).2) (nI a) (nI (a + 1 + i)) = _
            rw [cX12_opens_16]
            repeat (first | (conv => (lhs; arg 1; simp (disch := first | assumption | omega) only [tk_gI, tk_gL, tk_gR, tk_pI, tk_pL, rv_aI, rv_aL, rv_aR, rv_uI, rv_uL, rv_uB, rv_uZ, pu_ckI, pu_ckL, pu_lnI, pu_lnL, tk_rI, tk_rL, Option.bind_some, Option.map_some, rv_lt, tk_ix, z0, z1, z2, z3, z4, z5, z6, z7, z8, z9, z10, z11, z12, z13, z15, z16, z17, z18, z20, z21, z23, z24, z25, z31, z32, z39, z40, z41, z46, z48, z50, z57, z59, z60, z61, z62, z63, z64, z97, z98, z99, z100, z101, z102, z103, z104, z105, z106, z107, z108, z109, z110, z111, z112, z113, z114, z115, z116, z117, z118, z119, z120, z121, z122, z128, z132, z200, z240, z255, z372, z390625, z400, z420, z421, z422, z662, z900, z940, z999, z1000, z1024, z2000, z5860, z10000, z12345, z15625, z266240, z1048575, z1064960, z1103515245, z_m1, n_le, n_lt, n_eq, n_bit0, n_bit1, n_sbit0, n_shl, z_ltM, z_Mlt, z_leM, z_Mle, z_eqM, z_Meq, bI0, bI1, bI_01, bI_01t, bI_10, bI_10f, if_true, if_false, eq_self, reduceCtorEq, hCS, hVS, hFS, ka, e3])); first | rw [Option.bind_some] | rw [bp_s] | rw [if_true] | rw [if_false] | rw [rv_lt_eq] | rw [if_pos (by omega)] | rw [if_neg (by omega)])
            by_cases c1 : (opB m a (opA m a) i).1 = iM
            · rw [if_pos (show (opB m a (opA m a) i).1 = iM from c1), cX12_opens_58]
              simp only [rv_lt, z10, z_mul, nI_add, nI_1]
              rfl
            · rw [if_neg (show ¬ (opB m a (opA m a) i).1 = iM from c1), if_neg (nI_ge (cc.resolve_left c1) (by omega)), cX12_opens_58]
              simp only [rv_lt, z10, z_mul, nI_add, nI_1]
              rfl
          · rw [if_neg (by decide), if_pos cc]
        · refine ⟨(S3, (opB m a (opA m a) i).1, nI (opB m a (opA m a) i).2, nI (a + 1 + (i + 1))), ?_, ?_, f2.tr f3⟩
          · show cX12_opens_16 n K (q + 1) S2 64 (opB m a (opA m a) i).1 (nI (opB m a (opA m a) i).2) (nI a) (nI (a + 1 + i)) = _
            rw [cX12_opens_16]
            repeat (first | (conv => (lhs; arg 1; simp (disch := first | assumption | omega) only [tk_gI, tk_gL, tk_gR, tk_pI, tk_pL, rv_aI, rv_aL, rv_aR, rv_uI, rv_uL, rv_uB, rv_uZ, pu_ckI, pu_ckL, pu_lnI, pu_lnL, tk_rI, tk_rL, Option.bind_some, Option.map_some, rv_lt, tk_ix, z0, z1, z2, z3, z4, z5, z6, z7, z8, z9, z10, z11, z12, z13, z15, z16, z17, z18, z20, z21, z23, z24, z25, z31, z32, z39, z40, z41, z46, z48, z50, z57, z59, z60, z61, z62, z63, z64, z97, z98, z99, z100, z101, z102, z103, z104, z105, z106, z107, z108, z109, z110, z111, z112, z113, z114, z115, z116, z117, z118, z119, z120, z121, z122, z128, z132, z200, z240, z255, z372, z390625, z400, z420, z421, z422, z662, z900, z940, z999, z1000, z1024, z2000, z5860, z10000, z12345, z15625, z266240, z1048575, z1064960, z1103515245, z_m1, n_le, n_lt, n_eq, n_bit0, n_bit1, n_sbit0, n_shl, z_ltM, z_Mlt, z_leM, z_Mle, z_eqM, z_Meq, bI0, bI1, bI_01, bI_01t, bI_10, bI_10f, if_true, if_false, eq_self, reduceCtorEq, hCS, hVS, hFS, ka, e3])); first | rw [Option.bind_some] | rw [bp_s] | rw [if_true] | rw [if_false] | rw [rv_lt_eq] | rw [if_pos (by omega)] | rw [if_neg (by omega)])
            rw [if_neg (show ¬ (opB m a (opA m a) i).1 = iM from fun z => cc (Or.inl z)), if_pos (nI_le (show (opB m a (opA m a) i).2 ≤ cnt m a (a + 1 + i) from Nat.le_of_not_lt (fun z => cc (Or.inr z))) (by omega))]
            simp only [rv_lt, nI_1]
            rfl
          · rw [if_neg (by decide), if_neg cc]
      · rw [cn] at ka
        refine ⟨(S2, (opB m a (opA m a) i).1, nI (opB m a (opA m a) i).2, nI (a + 1 + (i + 1))), ?_, ?_, f2⟩
        · show cX12_opens_16 n K (q + 1) S2 64 (opB m a (opA m a) i).1 (nI (opB m a (opA m a) i).2) (nI a) (nI (a + 1 + i)) = _
          rw [cX12_opens_16]
          repeat (first | (conv => (lhs; arg 1; simp (disch := first | assumption | omega) only [tk_gI, tk_gL, tk_gR, tk_pI, tk_pL, rv_aI, rv_aL, rv_aR, rv_uI, rv_uL, rv_uB, rv_uZ, pu_ckI, pu_ckL, pu_lnI, pu_lnL, tk_rI, tk_rL, Option.bind_some, Option.map_some, rv_lt, tk_ix, z0, z1, z2, z3, z4, z5, z6, z7, z8, z9, z10, z11, z12, z13, z15, z16, z17, z18, z20, z21, z23, z24, z25, z31, z32, z39, z40, z41, z46, z48, z50, z57, z59, z60, z61, z62, z63, z64, z97, z98, z99, z100, z101, z102, z103, z104, z105, z106, z107, z108, z109, z110, z111, z112, z113, z114, z115, z116, z117, z118, z119, z120, z121, z122, z128, z132, z200, z240, z255, z372, z390625, z400, z420, z421, z422, z662, z900, z940, z999, z1000, z1024, z2000, z5860, z10000, z12345, z15625, z266240, z1048575, z1064960, z1103515245, z_m1, n_le, n_lt, n_eq, n_bit0, n_bit1, n_sbit0, n_shl, z_ltM, z_Mlt, z_leM, z_Mle, z_eqM, z_Meq, bI0, bI1, bI_01, bI_01t, bI_10, bI_10f, if_true, if_false, eq_self, reduceCtorEq, hCS, hVS, hFS, ka])); first | rw [Option.bind_some] | rw [bp_s] | rw [if_true] | rw [if_false] | rw [rv_lt_eq] | rw [if_pos (by omega)] | rw [if_neg (by omega)])
          simp only [nI_1]
          rfl
        · rw [if_pos rfl]
    · obtain ⟨S2, x1, x2, x3⟩ := x
      obtain ⟨hx, f2⟩ := hx
      simp only [Prod.mk.injEq] at hx
      obtain ⟨rfl, rfl, rfl⟩ := hx
      refine ⟨S2, ?_, f2⟩
      show cX12_opens_16 n K (q + 1) S2 64 (opB m a (opA m a) (3 - a)).1 (nI (opB m a (opA m a) (3 - a)).2) (nI a) (nI (a + 1 + (3 - a))) = _
      rw [show a + 1 + (3 - a) = 4 by omega, cX12_opens_16]
      simp (disch := first | assumption | omega) only [tk_gI, tk_gL, tk_gR, tk_pI, tk_pL, rv_aI, rv_aL, rv_aR, rv_uI, rv_uL, rv_uB, rv_uZ, pu_ckI, pu_ckL, pu_lnI, pu_lnL, tk_rI, tk_rL, Option.bind_some, Option.map_some, rv_lt, tk_ix, z0, z1, z2, z3, z4, z5, z6, z7, z8, z9, z10, z11, z12, z13, z15, z16, z17, z18, z20, z21, z23, z24, z25, z31, z32, z39, z40, z41, z46, z48, z50, z57, z59, z60, z61, z62, z63, z64, z97, z98, z99, z100, z101, z102, z103, z104, z105, z106, z107, z108, z109, z110, z111, z112, z113, z114, z115, z116, z117, z118, z119, z120, z121, z122, z128, z132, z200, z240, z255, z372, z390625, z400, z420, z421, z422, z662, z900, z940, z999, z1000, z1024, z2000, z5860, z10000, z12345, z15625, z266240, z1048575, z1064960, z1103515245, z_m1, n_le, n_lt, n_eq, n_bit0, n_bit1, n_sbit0, n_shl, z_ltM, z_Mlt, z_leM, z_Mle, z_eqM, z_Meq, bI0, bI1, bI_01, bI_01t, bI_10, bI_10f, if_true, if_false, eq_self, reduceCtorEq, if_pos, if_neg, nI_add]
      rfl
  rw [fnX12_opens]
  refine lp (F := fun q (x : rvS × Int32 × Int32 × Int32) => cX12_opens_6 n q x.1 64 x.2.1 x.2.2.1 x.2.2.2) (fun i x => x.2 = ((opA m i).1, nI (opA m i).2, nI i) ∧ rvi 87 S x.1) (fun r => ∃ S', r = some ((opA m 4).1, S') ∧ rvi 87 S S') 4 (fun i x q hi hx => Or.inr ?_) (fun x q hx => ?_) (i := 0) (x := (S, -1, 0, 0)) (q := n) (Nat.zero_le _) ⟨rfl, rvi.rf _ _⟩ (by omega)
  · obtain ⟨S2, x1, x2, x3⟩ := x
    obtain ⟨hx, f2⟩ := hx
    simp only [Prod.mk.injEq] at hx
    obtain ⟨rfl, rfl, rfl⟩ := hx
    obtain ⟨S3, e3, f3⟩ := inner (fun a0 x1 x2 x3 S => cX12_opens_6 n q S a0 x1 x2 x3) i hi S2 f2
    refine ⟨(S3, (opA m (i + 1)).1, nI (opA m (i + 1)).2, nI (i + 1)), ?_, rfl, f3⟩
    show cX12_opens_6 n (q + 1) S2 64 (opA m i).1 (nI (opA m i).2) (nI i) = _
    rw [cX12_opens_6]
    simp (disch := first | assumption | omega) only [tk_gI, tk_gL, tk_gR, tk_pI, tk_pL, rv_aI, rv_aL, rv_aR, rv_uI, rv_uL, rv_uB, rv_uZ, pu_ckI, pu_ckL, pu_lnI, pu_lnL, tk_rI, tk_rL, Option.bind_some, Option.map_some, rv_lt, tk_ix, z0, z1, z2, z3, z4, z5, z6, z7, z8, z9, z10, z11, z12, z13, z15, z16, z17, z18, z20, z21, z23, z24, z25, z31, z32, z39, z40, z41, z46, z48, z50, z57, z59, z60, z61, z62, z63, z64, z97, z98, z99, z100, z101, z102, z103, z104, z105, z106, z107, z108, z109, z110, z111, z112, z113, z114, z115, z116, z117, z118, z119, z120, z121, z122, z128, z132, z200, z240, z255, z372, z390625, z400, z420, z421, z422, z662, z900, z940, z999, z1000, z1024, z2000, z5860, z10000, z12345, z15625, z266240, z1048575, z1064960, z1103515245, z_m1, n_le, n_lt, n_eq, n_bit0, n_bit1, n_sbit0, n_shl, z_ltM, z_Mlt, z_leM, z_Mle, z_eqM, z_Meq, bI0, bI1, bI_01, bI_01t, bI_10, bI_10f, if_true, if_false, eq_self, reduceCtorEq, if_pos, if_neg, nI_add, e3]
  · obtain ⟨S2, x1, x2, x3⟩ := x
    obtain ⟨hx, f2⟩ := hx
    simp only [Prod.mk.injEq] at hx
    obtain ⟨rfl, rfl, rfl⟩ := hx
    refine ⟨S2, ?_, f2⟩
    show cX12_opens_6 n (q + 1) S2 64 (opA m 4).1 (nI (opA m 4).2) (nI 4) = _
    rw [cX12_opens_6]
    simp (disch := first | assumption | omega) only [tk_gI, tk_gL, tk_gR, tk_pI, tk_pL, rv_aI, rv_aL, rv_aR, rv_uI, rv_uL, rv_uB, rv_uZ, pu_ckI, pu_ckL, pu_lnI, pu_lnL, tk_rI, tk_rL, Option.bind_some, Option.map_some, rv_lt, tk_ix, z0, z1, z2, z3, z4, z5, z6, z7, z8, z9, z10, z11, z12, z13, z15, z16, z17, z18, z20, z21, z23, z24, z25, z31, z32, z39, z40, z41, z46, z48, z50, z57, z59, z60, z61, z62, z63, z64, z97, z98, z99, z100, z101, z102, z103, z104, z105, z106, z107, z108, z109, z110, z111, z112, z113, z114, z115, z116, z117, z118, z119, z120, z121, z122, z128, z132, z200, z240, z255, z372, z390625, z400, z420, z421, z422, z662, z900, z940, z999, z1000, z1024, z2000, z5860, z10000, z12345, z15625, z266240, z1048575, z1064960, z1103515245, z_m1, n_le, n_lt, n_eq, n_bit0, n_bit1, n_sbit0, n_shl, z_ltM, z_Mlt, z_leM, z_Mle, z_eqM, z_Meq, bI0, bI1, bI_01, bI_01t, bI_10, bI_10f, if_true, if_false, eq_self, reduceCtorEq, if_pos, if_neg]
end
