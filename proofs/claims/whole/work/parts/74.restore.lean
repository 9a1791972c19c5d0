/-! IMAGE and RESTORE, both sides -/
section
variable {n : Nat} {S : rvS} {m m' : Nat → Nat} {wd : Nat → List Nat}
def DP : List Nat := [64004] ++ [149, 150, 151, 152, 153, 154, 155, 156, 157, 158, 159, 160, 161, 162, 163, 164, 165, 166, 167, 168, 169, 170, 171, 172, 173, 174, 175, 176, 177, 178, 179, 180, 181, 182, 183, 184, 185, 186, 187, 188] ++ [193, 197, 198]
def DS : List Nat := [79, 80, 81, 82]
theorem rvi.pl {k : Nat} {S' : rvS} (hk : k < 2) (h : rvi (149 + 20 * k) S S') : rvf DP S S' := h.f (by
  have : k = 0 ∨ k = 1 := by omega
  rcases this with rfl | rfl <;> decide)
theorem isIn01 {k : Nat} (hk : k < 2) : fnX13_isIn n S (nI k) 0 1 = some (nI 1) := by
  simp (disch := first | assumption | omega) only [fnX13_isIn, z0, z1, z2, z3, z4, z5, z6, z7, z8, z9, z10, z11, z12, z13, z15, z16, z17, z18, z20, z21, z23, z24, z25, z31, z32, z39, z40, z41, z46, z48, z50, z57, z59, z60, z61, z62, z63, z64, z97, z98, z99, z100, z101, z102, z103, z104, z105, z106, z107, z108, z109, z110, z111, z112, z113, z114, z115, z116, z117, z118, z119, z120, z121, z122, z128, z132, z200, z240, z255, z372, z390625, z400, z420, z421, z422, z662, z900, z940, z999, z1000, z1024, z2000, z5860, z10000, z12345, z15625, z266240, z1048575, z1064960, z1103515245, z_m1, n_le, n_lt, n_eq, n_bit0, n_bit1, n_sbit0, n_shl, z_ltM, z_Mlt, z_leM, z_Mle, z_eqM, z_Meq, bI0, bI1, bI_01, bI_01t, bI_10, bI_10f, if_true, if_false, eq_self, reduceCtorEq, if_pos, if_neg, Nat.not_lt_zero]
theorem isIn01n {x : Int32} (hx : x < nI 0 ∨ nI 2 ≤ x) : fnX13_isIn n S x 0 1 = some (nI 0) := by
  rw [fnX13_isIn, z0, z1]
  by_cases c : x < nI 0
  · rw [if_pos c]
  · have h : nI 1 < x := fa_trans (nI_lt (by decide) (by decide)) (hx.resolve_left c)
    rw [if_neg c, if_pos h]
/-- that row 191 is the reference's whole row now, where it was begun -/
theorem op_image (hn : 700 ≤ n) {o : Nat} {st : List (Nat × Nat × Nat)} (hW : NW S m wd o st) (hP : PK S) (x : Int32) : ∃ r S1 S', fnX12_image n S 64 x = some (r, S1) ∧ fnX13_image n S1 189 x = some (r, S') ∧ NW S' m wd o st ∧ PK S' ∧ rvf (DP ++ [189000, 189022, 191]) S S' := by
  obtain ⟨hV, hC, hX⟩ := hW
  obtain ⟨hB, hR, hL, hk, hNC, hNM, hok⟩ := id hV
  rcases rng x (N := 2) (by omega) with ⟨k, h2, rfl⟩ | hx
  · have hv : vb 67 := Or.inl rfl
    have hvk := vb_pl h2
    obtain ⟨Sa, ea, fa, qa, ca⟩ := k_copy (n := n) (by omega) hB hvk hv (by omega) hC
    have hBa := fa.B hB
    obtain ⟨pk, p4, hp, hpl⟩ := hP
    have ga : Sa.2.1 64 4 = nI pk := (fa.I (by omega) 4).trans hp
    obtain ⟨S1, eS1⟩ : ∃ S1, S1 = rv_sI Sa 64 4 (nI (pk ||| 2 ^ k)) := ⟨_, rfl⟩
    have fa' := rvi.pl h2 fa
    have f1 : rvf DP S S1 := by rw [eS1]; exact fa'.tr ((rvf.sI Sa 64 4 _).mono rfl)
    have hB1 := f1.B hB
    obtain ⟨S2, e2, hB2, f2, hM2, r2, b2⟩ := start_ok (n := n) (by omega) hB1 (hL.f f1 rfl rfl)
    obtain ⟨S3, e3, f3, i1, i2, i3, i4, i5, i6⟩ := m_image hn hB2 h2
    have fz : rvf (DP ++ [189000, 189022, 191]) S1 S3 := (f2.mono rfl).tr (f3.mono rfl)
    have fall : rvf (DP ++ [189000, 189022, 191]) S S3 := (f1.mono rfl).tr fz
    have e1 : fnX12_image n S 64 (nI k) = some (nI 1, S1) := by
      rw [fnX12_image]
      have r643 : S.2.2.2 64 3 = some 107 := rf_of hB (by decide)
      have r107 : S.2.2.2 107 k = some (149 + 20 * k) := by
        have : k = 0 ∨ k = 1 := by omega
        rcases this with rfl | rfl
        · exact rg_107_0 hB
        · exact rg_107_1 hB
      have hCS := CS_of hB
      have hVk := VS_of hB hvk
      have n07 : rv_ln S 5 107 = some 2 := rn_107 hB
      repeat (first | (conv => (lhs; arg 1; simp (disch := first | assumption | omega) only [tk_gI, tk_gL, tk_gR, tk_pI, tk_pL, rv_aI, rv_aL, rv_aR, rv_uI, rv_uL, rv_uB, rv_uZ, pu_ckI, pu_ckL, pu_lnI, pu_lnL, tk_rI, tk_rL, Option.bind_some, Option.map_some, rv_lt, tk_ix, z0, z1, z2, z3, z4, z5, z6, z7, z8, z9, z10, z11, z12, z13, z15, z16, z17, z18, z20, z21, z23, z24, z25, z31, z32, z39, z40, z41, z46, z48, z50, z57, z59, z60, z61, z62, z63, z64, z97, z98, z99, z100, z101, z102, z103, z104, z105, z106, z107, z108, z109, z110, z111, z112, z113, z114, z115, z116, z117, z118, z119, z120, z121, z122, z128, z132, z200, z240, z255, z372, z390625, z400, z420, z421, z422, z662, z900, z940, z999, z1000, z1024, z2000, z5860, z10000, z12345, z15625, z266240, z1048575, z1064960, z1103515245, z_m1, n_le, n_lt, n_eq, n_bit0, n_bit1, n_sbit0, n_shl, z_ltM, z_Mlt, z_leM, z_Mle, z_eqM, z_Meq, bI0, bI1, bI_01, bI_01t, bI_10, bI_10f, if_true, if_false, eq_self, reduceCtorEq, if_pos, if_neg, hCS, r643, r107, hVk, n07, Nat.not_lt_zero, ea, rc_64 hBa, ga, n_shl, fa_or])); first | rw [Option.bind_some] | rw [bp_s] | rw [if_true] | rw [if_false] | rw [rv_lt_eq] | rw [if_pos (by omega)] | rw [if_neg (by omega)])
      rw [eS1, z1]
    have hM3 : MR S3 m := hM2.f f3 rfl
    have b3 : ¬ S3.2.1 189 22 = 0 := by rw [f3.at (a := 189) (k := 22) rfl]; exact b2
    have r3 : R42 S S3 := ((R42.of f1 rfl).tr r2).tr (R42.of f3 rfl)
    have g67 : ∀ a, a ∈ [67, 68, 69, 70, 71, 72, 73, 74, 75, 76, 77, 78, 79, 80, 81, 82, 84, 85, 86, 195] → rwb a = true ∧ (DP ++ [189000, 189022, 191]).elem a = false := by decide
    have hV3 : VI S3 m wd := ⟨fall.B hB, hR.f fall hv (Or.inl rfl) (Or.inr (by decide)) (Or.inr (by decide)) (Or.inr (by decide)), MRL.of hM3 b3, hk, fun w hw => by rw [fall.rowL (a := 67 + 5) rfl rfl]; exact hNC w hw, fun w hw => by rw [fall.rowL (a := 195) rfl rfl]; exact hNM w hw, hok⟩
    have hC3 : CSn S3 67 o st := hC.f (fun a haa => funext fun j => by rcases haa with rfl | rfl | rfl <;> exact fall.row rfl rfl j) (fun j => fall.rowR rfl rfl j)
    refine ⟨nI 1, S1, S3, e1, ?_, ⟨hV3, hC3, hX.c fun j hj => r3 _ (by omega)⟩, ⟨pk ||| 2 ^ k, Nat.or_lt_two_pow (n := 2) p4 (Nat.pow_lt_pow_right (by decide) h2), ?_, fun j hj => ?_⟩, fall⟩
    · rw [fnX13_image]
      repeat (first | (conv => (lhs; arg 1; simp (disch := first | assumption | omega) only [tk_gI, tk_gL, tk_gR, tk_pI, tk_pL, rv_aI, rv_aL, rv_aR, rv_uI, rv_uL, rv_uB, rv_uZ, pu_ckI, pu_ckL, pu_lnI, pu_lnL, tk_rI, tk_rL, Option.bind_some, Option.map_some, rv_lt, tk_ix, rc_189 hB1, z0, e2])); first | rw [Option.bind_some] | rw [bp_s] | rw [if_true] | rw [if_false] | rw [rv_lt_eq] | rw [if_pos (by omega)] | rw [if_neg (by omega)])
      rw [isIn01 h2]
      repeat (first | (conv => (lhs; arg 1; simp (disch := first | assumption | omega) only [z0, z1, z2, z3, z4, z5, z6, z7, z8, z9, z10, z11, z12, z13, z15, z16, z17, z18, z20, z21, z23, z24, z25, z31, z32, z39, z40, z41, z46, z48, z50, z57, z59, z60, z61, z62, z63, z64, z97, z98, z99, z100, z101, z102, z103, z104, z105, z106, z107, z108, z109, z110, z111, z112, z113, z114, z115, z116, z117, z118, z119, z120, z121, z122, z128, z132, z200, z240, z255, z372, z390625, z400, z420, z421, z422, z662, z900, z940, z999, z1000, z1024, z2000, z5860, z10000, z12345, z15625, z266240, z1048575, z1064960, z1103515245, z_m1, n_le, n_lt, n_eq, n_bit0, n_bit1, n_sbit0, n_shl, z_ltM, z_Mlt, z_leM, z_Mle, z_eqM, z_Meq, bI0, bI1, bI_01, bI_01t, bI_10, bI_10f, if_true, if_false, eq_self, reduceCtorEq])); first | rw [Option.bind_some] | rw [bp_s] | rw [if_true] | rw [if_false] | rw [rv_lt_eq] | rw [if_pos (by omega)] | rw [if_neg (by omega)])
      exact e3
    · rw [f3.at (a := 64) (k := 4) rfl, f2.at (a := 64) (k := 4) rfl, eS1, rv_sI_eq]
    · by_cases cj : j = k
      · subst cj
        refine ⟨?_, fun _ => ⟨m, wd, o, st, ?_⟩⟩
        · rw [i3, Nat.testBit_or, Nat.testBit_two_pow_self, Bool.or_true]; rfl
        · have hR1 : CR S1 (149 + 20 * j) m := by
            rw [eS1]
            exact CRe (qa.R hR hk) (fun i hi k' => rv_sI_a _ _ _ (by omega) _)
          have g12 : ∀ i, i < 20 → S3.2.1 (149 + 20 * j + i) = S1.2.1 (149 + 20 * j + i) ∧ S3.2.2.1 (149 + 20 * j + i) = S1.2.2.1 (149 + 20 * j + i) ∧ S3.2.2.2 (149 + 20 * j + i) = S1.2.2.2 (149 + 20 * j + i) := fun i hi => by
            have fz' : rvf [189000, 189022, 191, 193, 197, 198] S1 S3 := (f2.mono rfl).tr (f3.mono rfl)
            have hr := rwb_vb hvk i hi
            have hd' : [189000, 189022, 191, 193, 197, 198].elem (149 + 20 * j + i) = false := by
              have : j = 0 ∨ j = 1 := by omega
              simp
              omega
            exact ⟨funext fun k' => fz'.row hr hd' k', funext fun k' => fz'.rowL hr hd' k', funext fun k' => fz'.rowR hr hd' k'⟩
          refine ⟨CRe hR1 (fun i hi k' => by rw [(g12 i hi).1]), fun w hw => ?_, ?_, hk, hok, fun i hi => ?_, fun w hw => ?_, hX.c fun i hi => ?_⟩
          · rw [(g12 5 (by decide)).2.1, eS1]
            exact qa.N hNC hk w hw
          · have c1 : CSn S1 (149 + 20 * j) o st := ca.f (fun a haa => by rw [eS1]; exact funext fun k' => rv_sI_a _ _ _ (by omega) _) (fun k' => by rw [eS1]; rfl)
            exact c1.f (fun a haa => by rcases haa with rfl | rfl | rfl; exact (g12 12 (by decide)).1; exact (g12 14 (by decide)).1; exact (g12 15 (by decide)).1) (fun k' => by rw [(g12 13 (by decide)).2.2])
          · rw [i1 i (by omega)]; exact hM2 i hi
          · have h16 := hk.2.2.2.2.2.2.1
            rw [i2 w (by omega), f2.rowL rfl rfl, f1.rowL rfl rfl]; exact hNM w hw
          · show S3.2.1 193 (662 * j + (420 + i)) = S.2.1 191 (420 + i)
            rw [i1 _ (by omega), r2 _ (by omega), f1.row rfl rfl]
      · obtain ⟨z1, z2⟩ := hpl j hj
        have tb : (pk ||| 2 ^ k).testBit j = pk.testBit j := by
          rw [Nat.testBit_or, Nat.testBit_two_pow_of_ne (fun z => cj z.symm), Bool.or_false]
        have s198 : S3.2.1 198 j = S.2.1 198 j := by
          have q : S1.2.1 198 j = S.2.1 198 j := by
            rw [eS1, rv_sI_a _ _ _ (by decide)]; exact fa.I (by omega) j
          rw [i6 j cj, f2.row rfl rfl, q]
        refine ⟨by rw [tb, s198]; exact z1, fun ht => ?_⟩
        rw [tb] at ht
        obtain ⟨m0, wd0, o0, st0, hpl0⟩ := z2 ht
        refine ⟨m0, wd0, o0, st0, hpl0.e (fun i hi => ?_) (fun i hi => ?_) (fun w hw => ?_)⟩
        · have fz' : rvf [189000, 189022, 191, 193, 197, 198] S1 S3 := (f2.mono rfl).tr (f3.mono rfl)
          have hr := rwb_vb (vb_pl hj) i hi
          have hd' : [189000, 189022, 191, 193, 197, 198].elem (149 + 20 * j + i) = false := by
            simp
            omega
          have ap : 149 + 20 * j + i < 149 + 20 * k ∨ 149 + 20 * k + 20 ≤ 149 + 20 * j + i := by omega
          refine ⟨funext fun k' => ?_, funext fun k' => ?_, funext fun k' => ?_⟩
          · rw [fz'.row hr hd' k', eS1, rv_sI_a _ _ _ (by omega)]; exact fa.I ap k'
          · rw [fz'.rowL hr hd' k', eS1]; exact fa.L ap k'
          · rw [fz'.rowR hr hd' k', eS1]; exact fa.R ap k'
        · have : S2.2.1 193 (662 * j + i) = S.2.1 193 (662 * j + i) := by
            rw [f2.row rfl rfl, eS1, rv_sI_a _ _ _ (by decide)]; exact fa.I (by omega) _
          rw [i4 _ (by omega), this]
        · have : S2.2.2.1 197 (16 * j + w) = S.2.2.1 197 (16 * j + w) := by
            rw [f2.rowL rfl rfl, eS1]; exact fa.L (by omega) _
          rw [i5 _ (by omega), this]
  · obtain ⟨S2, e2, hB2, f2, hM2, r2, b2⟩ := start_ok (n := n) (by omega) hB hL
    have q := QS.s0 hV f2 hM2 r2 b2
    refine ⟨nI 0, S, S2, ?_, ?_, ⟨q.1, ?_, hX.c fun j hj => r2 _ (by omega)⟩, ?_, f2.mono rfl⟩
    · rw [fnX12_image, z0, z2]
      by_cases c : x < nI 0
      · rw [if_pos c]
      · rw [if_neg c, if_neg (fun z => (fa_of_lt z).2.1 (hx.resolve_left c))]
    · rw [fnX13_image]
      repeat (first | (conv => (lhs; arg 1; simp (disch := first | assumption | omega) only [tk_gI, tk_gL, tk_gR, tk_pI, tk_pL, rv_aI, rv_aL, rv_aR, rv_uI, rv_uL, rv_uB, rv_uZ, pu_ckI, pu_ckL, pu_lnI, pu_lnL, tk_rI, tk_rL, Option.bind_some, Option.map_some, rv_lt, tk_ix, rc_189 hB, z0, e2])); first | rw [Option.bind_some] | rw [bp_s] | rw [if_true] | rw [if_false] | rw [rv_lt_eq] | rw [if_pos (by omega)] | rw [if_neg (by omega)])
      rw [← z0, isIn01n hx]
      rfl
    · exact hC.f (fun a haa => funext fun j => by rcases haa with rfl | rfl | rfl <;> exact f2.row rfl rfl j) (fun j => f2.rowR rfl rfl j)
    · obtain ⟨pk, p4, hp, hpl⟩ := hP
      refine ⟨pk, p4, (f2.at (a := 64) (k := 4) rfl).trans hp, fun j hj => ?_⟩
      obtain ⟨z1, z2⟩ := hpl j hj
      refine ⟨(f2.row rfl rfl j).trans z1, fun ht => ?_⟩
      obtain ⟨m0, wd0, o0, st0, hpl0⟩ := z2 ht
      refine ⟨m0, wd0, o0, st0, hpl0.e (fun i hi => ?_) (fun i hi => f2.row rfl rfl _) (fun w hw => f2.rowL rfl rfl _)⟩
      have hr := rwb_vb (vb_pl hj) i hi
      have hd' : [189000, 189022, 191].elem (149 + 20 * j + i) = false := by
        simp
        omega
      exact ⟨funext fun k' => f2.row hr hd' k', funext fun k' => f2.rowL hr hd' k', funext fun k' => f2.rowR hr hd' k'⟩
theorem rv_pos {k : Nat} (hk : k < 2) : ¬ nI k < 0 := nI_pos (by omega)
theorem m_restore (hn : 700 ≤ n) (hB : rv_B S) {k : Nat} (hk : k < 2) : ∃ S', cX13_restore_31 n n S 189 (nI k) 0 = some (nI 1, S') ∧ rvf [191, 195] S S' ∧ (∀ j, j < 662 → S'.2.1 191 j = S.2.1 193 (662 * k + j)) ∧ (∀ w, w < 16 → S'.2.2.1 195 w = S.2.2.1 197 (16 * k + w)) := by
  have part2 : ∀ S1, rvf [191] S S1 → (∀ j, j < 662 → S1.2.1 191 j = S.2.1 193 (662 * k + j)) → ∃ S', cX13_restore_64 n n S1 189 (nI k) 0 = some (nI 1, S') ∧ rvf [191, 195] S S' ∧ (∀ j, j < 662 → S'.2.1 191 j = S.2.1 193 (662 * k + j)) ∧ (∀ w, w < 16 → S'.2.2.1 195 w = S.2.2.1 197 (16 * k + w)) := by
    intro S1 f1 a1
    refine lp (F := fun q (x : rvS × Int32) => cX13_restore_64 n q x.1 189 (nI k) x.2) (fun i x => x.2 = nI i ∧ (rvf [195] S1 x.1 ∧ ∀ w, w < i → x.1.2.2.1 195 w = S.2.2.1 197 (16 * k + w))) (fun r => ∃ S', r = some (nI 1, S') ∧ rvf [191, 195] S S' ∧ (∀ j, j < 662 → S'.2.1 191 j = S.2.1 193 (662 * k + j)) ∧ (∀ w, w < 16 → S'.2.2.1 195 w = S.2.2.1 197 (16 * k + w))) 16 (fun i x q hi hx => Or.inr ?_) (fun x q hx => ?_) (i := 0) (x := (S1, 0)) (q := n) (Nat.zero_le _) ⟨rfl, rvf.rf _ _, fun w hw => absurd hw (Nat.not_lt_zero w)⟩ (by omega)
    · obtain ⟨S2, x2⟩ := x
      obtain ⟨rfl, f2, r2⟩ := hx
      have f2 : rvf [195] S1 S2 := f2
      have hB2 := f2.B (f1.B hB)
      have s1 : S2.2.2.1 197 (16 * k + i) = S.2.2.1 197 (16 * k + i) := (f2.rowL rfl rfl _).trans (f1.rowL rfl rfl _)
      refine ⟨(rv_sL S2 195 i (S.2.2.1 197 (16 * k + i)), nI (i + 1)), ?_, rfl, f2.tr (rvf.sLr _ _ _ rfl), fun w hw => ?_⟩
      · show cX13_restore_64 n (q + 1) S2 189 (nI k) (nI i) = _
        rw [cX13_restore_64]
        repeat (first | (conv => (lhs; arg 1; simp (disch := first | assumption | omega) only [tk_gI, tk_gL, tk_gR, tk_pI, tk_pL, rv_aI, rv_aL, rv_aR, rv_uI, rv_uL, rv_uB, rv_uZ, pu_ckI, pu_ckL, pu_lnI, pu_lnL, tk_rI, tk_rL, Option.bind_some, Option.map_some, rv_lt, tk_ix, z0, z1, z2, z3, z4, z5, z6, z7, z8, z9, z10, z11, z12, z13, z15, z16, z17, z18, z20, z21, z23, z24, z25, z31, z32, z39, z40, z41, z46, z48, z50, z57, z59, z60, z61, z62, z63, z64, z97, z98, z99, z100, z101, z102, z103, z104, z105, z106, z107, z108, z109, z110, z111, z112, z113, z114, z115, z116, z117, z118, z119, z120, z121, z122, z128, z132, z200, z240, z255, z372, z390625, z400, z420, z421, z422, z662, z900, z940, z999, z1000, z1024, z2000, z5860, z10000, z12345, z15625, z266240, z1048575, z1064960, z1103515245, z_m1, n_le, n_lt, n_eq, n_bit0, n_bit1, n_sbit0, n_shl, z_ltM, z_Mlt, z_leM, z_Mle, z_eqM, z_Meq, bI0, bI1, bI_01, bI_01t, bI_10, bI_10f, if_true, if_false, eq_self, reduceCtorEq, rc_189 hB2, rf_of hB2 (show (189, 20, 197) ∈ rv_rf0 by decide), rf_of hB2 (show (189, 18, 195) ∈ rv_rf0 by decide), rn_197 hB2, rn_195 hB2, s1, nI_add, z_mul])); first | rw [Option.bind_some] | rw [bp_s] | rw [if_true] | rw [if_false] | rw [rv_lt_eq] | rw [if_pos (by omega)] | rw [if_neg (by omega)])
      · by_cases c : w = i
        · subst c; exact rv_sL_eq _ _ _ _
        · rw [rv_sL_k _ _ c]; exact r2 w (by omega)
    · obtain ⟨S2, x2⟩ := x
      obtain ⟨rfl, f2, r2⟩ := hx
      have f2 : rvf [195] S1 S2 := f2
      refine ⟨S2, ?_, (f1.mono rfl).tr (f2.mono rfl), fun j hj => ?_, r2⟩
      · show cX13_restore_64 n (q + 1) S2 189 (nI k) (nI 16) = _
        rw [cX13_restore_64, if_pos (show (16 : Int32) ≤ nI 16 from nI_le (Nat.le_refl 16) (by decide))]
        rfl
      · rw [f2.row rfl rfl]; exact a1 j hj
  refine lp (F := fun q (x : rvS × Int32) => cX13_restore_31 n q x.1 189 (nI k) x.2) (fun i x => x.2 = nI i ∧ (rvf [191] S x.1 ∧ ∀ j, j < i → x.1.2.1 191 j = S.2.1 193 (662 * k + j))) (fun r => ∃ S', r = some (nI 1, S') ∧ rvf [191, 195] S S' ∧ (∀ j, j < 662 → S'.2.1 191 j = S.2.1 193 (662 * k + j)) ∧ (∀ w, w < 16 → S'.2.2.1 195 w = S.2.2.1 197 (16 * k + w))) 662 (fun i x q hi hx => Or.inr ?_) (fun x q hx => ?_) (i := 0) (x := (S, 0)) (q := n) (Nat.zero_le _) ⟨rfl, rvf.rf _ _, fun w hw => absurd hw (Nat.not_lt_zero w)⟩ (by omega)
  · obtain ⟨S2, x2⟩ := x
    obtain ⟨rfl, f2, r2⟩ := hx
    have f2 : rvf [191] S S2 := f2
    have hB2 := f2.B hB
    have s1 : S2.2.1 193 (662 * k + i) = S.2.1 193 (662 * k + i) := f2.row rfl rfl _
    refine ⟨(rv_sI S2 191 i (S.2.1 193 (662 * k + i)), nI (i + 1)), ?_, rfl, f2.w rfl rfl, fun j hj => ?_⟩
    · show cX13_restore_31 n (q + 1) S2 189 (nI k) (nI i) = _
      rw [cX13_restore_31]
      repeat (first | (conv => (lhs; arg 1; simp (disch := first | assumption | omega) only [tk_gI, tk_gL, tk_gR, tk_pI, tk_pL, rv_aI, rv_aL, rv_aR, rv_uI, rv_uL, rv_uB, rv_uZ, pu_ckI, pu_ckL, pu_lnI, pu_lnL, tk_rI, tk_rL, Option.bind_some, Option.map_some, rv_lt, tk_ix, z0, z1, z2, z3, z4, z5, z6, z7, z8, z9, z10, z11, z12, z13, z15, z16, z17, z18, z20, z21, z23, z24, z25, z31, z32, z39, z40, z41, z46, z48, z50, z57, z59, z60, z61, z62, z63, z64, z97, z98, z99, z100, z101, z102, z103, z104, z105, z106, z107, z108, z109, z110, z111, z112, z113, z114, z115, z116, z117, z118, z119, z120, z121, z122, z128, z132, z200, z240, z255, z372, z390625, z400, z420, z421, z422, z662, z900, z940, z999, z1000, z1024, z2000, z5860, z10000, z12345, z15625, z266240, z1048575, z1064960, z1103515245, z_m1, n_le, n_lt, n_eq, n_bit0, n_bit1, n_sbit0, n_shl, z_ltM, z_Mlt, z_leM, z_Mle, z_eqM, z_Meq, bI0, bI1, bI_01, bI_01t, bI_10, bI_10f, if_true, if_false, eq_self, reduceCtorEq, rc_189 hB2, rf_of hB2 (show (189, 16, 193) ∈ rv_rf0 by decide), rf_of hB2 (show (189, 14, 191) ∈ rv_rf0 by decide), rn_193 hB2, rn_191 hB2, s1, nI_add, z_mul])); first | rw [Option.bind_some] | rw [bp_s] | rw [if_true] | rw [if_false] | rw [rv_lt_eq] | rw [if_pos (by omega)] | rw [if_neg (by omega)])
    · by_cases c : j = i
      · subst c; exact rv_sI_eq _ _ _ _
      · rw [rv_sI_k _ _ c]; exact r2 j (by omega)
  · obtain ⟨S2, x2⟩ := x
    obtain ⟨rfl, f2, r2⟩ := hx
    show ∃ S', cX13_restore_31 n (q + 1) S2 189 (nI k) (nI 662) = some (nI 1, S') ∧ _
    rw [cX13_restore_31, if_pos (show (662 : Int32) ≤ nI 662 from nI_le (Nat.le_refl 662) (by decide))]
    exact part2 S2 f2 r2
def D67 : List Nat := [67, 68, 69, 70, 71, 72, 73, 74, 75, 76, 77, 78, 79, 80, 81, 82, 83, 84, 85, 86]
theorem PK.f {S' : rvS} {D : List Nat} (h : PK S) (f : rvf D S S') (hd : DP.all (fun d => !D.elem d) = true) : PK S' := by
  have g : ∀ a, a ∈ DP → D.elem a = false := fun a ha => by
    have := List.all_eq_true.mp hd a ha
    simpa using this
  obtain ⟨pk, p4, hp, hpl⟩ := h
  refine ⟨pk, p4, (f.at (a := 64) (k := 4) (g 64004 (by decide))).trans hp, fun j hj => ?_⟩
  obtain ⟨z1, z2⟩ := hpl j hj
  refine ⟨(f.row rfl (g 198 (by decide)) j).trans z1, fun ht => ?_⟩
  obtain ⟨m0, wd0, o0, st0, hpl0⟩ := z2 ht
  refine ⟨m0, wd0, o0, st0, hpl0.e (fun i hi => ?_) (fun i hi => f.row rfl (g 193 (by decide)) _) (fun w hw => f.rowL rfl (g 197 (by decide)) _)⟩
  have hr := rwb_vb (vb_pl hj) i hi
  have hm : 149 + 20 * j + i ∈ DP := by
    have : ∀ j, j < 2 → ∀ i, i < 20 → 149 + 20 * j + i ∈ DP := by decide
    exact this j hj i hi
  exact ⟨funext fun k' => f.row hr (g _ hm) k', funext fun k' => f.rowL hr (g _ hm) k', funext fun k' => f.rowR hr (g _ hm) k'⟩
theorem op_restore (hn : 700 ≤ n) {o : Nat} {st : List (Nat × Nat × Nat)} (hW : NW S m wd o st) (hP : PK S) (x : Int32) : ∃ r S1 S' m' wd' o' st', fnX12_restore n S 64 x = some (r, S1) ∧ fnX13_restore n S1 189 x = some (r, S') ∧ NW S' m' wd' o' st' ∧ PK S' ∧ rvf (D67 ++ [189000, 189022, 191, 195]) S S' := by
  obtain ⟨hV, hC, hX⟩ := hW
  obtain ⟨hB, hR, hL, hk, hNC, hNM, hok⟩ := id hV
  have none_ : fnX12_restore n S 64 x = some (nI 0, S) → (∀ S2, fnX13_lay n (rv_sI S 189 0 (nI 0)) 189 = some S2 → rv_B S2 → rvf [189000, 189022, 191] S S2 → fnX13_restore n S 189 x = some (nI 0, S2)) → ∃ r S1 S' m' wd' o' st', fnX12_restore n S 64 x = some (r, S1) ∧ fnX13_restore n S1 189 x = some (r, S') ∧ NW S' m' wd' o' st' ∧ PK S' ∧ rvf (D67 ++ [189000, 189022, 191, 195]) S S' := by
    intro h1 h2
    obtain ⟨S2, e2, hB2, f2, hM2, r2, b2⟩ := start_ok (n := n) (by omega) hB hL
    have q := QS.s0 hV f2 hM2 r2 b2
    refine ⟨nI 0, S, S2, m, wd, o, st, h1, h2 S2 e2 hB2 f2, ⟨q.1, ?_, hX.c fun j hj => r2 _ (by omega)⟩, hP.f f2 rfl, f2.mono rfl⟩
    exact hC.f (fun a haa => funext fun j => by rcases haa with rfl | rfl | rfl <;> exact f2.row rfl rfl j) (fun j => f2.rowR rfl rfl j)
  rcases rng x (N := 2) (by omega) with ⟨k, h2, rfl⟩ | hx
  · obtain ⟨pk, p4, hp, hpl⟩ := id hP
    obtain ⟨w1, w2⟩ := hpl k h2
    have hCS := CS_of hB
    cases ht : pk.testBit k
    · rw [ht] at w1
      refine none_ ?_ (fun S2 e2 hB2 f2 => ?_)
      · rw [fnX12_restore, if_neg (rv_pos h2), if_neg (show ¬ (2 : Int32) ≤ nI k from nI_ge h2 (by decide))]
        repeat (first | (conv => (lhs; arg 1; simp (disch := first | assumption | omega) only [tk_gI, tk_gL, tk_gR, tk_pI, tk_pL, rv_aI, rv_aL, rv_aR, rv_uI, rv_uL, rv_uB, rv_uZ, pu_ckI, pu_ckL, pu_lnI, pu_lnL, tk_rI, tk_rL, Option.bind_some, Option.map_some, rv_lt, tk_ix, z0, z1, z2, z3, z4, z5, z6, z7, z8, z9, z10, z11, z12, z13, z15, z16, z17, z18, z20, z21, z23, z24, z25, z31, z32, z39, z40, z41, z46, z48, z50, z57, z59, z60, z61, z62, z63, z64, z97, z98, z99, z100, z101, z102, z103, z104, z105, z106, z107, z108, z109, z110, z111, z112, z113, z114, z115, z116, z117, z118, z119, z120, z121, z122, z128, z132, z200, z240, z255, z372, z390625, z400, z420, z421, z422, z662, z900, z940, z999, z1000, z1024, z2000, z5860, z10000, z12345, z15625, z266240, z1048575, z1064960, z1103515245, z_m1, n_le, n_lt, n_eq, n_bit0, n_bit1, n_sbit0, n_shl, z_ltM, z_Mlt, z_leM, z_Mle, z_eqM, z_Meq, bI0, bI1, bI_01, bI_01t, bI_10, bI_10f, if_true, if_false, eq_self, reduceCtorEq, hCS, hp, ht])); first | rw [Option.bind_some] | rw [bp_s] | rw [if_true] | rw [if_false] | rw [rv_lt_eq] | rw [if_pos (by omega)] | rw [if_neg (by omega)])
        all_goals rfl
      · have s : S2.2.1 198 k = bI false := (f2.row rfl rfl k).trans w1
        rw [fnX13_restore]
        repeat (first | (conv => (lhs; arg 1; simp (disch := first | assumption | omega) only [tk_gI, tk_gL, tk_gR, tk_pI, tk_pL, rv_aI, rv_aL, rv_aR, rv_uI, rv_uL, rv_uB, rv_uZ, pu_ckI, pu_ckL, pu_lnI, pu_lnL, tk_rI, tk_rL, Option.bind_some, Option.map_some, rv_lt, tk_ix, rc_189 hB, z0, e2])); first | rw [Option.bind_some] | rw [bp_s] | rw [if_true] | rw [if_false] | rw [rv_lt_eq] | rw [if_pos (by omega)] | rw [if_neg (by omega)])
        rw [isIn01 h2]
        repeat (first | (conv => (lhs; arg 1; simp (disch := first | assumption | omega) only [tk_gI, tk_gL, tk_gR, tk_pI, tk_pL, rv_aI, rv_aL, rv_aR, rv_uI, rv_uL, rv_uB, rv_uZ, pu_ckI, pu_ckL, pu_lnI, pu_lnL, tk_rI, tk_rL, Option.bind_some, Option.map_some, rv_lt, tk_ix, z0, z1, z2, z3, z4, z5, z6, z7, z8, z9, z10, z11, z12, z13, z15, z16, z17, z18, z20, z21, z23, z24, z25, z31, z32, z39, z40, z41, z46, z48, z50, z57, z59, z60, z61, z62, z63, z64, z97, z98, z99, z100, z101, z102, z103, z104, z105, z106, z107, z108, z109, z110, z111, z112, z113, z114, z115, z116, z117, z118, z119, z120, z121, z122, z128, z132, z200, z240, z255, z372, z390625, z400, z420, z421, z422, z662, z900, z940, z999, z1000, z1024, z2000, z5860, z10000, z12345, z15625, z266240, z1048575, z1064960, z1103515245, z_m1, n_le, n_lt, n_eq, n_bit0, n_bit1, n_sbit0, n_shl, z_ltM, z_Mlt, z_leM, z_Mle, z_eqM, z_Meq, bI0, bI1, bI_01, bI_01t, bI_10, bI_10f, if_true, if_false, eq_self, reduceCtorEq, rc_189 hB2, rf_of hB2 (show (189, 21, 198) ∈ rv_rf0 by decide), rn_198 hB2, s])); first | rw [Option.bind_some] | rw [bp_s] | rw [if_true] | rw [if_false] | rw [rv_lt_eq] | rw [if_pos (by omega)] | rw [if_neg (by omega)])
        all_goals rfl
    · rw [ht] at w1
      obtain ⟨m0, wd0, o0, st0, p1, p2, p3, p4', p5, p6, p7, p8⟩ := w2 ht
      have hv : vb 67 := Or.inl rfl
      have hvk := vb_pl h2
      obtain ⟨S1, e1, f1, q1, c1⟩ := k_copy (n := n) (by omega) hB hv hvk (by omega) p3
      have f1' : rvf D67 S S1 := f1.f (by decide)
      have hB1 := f1.B hB
      obtain ⟨S2, e2, hB2, f2, hM2, r2, b2⟩ := start_ok (n := n) (by omega) hB1 (hL.f f1' rfl rfl)
      obtain ⟨S3, e3, f3, i1, i2⟩ := m_restore hn hB2 h2
      have fz : rvf [189000, 189022, 191, 195] S1 S3 := (f2.mono rfl).tr (f3.mono rfl)
      have fall : rvf (D67 ++ [189000, 189022, 191, 195]) S S3 := (f1'.mono rfl).tr (fz.mono rfl)
      have hB3 := fall.B hB
      have hR3 : CR S3 67 m0 := (q1.R p1 p4').f fz hv (Or.inl rfl) (Or.inr (by decide)) (Or.inr (by decide)) (Or.inr (by decide))
      have k193 : ∀ j, S2.2.1 193 j = S.2.1 193 j := fun j => (f2.row rfl rfl j).trans (f1'.row rfl rfl j)
      have k197 : ∀ j, S2.2.2.1 197 j = S.2.2.1 197 j := fun j => (f2.rowL rfl rfl j).trans (f1'.rowL rfl rfl j)
      have hM3 : MR S3 m0 := fun j hj => by rw [i1 j (by omega), k193]; exact p6 j hj
      have b3 : ¬ S3.2.1 189 22 = 0 := by rw [f3.at (a := 189) (k := 22) rfl]; exact b2
      have h16 := p4'.2.2.2.2.2.2.1
      refine ⟨nI 1, S1, S3, m0, wd0, o0, st0, ?_, ?_, ⟨⟨hB3, hR3, MRL.of hM3 b3, p4', fun w hw => ?_, fun w hw => ?_, p5⟩, ?_, p8.c fun j hj => ?_⟩, hP.f fall rfl, fall⟩
      · have r643 : S.2.2.2 64 3 = some 107 := rf_of hB (by decide)
        have r107 : S.2.2.2 107 k = some (149 + 20 * k) := by
          have : k = 0 ∨ k = 1 := by omega
          rcases this with rfl | rfl
          · exact rg_107_0 hB
          · exact rg_107_1 hB
        have hV67 := VS_of hB hv
        have n07 : rv_ln S 5 107 = some 2 := rn_107 hB
        rw [fnX12_restore, if_neg (rv_pos h2), if_neg (show ¬ (2 : Int32) ≤ nI k from nI_ge h2 (by decide))]
        repeat (first | (conv => (lhs; arg 1; simp (disch := first | assumption | omega) only [tk_gI, tk_gL, tk_gR, tk_pI, tk_pL, rv_aI, rv_aL, rv_aR, rv_uI, rv_uL, rv_uB, rv_uZ, pu_ckI, pu_ckL, pu_lnI, pu_lnL, tk_rI, tk_rL, Option.bind_some, Option.map_some, rv_lt, tk_ix, z0, z1, z2, z3, z4, z5, z6, z7, z8, z9, z10, z11, z12, z13, z15, z16, z17, z18, z20, z21, z23, z24, z25, z31, z32, z39, z40, z41, z46, z48, z50, z57, z59, z60, z61, z62, z63, z64, z97, z98, z99, z100, z101, z102, z103, z104, z105, z106, z107, z108, z109, z110, z111, z112, z113, z114, z115, z116, z117, z118, z119, z120, z121, z122, z128, z132, z200, z240, z255, z372, z390625, z400, z420, z421, z422, z662, z900, z940, z999, z1000, z1024, z2000, z5860, z10000, z12345, z15625, z266240, z1048575, z1064960, z1103515245, z_m1, n_le, n_lt, n_eq, n_bit0, n_bit1, n_sbit0, n_shl, z_ltM, z_Mlt, z_leM, z_Mle, z_eqM, z_Meq, bI0, bI1, bI_01, bI_01t, bI_10, bI_10f, if_true, if_false, eq_self, reduceCtorEq, hCS, hp, ht, r643, r107, hV67, n07, e1])); first | rw [Option.bind_some] | rw [bp_s] | rw [if_true] | rw [if_false] | rw [rv_lt_eq] | rw [if_pos (by omega)] | rw [if_neg (by omega)])
        all_goals rfl
      · have s : S2.2.1 198 k = bI true := ((f2.row rfl rfl k).trans (f1'.row rfl rfl k)).trans w1
        rw [fnX13_restore]
        repeat (first | (conv => (lhs; arg 1; simp (disch := first | assumption | omega) only [tk_gI, tk_gL, tk_gR, tk_pI, tk_pL, rv_aI, rv_aL, rv_aR, rv_uI, rv_uL, rv_uB, rv_uZ, pu_ckI, pu_ckL, pu_lnI, pu_lnL, tk_rI, tk_rL, Option.bind_some, Option.map_some, rv_lt, tk_ix, rc_189 hB1, z0, e2])); first | rw [Option.bind_some] | rw [bp_s] | rw [if_true] | rw [if_false] | rw [rv_lt_eq] | rw [if_pos (by omega)] | rw [if_neg (by omega)])
        rw [isIn01 h2]
        repeat (first | (conv => (lhs; arg 1; simp (disch := first | assumption | omega) only [tk_gI, tk_gL, tk_gR, tk_pI, tk_pL, rv_aI, rv_aL, rv_aR, rv_uI, rv_uL, rv_uB, rv_uZ, pu_ckI, pu_ckL, pu_lnI, pu_lnL, tk_rI, tk_rL, Option.bind_some, Option.map_some, rv_lt, tk_ix, z0, z1, z2, z3, z4, z5, z6, z7, z8, z9, z10, z11, z12, z13, z15, z16, z17, z18, z20, z21, z23, z24, z25, z31, z32, z39, z40, z41, z46, z48, z50, z57, z59, z60, z61, z62, z63, z64, z97, z98, z99, z100, z101, z102, z103, z104, z105, z106, z107, z108, z109, z110, z111, z112, z113, z114, z115, z116, z117, z118, z119, z120, z121, z122, z128, z132, z200, z240, z255, z372, z390625, z400, z420, z421, z422, z662, z900, z940, z999, z1000, z1024, z2000, z5860, z10000, z12345, z15625, z266240, z1048575, z1064960, z1103515245, z_m1, n_le, n_lt, n_eq, n_bit0, n_bit1, n_sbit0, n_shl, z_ltM, z_Mlt, z_leM, z_Mle, z_eqM, z_Meq, bI0, bI1, bI_01, bI_01t, bI_10, bI_10f, if_true, if_false, eq_self, reduceCtorEq, rc_189 hB2, rf_of hB2 (show (189, 21, 198) ∈ rv_rf0 by decide), rn_198 hB2, s])); first | rw [Option.bind_some] | rw [bp_s] | rw [if_true] | rw [if_false] | rw [rv_lt_eq] | rw [if_pos (by omega)] | rw [if_neg (by omega)])
        exact e3
      · rw [fz.rowL (a := 67 + 5) rfl rfl]; exact q1.N p2 p4' w hw
      · rw [i2 w (by omega), k197]; exact p7 w hw
      · exact c1.f (fun a haa => funext fun j => by rcases haa with rfl | rfl | rfl <;> exact fz.row rfl rfl j) (fun j => fz.rowR rfl rfl j)
      · show S3.2.1 191 (420 + j) = S.2.1 193 (662 * k + (420 + j))
        rw [i1 _ (by omega), k193]
  · refine none_ ?_ (fun S2 e2 hB2 f2 => ?_)
    · rw [fnX12_restore, z0, z2]
      exact rng_if hx
    · rw [fnX13_restore]
      repeat (first | (conv => (lhs; arg 1; simp (disch := first | assumption | omega) only [tk_gI, tk_gL, tk_gR, tk_pI, tk_pL, rv_aI, rv_aL, rv_aR, rv_uI, rv_uL, rv_uB, rv_uZ, pu_ckI, pu_ckL, pu_lnI, pu_lnL, tk_rI, tk_rL, Option.bind_some, Option.map_some, rv_lt, tk_ix, rc_189 hB, z0, e2])); first | rw [Option.bind_some] | rw [bp_s] | rw [if_true] | rw [if_false] | rw [rv_lt_eq] | rw [if_pos (by omega)] | rw [if_neg (by omega)])
      rw [← z0, isIn01n hx]
      rfl
end
