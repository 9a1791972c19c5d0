/-! TRADE: both sides together -/
section
variable {n : Nat} {S : rvS} {m m' : Nat → Nat} {wd : Nat → List Nat}
theorem op_trade (hn : 500 ≤ n) (hV : VI S m wd) {o : Nat} {st : List (Nat × Nat × Nat)} (hS : CSn S 67 o st) (x y z : Int32) : ∃ r S1 S', fnX12_trade n S 64 x y z = some (r, S1) ∧ fnX13_trade n S1 189 x y z = some (r, S') ∧ QS S S' m wd ∧ CSn S' 67 o st := by
  obtain ⟨hB, hR, hL, hk, hNC, hNM, hok⟩ := id hV
  obtain ⟨hp, hc, hd⟩ := id hk
  have h24 := hp.1
  have h40 := hc.1
  have hC := CS_of hB
  have hv : vb 67 := Or.inl rfl
  have hv8 : vb 87 := Or.inr (Or.inl rfl)
  have hVS := VS_of hB hv
  have hFS := FS_of hB hv.f
  have hPS := PS_of hB hv.p
  have hF := hR.1
  have hP := hR.2.1
  have bad : fnX12_trade n S 64 x y z = some (iM, S) → (∀ S6, fnX13_lay n (rv_sI S 189 0 (nI 0)) 189 = some S6 → rv_B S6 → MR S6 m → fnX13_trade n S 189 x y z = some (iM, S6)) → ∃ r S1 S', fnX12_trade n S 64 x y z = some (r, S1) ∧ fnX13_trade n S1 189 x y z = some (r, S') ∧ QS S S' m wd ∧ CSn S' 67 o st := fun h1 h2 => by
    obtain ⟨S6, e6, hB6, f6, hM6, r6, b6⟩ := start_ok (n := n) (by omega) hB hL
    have q := QS.s0 hV f6 hM6 r6 b6
    refine ⟨_, S, S6, h1, h2 S6 e6 hB6 hM6, q, ?_⟩
    exact hS.f (fun a haa => funext fun k => f6.row (by rcases haa with rfl | rfl | rfl <;> rfl) (by rcases haa with rfl | rfl | rfl <;> rfl) k) (fun k => f6.rowR rfl rfl k)
  rcases rng x (N := 4) (by decide) with ⟨r, hr, rfl⟩ | hx
  · have i1 : ∀ T, fnX13_isIn n T (nI r) (nI 0) (nI 3) = some (nI 1) := fun T => by
      rw [fnX13_isIn]
      simp (disch := first | assumption | omega) only [z0, z1, z2, z3, z4, z5, z6, z7, z8, z9, z10, z11, z12, z13, z15, z16, z17, z18, z20, z21, z23, z24, z25, z31, z32, z39, z40, z41, z46, z48, z50, z57, z59, z60, z61, z62, z63, z64, z97, z98, z99, z100, z101, z102, z103, z104, z105, z106, z107, z108, z109, z110, z111, z112, z113, z114, z115, z116, z117, z118, z119, z120, z121, z122, z128, z132, z200, z240, z255, z372, z390625, z400, z420, z421, z422, z662, z900, z940, z999, z1000, z1024, z2000, z5860, z10000, z12345, z15625, z266240, z1048575, z1064960, z1103515245, z_m1, n_le, n_lt, n_eq, n_bit0, n_bit1, n_sbit0, n_shl, z_ltM, z_Mlt, z_leM, z_Mle, z_eqM, z_Meq, bI0, bI1, bI_01, bI_01t, bI_10, bI_10f, if_true, if_false, eq_self, reduceCtorEq, if_pos, if_neg, Nat.not_lt_zero, bo_1]
    have x0 : ¬ nI r < 0 := nI_pos (by omega)
    have x3 : ¬ (3 : Int32) < nI r := by rw [z3, n_lt (by decide) (by omega)]; omega
    rcases rngd y with ⟨N, h1, h4, rfl⟩ | hy
    · have n1 : ¬ nI N < (1 : Int32) := by rw [z1, n_lt (by omega) (by decide)]; omega
      have n4 : nI N ≤ (400 : Int32) := by rw [z400, n_le (by omega) (by decide)]; omega
      by_cases c1 : 0 < vW m
      · have kw0 : ¬ nI (vW m) = (0 : Int32) := by rw [z0, n_eq (by omega) (by decide)]; omega
        by_cases c2 : 0 < vC m
        · have kc0 : ¬ nI (vC m) = (0 : Int32) := by rw [z0, n_eq (by omega) (by decide)]; omega
          obtain ⟨S1, e1, f1, q1, C1⟩ := k_copy (n := n) (by omega) hB hv8 hv (by decide) hS
          have hB1 := f1.B hB
          have f1' : rvf [87, 88, 89, 90, 91, 92, 93, 94, 95, 96, 97, 98, 99, 100, 101, 102, 103, 104, 105, 106] S S1 := f1.f (by decide)
          have R1 := q1.R hR hk
          obtain ⟨S2, e2, f2, P2⟩ := k_shorten (n := n) (by omega) hB1 R1.2.1 hk (r := r) (by omega)
          have hB2 := f2.B hB1
          have lo : ∀ k, k < 132 → k ≠ 3 → sn m r k = m k := fun k hk h3 => sni_lo (by omega) h3
          have hk2 := sn_okm hk (r := r) (by omega)
          have R2 : CR S2 87 (sn m r) := by
            have g : ∀ a, a ∈ [87, 88, 89, 90, 91, 93, 94, 104, 105, 106] → ∀ k, S2.2.1 a k = S1.2.1 a k := fun a ha k => by
              simp only [List.mem_cons, List.not_mem_nil, or_false] at ha
              rcases ha with rfl | rfl | rfl | rfl | rfl | rfl | rfl | rfl | rfl | rfl <;> exact f2.row rfl rfl k
            obtain ⟨⟨a1, a2, a3, a4, a5, a6, a7, a8⟩, -, c1, c2, c3, c4, c5, c6, c7⟩ := R1
            have F2 : FR S2 (87 + 1) m := ⟨(g 88 (by decide) _).trans a1, (g 88 (by decide) _).trans a2, (g 88 (by decide) _).trans a3, fun w h => (g 89 (by decide) w).trans (a4 w h), fun w h => (g 90 (by decide) w).trans (a5 w h), fun w h => (g 91 (by decide) w).trans (a6 w h), fun w h => (g 93 (by decide) w).trans (a7 w h), fun w h => (g 94 (by decide) w).trans (a8 w h)⟩
            have D2 : DR S2 87 m := ⟨(g 87 (by decide) _).trans c1, (g 87 (by decide) _).trans c2, (g 87 (by decide) _).trans c3, (g 87 (by decide) _).trans c4, fun w h => (g 104 (by decide) w).trans (c5 w h), fun w h => (g 105 (by decide) w).trans (c6 w h), fun w h => (g 106 (by decide) w).trans (c7 w h)⟩
            exact ⟨F2.c3 hp lo, P2, D2.c2 (lo 2 (by decide) (by decide)) (lo 4 (by decide) (by decide)) (lo 5 (by decide) (by decide)) (fun k hk => sni_hi h40 hk)⟩
          obtain ⟨S3, eS3⟩ : ∃ S3, S3 = rv_sI (rv_sI (rv_sI (rv_sI (rv_sI S2 148 0 z) 148 1 (nI 0)) 148 2 (nI 0)) 148 3 (nI 0)) 148 4 (nI 0) := ⟨_, rfl⟩
          have f3 : rvf [148] S2 S3 := by
            rw [eS3]
            exact (((((rvf.rf _ _).w rfl rfl).w rfl rfl).w rfl rfl).w rfl rfl).w rfl rfl
          have hB3 := f3.B hB2
          have R3 := R2.f f3 hv8 (Or.inl rfl) (Or.inl rfl) (Or.inr (by decide)) (Or.inr (by decide))
          have t0 : S3.2.1 148 0 = z := by rw [eS3, rv_sI_k _ _ (by decide), rv_sI_k _ _ (by decide), rv_sI_k _ _ (by decide), rv_sI_k _ _ (by decide), rv_sI_eq]
          have t1 : S3.2.1 148 1 = nI 0 := by rw [eS3, rv_sI_k _ _ (by decide), rv_sI_k _ _ (by decide), rv_sI_k _ _ (by decide), rv_sI_eq]
          have t2 : S3.2.1 148 2 = nI 0 := by rw [eS3, rv_sI_k _ _ (by decide), rv_sI_k _ _ (by decide), rv_sI_eq]
          have W2 : 0 < vW (sn m r) := by rw [show vW (sn m r) = vW m from lo 0 (by decide) (by decide)]; exact c1
          obtain ⟨S4, e4, f4⟩ := k_tloop (n := n) hn hB3 (X := (sn m r, z, 0, 0)) hk2 W2 R3 t0 t1 t2 h4
          have hB4 := f4.B hB3
          have f14 : rvf [87, 88, 89, 90, 91, 92, 93, 94, 95, 96, 97, 98, 99, 100, 101, 102, 103, 104, 105, 106, 148] S S4 := (f1'.mono (by decide)).tr ((f2.mono (by decide)).tr ((f3.mono (by decide)).tr (f4.mono (by decide))))
          have R4 := hR.f f14 hv (Or.inl rfl) (Or.inr (by decide)) (Or.inr (by decide)) (Or.inr (by decide))
          obtain ⟨S6, e6, hB6, f6, hM6, r6, b6⟩ := start_ok (n := n) hn hB4 (hL.f f14 rfl rfl)
          obtain ⟨S7, e7, f7, g7⟩ := m_copyR (n := n) (by omega) hB6 hM6
          have hB7 := f7.B hB6
          have hM7 := hM6.f f7 rfl
          obtain ⟨S8, e8, f8, M8, r8⟩ := m_shorten (n := n) (by omega) hB7 hM7 hk (r := r) (by omega) (nI N) z
          have hB8 := f8.B hB7
          obtain ⟨S9, eS9⟩ : ∃ S9, S9 = rv_sI (rv_sI S8 189 49 z) 189 50 (nI 0) := ⟨_, rfl⟩
          have f9 : rvf [189049, 189050] S8 S9 := by
            rw [eS9]
            exact ((rvf.sI S8 189 49 z).mono rfl).tr ((rvf.sI _ 189 50 (nI 0)).mono rfl)
          have hB9 := f9.B hB8
          have u0 : S9.2.1 189 49 = z := by rw [eS9, rv_sI_k _ _ (by decide), rv_sI_eq]
          have u1 : S9.2.1 189 50 = nI 0 := by rw [eS9, rv_sI_eq]
          obtain ⟨q51, u2⟩ : ∃ q, S9.2.1 189 51 = nI q := ⟨_, i_of _⟩
          have same : ∀ i, (tyN (sn m r, z, 0, q51) i).1 = (tyN (sn m r, z, 0, 0) i).1 ∧ (tyN (sn m r, z, 0, q51) i).2.1 = (tyN (sn m r, z, 0, 0) i).2.1 ∧ (tyN (sn m r, z, 0, q51) i).2.2.1 = (tyN (sn m r, z, 0, 0) i).2.2.1 := fun i => by
            induction i with
            | zero => exact ⟨rfl, rfl, rfl⟩
            | succ i ih =>
              obtain ⟨s1, s2, s3⟩ := ih
              rw [tyN, tyN, ty1, ty1]
              refine ⟨?_, ?_, ?_⟩
              · show (dpay _ _).1 = (dpay _ _).1; rw [s1, s2]
              · show (dpay _ _).2.1 = (dpay _ _).2.1; rw [s1, s2]
              · show _ + (dpay _ _).2.2.1 = _ + (dpay _ _).2.2.1; rw [s1, s2, s3]
          obtain ⟨S10, e10, f10, r10, g10⟩ := m_tloop (n := n) hn hB9 (X := (sn m r, z, 0, q51)) hk2 W2 (M8.f f9 rfl) u0 u1 u2 h4
          rw [(same N).2.2] at g10
          have hB10 := f10.B hB9
          have f7_10 : rvf [191, 189049, 189050, 189051, 199] S7 S10 := (f8.mono rfl).tr ((f9.mono rfl).tr (f10.mono rfl))
          obtain ⟨S11, e11, f11, M11, r11⟩ := m_copyB (n := n) (by omega) hB10 (m := m) (fun k hk => (f7_10.row rfl rfl k).trans (g7 k hk))
          have hB11 := f11.B hB10
          have fz : rvf [189000, 189022, 191, 194, 189049, 189050, 189051, 199] S4 S11 := (f6.mono rfl).tr ((f7.mono rfl).tr ((f7_10.mono rfl).tr (f11.mono rfl)))
          have a11 : S11.2.1 189 50 = nI (tyN (sn m r, z, 0, 0) N).2.2.1 := (f11.at (a := 189) (k := 50) rfl).trans g10
          refine ⟨nI (tyN (sn m r, z, 0, 0) N).2.2.1, S4, S11, ?_, ?_, QS.two hV f14 fz rfl rfl (by decide) (by decide) R4 M11 (by rw [f11.at (a := 189) (k := 22) rfl, f7_10.at (a := 189) (k := 22) rfl, f7.at (a := 189) (k := 22) rfl]; exact b6) hk rfl rfl (r6.tr ((R42.of f7 rfl).tr (r8.tr ((R42.of f9 rfl).tr (r10.tr r11))))), ?_⟩
          · have rd := rf_of hB (show (64, 2, 87) ∈ rv_rf0 by decide)
            have rd1 := rf_of hB1 (show (64, 2, 87) ∈ rv_rf0 by decide)
            have r92 := rf_of hB2 (show (64, 9, 148) ∈ rv_rf0 by decide)
            have hC1 := CS_of hB1
            have hC2 := CS_of hB2
            have hVS1 := VS_of hB1 hv8
            have hPS1 := PS_of hB1 hv8.p
            rw [fnX12_trade, if_neg x0, if_neg x3, if_neg n1, if_pos n4]
            repeat (first | (conv => (lhs; arg 1; simp (disch := first | assumption | omega) only [tk_gI, tk_gL, tk_gR, tk_pI, tk_pL, rv_aI, rv_aL, rv_aR, rv_uI, rv_uL, rv_uB, rv_uZ, pu_ckI, pu_ckL, pu_lnI, pu_lnL, tk_rI, tk_rL, Option.bind_some, Option.map_some, rv_lt, tk_ix, hC, hVS, hFS, hF, if_neg kw0])); first | rw [Option.bind_some] | rw [bp_s] | rw [if_true] | rw [if_false] | rw [rv_lt_eq] | rw [if_pos (by omega)] | rw [if_neg (by omega)])
            repeat (first | (conv => (lhs; arg 1; simp (disch := first | assumption | omega) only [tk_gI, tk_gL, tk_gR, tk_pI, tk_pL, rv_aI, rv_aL, rv_aR, rv_uI, rv_uL, rv_uB, rv_uZ, pu_ckI, pu_ckL, pu_lnI, pu_lnL, tk_rI, tk_rL, Option.bind_some, Option.map_some, rv_lt, tk_ix, hC, hVS, hPS, hP, if_neg kc0])); first | rw [Option.bind_some] | rw [bp_s] | rw [if_true] | rw [if_false] | rw [rv_lt_eq] | rw [if_pos (by omega)] | rw [if_neg (by omega)])
            repeat (first | (conv => (lhs; arg 1; simp (disch := first | assumption | omega) only [tk_gI, tk_gL, tk_gR, tk_pI, tk_pL, rv_aI, rv_aL, rv_aR, rv_uI, rv_uL, rv_uB, rv_uZ, pu_ckI, pu_ckL, pu_lnI, pu_lnL, tk_rI, tk_rL, Option.bind_some, Option.map_some, rv_lt, tk_ix, hC, rd, rc_87 hB, e1, hC1, rd1, hVS1, hPS1, e2, hC2, r92, rc_148 hB2])); first | rw [Option.bind_some] | rw [bp_s] | rw [if_true] | rw [if_false] | rw [rv_lt_eq] | rw [if_pos (by omega)] | rw [if_neg (by omega)])
            simp (disch := first | assumption | omega) only [fnX3_begin, tk_gI, tk_gL, tk_gR, tk_pI, tk_pL, rv_aI, rv_aL, rv_aR, rv_uI, rv_uL, rv_uB, rv_uZ, pu_ckI, pu_ckL, pu_lnI, pu_lnL, tk_rI, tk_rL, Option.bind_some, Option.map_some, rv_lt, tk_ix, z0, z1, z2, z3, z4, z5, z6, z7, z8, z9, z10, z11, z12, z13, z15, z16, z17, z18, z20, z21, z23, z24, z25, z31, z32, z39, z40, z41, z46, z48, z50, z57, z59, z60, z61, z62, z63, z64, z97, z98, z99, z100, z101, z102, z103, z104, z105, z106, z107, z108, z109, z110, z111, z112, z113, z114, z115, z116, z117, z118, z119, z120, z121, z122, z128, z132, z200, z240, z255, z372, z390625, z400, z420, z421, z422, z662, z900, z940, z999, z1000, z1024, z2000, z5860, z10000, z12345, z15625, z266240, z1048575, z1064960, z1103515245, z_m1, rc_148 hB2]
            rw [← eS3]
            exact e4
          · rw [fnX13_trade]
            have r14 := rf_of hB7 (show (189, 14, 191) ∈ rv_rf0 by decide)
            repeat (first | (conv => (lhs; arg 1; simp (disch := first | assumption | omega) only [tk_gI, tk_gL, tk_gR, tk_pI, tk_pL, rv_aI, rv_aL, rv_aR, rv_uI, rv_uL, rv_uB, rv_uZ, pu_ckI, pu_ckL, pu_lnI, pu_lnL, tk_rI, tk_rL, Option.bind_some, Option.map_some, rv_lt, tk_ix, z0, z1, z2, z3, z4, z5, z6, z7, z8, z9, z10, z11, z12, z13, z15, z16, z17, z18, z20, z21, z23, z24, z25, z31, z32, z39, z40, z41, z46, z48, z50, z57, z59, z60, z61, z62, z63, z64, z97, z98, z99, z100, z101, z102, z103, z104, z105, z106, z107, z108, z109, z110, z111, z112, z113, z114, z115, z116, z117, z118, z119, z120, z121, z122, z128, z132, z200, z240, z255, z372, z390625, z400, z420, z421, z422, z662, z900, z940, z999, z1000, z1024, z2000, z5860, z10000, z12345, z15625, z266240, z1048575, z1064960, z1103515245, z_m1, rc_189 hB4, e6, i1, rc_189 hB6, m_hasDays hB6 hM6 hk h1 h4, decide_eq_true c1, decide_eq_true c2])); first | rw [Option.bind_some] | rw [bp_s] | rw [if_true] | rw [if_false] | rw [rv_lt_eq] | rw [if_pos (by omega)] | rw [if_neg (by omega)])
            all_goals first | (rw [if_neg (by decide)]) | skip
            repeat (first | (conv => (lhs; arg 1; simp (disch := first | assumption | omega) only [tk_gI, tk_gL, tk_gR, tk_pI, tk_pL, rv_aI, rv_aL, rv_aR, rv_uI, rv_uL, rv_uB, rv_uZ, pu_ckI, pu_ckL, pu_lnI, pu_lnL, tk_rI, tk_rL, Option.bind_some, Option.map_some, rv_lt, tk_ix, z0, z1, z2, z3, z4, z5, z6, z7, z8, z9, z10, z11, z12, z13, z15, z16, z17, z18, z20, z21, z23, z24, z25, z31, z32, z39, z40, z41, z46, z48, z50, z57, z59, z60, z61, z62, z63, z64, z97, z98, z99, z100, z101, z102, z103, z104, z105, z106, z107, z108, z109, z110, z111, z112, z113, z114, z115, z116, z117, z118, z119, z120, z121, z122, z128, z132, z200, z240, z255, z372, z390625, z400, z420, z421, z422, z662, z900, z940, z999, z1000, z1024, z2000, z5860, z10000, z12345, z15625, z266240, z1048575, z1064960, z1103515245, z_m1, rc_189 hB6, m_hasDays hB6 hM6 hk h1 h4, decide_eq_true c1, decide_eq_true c2])); first | rw [Option.bind_some] | rw [bp_s] | rw [if_true] | rw [if_false] | rw [rv_lt_eq] | rw [if_pos (by omega)] | rw [if_neg (by omega)])
            all_goals first | (rw [if_neg (by decide)]) | skip
            simp (disch := first | assumption | omega) only [tk_gI, tk_gL, tk_gR, tk_pI, tk_pL, rv_aI, rv_aL, rv_aR, rv_uI, rv_uL, rv_uB, rv_uZ, pu_ckI, pu_ckL, pu_lnI, pu_lnL, tk_rI, tk_rL, Option.bind_some, Option.map_some, rv_lt, tk_ix, z0, z1, z2, z3, z4, z5, z6, z7, z8, z9, z10, z11, z12, z13, z15, z16, z17, z18, z20, z21, z23, z24, z25, z31, z32, z39, z40, z41, z46, z48, z50, z57, z59, z60, z61, z62, z63, z64, z97, z98, z99, z100, z101, z102, z103, z104, z105, z106, z107, z108, z109, z110, z111, z112, z113, z114, z115, z116, z117, z118, z119, z120, z121, z122, z128, z132, z200, z240, z255, z372, z390625, z400, z420, z421, z422, z662, z900, z940, z999, z1000, z1024, z2000, z5860, z10000, z12345, z15625, z266240, z1048575, z1064960, z1103515245, z_m1, rc_189 hB6, e7, rc_189 hB7, r14, rn_191 hB7, Option.bind_some]
            rw [e8, cX13_trade_85]
            simp (disch := first | assumption | omega) only [tk_gI, tk_gL, tk_gR, tk_pI, tk_pL, rv_aI, rv_aL, rv_aR, rv_uI, rv_uL, rv_uB, rv_uZ, pu_ckI, pu_ckL, pu_lnI, pu_lnL, tk_rI, tk_rL, Option.bind_some, Option.map_some, rv_lt, tk_ix, z0, z1, z2, z3, z4, z5, z6, z7, z8, z9, z10, z11, z12, z13, z15, z16, z17, z18, z20, z21, z23, z24, z25, z31, z32, z39, z40, z41, z46, z48, z50, z57, z59, z60, z61, z62, z63, z64, z97, z98, z99, z100, z101, z102, z103, z104, z105, z106, z107, z108, z109, z110, z111, z112, z113, z114, z115, z116, z117, z118, z119, z120, z121, z122, z128, z132, z200, z240, z255, z372, z390625, z400, z420, z421, z422, z662, z900, z940, z999, z1000, z1024, z2000, z5860, z10000, z12345, z15625, z266240, z1048575, z1064960, z1103515245, z_m1, rc_189 hB8]
            rw [← eS9, e10, cX13_trade_115]
            simp (disch := first | assumption | omega) only [tk_gI, tk_gL, tk_gR, tk_pI, tk_pL, rv_aI, rv_aL, rv_aR, rv_uI, rv_uL, rv_uB, rv_uZ, pu_ckI, pu_ckL, pu_lnI, pu_lnL, tk_rI, tk_rL, Option.bind_some, Option.map_some, rv_lt, tk_ix, rc_189 hB10, e11, rc_189 hB11, a11]
          · have q2 : CSn S4 67 o st := hS.f (fun a haa => funext fun k => f14.row (by rcases haa with rfl | rfl | rfl <;> rfl) (by rcases haa with rfl | rfl | rfl <;> rfl) k) (fun k => f14.rowR rfl rfl k)
            exact q2.f (fun a haa => funext fun k => fz.row (by rcases haa with rfl | rfl | rfl <;> rfl) (by rcases haa with rfl | rfl | rfl <;> rfl) k) (fun k => fz.rowR rfl rfl k)
        · have c2' : vC m = 0 := by omega
          have kc0 : nI (vC m) = (0 : Int32) := by rw [c2']; rfl
          refine bad ?_ fun S6 e6 hB6 hM6 => ?_
          · rw [fnX12_trade, if_neg x0, if_neg x3, if_neg n1, if_pos n4]
            repeat (first | (conv => (lhs; arg 1; simp (disch := first | assumption | omega) only [tk_gI, tk_gL, tk_gR, tk_pI, tk_pL, rv_aI, rv_aL, rv_aR, rv_uI, rv_uL, rv_uB, rv_uZ, pu_ckI, pu_ckL, pu_lnI, pu_lnL, tk_rI, tk_rL, Option.bind_some, Option.map_some, rv_lt, tk_ix, hC, hVS, hFS, hF, if_neg kw0])); first | rw [Option.bind_some] | rw [bp_s] | rw [if_true] | rw [if_false] | rw [rv_lt_eq] | rw [if_pos (by omega)] | rw [if_neg (by omega)])
            repeat (first | (conv => (lhs; arg 1; simp (disch := first | assumption | omega) only [tk_gI, tk_gL, tk_gR, tk_pI, tk_pL, rv_aI, rv_aL, rv_aR, rv_uI, rv_uL, rv_uB, rv_uZ, pu_ckI, pu_ckL, pu_lnI, pu_lnL, tk_rI, tk_rL, Option.bind_some, Option.map_some, rv_lt, tk_ix, hC, hVS, hPS, hP, if_pos kc0])); first | rw [Option.bind_some] | rw [bp_s] | rw [if_true] | rw [if_false] | rw [rv_lt_eq] | rw [if_pos (by omega)] | rw [if_neg (by omega)])
            all_goals rfl
          · rw [fnX13_trade]
            repeat (first | (conv => (lhs; arg 1; simp (disch := first | assumption | omega) only [tk_gI, tk_gL, tk_gR, tk_pI, tk_pL, rv_aI, rv_aL, rv_aR, rv_uI, rv_uL, rv_uB, rv_uZ, pu_ckI, pu_ckL, pu_lnI, pu_lnL, tk_rI, tk_rL, Option.bind_some, Option.map_some, rv_lt, tk_ix, z0, z1, z2, z3, z4, z5, z6, z7, z8, z9, z10, z11, z12, z13, z15, z16, z17, z18, z20, z21, z23, z24, z25, z31, z32, z39, z40, z41, z46, z48, z50, z57, z59, z60, z61, z62, z63, z64, z97, z98, z99, z100, z101, z102, z103, z104, z105, z106, z107, z108, z109, z110, z111, z112, z113, z114, z115, z116, z117, z118, z119, z120, z121, z122, z128, z132, z200, z240, z255, z372, z390625, z400, z420, z421, z422, z662, z900, z940, z999, z1000, z1024, z2000, z5860, z10000, z12345, z15625, z266240, z1048575, z1064960, z1103515245, z_m1, rc_189 hB, e6, i1, rc_189 hB6, m_hasDays hB6 hM6 hk h1 h4, decide_eq_true c1, decide_eq_false c2])); first | rw [Option.bind_some] | rw [bp_s] | rw [if_true] | rw [if_false] | rw [rv_lt_eq] | rw [if_pos (by omega)] | rw [if_neg (by omega)])
            rw [if_neg (by decide)]
            repeat (first | (conv => (lhs; arg 1; simp (disch := first | assumption | omega) only [tk_gI, tk_gL, tk_gR, tk_pI, tk_pL, rv_aI, rv_aL, rv_aR, rv_uI, rv_uL, rv_uB, rv_uZ, pu_ckI, pu_ckL, pu_lnI, pu_lnL, tk_rI, tk_rL, Option.bind_some, Option.map_some, rv_lt, tk_ix, z0, z1, z2, z3, z4, z5, z6, z7, z8, z9, z10, z11, z12, z13, z15, z16, z17, z18, z20, z21, z23, z24, z25, z31, z32, z39, z40, z41, z46, z48, z50, z57, z59, z60, z61, z62, z63, z64, z97, z98, z99, z100, z101, z102, z103, z104, z105, z106, z107, z108, z109, z110, z111, z112, z113, z114, z115, z116, z117, z118, z119, z120, z121, z122, z128, z132, z200, z240, z255, z372, z390625, z400, z420, z421, z422, z662, z900, z940, z999, z1000, z1024, z2000, z5860, z10000, z12345, z15625, z266240, z1048575, z1064960, z1103515245, z_m1, rc_189 hB6, m_hasDays hB6 hM6 hk h1 h4, decide_eq_true c1, decide_eq_false c2])); first | rw [Option.bind_some] | rw [bp_s] | rw [if_true] | rw [if_false] | rw [rv_lt_eq] | rw [if_pos (by omega)] | rw [if_neg (by omega)])
            all_goals rfl
      · have c1' : vW m = 0 := by omega
        have kw0 : nI (vW m) = (0 : Int32) := by rw [c1']; rfl
        refine bad ?_ fun S6 e6 hB6 hM6 => ?_
        · rw [fnX12_trade, if_neg x0, if_neg x3, if_neg n1, if_pos n4]
          repeat (first | (conv => (lhs; arg 1; simp (disch := first | assumption | omega) only [tk_gI, tk_gL, tk_gR, tk_pI, tk_pL, rv_aI, rv_aL, rv_aR, rv_uI, rv_uL, rv_uB, rv_uZ, pu_ckI, pu_ckL, pu_lnI, pu_lnL, tk_rI, tk_rL, Option.bind_some, Option.map_some, rv_lt, tk_ix, hC, hVS, hFS, hF, if_pos kw0])); first | rw [Option.bind_some] | rw [bp_s] | rw [if_true] | rw [if_false] | rw [rv_lt_eq] | rw [if_pos (by omega)] | rw [if_neg (by omega)])
          all_goals rfl
        · rw [fnX13_trade]
          repeat (first | (conv => (lhs; arg 1; simp (disch := first | assumption | omega) only [tk_gI, tk_gL, tk_gR, tk_pI, tk_pL, rv_aI, rv_aL, rv_aR, rv_uI, rv_uL, rv_uB, rv_uZ, pu_ckI, pu_ckL, pu_lnI, pu_lnL, tk_rI, tk_rL, Option.bind_some, Option.map_some, rv_lt, tk_ix, z0, z1, z2, z3, z4, z5, z6, z7, z8, z9, z10, z11, z12, z13, z15, z16, z17, z18, z20, z21, z23, z24, z25, z31, z32, z39, z40, z41, z46, z48, z50, z57, z59, z60, z61, z62, z63, z64, z97, z98, z99, z100, z101, z102, z103, z104, z105, z106, z107, z108, z109, z110, z111, z112, z113, z114, z115, z116, z117, z118, z119, z120, z121, z122, z128, z132, z200, z240, z255, z372, z390625, z400, z420, z421, z422, z662, z900, z940, z999, z1000, z1024, z2000, z5860, z10000, z12345, z15625, z266240, z1048575, z1064960, z1103515245, z_m1, rc_189 hB, e6, i1, rc_189 hB6, m_hasDays hB6 hM6 hk h1 h4, decide_eq_false c1])); first | rw [Option.bind_some] | rw [bp_s] | rw [if_true] | rw [if_false] | rw [rv_lt_eq] | rw [if_pos (by omega)] | rw [if_neg (by omega)])
          rw [if_neg (by decide)]
          repeat (first | (conv => (lhs; arg 1; simp (disch := first | assumption | omega) only [tk_gI, tk_gL, tk_gR, tk_pI, tk_pL, rv_aI, rv_aL, rv_aR, rv_uI, rv_uL, rv_uB, rv_uZ, pu_ckI, pu_ckL, pu_lnI, pu_lnL, tk_rI, tk_rL, Option.bind_some, Option.map_some, rv_lt, tk_ix, z0, z1, z2, z3, z4, z5, z6, z7, z8, z9, z10, z11, z12, z13, z15, z16, z17, z18, z20, z21, z23, z24, z25, z31, z32, z39, z40, z41, z46, z48, z50, z57, z59, z60, z61, z62, z63, z64, z97, z98, z99, z100, z101, z102, z103, z104, z105, z106, z107, z108, z109, z110, z111, z112, z113, z114, z115, z116, z117, z118, z119, z120, z121, z122, z128, z132, z200, z240, z255, z372, z390625, z400, z420, z421, z422, z662, z900, z940, z999, z1000, z1024, z2000, z5860, z10000, z12345, z15625, z266240, z1048575, z1064960, z1103515245, z_m1, rc_189 hB6, m_hasDays hB6 hM6 hk h1 h4, decide_eq_false c1])); first | rw [Option.bind_some] | rw [bp_s] | rw [if_true] | rw [if_false] | rw [rv_lt_eq] | rw [if_pos (by omega)] | rw [if_neg (by omega)])
          all_goals rfl
    · refine bad ?_ fun S6 e6 hB6 hM6 => ?_
      · rw [fnX12_trade, if_neg x0, if_neg x3]
        rcases hy with h | ⟨h, h2⟩
        · rw [if_pos (show y < (1 : Int32) from h)]; rfl
        · rw [if_neg (show ¬ y < (1 : Int32) from h), if_neg (show ¬ y ≤ (400 : Int32) from fun q => Int32.lt_irrefl (Int32.lt_of_lt_of_le h2 q))]; rfl
      · rw [fnX13_trade]
        repeat (first | (conv => (lhs; arg 1; simp (disch := first | assumption | omega) only [tk_gI, tk_gL, tk_gR, tk_pI, tk_pL, rv_aI, rv_aL, rv_aR, rv_uI, rv_uL, rv_uB, rv_uZ, pu_ckI, pu_ckL, pu_lnI, pu_lnL, tk_rI, tk_rL, Option.bind_some, Option.map_some, rv_lt, tk_ix, z0, z1, z2, z3, z4, z5, z6, z7, z8, z9, z10, z11, z12, z13, z15, z16, z17, z18, z20, z21, z23, z24, z25, z31, z32, z39, z40, z41, z46, z48, z50, z57, z59, z60, z61, z62, z63, z64, z97, z98, z99, z100, z101, z102, z103, z104, z105, z106, z107, z108, z109, z110, z111, z112, z113, z114, z115, z116, z117, z118, z119, z120, z121, z122, z128, z132, z200, z240, z255, z372, z390625, z400, z420, z421, z422, z662, z900, z940, z999, z1000, z1024, z2000, z5860, z10000, z12345, z15625, z266240, z1048575, z1064960, z1103515245, z_m1, rc_189 hB, e6, i1, rc_189 hB6, m_hasDays0 hy])); first | rw [Option.bind_some] | rw [bp_s] | rw [if_true] | rw [if_false] | rw [rv_lt_eq] | rw [if_pos (by omega)] | rw [if_neg (by omega)])
        rw [if_neg (by decide)]
        repeat (first | (conv => (lhs; arg 1; simp (disch := first | assumption | omega) only [tk_gI, tk_gL, tk_gR, tk_pI, tk_pL, rv_aI, rv_aL, rv_aR, rv_uI, rv_uL, rv_uB, rv_uZ, pu_ckI, pu_ckL, pu_lnI, pu_lnL, tk_rI, tk_rL, Option.bind_some, Option.map_some, rv_lt, tk_ix, z0, z1, z2, z3, z4, z5, z6, z7, z8, z9, z10, z11, z12, z13, z15, z16, z17, z18, z20, z21, z23, z24, z25, z31, z32, z39, z40, z41, z46, z48, z50, z57, z59, z60, z61, z62, z63, z64, z97, z98, z99, z100, z101, z102, z103, z104, z105, z106, z107, z108, z109, z110, z111, z112, z113, z114, z115, z116, z117, z118, z119, z120, z121, z122, z128, z132, z200, z240, z255, z372, z390625, z400, z420, z421, z422, z662, z900, z940, z999, z1000, z1024, z2000, z5860, z10000, z12345, z15625, z266240, z1048575, z1064960, z1103515245, z_m1, rc_189 hB6, m_hasDays0 hy])); first | rw [Option.bind_some] | rw [bp_s] | rw [if_true] | rw [if_false] | rw [rv_lt_eq] | rw [if_pos (by omega)] | rw [if_neg (by omega)])
        all_goals rfl
  · refine bad ?_ fun S6 e6 hB6 hM6 => ?_
    · rw [fnX12_trade]
      rcases hx with h | h
      · rw [if_pos (show x < 0 from h)]; rfl
      · by_cases c : x < 0
        · rw [if_pos c]; rfl
        · rw [if_neg c, if_pos (show (3 : Int32) < x from Int32.lt_of_lt_of_le (show (3 : Int32) < nI 4 by decide) h)]; rfl
    · have i1 : ∀ T, fnX13_isIn n T x (nI 0) (nI 3) = some (nI 0) := fun T => by
        rw [fnX13_isIn]
        rcases hx with h | h
        · rw [if_pos h]; rfl
        · by_cases c : x < nI 0
          · rw [if_pos c]; rfl
          · rw [if_neg c, if_pos (show nI 3 < x from Int32.lt_of_lt_of_le (show nI 3 < nI 4 by decide) h)]; rfl
      rw [fnX13_trade]
      repeat (first | (conv => (lhs; arg 1; simp (disch := first | assumption | omega) only [tk_gI, tk_gL, tk_gR, tk_pI, tk_pL, rv_aI, rv_aL, rv_aR, rv_uI, rv_uL, rv_uB, rv_uZ, pu_ckI, pu_ckL, pu_lnI, pu_lnL, tk_rI, tk_rL, Option.bind_some, Option.map_some, rv_lt, tk_ix, z0, z1, z2, z3, z4, z5, z6, z7, z8, z9, z10, z11, z12, z13, z15, z16, z17, z18, z20, z21, z23, z24, z25, z31, z32, z39, z40, z41, z46, z48, z50, z57, z59, z60, z61, z62, z63, z64, z97, z98, z99, z100, z101, z102, z103, z104, z105, z106, z107, z108, z109, z110, z111, z112, z113, z114, z115, z116, z117, z118, z119, z120, z121, z122, z128, z132, z200, z240, z255, z372, z390625, z400, z420, z421, z422, z662, z900, z940, z999, z1000, z1024, z2000, z5860, z10000, z12345, z15625, z266240, z1048575, z1064960, z1103515245, z_m1, rc_189 hB, e6, i1])); first | rw [Option.bind_some] | rw [bp_s] | rw [if_true] | rw [if_false] | rw [rv_lt_eq] | rw [if_pos (by omega)] | rw [if_neg (by omega)])
      all_goals rfl
end
