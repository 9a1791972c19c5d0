/-! DIES, both -/
section
variable {n : Nat} {S : rvS} {m m' : Nat → Nat} {wd : Nat → List Nat}
def de1 (m : Nat → Nat) (w : Nat) : Nat → Nat := u1 m (10 + 5 * w) 1
theorem de1_off {w k : Nat} (h : k ≠ 10 + 5 * w) : de1 m w k = m k := u1_ne _ _ h
theorem de1_de (w x : Nat) : de (de1 m w) x = if x = w then 1 else de m x := by
  by_cases c : x = w
  · subst c; rw [if_pos rfl]; exact u1_eq _ _ _
  · rw [if_neg c]; exact de1_off (by omega)
theorem de1_okp (hp : okp m) {w : Nat} (hw : w < vW m) : okp (de1 m w) := by
  obtain ⟨q1, q2, q3, q4, q5, q6⟩ := hp
  have e0 : vW (de1 m w) = vW m := de1_off (by omega)
  have rdo : ∀ v, rd (de1 m w) v = rd m v := fun v => de1_off (by omega)
  refine ⟨by rw [e0]; exact q1, fun x hx => ?_, fun x hx => ?_, fun a b ha hb => ?_, fun v hv => ?_, fun a b ha hb => ?_⟩
  · rw [e0] at hx
    rw [show at_ (de1 m w) x = at_ m x from de1_off (by omega)]; exact q2 x hx
  · rw [e0] at hx
    rw [e0, show mt (de1 m w) x = mt m x from de1_off (by omega), show sg (de1 m w) x = sg m x from de1_off (by omega), de1_de]
    have := q3 x hx
    split <;> omega
  · rw [e0] at ha hb
    rw [show mt (de1 m w) a = mt m a from de1_off (by omega), show mt (de1 m w) b = mt m b from de1_off (by omega)]; exact q4 a b ha hb
  · rw [rdo]; exact q5 v hv
  · unfold nr; rw [rdo, rdo]; exact q6 a b ha hb
theorem k_die (hn : 50 ≤ n) (hB : rv_B S) {f : Nat} (hf : fb f) (hR : FR S f m) (hp : okp m) {w : Nat} (hw : w < vW m) : ∃ S', fnX1_die n S f (nI w) = some S' ∧ rvf [f, f + 6] S S' ∧ FR S' f (de1 m w) := by
  have hS := FS_of hB hf
  have h24 := hp.1
  have hr0 : rwb f = true := by rcases hf with rfl | rfl | rfl | rfl <;> rfl
  have hb := bs_24 (fun x => decide (0 < de m x)) h24
  have e0 : vW (de1 m w) = vW m := de1_off (by omega)
  have eb : bs (fun x => decide (0 < de m x)) (vW m) ||| 2 ^ w = bs (fun x => decide (0 < de (de1 m w) x)) (vW m) := by
    apply Nat.eq_of_testBit_eq
    intro i
    rw [Nat.testBit_or, bs_bit, bs_bit, Nat.testBit_two_pow, de1_de]
    by_cases c : i = w
    · subst c
      rw [decide_eq_true hw, if_pos rfl]
      simp
    · rw [if_neg c, decide_eq_false (show ¬ w = i from fun z => c z.symm), Bool.or_false]
  obtain ⟨a1, a2, a3, a4, a5, a6, a7, a8⟩ := hR
  obtain ⟨S2, eS2⟩ : ∃ S2, S2 = rv_sI S f 1 (nI (bs (fun x => decide (0 < de (de1 m w) x)) (vW m))) := ⟨_, rfl⟩
  have f2 : rvf [f] S S2 := by rw [eS2]; exact rvf.sIr S 1 _ hr0
  have hB2 := f2.B hB
  have r0 : FR0 S2 f (de1 m w) := by
    rw [eS2]
    refine ⟨?_, ?_, ?_, fun x hx => ?_, fun x hx => ?_, fun x hx => ?_, fun j hj => ?_⟩
    · rw [rv_sI_k _ _ (by decide), e0]; exact a1
    · rw [rv_sI_eq, e0]
    · rw [rv_sI_k _ _ (by decide), e0, a3]
      exact congrArg nI (bs_cong fun x hx => by rw [show sg (de1 m w) x = sg m x from de1_off (by omega)])
    · rw [e0] at hx; rw [rv_sI_a _ _ _ (by omega), show at_ (de1 m w) x = at_ m x from de1_off (by omega)]; exact a4 x hx
    · rw [e0] at hx; rw [rv_sI_a _ _ _ (by omega)]; unfold hs; rw [show mt (de1 m w) x = mt m x from de1_off (by omega)]; exact a5 x hx
    · rw [e0] at hx; rw [rv_sI_a _ _ _ (by omega), show ea (de1 m w) x = ea m x from de1_off (by omega)]; exact a6 x hx
    · rw [rv_sI_a _ _ _ (by omega), show rd (de1 m w) j = rd m j from de1_off (by omega)]; exact a7 j hj
  obtain ⟨S', e3, f3, g3⟩ := k_refresh hn hB2 hf r0 (de1_okp hp hw)
  refine ⟨S', ?_, (f2.mono (by simp)).tr (f3.mono (by simp)), g3⟩
  rw [fnX1_die]
  repeat (first | (conv => (lhs; arg 1; simp (disch := first | assumption | omega) only [tk_gI, tk_gL, tk_gR, tk_pI, tk_pL, rv_aI, rv_aL, rv_aR, rv_uI, rv_uL, rv_uB, rv_uZ, pu_ckI, pu_ckL, pu_lnI, pu_lnL, tk_rI, tk_rL, Option.bind_some, Option.map_some, rv_lt, tk_ix, z0, z1, z2, z3, z4, z5, z6, z7, z8, z9, z10, z11, z12, z13, z15, z16, z17, z18, z20, z21, z23, z24, z25, z31, z32, z39, z40, z41, z46, z48, z50, z57, z59, z60, z61, z62, z63, z64, z97, z98, z99, z100, z101, z102, z103, z104, z105, z106, z107, z108, z109, z110, z111, z112, z113, z114, z115, z116, z117, z118, z119, z120, z121, z122, z128, z132, z200, z240, z255, z372, z390625, z400, z420, z421, z422, z662, z900, z940, z999, z1000, z1024, z2000, z5860, z10000, z12345, z15625, z266240, z1048575, z1064960, z1103515245, z_m1, hS, a2, n_shl, fa_or, eb])); first | rw [Option.bind_some] | rw [bp_s] | rw [if_true] | rw [if_false] | rw [rv_lt_eq] | rw [if_pos (by omega)] | rw [if_neg (by omega)])
  rw [← eS2, e3, Option.bind_some]
theorem op_dies (hn : 500 ≤ n) (hV : VI S m wd) (x y : Int32) : ∃ r S1 S' m', fnX12_dies n S 64 x y = some (r, S1) ∧ fnX13_dies n S1 189 x y = some (r, S') ∧ QS S S' m' wd := by
  obtain ⟨hB, hR, hL, hk, -⟩ := id hV; have hp := hk.1; have hc := hk.2.1; have hd := hk.2.2; obtain ⟨S6, e6, hB6, f6, hM6, r6, b6⟩ := start_ok hn hB hL; have hC := CS_of hB; have hv : vb 67 := Or.inl rfl; have hVS := VS_of hB hv; have hFS := FS_of hB hv.f; have hPS := PS_of hB hv.p; have h24 := hp.1; have h40 := hc.1; have n10 : 10 ≤ n := (by omega); have n50 : 50 ≤ n := (by omega)
  obtain ⟨hF, hP, hD⟩ := id hR
  have same : ∀ {r : Int32}, fnX12_dies n S 64 x y = some (r, S) → (∃ S', fnX13_dies n S 189 x y = some (r, S') ∧ QS S S' m wd) → ∃ r S1 S' m', fnX12_dies n S 64 x y = some (r, S1) ∧ fnX13_dies n S1 189 x y = some (r, S') ∧ QS S S' m' wd := fun h1 ⟨S', h2, h3⟩ => ⟨_, S, S', m, h1, h2, h3⟩
  rcases rng x (N := vW m) (by omega) with ⟨w, hw, rfl⟩ | hx
  · rcases rng y (N := vW m) (by omega) with ⟨h, hh, rfl⟩ | hy
    · by_cases cwh : w = h
      · refine same (r := iM) ?_ ⟨S6, ?_, QS.s0 hV f6 hM6 r6 b6⟩
        · rw [fnX12_dies]
          repeat (first | (conv => (lhs; arg 1; simp (disch := first | assumption | omega) only [tk_gI, tk_gL, tk_gR, tk_pI, tk_pL, rv_aI, rv_aL, rv_aR, rv_uI, rv_uL, rv_uB, rv_uZ, pu_ckI, pu_ckL, pu_lnI, pu_lnL, tk_rI, tk_rL, Option.bind_some, Option.map_some, rv_lt, tk_ix, z0, z1, z2, z3, z4, z5, z6, z7, z8, z9, z10, z11, z12, z13, z15, z16, z17, z18, z20, z21, z23, z24, z25, z31, z32, z39, z40, z41, z46, z48, z50, z57, z59, z60, z61, z62, z63, z64, z97, z98, z99, z100, z101, z102, z103, z104, z105, z106, z107, z108, z109, z110, z111, z112, z113, z114, z115, z116, z117, z118, z119, z120, z121, z122, z128, z132, z200, z240, z255, z372, z390625, z400, z420, z421, z422, z662, z900, z940, z999, z1000, z1024, z2000, z5860, z10000, z12345, z15625, z266240, z1048575, z1064960, z1103515245, z_m1, n_le, n_lt, n_eq, n_bit0, n_bit1, n_sbit0, n_shl, z_ltM, z_Mlt, z_leM, z_Mle, z_eqM, z_Meq, bI0, bI1, bI_01, bI_01t, bI_10, bI_10f, if_true, if_false, eq_self, reduceCtorEq, hC, k_isWho hB hR hk hw, k_isWho hB hR hk hh, cwh])); first | rw [Option.bind_some] | rw [bp_s] | rw [if_true] | rw [if_false] | rw [rv_lt_eq] | rw [if_pos (by omega)] | rw [if_neg (by omega)])
          all_goals rfl
        · rw [fnX13_dies]
          repeat (first | (conv => (lhs; arg 1; simp (disch := first | assumption | omega) only [tk_gI, tk_gL, tk_gR, tk_pI, tk_pL, rv_aI, rv_aL, rv_aR, rv_uI, rv_uL, rv_uB, rv_uZ, pu_ckI, pu_ckL, pu_lnI, pu_lnL, tk_rI, tk_rL, Option.bind_some, Option.map_some, rv_lt, tk_ix, z0, z1, z2, z3, z4, z5, z6, z7, z8, z9, z10, z11, z12, z13, z15, z16, z17, z18, z20, z21, z23, z24, z25, z31, z32, z39, z40, z41, z46, z48, z50, z57, z59, z60, z61, z62, z63, z64, z97, z98, z99, z100, z101, z102, z103, z104, z105, z106, z107, z108, z109, z110, z111, z112, z113, z114, z115, z116, z117, z118, z119, z120, z121, z122, z128, z132, z200, z240, z255, z372, z390625, z400, z420, z421, z422, z662, z900, z940, z999, z1000, z1024, z2000, z5860, z10000, z12345, z15625, z266240, z1048575, z1064960, z1103515245, z_m1, n_le, n_lt, n_eq, n_bit0, n_bit1, n_sbit0, n_shl, z_ltM, z_Mlt, z_leM, z_Mle, z_eqM, z_Meq, bI0, bI1, bI_01, bI_01t, bI_10, bI_10f, if_true, if_false, eq_self, reduceCtorEq, rc_189 hB, e6, rc_189 hB6, m_isWho hB6 hM6 hp hw, m_isWho hB6 hM6 hp hh, cwh])); first | rw [Option.bind_some] | rw [bp_s] | rw [if_true] | rw [if_false] | rw [rv_lt_eq] | rw [if_pos (by omega)] | rw [if_neg (by omega)])
          all_goals rfl
      · have kd := k_isDead (n := n) hFS hF hp hw
        have kh := k_isDead (n := n) hFS hF hp hh
        have md := m_isDead (n := n) hB6 hM6 hp hw
        have mh := m_isDead (n := n) hB6 hM6 hp hh
        by_cases d1 : 0 < de m w
        · rw [decide_eq_true d1] at kd md
          refine same (r := iM) ?_ ⟨S6, ?_, QS.s0 hV f6 hM6 r6 b6⟩
          · rw [fnX12_dies]
            repeat (first | (conv => (lhs; arg 1; simp (disch := first | assumption | omega) only [tk_gI, tk_gL, tk_gR, tk_pI, tk_pL, rv_aI, rv_aL, rv_aR, rv_uI, rv_uL, rv_uB, rv_uZ, pu_ckI, pu_ckL, pu_lnI, pu_lnL, tk_rI, tk_rL, Option.bind_some, Option.map_some, rv_lt, tk_ix, z0, z1, z2, z3, z4, z5, z6, z7, z8, z9, z10, z11, z12, z13, z15, z16, z17, z18, z20, z21, z23, z24, z25, z31, z32, z39, z40, z41, z46, z48, z50, z57, z59, z60, z61, z62, z63, z64, z97, z98, z99, z100, z101, z102, z103, z104, z105, z106, z107, z108, z109, z110, z111, z112, z113, z114, z115, z116, z117, z118, z119, z120, z121, z122, z128, z132, z200, z240, z255, z372, z390625, z400, z420, z421, z422, z662, z900, z940, z999, z1000, z1024, z2000, z5860, z10000, z12345, z15625, z266240, z1048575, z1064960, z1103515245, z_m1, n_le, n_lt, n_eq, n_bit0, n_bit1, n_sbit0, n_shl, z_ltM, z_Mlt, z_leM, z_Mle, z_eqM, z_Meq, bI0, bI1, bI_01, bI_01t, bI_10, bI_10f, if_true, if_false, eq_self, reduceCtorEq, hC, hVS, hFS, k_isWho hB hR hk hw, k_isWho hB hR hk hh, cwh, kd])); first | rw [Option.bind_some] | rw [bp_s] | rw [if_true] | rw [if_false] | rw [rv_lt_eq] | rw [if_pos (by omega)] | rw [if_neg (by omega)])
            all_goals rfl
          · rw [fnX13_dies]
            repeat (first | (conv => (lhs; arg 1; simp (disch := first | assumption | omega) only [tk_gI, tk_gL, tk_gR, tk_pI, tk_pL, rv_aI, rv_aL, rv_aR, rv_uI, rv_uL, rv_uB, rv_uZ, pu_ckI, pu_ckL, pu_lnI, pu_lnL, tk_rI, tk_rL, Option.bind_some, Option.map_some, rv_lt, tk_ix, z0, z1, z2, z3, z4, z5, z6, z7, z8, z9, z10, z11, z12, z13, z15, z16, z17, z18, z20, z21, z23, z24, z25, z31, z32, z39, z40, z41, z46, z48, z50, z57, z59, z60, z61, z62, z63, z64, z97, z98, z99, z100, z101, z102, z103, z104, z105, z106, z107, z108, z109, z110, z111, z112, z113, z114, z115, z116, z117, z118, z119, z120, z121, z122, z128, z132, z200, z240, z255, z372, z390625, z400, z420, z421, z422, z662, z900, z940, z999, z1000, z1024, z2000, z5860, z10000, z12345, z15625, z266240, z1048575, z1064960, z1103515245, z_m1, n_le, n_lt, n_eq, n_bit0, n_bit1, n_sbit0, n_shl, z_ltM, z_Mlt, z_leM, z_Mle, z_eqM, z_Meq, bI0, bI1, bI_01, bI_01t, bI_10, bI_10f, if_true, if_false, eq_self, reduceCtorEq, rc_189 hB, e6, rc_189 hB6, m_isWho hB6 hM6 hp hw, m_isWho hB6 hM6 hp hh, cwh, md])); first | rw [Option.bind_some] | rw [bp_s] | rw [if_true] | rw [if_false] | rw [rv_lt_eq] | rw [if_pos (by omega)] | rw [if_neg (by omega)])
            all_goals rfl
        · rw [decide_eq_false d1] at kd md
          by_cases d2 : 0 < de m h
          · rw [decide_eq_true d2] at kh mh
            refine same (r := iM) ?_ ⟨S6, ?_, QS.s0 hV f6 hM6 r6 b6⟩
            · rw [fnX12_dies]
              repeat (first | (conv => (lhs; arg 1; simp (disch := first | assumption | omega) only [tk_gI, tk_gL, tk_gR, tk_pI, tk_pL, rv_aI, rv_aL, rv_aR, rv_uI, rv_uL, rv_uB, rv_uZ, pu_ckI, pu_ckL, pu_lnI, pu_lnL, tk_rI, tk_rL, Option.bind_some, Option.map_some, rv_lt, tk_ix, z0, z1, z2, z3, z4, z5, z6, z7, z8, z9, z10, z11, z12, z13, z15, z16, z17, z18, z20, z21, z23, z24, z25, z31, z32, z39, z40, z41, z46, z48, z50, z57, z59, z60, z61, z62, z63, z64, z97, z98, z99, z100, z101, z102, z103, z104, z105, z106, z107, z108, z109, z110, z111, z112, z113, z114, z115, z116, z117, z118, z119, z120, z121, z122, z128, z132, z200, z240, z255, z372, z390625, z400, z420, z421, z422, z662, z900, z940, z999, z1000, z1024, z2000, z5860, z10000, z12345, z15625, z266240, z1048575, z1064960, z1103515245, z_m1, n_le, n_lt, n_eq, n_bit0, n_bit1, n_sbit0, n_shl, z_ltM, z_Mlt, z_leM, z_Mle, z_eqM, z_Meq, bI0, bI1, bI_01, bI_01t, bI_10, bI_10f, if_true, if_false, eq_self, reduceCtorEq, hC, hVS, hFS, k_isWho hB hR hk hw, k_isWho hB hR hk hh, cwh, kd, kh])); first | rw [Option.bind_some] | rw [bp_s] | rw [if_true] | rw [if_false] | rw [rv_lt_eq] | rw [if_pos (by omega)] | rw [if_neg (by omega)])
              all_goals rfl
            · rw [fnX13_dies]
              repeat (first | (conv => (lhs; arg 1; simp (disch := first | assumption | omega) only [tk_gI, tk_gL, tk_gR, tk_pI, tk_pL, rv_aI, rv_aL, rv_aR, rv_uI, rv_uL, rv_uB, rv_uZ, pu_ckI, pu_ckL, pu_lnI, pu_lnL, tk_rI, tk_rL, Option.bind_some, Option.map_some, rv_lt, tk_ix, z0, z1, z2, z3, z4, z5, z6, z7, z8, z9, z10, z11, z12, z13, z15, z16, z17, z18, z20, z21, z23, z24, z25, z31, z32, z39, z40, z41, z46, z48, z50, z57, z59, z60, z61, z62, z63, z64, z97, z98, z99, z100, z101, z102, z103, z104, z105, z106, z107, z108, z109, z110, z111, z112, z113, z114, z115, z116, z117, z118, z119, z120, z121, z122, z128, z132, z200, z240, z255, z372, z390625, z400, z420, z421, z422, z662, z900, z940, z999, z1000, z1024, z2000, z5860, z10000, z12345, z15625, z266240, z1048575, z1064960, z1103515245, z_m1, n_le, n_lt, n_eq, n_bit0, n_bit1, n_sbit0, n_shl, z_ltM, z_Mlt, z_leM, z_Mle, z_eqM, z_Meq, bI0, bI1, bI_01, bI_01t, bI_10, bI_10f, if_true, if_false, eq_self, reduceCtorEq, rc_189 hB, e6, rc_189 hB6, m_isWho hB6 hM6 hp hw, m_isWho hB6 hM6 hp hh, cwh, md, mh])); first | rw [Option.bind_some] | rw [bp_s] | rw [if_true] | rw [if_false] | rw [rv_lt_eq] | rw [if_pos (by omega)] | rw [if_neg (by omega)])
              all_goals rfl
          · rw [decide_eq_false d2] at kh
            have h12 := hd.1
            have hL2 := hd.2.2.2.1
            -- the class
            have h64 := bs_64 (fun c => decide (ow m c = w)) h40
            have kco := k_coinsOf (n := n) n50 hPS hP hp hc (w := w) (by omega)
            obtain ⟨Sa, ea, fa, ga⟩ := k_inherit (h := h) n50 hB hv.p hP hp hc hw
            have fa' : rvf [77] S Sa := fa.f rfl
            have hBa := fa.B hB
            have hFa : FR Sa (67 + 1) m := by
              obtain ⟨q1, q2, q3, q4, q5, q6, q7, q8⟩ := hF
              have g := fun (b : Nat) (hb : b ≠ 67 + 8 + 2) (k : Nat) => congrFun (fa.2.2 b hb) k
              exact ⟨(g _ (by decide) _).trans q1, (g _ (by decide) _).trans q2, (g _ (by decide) _).trans q3, fun x hx => (g _ (by decide) x).trans (q4 x hx), fun x hx => (g _ (by decide) x).trans (q5 x hx), fun x hx => (g _ (by decide) x).trans (q6 x hx), fun x hx => (g _ (by decide) x).trans (q7 x hx), fun x hx => (g _ (by decide) x).trans (q8 x hx)⟩
            obtain ⟨Sb, eb, fb', gb⟩ := k_die n50 hBa hv.f hFa hp hw
            have fb' : rvf [68, 74] Sa Sb := fb'
            have hBb := fb'.B hBa
            have b9 : Sb.2.1 67 9 = nI (vL m) := (fb'.row rfl rfl 9).trans ((fa'.row rfl rfl 9).trans hD.2.2.2.1)
            have b75 : Sb.2.1 75 0 = nI (vC m) := (fb'.row rfl rfl 0).trans ((fa'.row rfl rfl 0).trans hP.1)
            have b78 : ∀ c, c < vC m → Sb.2.1 (75 + 3) c = nI (rb (rl m c)) := fun c h => (fb'.row rfl rfl c).trans ((fa'.row rfl rfl c).trans (hP.2.2.2.2 c h))
            have lst : ∃ Sc, fnX9_bury n S 67 (nI w) (nI h) = some (nI (fb_ct (fun c => decide (ow m c = w)) (vC m)), Sc) ∧ rvf [78] Sb Sc ∧ ∀ c, c < vC m → Sc.2.1 (75 + 3) c = nI (rb (dR m w h (rl m c))) := by
              have hVSa := VS_of hBa hv
              have hVSb := VS_of hBb hv
              have hFSa := FS_of hBa hv.f
              have hPSb := PS_of hBb hv.p
              have base : ∀ (r : Option (Int32 × rvS)), (if nI (vL m) = nI 0 then (fnX6_rename n Sb (67 + 8) (nI w) iM).bind fun S46_ => some (nI (fb_ct (fun c => decide (ow m c = w)) (vC m)), S46_) else if nI (vL m) = nI 2 then (fnX6_rename n Sb (67 + 8) (nI w) (nI h)).bind fun S38_ => some (nI (fb_ct (fun c => decide (ow m c = w)) (vC m)), S38_) else some (nI (fb_ct (fun c => decide (ow m c = w)) (vC m)), Sb)) = r → fnX9_bury n S 67 (nI w) (nI h) = r := by
                intro r hr
                rw [← hr, fnX9_bury]
                repeat (first | (conv => (lhs; arg 1; simp (disch := first | assumption | omega) only [tk_gI, tk_gL, tk_gR, tk_pI, tk_pL, rv_aI, rv_aL, rv_aR, rv_uI, rv_uL, rv_uB, rv_uZ, pu_ckI, pu_ckL, pu_lnI, pu_lnL, tk_rI, tk_rL, Option.bind_some, Option.map_some, rv_lt, tk_ix, z0, z1, z2, z3, z4, z5, z6, z7, z8, z9, z10, z11, z12, z13, z15, z16, z17, z18, z20, z21, z23, z24, z25, z31, z32, z39, z40, z41, z46, z48, z50, z57, z59, z60, z61, z62, z63, z64, z97, z98, z99, z100, z101, z102, z103, z104, z105, z106, z107, z108, z109, z110, z111, z112, z113, z114, z115, z116, z117, z118, z119, z120, z121, z122, z128, z132, z200, z240, z255, z372, z390625, z400, z420, z421, z422, z662, z900, z940, z999, z1000, z1024, z2000, z5860, z10000, z12345, z15625, z266240, z1048575, z1064960, z1103515245, z_m1, hVS, hPS, kco, pc_64 n S (show bs (fun c => decide (ow m c = w)) (vC m) < 18446744073709551616 by omega), ct_bs (fun c => decide (ow m c = w)) (show vC m ≤ 64 by omega), ea, hVSa, hFSa, eb, hVSb, b9])); first | rw [Option.bind_some] | rw [bp_s] | rw [if_true] | rw [if_false] | rw [rv_lt_eq] | rw [if_pos (by omega)] | rw [if_neg (by omega)])
                simp (disch := first | assumption | omega) only [tk_gI, tk_gL, tk_gR, tk_pI, tk_pL, rv_aI, rv_aL, rv_aR, rv_uI, rv_uL, rv_uB, rv_uZ, pu_ckI, pu_ckL, pu_lnI, pu_lnL, tk_rI, tk_rL, Option.bind_some, Option.map_some, rv_lt, tk_ix, z0, z1, z2, z3, z4, z5, z6, z7, z8, z9, z10, z11, z12, z13, z15, z16, z17, z18, z20, z21, z23, z24, z25, z31, z32, z39, z40, z41, z46, z48, z50, z57, z59, z60, z61, z62, z63, z64, z97, z98, z99, z100, z101, z102, z103, z104, z105, z106, z107, z108, z109, z110, z111, z112, z113, z114, z115, z116, z117, z118, z119, z120, z121, z122, z128, z132, z200, z240, z255, z372, z390625, z400, z420, z421, z422, z662, z900, z940, z999, z1000, z1024, z2000, z5860, z10000, z12345, z15625, z266240, z1048575, z1064960, z1103515245, z_m1, hVSb, hPSb, b9]
              have l012 : vL m = 0 ∨ vL m = 1 ∨ vL m = 2 := by omega
              rcases l012 with e | e | e
              · obtain ⟨Sc, ec, fc, gc⟩ := k_rename (n := n) (o := none) n50 hBb hv.p b75 b78 hp hc hw (fun h hh => by cases hh)
                refine ⟨Sc, base _ ?_, fc.f rfl, fun c hc' => ?_⟩
                · rw [if_pos (by rw [e])]
                  show (fnX6_rename n Sb (67 + 8) (nI w) (oI none)).bind _ = _
                  rw [ec]; rfl
                · rw [dR, if_neg (by omega), rn_fl, if_pos e]; exact gc c hc'
              · refine ⟨Sb, base _ ?_, rvf.rf _ _, fun c hc' => ?_⟩
                · rw [e, if_neg (by decide), if_neg (by decide)]
                · rw [dR, if_pos e]; exact b78 c hc'
              · obtain ⟨Sc, ec, fc, gc⟩ := k_rename (n := n) (o := some h) n50 hBb hv.p b75 b78 hp hc hw (fun h' hh' => by cases hh'; omega)
                refine ⟨Sc, base _ ?_, fc.f rfl, fun c hc' => ?_⟩
                · rw [e, if_neg (by decide), if_pos rfl]
                  show (fnX6_rename n Sb (67 + 8) (nI w) (oI (some h))).bind _ = _
                  rw [ec]; rfl
                · rw [dR, if_neg (by omega), rn_fl, if_neg (by omega)]; exact gc c hc'
            obtain ⟨Sc, ec, fc, gc⟩ := lst
            have hBc := fc.B hBb
            have f1 : rvf [77, 68, 74, 78] S Sc := (fa'.mono rfl).tr ((fb'.mono rfl).tr (fc.mono rfl))
            -- the reference
            obtain ⟨S2, e2, hB2, f2, hM2, r2, b2⟩ := start_ok hn hBc (hL.f f1 rfl rfl)
            have md2 := m_isDead (n := n) hB2 hM2 hp hw
            have mh2 := m_isDead (n := n) hB2 hM2 hp hh
            rw [decide_eq_false d1] at md2
            rw [decide_eq_false d2] at mh2
            have f3 : rvf [191] S2 (rv_sI S2 191 (10 + 5 * w) (nI 1)) := rvf.sIr S2 _ _ rfl
            have hM3 : MR (rv_sI S2 191 (10 + 5 * w) (nI 1)) (de1 m w) := hM2.u _ _
            have hB3 := f3.B hB2
            have e0 : vW (de1 m w) = vW m := de1_off (by omega)
            have hk1 : okm (de1 m w) := ⟨de1_okp hp hw, hc.c e0 (de1_off (by omega)) (de1_off (by omega)) (fun k h1 h2 => de1_off (by omega)), hd.c2 h24 (fun k hk => de1_off (by omega)) (fun k hk => de1_off (by omega))⟩
            obtain ⟨S4, m', e4, f4, hM4, dd, r4⟩ := m_dies (n := n) n50 hB3 hM3 hk1.1 hk1.2.1 hk1.2.2 (w := w) (h := h) (by rw [e0]; exact hw) (by rw [e0]; exact hh)
            obtain ⟨t1, t2, t3, t4⟩ := dd
            have eC : vC (de1 m w) = vC m := de1_off (by omega)
            have eL : vL (de1 m w) = vL m := de1_off (by omega)
            have eow : ∀ c, ow (de1 m w) c = ow m c := fun c => de1_off (by omega)
            have erl : ∀ c, rl (de1 m w) c = rl m c := fun c => by
              unfold rl
              rw [show mn (de1 m w) c = mn m c from de1_off (by omega), show rm (de1 m w) c 0 = rm m c 0 from de1_off (by omega), show rm (de1 m w) c 1 = rm m c 1 from de1_off (by omega), show rm (de1 m w) c 2 = rm m c 2 from de1_off (by omega)]
            have edR : ∀ l, dR (de1 m w) w h l = dR m w h l := fun l => by unfold dR; rw [eL]
            have efun : (fun c => decide (ow (de1 m w) c = w)) = (fun c => decide (ow m c = w)) := funext fun c => by rw [eow]
            rw [eC] at e4 t3
            rw [efun] at e4
            have lo : ∀ k, k < 132 → m' k = de1 m w k := fun k hk => t1 k (by omega)
            have hi : ∀ k, 372 ≤ k → m' k = de1 m w k := fun k hk => t1 k (by omega)
            have dlen : ∀ c, (dR m w h (rl m c)).length ≤ (rl m c).length := fun c => by
              unfold dR; split
              · exact Nat.le_refl _
              · exact rn_len _ _ _ _
            have hc' : okc m' := by
              obtain ⟨h1, hN, h3⟩ := hc
              have g0 : vW m' = vW m := (lo 0 (by decide)).trans e0
              have g1 : vC m' = vC m := (lo 1 (by decide)).trans eC
              have g3 : vN m' = vN m := (lo 3 (by decide)).trans (de1_off (by omega))
              refine ⟨by rw [g1]; exact h1, by rw [g3]; exact hN, fun c hcc => ?_⟩
              rw [g1] at hcc
              obtain ⟨a1, a2, a3, a4, a5⟩ := h3 c hcc
              obtain ⟨b1, b2', b3⟩ := t3 c hcc
              rw [eow] at b1
              rw [erl, edR] at b2' b3
              have va' : va m' c = va m c := (t2 c).trans (de1_off (by omega))
              have hl3 := rl_len (m := m) (c := c) (by omega)
              have dl := dlen c
              refine ⟨by rw [va']; exact a1, by rw [va']; exact a2, by rw [g0, b1]; split <;> assumption, by rw [g3, b3]; omega, fun i hii => ?_⟩
              have hm3 : mn m' c ≤ 3 := by rw [b3]; omega
              have := rl_get hm3 hii
              rw [b2'] at this
              rw [g0]
              have hmem := List.mem_of_getElem? this
              have hlm : ∀ x ∈ rl m c, x < vW m := (hk.2.1.l hcc).2
              unfold dR at hmem
              split at hmem
              · exact hlm _ hmem
              · exact rn_mem hlm hh _ hmem
            have hk' : okm m' := ⟨hk1.1.c lo, hc', hk1.2.2.c (by rw [e0]; exact h24) lo hi⟩
            have hR1 : CR Sc 67 m' := by
              have hFc : FR Sc (67 + 1) (de1 m w) := by
                obtain ⟨q1, q2, q3, q4, q5, q6, q7, q8⟩ := gb
                have g := fun (b : Nat) (h1 : rwb b = true) (h2 : [78].elem b = false) (k : Nat) => fc.row h1 h2 k
                exact ⟨(g _ rfl rfl _).trans q1, (g _ rfl rfl _).trans q2, (g _ rfl rfl _).trans q3, fun x hx => (g _ rfl rfl x).trans (q4 x hx), fun x hx => (g _ rfl rfl x).trans (q5 x hx), fun x hx => (g _ rfl rfl x).trans (q6 x hx), fun x hx => (g _ rfl rfl x).trans (q7 x hx), fun x hx => (g _ rfl rfl x).trans (q8 x hx)⟩
              have hDc : DR Sc 67 m := by
                obtain ⟨c1, c2, c3, c4, c5, c6, c7⟩ := hD
                exact ⟨(f1.row rfl rfl _).trans c1, (f1.row rfl rfl _).trans c2, (f1.row rfl rfl _).trans c3, (f1.row rfl rfl _).trans c4, fun k hk => (f1.row rfl rfl _).trans (c5 k hk), fun k hk => (f1.row rfl rfl _).trans (c6 k hk), fun k hk => (f1.row rfl rfl _).trans (c7 k hk)⟩
              have g1 : vC m' = vC m := (lo 1 (by decide)).trans eC
              have g3 : vN m' = vN m := (lo 3 (by decide)).trans (de1_off (by omega))
              obtain ⟨p1, p2, p3, p4, p5⟩ := hP
              refine ⟨hFc.c hk1.1 lo, ⟨?_, ?_, fun c hcc => ?_, fun c hcc => ?_, fun c hcc => ?_⟩, hDc.c2 ((lo 2 (by decide)).trans (de1_off (by omega))) ((lo 4 (by decide)).trans (de1_off (by omega))) ((lo 5 (by decide)).trans (de1_off (by omega))) (fun k hk => (hi k hk).trans (de1_off (by omega)))⟩
              · rw [g1]; exact (f1.row rfl rfl _).trans p1
              · rw [g3]; exact (f1.row rfl rfl _).trans p2
              · rw [g1] at hcc
                rw [show va m' c = va m c from (t2 c).trans (de1_off (by omega))]
                exact (f1.row rfl rfl _).trans (p3 c hcc)
              · rw [g1] at hcc
                rw [(t3 c hcc).1, eow]
                exact (fc.row rfl rfl _).trans ((fb'.row rfl rfl _).trans (ga c hcc))
              · rw [g1] at hcc
                rw [(t3 c hcc).2.1, erl, edR]
                exact gc c hcc
            have fz : rvf [189000, 189022, 191] Sc S4 := (f2.mono rfl).tr ((f3.mono rfl).tr (f4.mono rfl))
            have hb4 : ¬ S4.2.1 189 22 = 0 := by rw [f4.at (a := 189) (k := 22) rfl, f3.at (a := 189) (k := 22) rfl]; exact b2
            refine ⟨nI (fb_ct (fun c => decide (ow m c = w)) (vC m)), Sc, S4, m', ?_, ?_, QS.two hV f1 fz rfl rfl rfl rfl hR1 hM4 hb4 hk' ((lo 0 (by decide)).trans e0) ((lo 6 (by decide)).trans (de1_off (by omega))) (r2.tr ((R42.u (fun _ _ => rfl) _ (by omega)).tr r4))⟩
            · rw [fnX12_dies]
              repeat (first | (conv => (lhs; arg 1; simp (disch := first | assumption | omega) only [tk_gI, tk_gL, tk_gR, tk_pI, tk_pL, rv_aI, rv_aL, rv_aR, rv_uI, rv_uL, rv_uB, rv_uZ, pu_ckI, pu_ckL, pu_lnI, pu_lnL, tk_rI, tk_rL, Option.bind_some, Option.map_some, rv_lt, tk_ix, z0, z1, z2, z3, z4, z5, z6, z7, z8, z9, z10, z11, z12, z13, z15, z16, z17, z18, z20, z21, z23, z24, z25, z31, z32, z39, z40, z41, z46, z48, z50, z57, z59, z60, z61, z62, z63, z64, z97, z98, z99, z100, z101, z102, z103, z104, z105, z106, z107, z108, z109, z110, z111, z112, z113, z114, z115, z116, z117, z118, z119, z120, z121, z122, z128, z132, z200, z240, z255, z372, z390625, z400, z420, z421, z422, z662, z900, z940, z999, z1000, z1024, z2000, z5860, z10000, z12345, z15625, z266240, z1048575, z1064960, z1103515245, z_m1, n_le, n_lt, n_eq, n_bit0, n_bit1, n_sbit0, n_shl, z_ltM, z_Mlt, z_leM, z_Mle, z_eqM, z_Meq, bI0, bI1, bI_01, bI_01t, bI_10, bI_10f, if_true, if_false, eq_self, reduceCtorEq, hC, hVS, hFS, k_isWho hB hR hk hw, k_isWho hB hR hk hh, cwh, kd, kh, ec])); first | rw [Option.bind_some] | rw [bp_s] | rw [if_true] | rw [if_false] | rw [rv_lt_eq] | rw [if_pos (by omega)] | rw [if_neg (by omega)])
              all_goals rfl
            · have e10 : 8 + 5 * w + 2 = 10 + 5 * w := by omega
              rw [fnX13_dies]
              repeat (first | (conv => (lhs; arg 1; simp (disch := first | assumption | omega) only [tk_gI, tk_gL, tk_gR, tk_pI, tk_pL, rv_aI, rv_aL, rv_aR, rv_uI, rv_uL, rv_uB, rv_uZ, pu_ckI, pu_ckL, pu_lnI, pu_lnL, tk_rI, tk_rL, Option.bind_some, Option.map_some, rv_lt, tk_ix, z0, z1, z2, z3, z4, z5, z6, z7, z8, z9, z10, z11, z12, z13, z15, z16, z17, z18, z20, z21, z23, z24, z25, z31, z32, z39, z40, z41, z46, z48, z50, z57, z59, z60, z61, z62, z63, z64, z97, z98, z99, z100, z101, z102, z103, z104, z105, z106, z107, z108, z109, z110, z111, z112, z113, z114, z115, z116, z117, z118, z119, z120, z121, z122, z128, z132, z200, z240, z255, z372, z390625, z400, z420, z421, z422, z662, z900, z940, z999, z1000, z1024, z2000, z5860, z10000, z12345, z15625, z266240, z1048575, z1064960, z1103515245, z_m1, n_le, n_lt, n_eq, n_bit0, n_bit1, n_sbit0, n_shl, z_ltM, z_Mlt, z_leM, z_Mle, z_eqM, z_Meq, bI0, bI1, bI_01, bI_01t, bI_10, bI_10f, if_true, if_false, eq_self, reduceCtorEq, rc_189 hBc, e2, rc_189 hB2, m_isWho hB2 hM2 hp hw, m_isWho hB2 hM2 hp hh, cwh, md2, mh2, rf_of hB2 (show (189, 14, 191) ∈ rv_rf0 by decide), rn_191 hB2, nI_add, z_mul, e10])); first | rw [Option.bind_some] | rw [bp_s] | rw [if_true] | rw [if_false] | rw [rv_lt_eq] | rw [if_pos (by omega)] | rw [if_neg (by omega)])
              exact e4
    · refine same (r := iM) ?_ ⟨S6, ?_, QS.s0 hV f6 hM6 r6 b6⟩
      · rw [fnX12_dies]
        repeat (first | (conv => (lhs; arg 1; simp (disch := first | assumption | omega) only [tk_gI, tk_gL, tk_gR, tk_pI, tk_pL, rv_aI, rv_aL, rv_aR, rv_uI, rv_uL, rv_uB, rv_uZ, pu_ckI, pu_ckL, pu_lnI, pu_lnL, tk_rI, tk_rL, Option.bind_some, Option.map_some, rv_lt, tk_ix, z0, z1, z2, z3, z4, z5, z6, z7, z8, z9, z10, z11, z12, z13, z15, z16, z17, z18, z20, z21, z23, z24, z25, z31, z32, z39, z40, z41, z46, z48, z50, z57, z59, z60, z61, z62, z63, z64, z97, z98, z99, z100, z101, z102, z103, z104, z105, z106, z107, z108, z109, z110, z111, z112, z113, z114, z115, z116, z117, z118, z119, z120, z121, z122, z128, z132, z200, z240, z255, z372, z390625, z400, z420, z421, z422, z662, z900, z940, z999, z1000, z1024, z2000, z5860, z10000, z12345, z15625, z266240, z1048575, z1064960, z1103515245, z_m1, n_le, n_lt, n_eq, n_bit0, n_bit1, n_sbit0, n_shl, z_ltM, z_Mlt, z_leM, z_Mle, z_eqM, z_Meq, bI0, bI1, bI_01, bI_01t, bI_10, bI_10f, if_true, if_false, eq_self, reduceCtorEq, hC, k_isWho hB hR hk hw, k_isWho0 hB hR hy])); first | rw [Option.bind_some] | rw [bp_s] | rw [if_true] | rw [if_false] | rw [rv_lt_eq] | rw [if_pos (by omega)] | rw [if_neg (by omega)])
        all_goals rfl
      · rw [fnX13_dies]
        repeat (first | (conv => (lhs; arg 1; simp (disch := first | assumption | omega) only [tk_gI, tk_gL, tk_gR, tk_pI, tk_pL, rv_aI, rv_aL, rv_aR, rv_uI, rv_uL, rv_uB, rv_uZ, pu_ckI, pu_ckL, pu_lnI, pu_lnL, tk_rI, tk_rL, Option.bind_some, Option.map_some, rv_lt, tk_ix, z0, z1, z2, z3, z4, z5, z6, z7, z8, z9, z10, z11, z12, z13, z15, z16, z17, z18, z20, z21, z23, z24, z25, z31, z32, z39, z40, z41, z46, z48, z50, z57, z59, z60, z61, z62, z63, z64, z97, z98, z99, z100, z101, z102, z103, z104, z105, z106, z107, z108, z109, z110, z111, z112, z113, z114, z115, z116, z117, z118, z119, z120, z121, z122, z128, z132, z200, z240, z255, z372, z390625, z400, z420, z421, z422, z662, z900, z940, z999, z1000, z1024, z2000, z5860, z10000, z12345, z15625, z266240, z1048575, z1064960, z1103515245, z_m1, n_le, n_lt, n_eq, n_bit0, n_bit1, n_sbit0, n_shl, z_ltM, z_Mlt, z_leM, z_Mle, z_eqM, z_Meq, bI0, bI1, bI_01, bI_01t, bI_10, bI_10f, if_true, if_false, eq_self, reduceCtorEq, rc_189 hB, e6, rc_189 hB6, m_isWho hB6 hM6 hp hw, m_isWho0 hB6 hM6 hy])); first | rw [Option.bind_some] | rw [bp_s] | rw [if_true] | rw [if_false] | rw [rv_lt_eq] | rw [if_pos (by omega)] | rw [if_neg (by omega)])
        all_goals rfl
  · refine same (r := iM) ?_ ⟨S6, ?_, QS.s0 hV f6 hM6 r6 b6⟩
    · rw [fnX12_dies]
      repeat (first | (conv => (lhs; arg 1; simp (disch := first | assumption | omega) only [tk_gI, tk_gL, tk_gR, tk_pI, tk_pL, rv_aI, rv_aL, rv_aR, rv_uI, rv_uL, rv_uB, rv_uZ, pu_ckI, pu_ckL, pu_lnI, pu_lnL, tk_rI, tk_rL, Option.bind_some, Option.map_some, rv_lt, tk_ix, z0, z1, z2, z3, z4, z5, z6, z7, z8, z9, z10, z11, z12, z13, z15, z16, z17, z18, z20, z21, z23, z24, z25, z31, z32, z39, z40, z41, z46, z48, z50, z57, z59, z60, z61, z62, z63, z64, z97, z98, z99, z100, z101, z102, z103, z104, z105, z106, z107, z108, z109, z110, z111, z112, z113, z114, z115, z116, z117, z118, z119, z120, z121, z122, z128, z132, z200, z240, z255, z372, z390625, z400, z420, z421, z422, z662, z900, z940, z999, z1000, z1024, z2000, z5860, z10000, z12345, z15625, z266240, z1048575, z1064960, z1103515245, z_m1, n_le, n_lt, n_eq, n_bit0, n_bit1, n_sbit0, n_shl, z_ltM, z_Mlt, z_leM, z_Mle, z_eqM, z_Meq, bI0, bI1, bI_01, bI_01t, bI_10, bI_10f, if_true, if_false, eq_self, reduceCtorEq, hC, k_isWho0 hB hR hx])); first | rw [Option.bind_some] | rw [bp_s] | rw [if_true] | rw [if_false] | rw [rv_lt_eq] | rw [if_pos (by omega)] | rw [if_neg (by omega)])
      all_goals rfl
    · rw [fnX13_dies]
      repeat (first | (conv => (lhs; arg 1; simp (disch := first | assumption | omega) only [tk_gI, tk_gL, tk_gR, tk_pI, tk_pL, rv_aI, rv_aL, rv_aR, rv_uI, rv_uL, rv_uB, rv_uZ, pu_ckI, pu_ckL, pu_lnI, pu_lnL, tk_rI, tk_rL, Option.bind_some, Option.map_some, rv_lt, tk_ix, z0, z1, z2, z3, z4, z5, z6, z7, z8, z9, z10, z11, z12, z13, z15, z16, z17, z18, z20, z21, z23, z24, z25, z31, z32, z39, z40, z41, z46, z48, z50, z57, z59, z60, z61, z62, z63, z64, z97, z98, z99, z100, z101, z102, z103, z104, z105, z106, z107, z108, z109, z110, z111, z112, z113, z114, z115, z116, z117, z118, z119, z120, z121, z122, z128, z132, z200, z240, z255, z372, z390625, z400, z420, z421, z422, z662, z900, z940, z999, z1000, z1024, z2000, z5860, z10000, z12345, z15625, z266240, z1048575, z1064960, z1103515245, z_m1, n_le, n_lt, n_eq, n_bit0, n_bit1, n_sbit0, n_shl, z_ltM, z_Mlt, z_leM, z_Mle, z_eqM, z_Meq, bI0, bI1, bI_01, bI_01t, bI_10, bI_10f, if_true, if_false, eq_self, reduceCtorEq, rc_189 hB, e6, rc_189 hB6, m_isWho0 hB6 hM6 hx])); first | rw [Option.bind_some] | rw [bp_s] | rw [if_true] | rw [if_false] | rw [rv_lt_eq] | rw [if_pos (by omega)] | rw [if_neg (by omega)])
      all_goals rfl
end
