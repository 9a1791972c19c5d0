/-! CHANGE, CHANGED, WHO, COUNT -/
section
variable {n : Nat} {S : rvS} {m m' : Nat → Nat} {wd : Nat → List Nat}
/-- what a stranger earned more -/
def ern (m : Nat → Nat) (s v : Nat) : Nat → Nat := u1 m (12 + 5 * s) (ea m s + v)
theorem ern_off (m : Nat → Nat) {s k : Nat} (v : Nat) (h : k ≠ 12 + 5 * s) : ern m s v k = m k := u1_ne _ _ h
theorem ern_okm (hk : okm m) {s v : Nat} (hs : s < vW m) : okm (ern m s v) := by
  obtain ⟨hp, hc, hd⟩ := hk
  have h24 := hp.1
  have off : ∀ k, k % 5 ≠ 2 ∨ 132 ≤ k ∨ k < 12 → ern m s v k = m k := fun k hk => ern_off m v (by omega)
  have e0 : vW (ern m s v) = vW m := off 0 (by decide)
  have rdo : ∀ u, rd (ern m s v) u = rd m u := fun u => ern_off m v (by omega)
  refine ⟨?_, hc.c e0 (off 1 (by decide)) (off 3 (by decide)) (fun k h1 h2 => off k (by omega)), hd.c2 h24 (fun k hk => off k (by omega)) (fun k hk => off k (by omega))⟩
  obtain ⟨q1, q2, q3, q4, q5, q6⟩ := hp
  refine ⟨by rw [e0]; exact q1, fun w hw => ?_, fun w hw => ?_, fun a b ha hb => ?_, fun u hu => ?_, fun a b ha hb => ?_⟩
  · rw [e0] at hw
    rw [show at_ (ern m s v) w = at_ m w from off _ (by omega)]; exact q2 w hw
  · rw [e0] at hw
    rw [e0, show mt (ern m s v) w = mt m w from off _ (by omega), show de (ern m s v) w = de m w from off _ (by omega), show sg (ern m s v) w = sg m w from off _ (by omega)]; exact q3 w hw
  · rw [e0] at ha hb
    rw [show mt (ern m s v) a = mt m a from off _ (by omega), show mt (ern m s v) b = mt m b from off _ (by omega)]; exact q4 a b ha hb
  · rw [rdo]; exact q5 u hu
  · unfold nr; rw [rdo, rdo]; exact q6 a b ha hb
theorem ern_FR {f : Nat} (hF : FR S f m) (hp : okp m) {s v : Nat} (hs' : s < vW m) : FR (rv_sI S (f + 3) s (nI (ea m s + v))) f (ern m s v) := by
  obtain ⟨q1, q2, q3, q4, q5, q6, q7, q8⟩ := hF
  have h24 := hp.1
  have off : ∀ k, k % 5 ≠ 2 ∨ 132 ≤ k ∨ k < 12 → ern m s v k = m k := fun k hk => ern_off m v (by omega)
  have e0 : vW (ern m s v) = vW m := off 0 (by decide)
  have rdo : ∀ u, rd (ern m s v) u = rd m u := fun u => ern_off m v (by omega)
  refine ⟨?_, ?_, ?_, fun w hw => ?_, fun w hw => ?_, fun w hw => ?_, fun j hj => ?_, fun j hj => ?_⟩
  · rw [rv_sI_a _ _ _ (by omega), e0]; exact q1
  · rw [rv_sI_a _ _ _ (by omega), e0, q2]
    exact congrArg nI (bs_cong fun w hw => by rw [show de (ern m s v) w = de m w from off _ (by omega)])
  · rw [rv_sI_a _ _ _ (by omega), e0, q3]
    exact congrArg nI (bs_cong fun w hw => by rw [show sg (ern m s v) w = sg m w from off _ (by omega)])
  · rw [e0] at hw; rw [rv_sI_a _ _ _ (by omega), show at_ (ern m s v) w = at_ m w from off _ (by omega)]; exact q4 w hw
  · rw [e0] at hw; rw [rv_sI_a _ _ _ (by omega)]; unfold hs; rw [show mt (ern m s v) w = mt m w from off _ (by omega)]; exact q5 w hw
  · rw [e0] at hw
    by_cases c : w = s
    · subst c; rw [rv_sI_eq]; exact congrArg nI (u1_eq _ _ _).symm
    · rw [rv_sI_k _ _ c, show ea (ern m s v) w = ea m w from ern_off m v (by omega)]; exact q6 w hw
  · rw [rv_sI_a _ _ _ (by omega), rdo]; exact q7 j hj
  · rw [rv_sI_a _ _ _ (by omega), q8 j hj]
    unfold rc
    rw [e0]
    exact congrArg nI (bs_cong fun w hw => by
      unfold nr
      rw [rdo, show at_ (ern m s v) w = at_ m w from off _ (by omega), show de (ern m s v) w = de m w from off _ (by omega)])
theorem op_change (hn : 500 ≤ n) (hV : VI S m wd) (x y : Int32) : ∃ r S1 S' m', fnX12_change n S 64 x y = some (r, S1) ∧ fnX13_change n S1 189 x y = some (r, S') ∧ QS S S' m' wd := by
  obtain ⟨hB, hR, hL, hk, -⟩ := id hV; have hp := hk.1; have hc := hk.2.1; have hd := hk.2.2; obtain ⟨S6, e6, hB6, f6, hM6, r6, b6⟩ := start_ok hn hB hL; have hC := CS_of hB; have hv : vb 67 := Or.inl rfl; have hVS := VS_of hB hv; have hFS := FS_of hB hv.f; have hPS := PS_of hB hv.p; have h24 := hp.1; have h40 := hc.1; have n10 : 10 ≤ n := (by omega); have n50 : 50 ≤ n := (by omega)
  obtain ⟨hF, hP, hD⟩ := id hR
  have same : ∀ {r : Int32}, fnX12_change n S 64 x y = some (r, S) → (∃ S', fnX13_change n S 189 x y = some (r, S') ∧ QS S S' m wd) → ∃ r S1 S' m', fnX12_change n S 64 x y = some (r, S1) ∧ fnX13_change n S1 189 x y = some (r, S') ∧ QS S S' m' wd := fun h1 ⟨S', h2, h3⟩ => ⟨_, S, S', m, h1, h2, h3⟩
  rcases rng x (N := vC m) (by omega) with ⟨c, h, rfl⟩ | hx
  · rcases rng y (N := vC m) (by omega) with ⟨d, h', rfl⟩ | hy
    · have kw := k_wnc n10 hB hv hR hk h h'
      have w5 : wnc m c d ≤ 4 := by unfold wnc; repeat' (split; omega)
                                    omega
      by_cases c1 : wnc m c d = 0
      · rw [c1] at kw
        obtain ⟨v1, v2, v3, -⟩ := hc.2.2 c h
        obtain ⟨w1, w2, w3, -⟩ := hc.2.2 d h'
        have vle : va m d ≤ va m c := by
          unfold wnc at c1
          split at c1
          · omega
          · split at c1
            · omega
            · split at c1
              · omega
              · split at c1
                · rename_i z
                  exact Nat.le_trans z (Nat.sub_le _ _)
                · omega
        have hcd : c ≠ d := fun z => by
          subst z
          unfold wnc at c1
          split at c1
          · omega
          · split at c1
            · omega
            · rename_i z
              have : wy m (ow m c) (rl m c) (ow m c) ≠ 0 := by
                unfold wy
                split
                · omega
                · have : sh m (ow m c) (ow m c) = true := by unfold sh; simp
                  rw [if_pos this]; omega
              exact z this
        -- the class
        obtain ⟨Sa, eSa⟩ : ∃ Sa, Sa = rv_sI S (67 + 1 + 3) (ow m d) (nI (ea m (ow m d) + (va m c - va m d))) := ⟨_, rfl⟩
        have fa : rvf [71] S Sa := by rw [eSa]; exact rvf.sIr S _ _ rfl
        have hBa := fa.B hB
        have hPa : PR Sa (67 + 8) m := by rw [eSa]; exact hP
        have hPSa := PS_of hBa hv.p
        have k1 := k_move (n := n) hPSa hPa hp hc h (nI (ow m d))
        obtain ⟨Sb, eSb⟩ : ∃ Sb, Sb = rv_sI (rv_sI Sa (67 + 8 + 3) c (nI (rb (ps m (ow m c) (rl m c))))) (67 + 8 + 2) c (nI (ow m d)) := ⟨_, rfl⟩
        have hPb := mv_PR (w := ow m d) hPa hc h
        rw [← eSb] at k1 hPb
        have fb' : rvf [77, 78] Sa Sb := by rw [eSb]; exact ((rvf.rf _ _).w rfl rfl).w rfl rfl
        have hBb := fb'.B hBa
        have hPSb := PS_of hBb hv.p
        have hcb := mv_okc (w := ow m d) hc h w3
        have hkb := mv_okm (w := ow m d) hk h w3
        have elo := fun k hk => mv_lo (m := m) (c := c) (ow m d) k hk
        have h'b : d < vC (mv m c (ow m d)) := by rw [show vC (mv m c (ow m d)) = vC m from elo 1 (by decide)]; exact h'
        have k2 := k_move (n := n) hPSb hPb hkb.1 hcb h'b (nI (ow m c))
        obtain ⟨Sc, eSc⟩ : ∃ Sc, Sc = rv_sI (rv_sI Sb (67 + 8 + 3) d (nI (rb (ps (mv m c (ow m d)) (ow (mv m c (ow m d)) d) (rl (mv m c (ow m d)) d))))) (67 + 8 + 2) d (nI (ow m c)) := ⟨_, rfl⟩
        have hPc := mv_PR (w := ow m c) hPb hcb h'b
        rw [← eSc] at k2 hPc
        have fc' : rvf [77, 78] Sb Sc := by rw [eSc]; exact ((rvf.rf _ _).w rfl rfl).w rfl rfl
        have f1 : rvf [71, 77, 78] S Sc := (fa.mono rfl).tr ((fb'.mono rfl).tr (fc'.mono rfl))
        have hBc := f1.B hB
        -- the new valley
        have w3b : ow m c < vW (mv m c (ow m d)) := by rw [show vW (mv m c (ow m d)) = vW m from elo 0 (by decide)]; exact v3
        have hkc := mv_okm (w := ow m c) hkb h'b w3b
        have elo2 := fun k hk => mv_lo (m := mv m c (ow m d)) (c := d) (ow m c) k hk
        have lo : ∀ k, k < 132 → mv (mv m c (ow m d)) d (ow m c) k = m k := fun k hk => (elo2 k hk).trans (elo k hk)
        have hi : ∀ k, 372 ≤ k → mv (mv m c (ow m d)) d (ow m c) k = m k := fun k hk => (mv_hi (by omega) _ k hk).trans (mv_hi (by omega) _ k hk)
        have hsd : ow m d < vW (mv (mv m c (ow m d)) d (ow m c)) := by rw [show vW (mv (mv m c (ow m d)) d (ow m c)) = vW m from lo 0 (by decide)]; exact w3
        have hke := ern_okm (v := va m c - va m d) hkc hsd
        have hR1 : CR Sc 67 (ern (mv (mv m c (ow m d)) d (ow m c)) (ow m d) (va m c - va m d)) := by
          have eo : ∀ k, 132 ≤ k ∨ k < 8 → ern (mv (mv m c (ow m d)) d (ow m c)) (ow m d) (va m c - va m d) k = mv (mv m c (ow m d)) d (ow m c) k := fun k hk => ern_off _ _ (by omega)
          have hFa : FR Sa (67 + 1) (ern m (ow m d) (va m c - va m d)) := by rw [eSa]; exact ern_FR hF hp w3
          have hFb : FR Sc (67 + 1) (ern m (ow m d) (va m c - va m d)) := by rw [eSc, eSb]; exact hFa
          have hDc : DR Sc 67 m := by rw [eSc, eSb, eSa]; exact hD
          refine ⟨hFb.c (ern_okm hk w3).1 (fun k hk => ?_), hPc.c hkc.2.1.1 (eo 1 (by decide)) (eo 3 (by decide)) (fun k h1 h2 => eo k (by omega)), (hDc.c hd.1 lo hi).c2 (eo 2 (by decide)) (eo 4 (by decide)) (eo 5 (by decide)) (fun k h1 => eo k (by omega))⟩
          unfold ern u1
          by_cases cc : k = 12 + 5 * ow m d
          · rw [if_pos cc, if_pos cc, show ea (mv (mv m c (ow m d)) d (ow m c)) (ow m d) = ea m (ow m d) from lo _ (by omega)]
          · rw [if_neg cc, if_neg cc]; exact lo k hk
        -- the reference
        obtain ⟨S2, e2, hB2, f2, hM2, r2, b2⟩ := start_ok hn hBc (hL.f f1 rfl rfl)
        obtain ⟨S3, e3, f3⟩ := m_wnc n50 hB2 hM2 hk h h'
        have hB3 := f3.B hB2
        have hM3 := hM2.f f3 rfl
        rw [c1] at e3
        obtain ⟨S4, e4, f4, hM4, r4⟩ := m_goes n10 hB3 hM3 hc h (ow m d)
        have hB4 := f4.B hB3
        obtain ⟨S5, e5, f5, hM5, r5⟩ := m_goes n10 hB4 hM4 hcb h'b (ow m c)
        have hB5 := f5.B hB4
        have q5 : S5.2.1 191 (8 + 5 * ow m d + 4) = nI (ea m (ow m d)) := by
          rw [hM5 _ (by omega), lo _ (by omega)]
          exact congrArg (fun k => nI (m k)) (by omega)
        have vc5 : va (mv (mv m c (ow m d)) d (ow m c)) c = va m c := by rw [mv_va, mv_va]
        have vd5 : va (mv (mv m c (ow m d)) d (ow m c)) d = va m d := by rw [mv_va, mv_va]
        have fz : rvf [189000, 189022, 191, 199] Sc (rv_sI S5 191 (12 + 5 * ow m d) (nI (ea m (ow m d) + (va m c - va m d)))) := ((f2.mono rfl).tr ((f3.mono rfl).tr ((f4.mono rfl).tr (f5.mono rfl)))).w rfl rfl
        have hb5 : ¬ (rv_sI S5 191 (12 + 5 * ow m d) (nI (ea m (ow m d) + (va m c - va m d)))).2.1 189 22 = 0 := by
          rw [rv_sI_a _ _ _ (by decide), f5.at (a := 189) (k := 22) rfl, f4.at (a := 189) (k := 22) rfl, f3.at (a := 189) (k := 22) rfl]; exact b2
        have hM6' : MR (rv_sI S5 191 (12 + 5 * ow m d) (nI (ea m (ow m d) + (va m c - va m d)))) (ern (mv (mv m c (ow m d)) d (ow m c)) (ow m d) (va m c - va m d)) := by
          have := hM5.u (12 + 5 * ow m d) (ea m (ow m d) + (va m c - va m d))
          unfold ern
          rw [show ea (mv (mv m c (ow m d)) d (ow m c)) (ow m d) = ea m (ow m d) from lo _ (by omega)]
          exact this
        have e12 : 8 + 5 * ow m d + 4 = 12 + 5 * ow m d := by omega
        rw [e12] at q5
        refine ⟨nI 0, Sc, _, ern (mv (mv m c (ow m d)) d (ow m c)) (ow m d) (va m c - va m d), ?_, ?_, QS.two hV f1 fz rfl rfl rfl rfl hR1 hM6' hb5 hke ((ern_off _ _ (by omega)).trans (lo 0 (by decide))) ((ern_off _ _ (by omega)).trans (lo 6 (by decide))) ((r2.tr ((R42.of f3 rfl).tr (r4.tr r5))).u _ (by omega))⟩
        · rw [fnX12_change]
          have sw : fnX9_swap n S 67 (nI c) (nI d) = some Sc := by
            rw [fnX9_swap]
            have ke := k_earn (n := n) hFS hF hp (v := va m c - va m d) w3
            rw [← eSa] at ke
            repeat (first | (conv => (lhs; arg 1; simp (disch := first | assumption | omega) only [tk_gI, tk_gL, tk_gR, tk_pI, tk_pL, rv_aI, rv_aL, rv_aR, rv_uI, rv_uL, rv_uB, rv_uZ, pu_ckI, pu_ckL, pu_lnI, pu_lnL, tk_rI, tk_rL, Option.bind_some, Option.map_some, rv_lt, tk_ix, z0, z1, z2, z3, z4, z5, z6, z7, z8, z9, z10, z11, z12, z13, z15, z16, z17, z18, z20, z21, z23, z24, z25, z31, z32, z39, z40, z41, z46, z48, z50, z57, z59, z60, z61, z62, z63, z64, z97, z98, z99, z100, z101, z102, z103, z104, z105, z106, z107, z108, z109, z110, z111, z112, z113, z114, z115, z116, z117, z118, z119, z120, z121, z122, z128, z132, z200, z240, z255, z372, z390625, z400, z420, z421, z422, z662, z900, z940, z999, z1000, z1024, z2000, z5860, z10000, z12345, z15625, z266240, z1048575, z1064960, z1103515245, z_m1, n_le, n_lt, n_eq, n_bit0, n_bit1, n_sbit0, n_shl, z_ltM, z_Mlt, z_leM, z_Mle, z_eqM, z_Meq, bI0, bI1, bI_01, bI_01t, bI_10, bI_10f, if_true, if_false, eq_self, reduceCtorEq, if_pos, if_neg, hVS, hPS, hP, hFS, z_sub, ke])); first | rw [Option.bind_some] | rw [bp_s] | rw [if_true] | rw [if_false] | rw [rv_lt_eq] | rw [if_pos (by omega)] | rw [if_neg (by omega)])
            have hVSa := VS_of hBa hv
            have hVSb := VS_of hBb hv
            repeat (first | (conv => (lhs; arg 1; simp (disch := first | assumption | omega) only [tk_gI, tk_gL, tk_gR, tk_pI, tk_pL, rv_aI, rv_aL, rv_aR, rv_uI, rv_uL, rv_uB, rv_uZ, pu_ckI, pu_ckL, pu_lnI, pu_lnL, tk_rI, tk_rL, Option.bind_some, Option.map_some, rv_lt, tk_ix, z0, z1, z2, z3, z4, z5, z6, z7, z8, z9, z10, z11, z12, z13, z15, z16, z17, z18, z20, z21, z23, z24, z25, z31, z32, z39, z40, z41, z46, z48, z50, z57, z59, z60, z61, z62, z63, z64, z97, z98, z99, z100, z101, z102, z103, z104, z105, z106, z107, z108, z109, z110, z111, z112, z113, z114, z115, z116, z117, z118, z119, z120, z121, z122, z128, z132, z200, z240, z255, z372, z390625, z400, z420, z421, z422, z662, z900, z940, z999, z1000, z1024, z2000, z5860, z10000, z12345, z15625, z266240, z1048575, z1064960, z1103515245, z_m1, hVSa, hPSa, hVSb, hPSb, k1, k2])); first | rw [Option.bind_some] | rw [bp_s] | rw [if_true] | rw [if_false] | rw [rv_lt_eq] | rw [if_pos (by omega)] | rw [if_neg (by omega)])
            all_goals rfl
          repeat (first | (conv => (lhs; arg 1; simp (disch := first | assumption | omega) only [tk_gI, tk_gL, tk_gR, tk_pI, tk_pL, rv_aI, rv_aL, rv_aR, rv_uI, rv_uL, rv_uB, rv_uZ, pu_ckI, pu_ckL, pu_lnI, pu_lnL, tk_rI, tk_rL, Option.bind_some, Option.map_some, rv_lt, tk_ix, z0, z1, z2, z3, z4, z5, z6, z7, z8, z9, z10, z11, z12, z13, z15, z16, z17, z18, z20, z21, z23, z24, z25, z31, z32, z39, z40, z41, z46, z48, z50, z57, z59, z60, z61, z62, z63, z64, z97, z98, z99, z100, z101, z102, z103, z104, z105, z106, z107, z108, z109, z110, z111, z112, z113, z114, z115, z116, z117, z118, z119, z120, z121, z122, z128, z132, z200, z240, z255, z372, z390625, z400, z420, z421, z422, z662, z900, z940, z999, z1000, z1024, z2000, z5860, z10000, z12345, z15625, z266240, z1048575, z1064960, z1103515245, z_m1, n_le, n_lt, n_eq, n_bit0, n_bit1, n_sbit0, n_shl, z_ltM, z_Mlt, z_leM, z_Mle, z_eqM, z_Meq, bI0, bI1, bI_01, bI_01t, bI_10, bI_10f, if_true, if_false, eq_self, reduceCtorEq, hC, hVS, k_isCoin hB hR hk h, k_isCoin hB hR hk h', kw, sw])); first | rw [Option.bind_some] | rw [bp_s] | rw [if_true] | rw [if_false] | rw [rv_lt_eq] | rw [if_pos (by omega)] | rw [if_neg (by omega)])
          all_goals rfl
        · rw [fnX13_change]
          repeat (first | (conv => (lhs; arg 1; simp (disch := first | assumption | omega) only [tk_gI, tk_gL, tk_gR, tk_pI, tk_pL, rv_aI, rv_aL, rv_aR, rv_uI, rv_uL, rv_uB, rv_uZ, pu_ckI, pu_ckL, pu_lnI, pu_lnL, tk_rI, tk_rL, Option.bind_some, Option.map_some, rv_lt, tk_ix, z0, z1, z2, z3, z4, z5, z6, z7, z8, z9, z10, z11, z12, z13, z15, z16, z17, z18, z20, z21, z23, z24, z25, z31, z32, z39, z40, z41, z46, z48, z50, z57, z59, z60, z61, z62, z63, z64, z97, z98, z99, z100, z101, z102, z103, z104, z105, z106, z107, z108, z109, z110, z111, z112, z113, z114, z115, z116, z117, z118, z119, z120, z121, z122, z128, z132, z200, z240, z255, z372, z390625, z400, z420, z421, z422, z662, z900, z940, z999, z1000, z1024, z2000, z5860, z10000, z12345, z15625, z266240, z1048575, z1064960, z1103515245, z_m1, n_le, n_lt, n_eq, n_bit0, n_bit1, n_sbit0, n_shl, z_ltM, z_Mlt, z_leM, z_Mle, z_eqM, z_Meq, bI0, bI1, bI_01, bI_01t, bI_10, bI_10f, if_true, if_false, eq_self, reduceCtorEq, rc_189 hBc, e2, rc_189 hB2, m_isCoin hB2 hM2 hc h, m_isCoin hB2 hM2 hc h', e3, rc_189 hB3, m_ow hB3 hM3, e4, rc_189 hB4, e5, rc_189 hB5, rf_of hB5 (show (189, 14, 191) ∈ rv_rf0 by decide), rn_191 hB5, nI_add, z_mul, e12, q5, m_va hB5 hM5, vc5, vd5, z_sub])); first | rw [Option.bind_some] | rw [bp_s] | rw [if_true] | rw [if_false] | rw [rv_lt_eq] | rw [if_pos (by omega)] | rw [if_neg (by omega)])
          all_goals rfl
      · have kwm := m_wnc n50 hB6 hM6 hk h h'
        obtain ⟨S', e, f⟩ := kwm
        refine same (r := nI (wnc m c d)) ?_ ⟨S', ?_, QS.st hV f6 hM6 r6 b6 f⟩
        · rw [fnX12_change]
          repeat (first | (conv => (lhs; arg 1; simp (disch := first | assumption | omega) only [tk_gI, tk_gL, tk_gR, tk_pI, tk_pL, rv_aI, rv_aL, rv_aR, rv_uI, rv_uL, rv_uB, rv_uZ, pu_ckI, pu_ckL, pu_lnI, pu_lnL, tk_rI, tk_rL, Option.bind_some, Option.map_some, rv_lt, tk_ix, z0, z1, z2, z3, z4, z5, z6, z7, z8, z9, z10, z11, z12, z13, z15, z16, z17, z18, z20, z21, z23, z24, z25, z31, z32, z39, z40, z41, z46, z48, z50, z57, z59, z60, z61, z62, z63, z64, z97, z98, z99, z100, z101, z102, z103, z104, z105, z106, z107, z108, z109, z110, z111, z112, z113, z114, z115, z116, z117, z118, z119, z120, z121, z122, z128, z132, z200, z240, z255, z372, z390625, z400, z420, z421, z422, z662, z900, z940, z999, z1000, z1024, z2000, z5860, z10000, z12345, z15625, z266240, z1048575, z1064960, z1103515245, z_m1, n_le, n_lt, n_eq, n_bit0, n_bit1, n_sbit0, n_shl, z_ltM, z_Mlt, z_leM, z_Mle, z_eqM, z_Meq, bI0, bI1, bI_01, bI_01t, bI_10, bI_10f, if_true, if_false, eq_self, reduceCtorEq, hC, hVS, k_isCoin hB hR hk h, k_isCoin hB hR hk h', kw, c1])); first | rw [Option.bind_some] | rw [bp_s] | rw [if_true] | rw [if_false] | rw [rv_lt_eq] | rw [if_pos (by omega)] | rw [if_neg (by omega)])
        · rw [fnX13_change]
          repeat (first | (conv => (lhs; arg 1; simp (disch := first | assumption | omega) only [tk_gI, tk_gL, tk_gR, tk_pI, tk_pL, rv_aI, rv_aL, rv_aR, rv_uI, rv_uL, rv_uB, rv_uZ, pu_ckI, pu_ckL, pu_lnI, pu_lnL, tk_rI, tk_rL, Option.bind_some, Option.map_some, rv_lt, tk_ix, z0, z1, z2, z3, z4, z5, z6, z7, z8, z9, z10, z11, z12, z13, z15, z16, z17, z18, z20, z21, z23, z24, z25, z31, z32, z39, z40, z41, z46, z48, z50, z57, z59, z60, z61, z62, z63, z64, z97, z98, z99, z100, z101, z102, z103, z104, z105, z106, z107, z108, z109, z110, z111, z112, z113, z114, z115, z116, z117, z118, z119, z120, z121, z122, z128, z132, z200, z240, z255, z372, z390625, z400, z420, z421, z422, z662, z900, z940, z999, z1000, z1024, z2000, z5860, z10000, z12345, z15625, z266240, z1048575, z1064960, z1103515245, z_m1, n_le, n_lt, n_eq, n_bit0, n_bit1, n_sbit0, n_shl, z_ltM, z_Mlt, z_leM, z_Mle, z_eqM, z_Meq, bI0, bI1, bI_01, bI_01t, bI_10, bI_10f, if_true, if_false, eq_self, reduceCtorEq, rc_189 hB, e6, rc_189 hB6, m_isCoin hB6 hM6 hc h, m_isCoin hB6 hM6 hc h', e, c1])); first | rw [Option.bind_some] | rw [bp_s] | rw [if_true] | rw [if_false] | rw [rv_lt_eq] | rw [if_pos (by omega)] | rw [if_neg (by omega)])
    · refine same (r := iM) ?_ ⟨S6, ?_, QS.s0 hV f6 hM6 r6 b6⟩
      · simp (disch := first | assumption | omega) only [fnX12_change, tk_gI, tk_gL, tk_gR, tk_pI, tk_pL, rv_aI, rv_aL, rv_aR, rv_uI, rv_uL, rv_uB, rv_uZ, pu_ckI, pu_ckL, pu_lnI, pu_lnL, tk_rI, tk_rL, Option.bind_some, Option.map_some, rv_lt, tk_ix, z0, z1, z2, z3, z4, z5, z6, z7, z8, z9, z10, z11, z12, z13, z15, z16, z17, z18, z20, z21, z23, z24, z25, z31, z32, z39, z40, z41, z46, z48, z50, z57, z59, z60, z61, z62, z63, z64, z97, z98, z99, z100, z101, z102, z103, z104, z105, z106, z107, z108, z109, z110, z111, z112, z113, z114, z115, z116, z117, z118, z119, z120, z121, z122, z128, z132, z200, z240, z255, z372, z390625, z400, z420, z421, z422, z662, z900, z940, z999, z1000, z1024, z2000, z5860, z10000, z12345, z15625, z266240, z1048575, z1064960, z1103515245, z_m1, n_le, n_lt, n_eq, n_bit0, n_bit1, n_sbit0, n_shl, z_ltM, z_Mlt, z_leM, z_Mle, z_eqM, z_Meq, bI0, bI1, bI_01, bI_01t, bI_10, bI_10f, if_true, if_false, eq_self, reduceCtorEq, hC, k_isCoin hB hR hk h, k_isCoin0 hB hR hy]
      · rw [fnX13_change]
        repeat (first | (conv => (lhs; arg 1; simp (disch := first | assumption | omega) only [tk_gI, tk_gL, tk_gR, tk_pI, tk_pL, rv_aI, rv_aL, rv_aR, rv_uI, rv_uL, rv_uB, rv_uZ, pu_ckI, pu_ckL, pu_lnI, pu_lnL, tk_rI, tk_rL, Option.bind_some, Option.map_some, rv_lt, tk_ix, z0, z1, z2, z3, z4, z5, z6, z7, z8, z9, z10, z11, z12, z13, z15, z16, z17, z18, z20, z21, z23, z24, z25, z31, z32, z39, z40, z41, z46, z48, z50, z57, z59, z60, z61, z62, z63, z64, z97, z98, z99, z100, z101, z102, z103, z104, z105, z106, z107, z108, z109, z110, z111, z112, z113, z114, z115, z116, z117, z118, z119, z120, z121, z122, z128, z132, z200, z240, z255, z372, z390625, z400, z420, z421, z422, z662, z900, z940, z999, z1000, z1024, z2000, z5860, z10000, z12345, z15625, z266240, z1048575, z1064960, z1103515245, z_m1, n_le, n_lt, n_eq, n_bit0, n_bit1, n_sbit0, n_shl, z_ltM, z_Mlt, z_leM, z_Mle, z_eqM, z_Meq, bI0, bI1, bI_01, bI_01t, bI_10, bI_10f, if_true, if_false, eq_self, reduceCtorEq, rc_189 hB, e6, rc_189 hB6, m_isCoin hB6 hM6 hc h, m_isCoin0 hB6 hM6 hy])); first | rw [Option.bind_some] | rw [bp_s] | rw [if_true] | rw [if_false] | rw [rv_lt_eq] | rw [if_pos (by omega)] | rw [if_neg (by omega)])
        all_goals rfl
  · refine same (r := iM) ?_ ⟨S6, ?_, QS.s0 hV f6 hM6 r6 b6⟩
    · simp (disch := first | assumption | omega) only [fnX12_change, tk_gI, tk_gL, tk_gR, tk_pI, tk_pL, rv_aI, rv_aL, rv_aR, rv_uI, rv_uL, rv_uB, rv_uZ, pu_ckI, pu_ckL, pu_lnI, pu_lnL, tk_rI, tk_rL, Option.bind_some, Option.map_some, rv_lt, tk_ix, z0, z1, z2, z3, z4, z5, z6, z7, z8, z9, z10, z11, z12, z13, z15, z16, z17, z18, z20, z21, z23, z24, z25, z31, z32, z39, z40, z41, z46, z48, z50, z57, z59, z60, z61, z62, z63, z64, z97, z98, z99, z100, z101, z102, z103, z104, z105, z106, z107, z108, z109, z110, z111, z112, z113, z114, z115, z116, z117, z118, z119, z120, z121, z122, z128, z132, z200, z240, z255, z372, z390625, z400, z420, z421, z422, z662, z900, z940, z999, z1000, z1024, z2000, z5860, z10000, z12345, z15625, z266240, z1048575, z1064960, z1103515245, z_m1, n_le, n_lt, n_eq, n_bit0, n_bit1, n_sbit0, n_shl, z_ltM, z_Mlt, z_leM, z_Mle, z_eqM, z_Meq, bI0, bI1, bI_01, bI_01t, bI_10, bI_10f, if_true, if_false, eq_self, reduceCtorEq, hC, k_isCoin0 hB hR hx]
    · rw [fnX13_change]
      repeat (first | (conv => (lhs; arg 1; simp (disch := first | assumption | omega) only [tk_gI, tk_gL, tk_gR, tk_pI, tk_pL, rv_aI, rv_aL, rv_aR, rv_uI, rv_uL, rv_uB, rv_uZ, pu_ckI, pu_ckL, pu_lnI, pu_lnL, tk_rI, tk_rL, Option.bind_some, Option.map_some, rv_lt, tk_ix, z0, z1, z2, z3, z4, z5, z6, z7, z8, z9, z10, z11, z12, z13, z15, z16, z17, z18, z20, z21, z23, z24, z25, z31, z32, z39, z40, z41, z46, z48, z50, z57, z59, z60, z61, z62, z63, z64, z97, z98, z99, z100, z101, z102, z103, z104, z105, z106, z107, z108, z109, z110, z111, z112, z113, z114, z115, z116, z117, z118, z119, z120, z121, z122, z128, z132, z200, z240, z255, z372, z390625, z400, z420, z421, z422, z662, z900, z940, z999, z1000, z1024, z2000, z5860, z10000, z12345, z15625, z266240, z1048575, z1064960, z1103515245, z_m1, n_le, n_lt, n_eq, n_bit0, n_bit1, n_sbit0, n_shl, z_ltM, z_Mlt, z_leM, z_Mle, z_eqM, z_Meq, bI0, bI1, bI_01, bI_01t, bI_10, bI_10f, if_true, if_false, eq_self, reduceCtorEq, rc_189 hB, e6, rc_189 hB6, m_isCoin0 hB6 hM6 hx])); first | rw [Option.bind_some] | rw [bp_s] | rw [if_true] | rw [if_false] | rw [rv_lt_eq] | rw [if_pos (by omega)] | rw [if_neg (by omega)])
      all_goals rfl
/-! CHANGED -/
def oI : Option Nat → Int32
  | none => iM
  | some d => nI d
def mre (m : Nat → Nat) (f : Option Nat) (d : Nat) : Bool := match f with
  | none => true
  | some e => decide (va m e < va m d)
def ch (m : Nat → Nat) (c b : Nat) : Nat → Option Nat
  | 0 => none
  | d + 1 => if mre m (ch m c b d) d && (decide (wnc m c d = 0) && decide (wy m (ow m c) (ps m (ow m d) (rl m d)) b = 0)) then some d else ch m c b d
theorem ch_lt (m : Nat → Nat) (c b : Nat) : ∀ d e, ch m c b d = some e → e < d
  | 0, e, h => by cases h
  | d + 1, e, h => by
    rw [ch] at h
    split at h
    · cases h; omega
    · have := ch_lt m c b d e h; omega
theorem wnc_le (m : Nat → Nat) (c d : Nat) : wnc m c d ≤ 4 := by
  unfold wnc
  repeat' (split; omega)
  omega
theorem k_changed (hn : 50 ≤ n) (hB : rv_B S) (hR : CR S 67 m) (hk : okm m) {c b : Nat} (h : c < vC m) (hb : b < vW m) : cX12_changed_23 n S n 64 (nI c) (nI b) iM (nI 0) = some (oI (ch m c b (vC m))) := by
  have hv : vb 67 := Or.inl rfl
  have kw := fun d (h' : d < vC m) => k_wnc (n := n) (by omega) hB hv hR hk h h'
  have kg := fun d (h' : d < vC m) => k_goesOn (n := n) (by omega) hB hv hR hk h h' hb
  have hVS := VS_of hB hv; have hFS := FS_of hB hv.f; have hPS := PS_of hB hv.p; obtain ⟨hF, hP, hD⟩ := hR; obtain ⟨hp, hc, hd⟩ := hk
  have hC := CS_of hB
  have h40 := hc.1
  refine lpd (F := fun q (x : Int32 × Int32) => cX12_changed_23 n S q 64 (nI c) (nI b) x.1 x.2) (fun i => (oI (ch m c b i), nI i)) _ (vC m) (fun i q hi => ?_) (fun q => ?_) (i := 0) (q := n) (Nat.zero_le _) (by omega)
  · obtain ⟨w1, w2, w3, -⟩ := hc.2.2 i hi
    have w5 := wnc_le m c i
    have g5 := wy_le m (ow m c) (ps m (ow m i) (rl m i)) b
    show cX12_changed_23 n S (q + 1) 64 (nI c) (nI b) (oI (ch m c b i)) (nI i) = cX12_changed_23 n S q 64 (nI c) (nI b) (oI (ch m c b (i + 1))) (nI (i + 1))
    have e76 : cX12_changed_71 n (fun a0 x1 x2 x3 x4 => cX12_changed_23 n S q a0 x1 x2 x3 x4) S 64 (nI c) (nI b) (oI (ch m c b i)) (nI i) = cX12_changed_23 n S q 64 (nI c) (nI b) (oI (if decide (wnc m c i = 0) && decide (wy m (ow m c) (ps m (ow m i) (rl m i)) b = 0) then some i else ch m c b i)) (nI (i + 1)) := by
      rw [cX12_changed_71, cX12_changed_76]
      repeat (first | (conv => (lhs; arg 1; simp (disch := first | assumption | omega) only [tk_gI, tk_gL, tk_gR, tk_pI, tk_pL, rv_aI, rv_aL, rv_aR, rv_uI, rv_uL, rv_uB, rv_uZ, pu_ckI, pu_ckL, pu_lnI, pu_lnL, tk_rI, tk_rL, Option.bind_some, Option.map_some, rv_lt, tk_ix, z0, z1, z2, z3, z4, z5, z6, z7, z8, z9, z10, z11, z12, z13, z15, z16, z17, z18, z20, z21, z23, z24, z25, z31, z32, z39, z40, z41, z46, z48, z50, z57, z59, z60, z61, z62, z63, z64, z97, z98, z99, z100, z101, z102, z103, z104, z105, z106, z107, z108, z109, z110, z111, z112, z113, z114, z115, z116, z117, z118, z119, z120, z121, z122, z128, z132, z200, z240, z255, z372, z390625, z400, z420, z421, z422, z662, z900, z940, z999, z1000, z1024, z2000, z5860, z10000, z12345, z15625, z266240, z1048575, z1064960, z1103515245, z_m1, n_le, n_lt, n_eq, n_bit0, n_bit1, n_sbit0, n_shl, z_ltM, z_Mlt, z_leM, z_Mle, z_eqM, z_Meq, bI0, bI1, bI_01, bI_01t, bI_10, bI_10f, if_true, if_false, eq_self, reduceCtorEq, hC, hVS, kw i hi, nI_add])); first | rw [Option.bind_some] | rw [bp_s] | rw [if_true] | rw [if_false] | rw [rv_lt_eq] | rw [if_pos (by omega)] | rw [if_neg (by omega)])
      by_cases c1 : wnc m c i = 0
      · repeat (first | (conv => (lhs; arg 1; simp (disch := first | assumption | omega) only [tk_gI, tk_gL, tk_gR, tk_pI, tk_pL, rv_aI, rv_aL, rv_aR, rv_uI, rv_uL, rv_uB, rv_uZ, pu_ckI, pu_ckL, pu_lnI, pu_lnL, tk_rI, tk_rL, Option.bind_some, Option.map_some, rv_lt, tk_ix, z0, z1, z2, z3, z4, z5, z6, z7, z8, z9, z10, z11, z12, z13, z15, z16, z17, z18, z20, z21, z23, z24, z25, z31, z32, z39, z40, z41, z46, z48, z50, z57, z59, z60, z61, z62, z63, z64, z97, z98, z99, z100, z101, z102, z103, z104, z105, z106, z107, z108, z109, z110, z111, z112, z113, z114, z115, z116, z117, z118, z119, z120, z121, z122, z128, z132, z200, z240, z255, z372, z390625, z400, z420, z421, z422, z662, z900, z940, z999, z1000, z1024, z2000, z5860, z10000, z12345, z15625, z266240, z1048575, z1064960, z1103515245, z_m1, n_le, n_lt, n_eq, n_bit0, n_bit1, n_sbit0, n_shl, z_ltM, z_Mlt, z_leM, z_Mle, z_eqM, z_Meq, bI0, bI1, bI_01, bI_01t, bI_10, bI_10f, if_true, if_false, eq_self, reduceCtorEq, hC, hVS, c1, kg i hi, nI_add])); first | rw [Option.bind_some] | rw [bp_s] | rw [if_true] | rw [if_false] | rw [rv_lt_eq] | rw [if_pos (by omega)] | rw [if_neg (by omega)])
        by_cases c2 : wy m (ow m c) (ps m (ow m i) (rl m i)) b = 0
        · simp only [c1, c2, z0, bI0, nI_1, nI_add, rv_lt, decide_true, decide_false, Bool.and_self, Bool.and_true, Bool.true_and, Bool.false_and, Bool.and_false, if_true, if_false, reduceCtorEq]
          all_goals rfl
        · simp only [c1, c2, z0, bI0, nI_1, nI_add, rv_lt, decide_true, decide_false, Bool.and_self, Bool.and_true, Bool.true_and, Bool.false_and, Bool.and_false, if_true, if_false, reduceCtorEq]
      · repeat (first | (conv => (lhs; arg 1; simp (disch := first | assumption | omega) only [tk_gI, tk_gL, tk_gR, tk_pI, tk_pL, rv_aI, rv_aL, rv_aR, rv_uI, rv_uL, rv_uB, rv_uZ, pu_ckI, pu_ckL, pu_lnI, pu_lnL, tk_rI, tk_rL, Option.bind_some, Option.map_some, rv_lt, tk_ix, z0, z1, z2, z3, z4, z5, z6, z7, z8, z9, z10, z11, z12, z13, z15, z16, z17, z18, z20, z21, z23, z24, z25, z31, z32, z39, z40, z41, z46, z48, z50, z57, z59, z60, z61, z62, z63, z64, z97, z98, z99, z100, z101, z102, z103, z104, z105, z106, z107, z108, z109, z110, z111, z112, z113, z114, z115, z116, z117, z118, z119, z120, z121, z122, z128, z132, z200, z240, z255, z372, z390625, z400, z420, z421, z422, z662, z900, z940, z999, z1000, z1024, z2000, z5860, z10000, z12345, z15625, z266240, z1048575, z1064960, z1103515245, z_m1, n_le, n_lt, n_eq, n_bit0, n_bit1, n_sbit0, n_shl, z_ltM, z_Mlt, z_leM, z_Mle, z_eqM, z_Meq, bI0, bI1, bI_01, bI_01t, bI_10, bI_10f, if_true, if_false, eq_self, reduceCtorEq, c1])); first | rw [Option.bind_some] | rw [bp_s] | rw [if_true] | rw [if_false] | rw [rv_lt_eq] | rw [if_pos (by omega)] | rw [if_neg (by omega)])
        simp only [c1, z0, bI0, nI_1, nI_add, rv_lt, decide_true, decide_false, Bool.and_self, Bool.and_true, Bool.true_and, Bool.false_and, Bool.and_false, if_true, if_false, reduceCtorEq]
    rw [cX12_changed_23]
    repeat (first | (conv => (lhs; arg 1; simp (disch := first | assumption | omega) only [tk_gI, tk_gL, tk_gR, tk_pI, tk_pL, rv_aI, rv_aL, rv_aR, rv_uI, rv_uL, rv_uB, rv_uZ, pu_ckI, pu_ckL, pu_lnI, pu_lnL, tk_rI, tk_rL, Option.bind_some, Option.map_some, rv_lt, tk_ix, z0, z1, z2, z3, z4, z5, z6, z7, z8, z9, z10, z11, z12, z13, z15, z16, z17, z18, z20, z21, z23, z24, z25, z31, z32, z39, z40, z41, z46, z48, z50, z57, z59, z60, z61, z62, z63, z64, z97, z98, z99, z100, z101, z102, z103, z104, z105, z106, z107, z108, z109, z110, z111, z112, z113, z114, z115, z116, z117, z118, z119, z120, z121, z122, z128, z132, z200, z240, z255, z372, z390625, z400, z420, z421, z422, z662, z900, z940, z999, z1000, z1024, z2000, z5860, z10000, z12345, z15625, z266240, z1048575, z1064960, z1103515245, z_m1, n_le, n_lt, n_eq, n_bit0, n_bit1, n_sbit0, n_shl, z_ltM, z_Mlt, z_leM, z_Mle, z_eqM, z_Meq, bI0, bI1, bI_01, bI_01t, bI_10, bI_10f, if_true, if_false, eq_self, reduceCtorEq, hC, hVS, hPS, hP])); first | rw [Option.bind_some] | rw [bp_s] | rw [if_true] | rw [if_false] | rw [rv_lt_eq] | rw [if_pos (by omega)] | rw [if_neg (by omega)])
    rw [ch]
    cases cf : ch m c b i with
    | none =>
      rw [cf] at e76
      rw [if_pos (show oI none = -1 from rfl), e76]
      simp only [mre, Bool.true_and]
    | some e =>
      rw [cf] at e76
      have he := ch_lt m c b i e cf
      have v1 := (hc.2.2 e (by omega)).2.1
      rw [if_neg (show ¬ oI (some e) = -1 from fun z => by
        have := z_eqM (a := e) (by omega)
        rw [← this]; exact z)]
      unfold oI at e76 ⊢
      dsimp only at e76 ⊢
      repeat (first | (conv => (lhs; arg 1; simp (disch := first | assumption | omega) only [tk_gI, tk_gL, tk_gR, tk_pI, tk_pL, rv_aI, rv_aL, rv_aR, rv_uI, rv_uL, rv_uB, rv_uZ, pu_ckI, pu_ckL, pu_lnI, pu_lnL, tk_rI, tk_rL, Option.bind_some, Option.map_some, rv_lt, tk_ix, z0, z1, z2, z3, z4, z5, z6, z7, z8, z9, z10, z11, z12, z13, z15, z16, z17, z18, z20, z21, z23, z24, z25, z31, z32, z39, z40, z41, z46, z48, z50, z57, z59, z60, z61, z62, z63, z64, z97, z98, z99, z100, z101, z102, z103, z104, z105, z106, z107, z108, z109, z110, z111, z112, z113, z114, z115, z116, z117, z118, z119, z120, z121, z122, z128, z132, z200, z240, z255, z372, z390625, z400, z420, z421, z422, z662, z900, z940, z999, z1000, z1024, z2000, z5860, z10000, z12345, z15625, z266240, z1048575, z1064960, z1103515245, z_m1, n_le, n_lt, n_eq, n_bit0, n_bit1, n_sbit0, n_shl, z_ltM, z_Mlt, z_leM, z_Mle, z_eqM, z_Meq, bI0, bI1, bI_01, bI_01t, bI_10, bI_10f, if_true, if_false, eq_self, reduceCtorEq, hC, hVS, hPS, hP])); first | rw [Option.bind_some] | rw [bp_s] | rw [if_true] | rw [if_false] | rw [rv_lt_eq] | rw [if_pos (by omega)] | rw [if_neg (by omega)])
      by_cases c3 : va m i ≤ va m e
      · rw [if_pos (nI_le c3 (by omega)), cX12_changed_76, if_pos rfl, rv_lt_eq]
        simp only [mre, decide_eq_false (show ¬ va m e < va m i by omega), z0, bI0, nI_1, nI_add, rv_lt, decide_true, decide_false, Bool.and_self, Bool.and_true, Bool.true_and, Bool.false_and, Bool.and_false, if_true, if_false, reduceCtorEq]
      · rw [if_neg (nI_ge (show va m e < va m i by omega) (by omega)), e76]
        simp only [mre, decide_eq_true (show va m e < va m i by omega), Bool.true_and]
  · show cX12_changed_23 n S (q + 1) 64 (nI c) (nI b) (oI (ch m c b (vC m))) (nI (vC m)) = _
    rw [cX12_changed_23]
    repeat (first | (conv => (lhs; arg 1; simp (disch := first | assumption | omega) only [tk_gI, tk_gL, tk_gR, tk_pI, tk_pL, rv_aI, rv_aL, rv_aR, rv_uI, rv_uL, rv_uB, rv_uZ, pu_ckI, pu_ckL, pu_lnI, pu_lnL, tk_rI, tk_rL, Option.bind_some, Option.map_some, rv_lt, tk_ix, z0, z1, z2, z3, z4, z5, z6, z7, z8, z9, z10, z11, z12, z13, z15, z16, z17, z18, z20, z21, z23, z24, z25, z31, z32, z39, z40, z41, z46, z48, z50, z57, z59, z60, z61, z62, z63, z64, z97, z98, z99, z100, z101, z102, z103, z104, z105, z106, z107, z108, z109, z110, z111, z112, z113, z114, z115, z116, z117, z118, z119, z120, z121, z122, z128, z132, z200, z240, z255, z372, z390625, z400, z420, z421, z422, z662, z900, z940, z999, z1000, z1024, z2000, z5860, z10000, z12345, z15625, z266240, z1048575, z1064960, z1103515245, z_m1, n_le, n_lt, n_eq, n_bit0, n_bit1, n_sbit0, n_shl, z_ltM, z_Mlt, z_leM, z_Mle, z_eqM, z_Meq, bI0, bI1, bI_01, bI_01t, bI_10, bI_10f, if_true, if_false, eq_self, reduceCtorEq, hC, hVS, hPS, hP])); first | rw [Option.bind_some] | rw [bp_s] | rw [if_true] | rw [if_false] | rw [rv_lt_eq] | rw [if_pos (by omega)] | rw [if_neg (by omega)])
theorem m_changed (hn : 50 ≤ n) (hB : rv_B S) (hM : MR S m) (hk : okm m) {c b : Nat} (h : c < vC m) (hb : b < vW m) : ∃ S', cX13_changed_32 n n S 189 (nI c) (nI b) iM (nI 0) = some (oI (ch m c b (vC m)), S') ∧ rvf [199] S S' := by
  obtain ⟨hp, hc, hd⟩ := id hk
  have h40 := hc.1
  have h24 := hp.1
  refine lp (F := fun q (x : rvS × Int32 × Int32) => cX13_changed_32 n q x.1 189 (nI c) (nI b) x.2.1 x.2.2) (fun i x => x.2 = (oI (ch m c b i), nI i) ∧ rvf [199] S x.1) (fun o => ∃ S', o = some (oI (ch m c b (vC m)), S') ∧ rvf [199] S S') (vC m) (fun i x q hi hx => Or.inr ?_) (fun x q hx => ?_) (i := 0) (x := (S, iM, nI 0)) (q := n) (Nat.zero_le _) ⟨rfl, rvf.rf _ _⟩ (by omega)
  · obtain ⟨S1, x1, x2⟩ := x
    obtain ⟨hx, f1⟩ := hx
    obtain ⟨rfl, rfl⟩ := Prod.mk.inj hx
    have f1 : rvf [199] S S1 := f1
    have hB1 := f1.B hB
    have hM1 := hM.f f1 rfl
    obtain ⟨w1, w2, w3, w4, -⟩ := hc.2.2 i hi
    obtain ⟨v1, v2, v3, -⟩ := hc.2.2 c h
    have w5 := wnc_le m c i
    have g5 := wy_le m (ow m c) (ps m (ow m i) (rl m i)) b
    have hN := hc.2.1
    obtain ⟨S2, e2, f2⟩ := m_wnc hn hB1 hM1 hk h hi
    have hB2 := f2.B hB1
    have hM2 := hM1.f f2 rfl
    obtain ⟨S3, e3, f3, g3⟩ := m_hold (n := n) (by omega) hB2 hM2 (c := i) (by omega)
    have hB3 := f3.B hB2
    have hM3 := hM2.f f3 rfl
    have e134 : m (133 + 6 * i + 1) = mn m i := congrArg m (by omega)
    obtain ⟨S4, e4, f4, g4⟩ := m_pass (n := n) (by omega) hB3 hM3 hc (H := fun k => m (133 + 6 * i + k)) g3 (by show m (133 + 6 * i + 1) ≤ 3; omega) (ow m c)
    have hB4 := f4.B hB3
    have hM4 := hM3.f f4 rfl
    have hH : HR S4 (ow m c) (ps m (ow m i) (rl m i)) := by
      have q := mv_rl (m := m) (c := i) (w := ow m c) hN w4
      have q0 := mv_ow (m := m) i (ow m c)
      have q3 : mn (mv m i (ow m c)) i ≤ 3 := by rw [q.1, ps, List.length_take]; omega
      have := HR_of (S := S4) (m := mv m i (ow m c)) (c := i) (fun k hk => by
        rw [g4 k hk, mv, if_pos (by omega), Nat.add_sub_cancel_left]) q3
      rw [q0, q.2] at this
      exact this
    have e5 := m_whyNot (n := n) (by omega) hB4 hM4 hp hH v3 (ps_ok hc w3 (hc.l hi)) hb
    have fin : ∃ S5, cX13_changed_75 n (fun a0 x1 x2 x3 x4 S => cX13_changed_32 n q S a0 x1 x2 x3 x4) S2 189 (nI c) (nI b) (oI (ch m c b i)) (nI i) = cX13_changed_32 n q S5 189 (nI c) (nI b) (oI (if decide (wy m (ow m c) (ps m (ow m i) (rl m i)) b = 0) then some i else ch m c b i)) (nI (i + 1)) ∧ rvf [199] S2 S5 := by
      refine ⟨S4, ?_, f3.tr f4⟩
      rw [cX13_changed_75]
      repeat (first | (conv => (lhs; arg 1; simp (disch := first | assumption | omega) only [tk_gI, tk_gL, tk_gR, tk_pI, tk_pL, rv_aI, rv_aL, rv_aR, rv_uI, rv_uL, rv_uB, rv_uZ, pu_ckI, pu_ckL, pu_lnI, pu_lnL, tk_rI, tk_rL, Option.bind_some, Option.map_some, rv_lt, tk_ix, z0, z1, z2, z3, z4, z5, z6, z7, z8, z9, z10, z11, z12, z13, z15, z16, z17, z18, z20, z21, z23, z24, z25, z31, z32, z39, z40, z41, z46, z48, z50, z57, z59, z60, z61, z62, z63, z64, z97, z98, z99, z100, z101, z102, z103, z104, z105, z106, z107, z108, z109, z110, z111, z112, z113, z114, z115, z116, z117, z118, z119, z120, z121, z122, z128, z132, z200, z240, z255, z372, z390625, z400, z420, z421, z422, z662, z900, z940, z999, z1000, z1024, z2000, z5860, z10000, z12345, z15625, z266240, z1048575, z1064960, z1103515245, z_m1, n_le, n_lt, n_eq, n_bit0, n_bit1, n_sbit0, n_shl, z_ltM, z_Mlt, z_leM, z_Mle, z_eqM, z_Meq, bI0, bI1, bI_01, bI_01t, bI_10, bI_10f, if_true, if_false, eq_self, reduceCtorEq, rc_189 hB2, e3, rc_189 hB3, m_ow hB3 hM3, e4, rc_189 hB4, e5])); first | rw [Option.bind_some] | rw [bp_s] | rw [if_true] | rw [if_false] | rw [rv_lt_eq] | rw [if_pos (by omega)] | rw [if_neg (by omega)])
      by_cases c2 : wy m (ow m c) (ps m (ow m i) (rl m i)) b = 0
      · rw [if_pos c2]
        simp only [c2, z0, bI0, nI_1, nI_add, rv_lt, decide_true, decide_false, Bool.and_self, Bool.and_true, Bool.true_and, Bool.false_and, Bool.and_false, if_true, if_false, reduceCtorEq]
        all_goals rfl
      · rw [if_neg c2]
        simp only [c2, z0, bI0, nI_1, nI_add, rv_lt, decide_true, decide_false, Bool.and_self, Bool.and_true, Bool.true_and, Bool.false_and, Bool.and_false, if_true, if_false, reduceCtorEq]
    obtain ⟨S5, e75, f5⟩ := fin
    by_cases c1 : wnc m c i = 0
    · rw [c1] at e2
      cases cf : ch m c b i with
      | none =>
        rw [cf] at e75
        refine ⟨(S5, oI (ch m c b (i + 1)), nI (i + 1)), ?_, rfl, f1.tr (f2.tr f5)⟩
        show cX13_changed_32 n (q + 1) S1 189 (nI c) (nI b) (oI none) (nI i) = _
        rw [cX13_changed_32]
        repeat (first | (conv => (lhs; arg 1; simp (disch := first | assumption | omega) only [tk_gI, tk_gL, tk_gR, tk_pI, tk_pL, rv_aI, rv_aL, rv_aR, rv_uI, rv_uL, rv_uB, rv_uZ, pu_ckI, pu_ckL, pu_lnI, pu_lnL, tk_rI, tk_rL, Option.bind_some, Option.map_some, rv_lt, tk_ix, z0, z1, z2, z3, z4, z5, z6, z7, z8, z9, z10, z11, z12, z13, z15, z16, z17, z18, z20, z21, z23, z24, z25, z31, z32, z39, z40, z41, z46, z48, z50, z57, z59, z60, z61, z62, z63, z64, z97, z98, z99, z100, z101, z102, z103, z104, z105, z106, z107, z108, z109, z110, z111, z112, z113, z114, z115, z116, z117, z118, z119, z120, z121, z122, z128, z132, z200, z240, z255, z372, z390625, z400, z420, z421, z422, z662, z900, z940, z999, z1000, z1024, z2000, z5860, z10000, z12345, z15625, z266240, z1048575, z1064960, z1103515245, z_m1, n_le, n_lt, n_eq, n_bit0, n_bit1, n_sbit0, n_shl, z_ltM, z_Mlt, z_leM, z_Mle, z_eqM, z_Meq, bI0, bI1, bI_01, bI_01t, bI_10, bI_10f, if_true, if_false, eq_self, reduceCtorEq, rc_189 hB1, m_coins hB1 hM1, e2])); first | rw [Option.bind_some] | rw [bp_s] | rw [if_true] | rw [if_false] | rw [rv_lt_eq] | rw [if_pos (by omega)] | rw [if_neg (by omega)])
        rw [if_pos (show oI none = iM from rfl), e75, ch, cf]
        simp only [mre, Bool.true_and, c1, decide_true]
      | some e =>
        rw [cf] at e75
        have he := ch_lt m c b i e cf
        have x1 := (hc.2.2 e (by omega)).2.1
        have nn : ¬ oI (some e) = iM := fun z => by
          have := z_eqM (a := e) (by omega)
          rw [← this]; exact z
        by_cases c3 : va m e < va m i
        · refine ⟨(S5, oI (ch m c b (i + 1)), nI (i + 1)), ?_, rfl, f1.tr (f2.tr f5)⟩
          show cX13_changed_32 n (q + 1) S1 189 (nI c) (nI b) (oI (some e)) (nI i) = _
          rw [cX13_changed_32]
          repeat (first | (conv => (lhs; arg 1; simp (disch := first | assumption | omega) only [tk_gI, tk_gL, tk_gR, tk_pI, tk_pL, rv_aI, rv_aL, rv_aR, rv_uI, rv_uL, rv_uB, rv_uZ, pu_ckI, pu_ckL, pu_lnI, pu_lnL, tk_rI, tk_rL, Option.bind_some, Option.map_some, rv_lt, tk_ix, z0, z1, z2, z3, z4, z5, z6, z7, z8, z9, z10, z11, z12, z13, z15, z16, z17, z18, z20, z21, z23, z24, z25, z31, z32, z39, z40, z41, z46, z48, z50, z57, z59, z60, z61, z62, z63, z64, z97, z98, z99, z100, z101, z102, z103, z104, z105, z106, z107, z108, z109, z110, z111, z112, z113, z114, z115, z116, z117, z118, z119, z120, z121, z122, z128, z132, z200, z240, z255, z372, z390625, z400, z420, z421, z422, z662, z900, z940, z999, z1000, z1024, z2000, z5860, z10000, z12345, z15625, z266240, z1048575, z1064960, z1103515245, z_m1, n_le, n_lt, n_eq, n_bit0, n_bit1, n_sbit0, n_shl, z_ltM, z_Mlt, z_leM, z_Mle, z_eqM, z_Meq, bI0, bI1, bI_01, bI_01t, bI_10, bI_10f, if_true, if_false, eq_self, reduceCtorEq, rc_189 hB1, m_coins hB1 hM1, e2])); first | rw [Option.bind_some] | rw [bp_s] | rw [if_true] | rw [if_false] | rw [rv_lt_eq] | rw [if_pos (by omega)] | rw [if_neg (by omega)])
          unfold oI at e75 ⊢
          dsimp only at e75 ⊢
          repeat (first | (conv => (lhs; arg 1; simp (disch := first | assumption | omega) only [tk_gI, tk_gL, tk_gR, tk_pI, tk_pL, rv_aI, rv_aL, rv_aR, rv_uI, rv_uL, rv_uB, rv_uZ, pu_ckI, pu_ckL, pu_lnI, pu_lnL, tk_rI, tk_rL, Option.bind_some, Option.map_some, rv_lt, tk_ix, z0, z1, z2, z3, z4, z5, z6, z7, z8, z9, z10, z11, z12, z13, z15, z16, z17, z18, z20, z21, z23, z24, z25, z31, z32, z39, z40, z41, z46, z48, z50, z57, z59, z60, z61, z62, z63, z64, z97, z98, z99, z100, z101, z102, z103, z104, z105, z106, z107, z108, z109, z110, z111, z112, z113, z114, z115, z116, z117, z118, z119, z120, z121, z122, z128, z132, z200, z240, z255, z372, z390625, z400, z420, z421, z422, z662, z900, z940, z999, z1000, z1024, z2000, z5860, z10000, z12345, z15625, z266240, z1048575, z1064960, z1103515245, z_m1, n_le, n_lt, n_eq, n_bit0, n_bit1, n_sbit0, n_shl, z_ltM, z_Mlt, z_leM, z_Mle, z_eqM, z_Meq, bI0, bI1, bI_01, bI_01t, bI_10, bI_10f, if_true, if_false, eq_self, reduceCtorEq, rc_189 hB2, m_va hB2 hM2, c3])); first | rw [Option.bind_some] | rw [bp_s] | rw [if_true] | rw [if_false] | rw [rv_lt_eq] | rw [if_pos (by omega)] | rw [if_neg (by omega)])
          rw [e75, ch, cf]
          simp only [mre, Bool.true_and, c1, decide_true, c3]
        · refine ⟨(S2, oI (ch m c b (i + 1)), nI (i + 1)), ?_, rfl, f1.tr f2⟩
          show cX13_changed_32 n (q + 1) S1 189 (nI c) (nI b) (oI (some e)) (nI i) = _
          rw [cX13_changed_32]
          repeat (first | (conv => (lhs; arg 1; simp (disch := first | assumption | omega) only [tk_gI, tk_gL, tk_gR, tk_pI, tk_pL, rv_aI, rv_aL, rv_aR, rv_uI, rv_uL, rv_uB, rv_uZ, pu_ckI, pu_ckL, pu_lnI, pu_lnL, tk_rI, tk_rL, Option.bind_some, Option.map_some, rv_lt, tk_ix, z0, z1, z2, z3, z4, z5, z6, z7, z8, z9, z10, z11, z12, z13, z15, z16, z17, z18, z20, z21, z23, z24, z25, z31, z32, z39, z40, z41, z46, z48, z50, z57, z59, z60, z61, z62, z63, z64, z97, z98, z99, z100, z101, z102, z103, z104, z105, z106, z107, z108, z109, z110, z111, z112, z113, z114, z115, z116, z117, z118, z119, z120, z121, z122, z128, z132, z200, z240, z255, z372, z390625, z400, z420, z421, z422, z662, z900, z940, z999, z1000, z1024, z2000, z5860, z10000, z12345, z15625, z266240, z1048575, z1064960, z1103515245, z_m1, n_le, n_lt, n_eq, n_bit0, n_bit1, n_sbit0, n_shl, z_ltM, z_Mlt, z_leM, z_Mle, z_eqM, z_Meq, bI0, bI1, bI_01, bI_01t, bI_10, bI_10f, if_true, if_false, eq_self, reduceCtorEq, rc_189 hB1, m_coins hB1 hM1, e2])); first | rw [Option.bind_some] | rw [bp_s] | rw [if_true] | rw [if_false] | rw [rv_lt_eq] | rw [if_pos (by omega)] | rw [if_neg (by omega)])
          unfold oI
          dsimp only
          repeat (first | (conv => (lhs; arg 1; simp (disch := first | assumption | omega) only [tk_gI, tk_gL, tk_gR, tk_pI, tk_pL, rv_aI, rv_aL, rv_aR, rv_uI, rv_uL, rv_uB, rv_uZ, pu_ckI, pu_ckL, pu_lnI, pu_lnL, tk_rI, tk_rL, Option.bind_some, Option.map_some, rv_lt, tk_ix, z0, z1, z2, z3, z4, z5, z6, z7, z8, z9, z10, z11, z12, z13, z15, z16, z17, z18, z20, z21, z23, z24, z25, z31, z32, z39, z40, z41, z46, z48, z50, z57, z59, z60, z61, z62, z63, z64, z97, z98, z99, z100, z101, z102, z103, z104, z105, z106, z107, z108, z109, z110, z111, z112, z113, z114, z115, z116, z117, z118, z119, z120, z121, z122, z128, z132, z200, z240, z255, z372, z390625, z400, z420, z421, z422, z662, z900, z940, z999, z1000, z1024, z2000, z5860, z10000, z12345, z15625, z266240, z1048575, z1064960, z1103515245, z_m1, n_le, n_lt, n_eq, n_bit0, n_bit1, n_sbit0, n_shl, z_ltM, z_Mlt, z_leM, z_Mle, z_eqM, z_Meq, bI0, bI1, bI_01, bI_01t, bI_10, bI_10f, if_true, if_false, eq_self, reduceCtorEq, rc_189 hB2, m_va hB2 hM2, c3])); first | rw [Option.bind_some] | rw [bp_s] | rw [if_true] | rw [if_false] | rw [rv_lt_eq] | rw [if_pos (by omega)] | rw [if_neg (by omega)])
          rw [ch, cf]
          simp only [mre, c3, z0, bI0, nI_1, nI_add, rv_lt, decide_true, decide_false, Bool.and_self, Bool.and_true, Bool.true_and, Bool.false_and, Bool.and_false, if_true, if_false, reduceCtorEq]
          all_goals rfl
    · refine ⟨(S2, oI (ch m c b (i + 1)), nI (i + 1)), ?_, rfl, f1.tr f2⟩
      show cX13_changed_32 n (q + 1) S1 189 (nI c) (nI b) (oI (ch m c b i)) (nI i) = _
      rw [cX13_changed_32]
      repeat (first | (conv => (lhs; arg 1; simp (disch := first | assumption | omega) only [tk_gI, tk_gL, tk_gR, tk_pI, tk_pL, rv_aI, rv_aL, rv_aR, rv_uI, rv_uL, rv_uB, rv_uZ, pu_ckI, pu_ckL, pu_lnI, pu_lnL, tk_rI, tk_rL, Option.bind_some, Option.map_some, rv_lt, tk_ix, z0, z1, z2, z3, z4, z5, z6, z7, z8, z9, z10, z11, z12, z13, z15, z16, z17, z18, z20, z21, z23, z24, z25, z31, z32, z39, z40, z41, z46, z48, z50, z57, z59, z60, z61, z62, z63, z64, z97, z98, z99, z100, z101, z102, z103, z104, z105, z106, z107, z108, z109, z110, z111, z112, z113, z114, z115, z116, z117, z118, z119, z120, z121, z122, z128, z132, z200, z240, z255, z372, z390625, z400, z420, z421, z422, z662, z900, z940, z999, z1000, z1024, z2000, z5860, z10000, z12345, z15625, z266240, z1048575, z1064960, z1103515245, z_m1, n_le, n_lt, n_eq, n_bit0, n_bit1, n_sbit0, n_shl, z_ltM, z_Mlt, z_leM, z_Mle, z_eqM, z_Meq, bI0, bI1, bI_01, bI_01t, bI_10, bI_10f, if_true, if_false, eq_self, reduceCtorEq, rc_189 hB1, m_coins hB1 hM1, e2, c1])); first | rw [Option.bind_some] | rw [bp_s] | rw [if_true] | rw [if_false] | rw [rv_lt_eq] | rw [if_pos (by omega)] | rw [if_neg (by omega)])
      rw [ch]
      simp only [c1, z0, bI0, nI_1, nI_add, rv_lt, decide_true, decide_false, Bool.and_self, Bool.and_true, Bool.true_and, Bool.false_and, Bool.and_false, if_true, if_false, reduceCtorEq]
  · obtain ⟨S1, x1, x2⟩ := x
    obtain ⟨hx, f1⟩ := hx
    obtain ⟨rfl, rfl⟩ := Prod.mk.inj hx
    have f1 : rvf [199] S S1 := f1
    have hB1 := f1.B hB
    have hM1 := hM.f f1 rfl
    refine ⟨S1, ?_, f1⟩
    show cX13_changed_32 n (q + 1) S1 189 (nI c) (nI b) (oI (ch m c b (vC m))) (nI (vC m)) = _
    rw [cX13_changed_32]
    repeat (first | (conv => (lhs; arg 1; simp (disch := first | assumption | omega) only [tk_gI, tk_gL, tk_gR, tk_pI, tk_pL, rv_aI, rv_aL, rv_aR, rv_uI, rv_uL, rv_uB, rv_uZ, pu_ckI, pu_ckL, pu_lnI, pu_lnL, tk_rI, tk_rL, Option.bind_some, Option.map_some, rv_lt, tk_ix, z0, z1, z2, z3, z4, z5, z6, z7, z8, z9, z10, z11, z12, z13, z15, z16, z17, z18, z20, z21, z23, z24, z25, z31, z32, z39, z40, z41, z46, z48, z50, z57, z59, z60, z61, z62, z63, z64, z97, z98, z99, z100, z101, z102, z103, z104, z105, z106, z107, z108, z109, z110, z111, z112, z113, z114, z115, z116, z117, z118, z119, z120, z121, z122, z128, z132, z200, z240, z255, z372, z390625, z400, z420, z421, z422, z662, z900, z940, z999, z1000, z1024, z2000, z5860, z10000, z12345, z15625, z266240, z1048575, z1064960, z1103515245, z_m1, n_le, n_lt, n_eq, n_bit0, n_bit1, n_sbit0, n_shl, z_ltM, z_Mlt, z_leM, z_Mle, z_eqM, z_Meq, bI0, bI1, bI_01, bI_01t, bI_10, bI_10f, if_true, if_false, eq_self, reduceCtorEq, rc_189 hB1, m_coins hB1 hM1])); first | rw [Option.bind_some] | rw [bp_s] | rw [if_true] | rw [if_false] | rw [rv_lt_eq] | rw [if_pos (by omega)] | rw [if_neg (by omega)])
theorem op_changed (hn : 500 ≤ n) (hV : VI S m wd) (x y : Int32) : ∃ r S', fnX12_changed n S 64 x y = some r ∧ fnX13_changed n S 189 x y = some (r, S') ∧ QS S S' m wd := by
  obtain ⟨hB, hR, hL, hk, -⟩ := id hV; have hp := hk.1; have hc := hk.2.1; have hd := hk.2.2; obtain ⟨S6, e6, hB6, f6, hM6, r6, b6⟩ := start_ok hn hB hL; have hC := CS_of hB; have hv : vb 67 := Or.inl rfl; have hVS := VS_of hB hv; have hFS := FS_of hB hv.f; have hPS := PS_of hB hv.p; have h24 := hp.1; have h40 := hc.1; have n10 : 10 ≤ n := (by omega); have n50 : 50 ≤ n := (by omega)
  rcases rng x (N := vC m) (by omega) with ⟨c, h, rfl⟩ | hx
  · rcases rng y (N := vW m) (by omega) with ⟨b, hb, rfl⟩ | hy
    · obtain ⟨S', e, f⟩ := m_changed n50 hB6 hM6 hk h hb
      refine ⟨oI (ch m c b (vC m)), S', ?_, ?_, QS.st hV f6 hM6 r6 b6 f⟩
      · rw [fnX12_changed]
        repeat (first | (conv => (lhs; arg 1; simp (disch := first | assumption | omega) only [tk_gI, tk_gL, tk_gR, tk_pI, tk_pL, rv_aI, rv_aL, rv_aR, rv_uI, rv_uL, rv_uB, rv_uZ, pu_ckI, pu_ckL, pu_lnI, pu_lnL, tk_rI, tk_rL, Option.bind_some, Option.map_some, rv_lt, tk_ix, z0, z1, z2, z3, z4, z5, z6, z7, z8, z9, z10, z11, z12, z13, z15, z16, z17, z18, z20, z21, z23, z24, z25, z31, z32, z39, z40, z41, z46, z48, z50, z57, z59, z60, z61, z62, z63, z64, z97, z98, z99, z100, z101, z102, z103, z104, z105, z106, z107, z108, z109, z110, z111, z112, z113, z114, z115, z116, z117, z118, z119, z120, z121, z122, z128, z132, z200, z240, z255, z372, z390625, z400, z420, z421, z422, z662, z900, z940, z999, z1000, z1024, z2000, z5860, z10000, z12345, z15625, z266240, z1048575, z1064960, z1103515245, z_m1, n_le, n_lt, n_eq, n_bit0, n_bit1, n_sbit0, n_shl, z_ltM, z_Mlt, z_leM, z_Mle, z_eqM, z_Meq, bI0, bI1, bI_01, bI_01t, bI_10, bI_10f, if_true, if_false, eq_self, reduceCtorEq, hC, k_isCoin hB hR hk h, k_isWho hB hR hk hb])); first | rw [Option.bind_some] | rw [bp_s] | rw [if_true] | rw [if_false] | rw [rv_lt_eq] | rw [if_pos (by omega)] | rw [if_neg (by omega)])
        exact k_changed n50 hB hR hk h hb
      · rw [fnX13_changed]
        repeat (first | (conv => (lhs; arg 1; simp (disch := first | assumption | omega) only [tk_gI, tk_gL, tk_gR, tk_pI, tk_pL, rv_aI, rv_aL, rv_aR, rv_uI, rv_uL, rv_uB, rv_uZ, pu_ckI, pu_ckL, pu_lnI, pu_lnL, tk_rI, tk_rL, Option.bind_some, Option.map_some, rv_lt, tk_ix, z0, z1, z2, z3, z4, z5, z6, z7, z8, z9, z10, z11, z12, z13, z15, z16, z17, z18, z20, z21, z23, z24, z25, z31, z32, z39, z40, z41, z46, z48, z50, z57, z59, z60, z61, z62, z63, z64, z97, z98, z99, z100, z101, z102, z103, z104, z105, z106, z107, z108, z109, z110, z111, z112, z113, z114, z115, z116, z117, z118, z119, z120, z121, z122, z128, z132, z200, z240, z255, z372, z390625, z400, z420, z421, z422, z662, z900, z940, z999, z1000, z1024, z2000, z5860, z10000, z12345, z15625, z266240, z1048575, z1064960, z1103515245, z_m1, n_le, n_lt, n_eq, n_bit0, n_bit1, n_sbit0, n_shl, z_ltM, z_Mlt, z_leM, z_Mle, z_eqM, z_Meq, bI0, bI1, bI_01, bI_01t, bI_10, bI_10f, if_true, if_false, eq_self, reduceCtorEq, rc_189 hB, e6, rc_189 hB6, m_isCoin hB6 hM6 hc h, m_isWho hB6 hM6 hp hb])); first | rw [Option.bind_some] | rw [bp_s] | rw [if_true] | rw [if_false] | rw [rv_lt_eq] | rw [if_pos (by omega)] | rw [if_neg (by omega)])
        exact e
    · refine ⟨iM, S6, ?_, ?_, QS.s0 hV f6 hM6 r6 b6⟩
      · rw [fnX12_changed]
        repeat (first | (conv => (lhs; arg 1; simp (disch := first | assumption | omega) only [tk_gI, tk_gL, tk_gR, tk_pI, tk_pL, rv_aI, rv_aL, rv_aR, rv_uI, rv_uL, rv_uB, rv_uZ, pu_ckI, pu_ckL, pu_lnI, pu_lnL, tk_rI, tk_rL, Option.bind_some, Option.map_some, rv_lt, tk_ix, z0, z1, z2, z3, z4, z5, z6, z7, z8, z9, z10, z11, z12, z13, z15, z16, z17, z18, z20, z21, z23, z24, z25, z31, z32, z39, z40, z41, z46, z48, z50, z57, z59, z60, z61, z62, z63, z64, z97, z98, z99, z100, z101, z102, z103, z104, z105, z106, z107, z108, z109, z110, z111, z112, z113, z114, z115, z116, z117, z118, z119, z120, z121, z122, z128, z132, z200, z240, z255, z372, z390625, z400, z420, z421, z422, z662, z900, z940, z999, z1000, z1024, z2000, z5860, z10000, z12345, z15625, z266240, z1048575, z1064960, z1103515245, z_m1, n_le, n_lt, n_eq, n_bit0, n_bit1, n_sbit0, n_shl, z_ltM, z_Mlt, z_leM, z_Mle, z_eqM, z_Meq, bI0, bI1, bI_01, bI_01t, bI_10, bI_10f, if_true, if_false, eq_self, reduceCtorEq, hC, k_isCoin hB hR hk h, k_isWho0 hB hR hy])); first | rw [Option.bind_some] | rw [bp_s] | rw [if_true] | rw [if_false] | rw [rv_lt_eq] | rw [if_pos (by omega)] | rw [if_neg (by omega)])
        all_goals rfl
      · rw [fnX13_changed]
        repeat (first | (conv => (lhs; arg 1; simp (disch := first | assumption | omega) only [tk_gI, tk_gL, tk_gR, tk_pI, tk_pL, rv_aI, rv_aL, rv_aR, rv_uI, rv_uL, rv_uB, rv_uZ, pu_ckI, pu_ckL, pu_lnI, pu_lnL, tk_rI, tk_rL, Option.bind_some, Option.map_some, rv_lt, tk_ix, z0, z1, z2, z3, z4, z5, z6, z7, z8, z9, z10, z11, z12, z13, z15, z16, z17, z18, z20, z21, z23, z24, z25, z31, z32, z39, z40, z41, z46, z48, z50, z57, z59, z60, z61, z62, z63, z64, z97, z98, z99, z100, z101, z102, z103, z104, z105, z106, z107, z108, z109, z110, z111, z112, z113, z114, z115, z116, z117, z118, z119, z120, z121, z122, z128, z132, z200, z240, z255, z372, z390625, z400, z420, z421, z422, z662, z900, z940, z999, z1000, z1024, z2000, z5860, z10000, z12345, z15625, z266240, z1048575, z1064960, z1103515245, z_m1, n_le, n_lt, n_eq, n_bit0, n_bit1, n_sbit0, n_shl, z_ltM, z_Mlt, z_leM, z_Mle, z_eqM, z_Meq, bI0, bI1, bI_01, bI_01t, bI_10, bI_10f, if_true, if_false, eq_self, reduceCtorEq, rc_189 hB, e6, rc_189 hB6, m_isCoin hB6 hM6 hc h, m_isWho0 hB6 hM6 hy])); first | rw [Option.bind_some] | rw [bp_s] | rw [if_true] | rw [if_false] | rw [rv_lt_eq] | rw [if_pos (by omega)] | rw [if_neg (by omega)])
        all_goals rfl
  · refine ⟨iM, S6, ?_, ?_, QS.s0 hV f6 hM6 r6 b6⟩
    · rw [fnX12_changed]
      repeat (first | (conv => (lhs; arg 1; simp (disch := first | assumption | omega) only [tk_gI, tk_gL, tk_gR, tk_pI, tk_pL, rv_aI, rv_aL, rv_aR, rv_uI, rv_uL, rv_uB, rv_uZ, pu_ckI, pu_ckL, pu_lnI, pu_lnL, tk_rI, tk_rL, Option.bind_some, Option.map_some, rv_lt, tk_ix, z0, z1, z2, z3, z4, z5, z6, z7, z8, z9, z10, z11, z12, z13, z15, z16, z17, z18, z20, z21, z23, z24, z25, z31, z32, z39, z40, z41, z46, z48, z50, z57, z59, z60, z61, z62, z63, z64, z97, z98, z99, z100, z101, z102, z103, z104, z105, z106, z107, z108, z109, z110, z111, z112, z113, z114, z115, z116, z117, z118, z119, z120, z121, z122, z128, z132, z200, z240, z255, z372, z390625, z400, z420, z421, z422, z662, z900, z940, z999, z1000, z1024, z2000, z5860, z10000, z12345, z15625, z266240, z1048575, z1064960, z1103515245, z_m1, n_le, n_lt, n_eq, n_bit0, n_bit1, n_sbit0, n_shl, z_ltM, z_Mlt, z_leM, z_Mle, z_eqM, z_Meq, bI0, bI1, bI_01, bI_01t, bI_10, bI_10f, if_true, if_false, eq_self, reduceCtorEq, hC, k_isCoin0 hB hR hx])); first | rw [Option.bind_some] | rw [bp_s] | rw [if_true] | rw [if_false] | rw [rv_lt_eq] | rw [if_pos (by omega)] | rw [if_neg (by omega)])
      all_goals rfl
    · rw [fnX13_changed]
      repeat (first | (conv => (lhs; arg 1; simp (disch := first | assumption | omega) only [tk_gI, tk_gL, tk_gR, tk_pI, tk_pL, rv_aI, rv_aL, rv_aR, rv_uI, rv_uL, rv_uB, rv_uZ, pu_ckI, pu_ckL, pu_lnI, pu_lnL, tk_rI, tk_rL, Option.bind_some, Option.map_some, rv_lt, tk_ix, z0, z1, z2, z3, z4, z5, z6, z7, z8, z9, z10, z11, z12, z13, z15, z16, z17, z18, z20, z21, z23, z24, z25, z31, z32, z39, z40, z41, z46, z48, z50, z57, z59, z60, z61, z62, z63, z64, z97, z98, z99, z100, z101, z102, z103, z104, z105, z106, z107, z108, z109, z110, z111, z112, z113, z114, z115, z116, z117, z118, z119, z120, z121, z122, z128, z132, z200, z240, z255, z372, z390625, z400, z420, z421, z422, z662, z900, z940, z999, z1000, z1024, z2000, z5860, z10000, z12345, z15625, z266240, z1048575, z1064960, z1103515245, z_m1, n_le, n_lt, n_eq, n_bit0, n_bit1, n_sbit0, n_shl, z_ltM, z_Mlt, z_leM, z_Mle, z_eqM, z_Meq, bI0, bI1, bI_01, bI_01t, bI_10, bI_10f, if_true, if_false, eq_self, reduceCtorEq, rc_189 hB, e6, rc_189 hB6, m_isCoin0 hB6 hM6 hx])); first | rw [Option.bind_some] | rw [bp_s] | rw [if_true] | rw [if_false] | rw [rv_lt_eq] | rw [if_pos (by omega)] | rw [if_neg (by omega)])
      all_goals rfl
end
