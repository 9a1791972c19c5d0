/-! AGAIN: both sides -/
section
variable {n : Nat} {S : rvS} {m : Nat → Nat} {s0 : St} {wd : Nat → List Nat}
theorem hitK_A (hk : okm m) (hs0 : okS m s0) {i : Nat} (hb : BS m s0 i) (hi : i < (bfs m s0 i).1) : hitK m s0 s0.1 (nI (sB s0.1 s0.2)) i ↔ (gok m ((bfs m s0 i).2.1 i) s0.1 ∧ nx m ((bfs m s0 i).2.1 i) s0.1 = s0) := by
  obtain ⟨hp, hc, hd⟩ := id hk
  have ok := (hb.1.2.2.2.1 i hi).1
  have pk := ps_ok hc ok.1 ok.2
  have b0 := sB_lt hp hs0.1 hs0.2
  have b1 := sB_lt hp hs0.1 pk
  constructor
  · rintro ⟨h1, h2 | h2⟩
    · rw [z_eqM (by omega)] at h2; exact h2.elim
    · rw [n_eq (by omega) (by omega)] at h2
      obtain ⟨-, e⟩ := sB_inj hp hs0.1 hs0.1 pk hs0.2 h2
      exact ⟨h1, Prod.ext rfl e⟩
  · rintro ⟨h1, h2⟩
    refine ⟨h1, Or.inr ?_⟩
    have e : ps m ((bfs m s0 i).2.1 i).1 ((bfs m s0 i).2.1 i).2 = s0.2 := congrArg Prod.snd h2
    rw [e]
theorem NR_a (hk : okm m) (hs0 : okS m s0) {c : Cf} {h J : Nat} (ho : okS m (c.2.1 h)) (hJ : J ≤ vW m) (h1 : s0.1 < J → ¬ (gok m (c.2.1 h) s0.1 ∧ nx m (c.2.1 h) s0.1 = s0)) : NR m iM (nI (cd s0.1 s0.2)) c h J := fun j hj => by
  obtain ⟨hp, hc, hd⟩ := id hk
  have h24 := hp.1
  have pk := ps_ok hc ho.1 ho.2
  have l1 := cd_lt hp (o := j) (by omega) pk
  have l0 := cd_lt hp hs0.1 hs0.2
  refine ⟨fun hg e => ?_, fun _ _ e => ?_⟩
  · rw [n_eq (by omega) (by omega)] at e
    obtain ⟨e1, e2⟩ := cd_inj hp pk hs0.2 e
    rw [e1] at hg hj
    exact h1 hj ⟨hg, Prod.ext rfl e2⟩
  · rw [z_eqM (by omega)] at e
    exact e
theorem op_again (hn : 400000 ≤ n) (hV : VI S m wd) (x : Int32) : ∃ r S1 S', fnX12_again n S 64 x = some (r, S1) ∧ fnX13_again n S1 189 x = some (r, S') ∧ QS S S' m wd := by
  obtain ⟨hB, hR, hL, hk, -⟩ := id hV
  obtain ⟨hp, hc, hd⟩ := id hk
  have h24 := hp.1
  have h40 := hc.1
  have hC := CS_of hB
  have hv : vb 67 := Or.inl rfl
  have hVS := VS_of hB hv
  have r6 := rf_of hB (show (64, 6, 111) ∈ rv_rf0 by decide)
  rcases rng x (N := vC m) (by omega) with ⟨c, hcc, rfl⟩ | hx
  · have k1 := k_isCoin (n := n) hB hR hk hcc
    have ho := (hc.2.2 c hcc).2.2.1
    have hl := hc.l hcc
    have ln : (rl m c).length ≤ vN m := by rw [rl_len (by have := (hc.2.2 c hcc).2.2.2.1; have := hc.2.1; omega)]; exact (hc.2.2 c hcc).2.2.2.1
    obtain ⟨s0, es0⟩ : ∃ s0 : St, s0 = (ow m c, rl m c) := ⟨_, rfl⟩
    have hs0 : okS m s0 := by rw [es0]; exact ⟨ho, hl⟩
    have h0 : s0.2.length ≤ vN m := by rw [es0]; exact ln
    have eo : ow m c = s0.1 := by rw [es0]
    have er : rl m c = s0.2 := by rw [es0]
    have sl := sB_lt hp hs0.1 hs0.2
    have cl0 := cd_lt hp hs0.1 hs0.2
    have cls : ∀ r S1, fnX2_goRound n S 111 67 (nI c) = some (r, S1) → fnX12_again n S 64 (nI c) = some (r, S1) := fun r S1 e => by
      rw [fnX12_again]
      repeat (first | (conv => (lhs; arg 1; simp (disch := first | assumption | omega) only [tk_gI, tk_gL, tk_gR, tk_pI, tk_pL, rv_aI, rv_aL, rv_aR, rv_uI, rv_uL, rv_uB, rv_uZ, pu_ckI, pu_ckL, pu_lnI, pu_lnL, tk_rI, tk_rL, Option.bind_some, Option.map_some, rv_lt, tk_ix, z0, z1, z2, z3, z4, z5, z6, z7, z8, z9, z10, z11, z12, z13, z15, z16, z17, z18, z20, z21, z23, z24, z25, z31, z32, z39, z40, z41, z46, z48, z50, z57, z59, z60, z61, z62, z63, z64, z97, z98, z99, z100, z101, z102, z103, z104, z105, z106, z107, z108, z109, z110, z111, z112, z113, z114, z115, z116, z117, z118, z119, z120, z121, z122, z128, z132, z200, z240, z255, z372, z390625, z400, z420, z421, z422, z662, z900, z940, z999, z1000, z1024, z2000, z5860, z10000, z12345, z15625, z266240, z1048575, z1064960, z1103515245, z_m1, n_le, n_lt, n_eq, n_bit0, n_bit1, n_sbit0, n_shl, z_ltM, z_Mlt, z_leM, z_Mle, z_eqM, z_Meq, bI0, bI1, bI_01, bI_01t, bI_10, bI_10f, if_true, if_false, eq_self, reduceCtorEq, hC, k1])); first | rw [Option.bind_some] | rw [bp_s] | rw [if_true] | rw [if_false] | rw [rv_lt_eq] | rw [if_pos (by omega)] | rw [if_neg (by omega)])
      repeat (first | (conv => (lhs; arg 1; simp (disch := first | assumption | omega) only [tk_gI, tk_gL, tk_gR, tk_pI, tk_pL, rv_aI, rv_aL, rv_aR, rv_uI, rv_uL, rv_uB, rv_uZ, pu_ckI, pu_ckL, pu_lnI, pu_lnL, tk_rI, tk_rL, Option.bind_some, Option.map_some, rv_lt, tk_ix, hC, r6, rc_111 hB, e])); first | rw [Option.bind_some] | rw [bp_s] | rw [if_true] | rw [if_false] | rw [rv_lt_eq] | rw [if_pos (by omega)] | rw [if_neg (by omega)])
    have ch := k_canHaveCome (n := n) (by omega) hB hR hk hcc
    have sn := k_stateNow (n := n) hB hv hR hk hcc
    have own := k_ownerOf (n := n) (S := S) hp ho (rl m c)
    rw [eo, er] at sn own ch
    obtain ⟨Sk, ek, fk, Qk⟩ := k_sbegin (n := n) (by omega) hB hR hk hs0 s0.1 (nI (sB s0.1 s0.2))
    have hBk := fk.B hB
    have hRk := CR_K hR fk rfl
    have nrs : ∀ i, BS m s0 i → (¬ (gok m ((bfs m s0 i).2.1 i) s0.1 ∧ nx m ((bfs m s0 i).2.1 i) s0.1 = s0) ∧ i < (bfs m s0 i).1) → i < (bfs m s0 i).1 ∧ NR m iM (nI (cd s0.1 s0.2)) (bfs m s0 i) i (vW m) := fun i hb hi => ⟨hi.2, NR_a hk hs0 (hb.1.2.2.2.1 i hi.2).1 (Nat.le_refl _) fun _ => hi.1⟩
    have bss : ∀ h, (∀ i, i < h → i < (bfs m s0 i).1) → ∀ i, i ≤ h → BS m s0 i := by
      intro h hh i
      induction i with
      | zero => intro _; exact BS_0 hs0
      | succ i ih => intro hi; exact BS_s hk (ih (by omega)) (hh i (by omega))
    have ref : ∀ S1 S6, rv_B S1 → fnX13_lay n (rv_sI S1 189 0 (nI 0)) 189 = some S6 → rv_B S6 → MR S6 m → ∃ S9, rvf RD S6 S9 ∧ RQ S9 (bfs m s0 0) ∧ ∀ R, (rv_bp (cX13_reach_60 n n S9 189 iM (nI (cd s0.1 s0.2)) (nI 0)) fun x29_ S30_ => if x29_ = (-1 : Int32) then some ((-1 : Int32), S30_) else (rv_gI S30_ 11 189 37).bind fun x34_ => cX13_again_47 n n S30_ 189 (1 : Int32) x34_) = R → fnX13_again n S1 189 (nI c) = R := fun S1 S6 hB1 e6 hB6 hM6 => by
      obtain ⟨S7, e7, f7, g7⟩ := m_hold (n := n) (by omega) hB6 hM6 (c := c) (by omega)
      have hB7 := f7.B hB6
      have hM7 := hM6.f f7 rfl
      have H7 := HR_of g7 (by have := (hc.2.2 c hcc).2.2.2.1; have := hc.2.1; omega)
      rw [eo, er] at H7
      have kc := m_code (n := n) (by omega) hB7 hp H7 hs0.1 hs0.2
      obtain ⟨S9, e9, f9, Q9⟩ := m_rbegin (n := n) (by omega) hB7 hM7 hk hcc iM (nI (cd s0.1 s0.2))
      rw [← es0] at Q9
      refine ⟨S9, (f7.mono rfl).tr f9, Q9, fun R hR' => ?_⟩
      rw [fnX13_again]
      repeat (first | (conv => (lhs; arg 1; simp (disch := first | assumption | omega) only [tk_gI, tk_gL, tk_gR, tk_pI, tk_pL, rv_aI, rv_aL, rv_aR, rv_uI, rv_uL, rv_uB, rv_uZ, pu_ckI, pu_ckL, pu_lnI, pu_lnL, tk_rI, tk_rL, Option.bind_some, Option.map_some, rv_lt, tk_ix, z0, z1, z2, z3, z4, z5, z6, z7, z8, z9, z10, z11, z12, z13, z15, z16, z17, z18, z20, z21, z23, z24, z25, z31, z32, z39, z40, z41, z46, z48, z50, z57, z59, z60, z61, z62, z63, z64, z97, z98, z99, z100, z101, z102, z103, z104, z105, z106, z107, z108, z109, z110, z111, z112, z113, z114, z115, z116, z117, z118, z119, z120, z121, z122, z128, z132, z200, z240, z255, z372, z390625, z400, z420, z421, z422, z662, z900, z940, z999, z1000, z1024, z2000, z5860, z10000, z12345, z15625, z266240, z1048575, z1064960, z1103515245, z_m1, n_le, n_lt, n_eq, n_bit0, n_bit1, n_sbit0, n_shl, z_ltM, z_Mlt, z_leM, z_Mle, z_eqM, z_Meq, bI0, bI1, bI_01, bI_01t, bI_10, bI_10f, if_true, if_false, eq_self, reduceCtorEq, rc_189 hB1, e6, rc_189 hB6, m_isCoin hB6 hM6 hc hcc])); first | rw [Option.bind_some] | rw [bp_s] | rw [if_true] | rw [if_false] | rw [rv_lt_eq] | rw [if_pos (by omega)] | rw [if_neg (by omega)])
      repeat (first | (conv => (lhs; arg 1; simp (disch := first | assumption | omega) only [tk_gI, tk_gL, tk_gR, tk_pI, tk_pL, rv_aI, rv_aL, rv_aR, rv_uI, rv_uL, rv_uB, rv_uZ, pu_ckI, pu_ckL, pu_lnI, pu_lnL, tk_rI, tk_rL, Option.bind_some, Option.map_some, rv_lt, tk_ix, rc_189 hB6, e7, rc_189 hB7, kc])); first | rw [Option.bind_some] | rw [bp_s] | rw [if_true] | rw [if_false] | rw [rv_lt_eq] | rw [if_pos (by omega)] | rw [if_neg (by omega)])
      rw [show (-1 : Int32) = iM from rfl, e9]
      exact hR'
    have early : CH m s0.1 s0.2 = false → fnX2_goRound n S 111 67 (nI c) = some (iM, S) := fun h => by
      rw [fnX2_goRound, ch, h, bI_f, Option.bind_some, if_pos (by rfl)]
      rfl
    have late : CH m s0.1 s0.2 = true → ∀ R, (rv_bp (cX2_spread_32 n n Sk 111 67 (nI s0.1) (nI (sB s0.1 s0.2)) (nI 1) (nI 0)) fun x16_ S17_ => if x16_ = (-1 : Int32) then some ((-1 : Int32), S17_) else (rv_ck S17_ 1 111).bind fun u21_ => (fnX2_steps n S17_ 111 x16_).bind fun x24_ => some (x24_ + (1 : Int32), S17_)) = R → fnX2_goRound n S 111 67 (nI c) = R := fun h R hR' => by
      rw [fnX2_goRound, ch, h, bI_t, Option.bind_some, if_neg (by decide)]
      repeat (first | (conv => (lhs; arg 1; simp (disch := first | assumption | omega) only [tk_gI, tk_gL, tk_gR, tk_pI, tk_pL, rv_aI, rv_aL, rv_aR, rv_uI, rv_uL, rv_uB, rv_uZ, pu_ckI, pu_ckL, pu_lnI, pu_lnL, tk_rI, tk_rL, Option.bind_some, Option.map_some, rv_lt, tk_ix, hVS, sn, own, rc_111 hB])); first | rw [Option.bind_some] | rw [bp_s] | rw [if_true] | rw [if_false] | rw [rv_lt_eq] | rw [if_pos (by omega)] | rw [if_neg (by omega)])
      rw [ek]
      exact hR'
    rcases bfs_end hk hs0 h0 (fun i => gok m ((bfs m s0 i).2.1 i) s0.1 ∧ nx m ((bfs m s0 i).2.1 i) s0.1 = s0) with ⟨h, hh, hit, hb, hno⟩ | ⟨T, hT, hb, hno⟩
    · obtain ⟨K, hKh, hK⟩ := Chn_ex (BI_P hb.1) (h + 1) h (Nat.lt_succ_self h) hh
      have cap := BI_cap hk hb.1 h0
      have bs' := bss h (fun i hi => (hno i hi).2)
      have rch : Rch m s0 (K + 1) s0 := ⟨(bfs m s0 h).2.1 h, s0.1, BI_R hb.1 K h hh hK, hs0.1, hit.1, hit.2.symm⟩
      have chT := CH_round hk hs0 h0 rch
      obtain ⟨S2, e2, f2, Q2⟩ := k_found (n := n) (by omega) hBk hRk hk hs0 h0 Qk hs0.1 (nI (sB s0.1 s0.2)) hh hb ((hitK_A hk hs0 hb hh).mpr hit) fun i hi => ⟨fun z => (hno i hi).1 ((hitK_A hk hs0 (bs' i (by omega)) (hno i hi).2).mp z), (hno i hi).2⟩
      have hB2 := f2.B hBk
      have st := k_steps (n := n) hB2 hp hb.1 cap Q2 K h 0 (n - K - 1) hh hK (by omega)
      rw [show n - K - 1 + K + 1 = n by omega, Nat.zero_add] at st
      have st' : fnX2_steps n S2 111 (nI h) = some (nI K) := st
      have f12 : rvf KE S S2 := fk.tr (f2.mono rfl)
      have R2 := CR_K hR f12 rfl
      obtain ⟨S6, e6, hB6, f6, hM6, r6', b6⟩ := start_ok (n := n) (by omega) hB2 (hL.f f12 rfl rfl)
      obtain ⟨S9, f9, Q9, E9⟩ := ref S2 S6 hB2 e6 hB6 hM6
      have hB9 := f9.B hB6
      have hM9 := hM6.f f9 rfl
      obtain ⟨mf, -⟩ := m_found (n := n) (by omega) hB9 hM9 hk hs0 h0 Q9 iM (nI (cd s0.1 s0.2)) hs0.1 hh hb hit.1 (fun i hi => nrs i (bs' i (by omega)) (hno i hi)) (NR_a hk hs0 (hb.1.2.2.2.1 h hh).1 (by have := hs0.1; omega) fun z => absurd z (Nat.lt_irrefl _)) hit.2.symm
      obtain ⟨S10, e10, f10, Q10, l10⟩ := mf rfl
      have hB10 := f10.B hB9
      have eQ := exl_Q (m := m) hh s0.1
      have hb' := exl_BI (m := m) hk hh hb.1 s0.1 (by have := hs0.1; omega)
      have x := exl_ext (m := m) h (bfs m s0 h) s0.1
      have hh' : h < (exl m h (bfs m s0 h) s0.1).1 := Nat.lt_of_lt_of_le hh x.1
      have a47 := m_a47 (n := n) hB10 hp hb' Q10 K h 1 (n - K - 1) hh' (Chn_cong (BI_P hb.1) (fun i hi => (x.2 i hi).2) K h hh hK) (by omega)
      rw [show n - K - 1 + K + 1 = n by omega, cQ, eQ] at a47
      have fz : rvf ([189000, 189022, 191] ++ RD) S2 S10 := (f6.mono rfl).tr ((f9.mono rfl).tr (f10.mono rfl))
      refine ⟨nI (K + 1), S2, S10, cls _ _ (late chT _ ?_), E9 _ ?_, QS.two hV f12 fz rfl rfl (by decide) (by decide) R2 (hM9.f f10 rfl) (by rw [f10.at (a := 189) (k := 22) rfl, f9.at (a := 189) (k := 22) rfl]; exact b6) hk rfl rfl (r6'.tr ((R42.of f9 rfl).tr (R42.of f10 rfl)))⟩
      · have nh : ¬ nI h = (-1 : Int32) := fun z => by
          have z : nI h = iM := z
          rw [z_eqM (by omega)] at z
          exact z
        rw [e2, bp_s, if_neg nh, rc_111 hB2, Option.bind_some, st', Option.bind_some, z1, nI_add]
      · have nh : ¬ nI (cd s0.1 s0.2) = (-1 : Int32) := fun z => by
          have z : nI (cd s0.1 s0.2) = iM := z
          rw [z_eqM (by omega)] at z
          exact z
        rw [e10, bp_s, if_neg nh]
        repeat (first | (conv => (lhs; arg 1; simp (disch := first | assumption | omega) only [tk_gI, tk_gL, tk_gR, tk_pI, tk_pL, rv_aI, rv_aL, rv_aR, rv_uI, rv_uL, rv_uB, rv_uZ, pu_ckI, pu_ckL, pu_lnI, pu_lnL, tk_rI, tk_rL, Option.bind_some, Option.map_some, rv_lt, tk_ix, rc_189 hB10, l10])); first | rw [Option.bind_some] | rw [bp_s] | rw [if_true] | rw [if_false] | rw [rv_lt_eq] | rw [if_pos (by omega)] | rw [if_neg (by omega)])
        rw [z1, cQ, a47, Nat.add_comm]
    · have bs' := bss T (fun i hi => (hno i hi).2)
      have fin : ∀ S2, rvf KE S S2 → fnX2_goRound n S 111 67 (nI c) = some (iM, S2) → ∃ r S1 S', fnX12_again n S 64 (nI c) = some (r, S1) ∧ fnX13_again n S1 189 (nI c) = some (r, S') ∧ QS S S' m wd := fun S2 f12 e2 => by
        have hB2 := f12.B hB
        have R2 := CR_K hR f12 rfl
        obtain ⟨S6, e6, hB6, f6, hM6, r6', b6⟩ := start_ok (n := n) (by omega) hB2 (hL.f f12 rfl rfl)
        obtain ⟨S9, f9, Q9, E9⟩ := ref S2 S6 hB2 e6 hB6 hM6
        have hB9 := f9.B hB6
        have hM9 := hM6.f f9 rfl
        obtain ⟨S10, e10, f10, -⟩ := m_none (n := n) (by omega) hB9 hM9 hk hs0 h0 Q9 iM (nI (cd s0.1 s0.2)) hT hb fun i hi => nrs i (bs' i (by omega)) (hno i hi)
        have fz : rvf ([189000, 189022, 191] ++ RD) S2 S10 := (f6.mono rfl).tr ((f9.mono rfl).tr (f10.mono rfl))
        refine ⟨iM, S2, S10, cls _ _ e2, E9 _ ?_, QS.two hV f12 fz rfl rfl (by decide) (by decide) R2 (hM9.f f10 rfl) (by rw [f10.at (a := 189) (k := 22) rfl, f9.at (a := 189) (k := 22) rfl]; exact b6) hk rfl rfl (r6'.tr ((R42.of f9 rfl).tr (R42.of f10 rfl)))⟩
        rw [e10, bp_s, if_pos (by rfl)]
        rfl
      cases chc : CH m s0.1 s0.2
      · exact fin S (rvf.rf _ _) (early chc)
      · obtain ⟨S2, e2, f2, -⟩ := k_none (n := n) (by omega) hBk hRk hk hs0 h0 Qk hs0.1 (nI (sB s0.1 s0.2)) hT hb fun i hi => ⟨fun z => (hno i hi).1 ((hitK_A hk hs0 (bs' i (by omega)) (hno i hi).2).mp z), (hno i hi).2⟩
        refine fin S2 (fk.tr (f2.mono rfl)) (late chc _ ?_)
        rw [e2, bp_s, if_pos (by rfl)]
        rfl
  · obtain ⟨S6, e6, hB6, f6, hM6, r6', b6⟩ := start_ok (n := n) (by omega) hB hL
    refine ⟨iM, S, S6, ?_, ?_, QS.s0 hV f6 hM6 r6' b6⟩
    · rw [fnX12_again]
      repeat (first | (conv => (lhs; arg 1; simp (disch := first | assumption | omega) only [tk_gI, tk_gL, tk_gR, tk_pI, tk_pL, rv_aI, rv_aL, rv_aR, rv_uI, rv_uL, rv_uB, rv_uZ, pu_ckI, pu_ckL, pu_lnI, pu_lnL, tk_rI, tk_rL, Option.bind_some, Option.map_some, rv_lt, tk_ix, z0, z1, z2, z3, z4, z5, z6, z7, z8, z9, z10, z11, z12, z13, z15, z16, z17, z18, z20, z21, z23, z24, z25, z31, z32, z39, z40, z41, z46, z48, z50, z57, z59, z60, z61, z62, z63, z64, z97, z98, z99, z100, z101, z102, z103, z104, z105, z106, z107, z108, z109, z110, z111, z112, z113, z114, z115, z116, z117, z118, z119, z120, z121, z122, z128, z132, z200, z240, z255, z372, z390625, z400, z420, z421, z422, z662, z900, z940, z999, z1000, z1024, z2000, z5860, z10000, z12345, z15625, z266240, z1048575, z1064960, z1103515245, z_m1, n_le, n_lt, n_eq, n_bit0, n_bit1, n_sbit0, n_shl, z_ltM, z_Mlt, z_leM, z_Mle, z_eqM, z_Meq, bI0, bI1, bI_01, bI_01t, bI_10, bI_10f, if_true, if_false, eq_self, reduceCtorEq, hC, k_isCoin0 hB hR hx])); first | rw [Option.bind_some] | rw [bp_s] | rw [if_true] | rw [if_false] | rw [rv_lt_eq] | rw [if_pos (by omega)] | rw [if_neg (by omega)])
      all_goals rfl
    · rw [fnX13_again]
      repeat (first | (conv => (lhs; arg 1; simp (disch := first | assumption | omega) only [tk_gI, tk_gL, tk_gR, tk_pI, tk_pL, rv_aI, rv_aL, rv_aR, rv_uI, rv_uL, rv_uB, rv_uZ, pu_ckI, pu_ckL, pu_lnI, pu_lnL, tk_rI, tk_rL, Option.bind_some, Option.map_some, rv_lt, tk_ix, z0, z1, z2, z3, z4, z5, z6, z7, z8, z9, z10, z11, z12, z13, z15, z16, z17, z18, z20, z21, z23, z24, z25, z31, z32, z39, z40, z41, z46, z48, z50, z57, z59, z60, z61, z62, z63, z64, z97, z98, z99, z100, z101, z102, z103, z104, z105, z106, z107, z108, z109, z110, z111, z112, z113, z114, z115, z116, z117, z118, z119, z120, z121, z122, z128, z132, z200, z240, z255, z372, z390625, z400, z420, z421, z422, z662, z900, z940, z999, z1000, z1024, z2000, z5860, z10000, z12345, z15625, z266240, z1048575, z1064960, z1103515245, z_m1, n_le, n_lt, n_eq, n_bit0, n_bit1, n_sbit0, n_shl, z_ltM, z_Mlt, z_leM, z_Mle, z_eqM, z_Meq, bI0, bI1, bI_01, bI_01t, bI_10, bI_10f, if_true, if_false, eq_self, reduceCtorEq, rc_189 hB, e6, rc_189 hB6, m_isCoin0 hB6 hM6 hx])); first | rw [Option.bind_some] | rw [bp_s] | rw [if_true] | rw [if_false] | rw [rv_lt_eq] | rw [if_pos (by omega)] | rw [if_neg (by omega)])
      all_goals rfl
end
