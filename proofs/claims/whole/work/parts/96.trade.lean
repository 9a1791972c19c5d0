/-! TRADE: a payment drawn in the draft; a rim made shorter -/
section
variable {n : Nat} {S : rvS} {m m' : Nat → Nat} {wd : Nat → List Nat}
theorem okp.c3 (h : okp m) (e : ∀ k, k < 132 → k ≠ 3 → m' k = m k) : okp m' := by
  obtain ⟨h1, h2, h3, h4, h5, h6⟩ := h
  have e0 : vW m' = vW m := e 0 (by decide) (by decide)
  refine ⟨by rw [e0]; exact h1, fun w hw => ?_, fun w hw => ?_, fun a b ha hb => ?_, fun v hv => ?_, fun a b ha hb => ?_⟩
  · rw [e0] at hw
    have : at_ m' w = at_ m w := e _ (by omega) (by omega)
    rw [this]; exact h2 w hw
  · rw [e0] at hw
    have e1 : mt m' w = mt m w := e _ (by omega) (by omega)
    have e2 : de m' w = de m w := e _ (by omega) (by omega)
    have e3 : sg m' w = sg m w := e _ (by omega) (by omega)
    rw [e0, e1, e2, e3]; exact h3 w hw
  · rw [e0] at ha hb
    have e1 : mt m' a = mt m a := e _ (by omega) (by omega)
    have e2 : mt m' b = mt m b := e _ (by omega) (by omega)
    rw [e1, e2]; exact h4 a b ha hb
  · have e1 : rd m' v = rd m v := e _ (by omega) (by omega)
    rw [e1]; exact h5 v hv
  · have e1 : rd m' a = rd m a := e _ (by omega) (by omega)
    have e2 : rd m' b = rd m b := e _ (by omega) (by omega)
    unfold nr
    rw [e1, e2]; exact h6 a b ha hb
theorem FR.c3 {f : Nat} (h : FR S f m) (hp : okp m) (e : ∀ k, k < 132 → k ≠ 3 → m' k = m k) : FR S f m' := by
  obtain ⟨a1, a2, a3, a4, a5, a6, a7, a8⟩ := h
  have h24 := hp.1
  have e0 : vW m' = vW m := e 0 (by decide) (by decide)
  refine ⟨by rw [e0]; exact a1, ?_, ?_, fun w hw => ?_, fun w hw => ?_, fun w hw => ?_, fun j hj => ?_, fun j hj => ?_⟩
  · rw [e0, a2]
    exact congrArg nI (bs_cong fun w hw => by rw [show de m' w = de m w from e _ (by omega) (by omega)])
  · rw [e0, a3]
    exact congrArg nI (bs_cong fun w hw => by rw [show sg m' w = sg m w from e _ (by omega) (by omega)])
  · rw [e0] at hw
    rw [show at_ m' w = at_ m w from e _ (by omega) (by omega)]; exact a4 w hw
  · rw [e0] at hw
    unfold hs
    rw [show mt m' w = mt m w from e _ (by omega) (by omega)]; exact a5 w hw
  · rw [e0] at hw
    rw [show ea m' w = ea m w from e _ (by omega) (by omega)]; exact a6 w hw
  · rw [show rd m' j = rd m j from e _ (by omega) (by omega)]; exact a7 j hj
  · rw [a8 j hj]
    unfold rc
    rw [e0]
    exact congrArg nI (bs_cong fun w hw => by
      unfold nr
      rw [show at_ m' w = at_ m w from e _ (by omega) (by omega), show de m' w = de m w from e _ (by omega) (by omega), show rd m' j = rd m j from e _ (by omega) (by omega)])
theorem okd.c3 (h : okd m) (h24 : vW m ≤ 24) (e : ∀ k, k < 8 → k ≠ 3 → m' k = m k) (e2 : ∀ k, 372 ≤ k → m' k = m k) : okd m' := by
  obtain ⟨h1, h2, h3, h4, h5, h6, h7⟩ := h
  have e0 : vW m' = vW m := e 0 (by decide) (by decide)
  have e3 : vD m' = vD m := e 2 (by decide) (by decide)
  have e4 : vF m' = vF m := e 4 (by decide) (by decide)
  have e5 : vL m' = vL m := e 5 (by decide) (by decide)
  have e6 : m' 6 = m 6 := e 6 (by decide) (by decide)
  refine ⟨by rw [e3]; exact h1, by rw [e4]; exact h2, by rw [e4]; exact h3, by rw [e5]; exact h4, by rw [e6]; exact h5, by rw [e6, e0]; exact h6, fun k hk => ?_⟩
  rw [e3] at hk
  have g : ∀ i, db m' k i = db m k i := fun i => e2 _ (by omega)
  rw [g, g, g, g, e0]
  exact h7 k hk
theorem k_draw148 (hB : rv_B S) {s : Int32} (hs : S.2.1 148 0 = s) {N : Nat} (h : 0 < N) (h2 : N < 2147483648) : fnX3_draw n S 148 (nI N) = some (nI (dr s N), rv_sI S 148 0 (sd s)) := by
  have e0 : rv_gI S 2 148 0 = some s := by rw [tk_gI, rc_148 hB, ← hs]; rfl
  have e1 : rv_pI S 2 148 0 (sd s) = some (rv_sI S 148 0 (sd s)) := by rw [tk_pI, rc_148 hB]; rfl
  have hB1 : rv_B (rv_sI S 148 0 (sd s)) := (rvf.sI S 148 0 (sd s)).B hB
  have e2 : rv_gI (rv_sI S 148 0 (sd s)) 2 148 0 = some (sd s) := by rw [tk_gI, rc_148 hB1, Option.map_some, rv_sI_eq]
  have c : ¬ nI N ≤ (0 : Int32) := by rw [z0, n_le (by omega) (by decide)]; omega
  rw [fnX3_draw, e0, Option.bind_some, z1103515245, z12345, ← sd, e1, Option.bind_some, if_neg c, e2, Option.bind_some, nz_ok h h2, Option.bind_some, dr_sh, dr_eq s h h2]
theorem k_dpay87 (hn : 50 ≤ n) (hB : rv_B S) (hR : CR S 87 m) (hk : okm m) (hW : 0 < vW m) {s : Int32} {p q : Nat} (hs : S.2.1 148 0 = s) (h1 : S.2.1 148 1 = nI p) (h2 : S.2.1 148 2 = nI q) :
    ∃ S', fnX3_drawPayment n S 148 87 = some (nI (dr s (vW m)), S') ∧ rvf [148, 97, 98] S S' ∧ CR S' 87 (dpay m s).1 ∧ S'.2.1 148 0 = (dpay m s).2.1 ∧ S'.2.1 148 1 = nI (p + (dpay m s).2.2.1) ∧ S'.2.1 148 2 = nI (q + (dpay m s).2.2.2) ∧ S'.2.1 148 3 = S.2.1 148 3 ∧ S'.2.1 148 4 = S.2.1 148 4 := by
  obtain ⟨hp, hc, hd⟩ := id hk
  have h24 := hp.1
  have h40 := hc.1
  have hv : vb 87 := by unfold vb; decide
  have la := dr_lt s hW
  have lb := dr_lt (sd s) hW
  have hVS := VS_of hB hv
  have hFS := FS_of hB hv.f
  have d1 := k_draw148 (n := n) hB hs hW (by omega)
  obtain ⟨S1, eS1⟩ : ∃ S1, S1 = rv_sI S 148 0 (sd s) := ⟨_, rfl⟩
  have f1 : rvf [148] S S1 := by rw [eS1]; exact rvf.sI S 148 0 (sd s)
  have hB1 := f1.B hB
  have hs1 : S1.2.1 148 0 = sd s := by rw [eS1, rv_sI_eq]
  have R1 := hR.f f1 hv (Or.inl rfl) (Or.inl rfl) (Or.inr (by decide)) (Or.inr (by decide))
  have hVS1 := VS_of hB1 hv
  have hFS1 := FS_of hB1 hv.f
  have d2 := k_draw148 (n := n) hB1 hs1 hW (by omega)
  obtain ⟨S2, eS2⟩ : ∃ S2, S2 = rv_sI S1 148 0 (sd (sd s)) := ⟨_, rfl⟩
  have f2 : rvf [148] S1 S2 := by rw [eS2]; exact rvf.sI S1 148 0 (sd (sd s))
  have hB2 := f2.B hB1
  have hs2 : S2.2.1 148 0 = sd (sd s) := by rw [eS2, rv_sI_eq]
  have R2 := R1.f f2 hv (Or.inl rfl) (Or.inl rfl) (Or.inr (by decide)) (Or.inr (by decide))
  have hVS2 := VS_of hB2 hv
  have hPS2 := PS_of hB2 hv.p
  have k12 : ∀ k, k ≠ 0 → S2.2.1 148 k = S.2.1 148 k := fun k hk => by rw [eS2, rv_sI_k _ _ hk, eS1, rv_sI_k _ _ hk]
  have kco := k_coinsOf hn hPS2 R2.2.1 hp hc (w := dr s (vW m)) (by omega)
  rw [← eS1] at d1
  rw [← eS2] at d2
  have hF := hR.1.1
  have hF1 := R1.1.1
  have top : fnX3_drawPayment n S 148 87 = (if (lg_cmp (lN (bs (fun c => decide (ow m c = dr s (vW m))) (vC m))) (0 : Int64)) = 0 then some (nI (dr s (vW m)), S2) else
      (fnJ13_bitCount_95d88 n S2 (lN (bs (fun c => decide (ow m c = dr s (vW m))) (vC m)))).bind fun x32_ =>
      (rv_ck S2 2 148).bind fun u34_ =>
      rv_bp (fnX3_draw n S2 148 x32_) fun x37_ S38_ =>
      (fnX12_countOrOne n S38_ (lN (bs (fun c => decide (ow m c = dr s (vW m))) (vC m))) x37_).bind fun x42_ =>
      (rv_ck S38_ 8 87).bind fun u44_ =>
      (fnX9_whyNot n S38_ 87 x42_ (nI (dr (sd s) (vW m)))).bind fun x47_ =>
      if x47_ = 0 then (
        (rv_gR S38_ 8 87 1).bind fun a54_ =>
        (rv_ck S38_ 5 a54_).bind fun u56_ =>
        (fnX6_move n S38_ a54_ x42_ (nI (dr (sd s) (vW m)))).bind fun S59_ =>
        (rv_gI S59_ 2 148 1).bind fun x62_ =>
        (rv_pI S59_ 2 148 1 (x62_ + (1 : Int32))).bind fun S64_ =>
        some (nI (dr s (vW m)), S64_))
      else (
        (rv_gI S38_ 2 148 2).bind fun x50_ =>
        (rv_pI S38_ 2 148 2 (x50_ + (1 : Int32))).bind fun S52_ =>
        some (nI (dr s (vW m)), S52_))) := by
    rw [fnX3_drawPayment]
    repeat (first | (conv => (lhs; arg 1; simp (disch := first | assumption | omega) only [tk_gI, tk_gL, tk_gR, tk_pI, tk_pL, rv_aI, rv_aL, rv_aR, rv_uI, rv_uL, rv_uB, rv_uZ, pu_ckI, pu_ckL, pu_lnI, pu_lnL, tk_rI, tk_rL, Option.bind_some, Option.map_some, rv_lt, tk_ix, hVS, hFS, hF, rc_148 hB, d1, hVS1, hFS1, hF1, rc_148 hB1, d2, hVS2, hPS2, kco])); first | rw [Option.bind_some] | rw [bp_s] | rw [if_true] | rw [if_false] | rw [rv_lt_eq] | rw [if_pos (by omega)] | rw [if_neg (by omega)])
    all_goals rfl
  rw [top]
  have b40 := bs_64 (fun c => decide (ow m c = dr s (vW m))) h40
  by_cases c0 : fb_ct (fun c => decide (ow m c = dr s (vW m))) (vC m) = 0
  · have z : bs (fun c => decide (ow m c = dr s (vW m))) (vC m) = 0 := bs_zero.mpr (fb_ct_zero.mp c0)
    have e : dpay m s = (m, sd (sd s), 0, 0) := if_pos c0
    have h : lg_cmp (lN 0) (0 : Int64) = 0 := by rw [y0, z0, m_cmp (by decide) (by decide)]
    rw [z, if_pos h, e]
    exact ⟨S2, rfl, (f1.mono rfl).tr (f2.mono rfl), R2, hs2, (k12 1 (by decide)).trans h1, (k12 2 (by decide)).trans h2, k12 3 (by decide), k12 4 (by decide)⟩
  · have zb : ¬ bs (fun c => decide (ow m c = dr s (vW m))) (vC m) = 0 := fun z => c0 (fb_ct_zero.mpr (bs_zero.mp z))
    have h : ¬ lg_cmp (lN (bs (fun c => decide (ow m c = dr s (vW m))) (vC m))) (0 : Int64) = 0 := by rw [y0, z0, m_cmp (by omega) (by decide)]; exact zb
    have hle := fb_ct_le (fun c => decide (ow m c = dr s (vW m))) (vC m)
    have lk := dr_lt (sd (sd s)) (show 0 < fb_ct (fun c => decide (ow m c = dr s (vW m))) (vC m) by omega)
    have d3 := k_draw148 (n := n) hB2 hs2 (N := fb_ct (fun c => decide (ow m c = dr s (vW m))) (vC m)) (by omega) (by omega)
    obtain ⟨S3, eS3⟩ : ∃ S3, S3 = rv_sI S2 148 0 (sd (sd (sd s))) := ⟨_, rfl⟩
    have f3 : rvf [148] S2 S3 := by rw [eS3]; exact rvf.sI S2 148 0 _
    rw [← eS3] at d3
    have hB3 := f3.B hB2
    have hs3 : S3.2.1 148 0 = sd (sd (sd s)) := by rw [eS3, rv_sI_eq]
    have k3 : ∀ k, k ≠ 0 → S3.2.1 148 k = S.2.1 148 k := fun k hk => by rw [eS3, rv_sI_k _ _ hk]; exact k12 k hk
    have R3 := R2.f f3 hv (Or.inl rfl) (Or.inl rfl) (Or.inr (by decide)) (Or.inr (by decide))
    have hVS3 := VS_of hB3 hv
    have hPS3 := PS_of hB3 hv.p
    obtain ⟨kk, kl, ko⟩ := k_kth (n := n) (S := S3) hn h40 lk
    obtain ⟨c, ec⟩ : ∃ c, c = kth (fun c => decide (ow m c = dr s (vW m))) (dr (sd (sd s)) (fb_ct (fun c => decide (ow m c = dr s (vW m))) (vC m))) (vC m) 0 0 := ⟨_, rfl⟩
    rw [← ec] at kk kl ko
    have ko : ow m c = dr s (vW m) := of_decide_eq_true ko
    have kw := k9_whyNot (n := n) (by omega) hB3 hv R3 hk kl lb
    have wl := wy_le m (ow m c) (rl m c) (dr (sd s) (vW m))
    have f13 : rvf [148, 97, 98] S S3 := (f1.mono rfl).tr ((f2.mono rfl).tr (f3.mono rfl))
    rw [if_neg h]
    by_cases c1 : wy m (ow m c) (rl m c) (dr (sd s) (vW m)) = 0
    · have e : dpay m s = (mv m c (dr (sd s) (vW m)), sd (sd (sd s)), 1, 0) := by
        rw [dpay, if_neg c0, ← ec, if_pos c1]
      rw [c1] at kw
      have km := k_move (n := n) hPS3 R3.2.1 hp hc kl (nI (dr (sd s) (vW m)))
      have hP4 := mv_PR (w := dr (sd s) (vW m)) R3.2.1 hc kl
      obtain ⟨S4, eS4⟩ : ∃ S4, S4 = rv_sI (rv_sI S3 (87 + 8 + 3) c (nI (rb (ps m (ow m c) (rl m c))))) (87 + 8 + 2) c (nI (dr (sd s) (vW m))) := ⟨_, rfl⟩
      have f4 : rvf [97, 98] S3 S4 := by rw [eS4]; exact ((rvf.rf _ _).w rfl rfl).w rfl rfl
      have hCs : FR S4 (87 + 1) m ∧ DR S4 87 m := by rw [eS4]; exact ⟨R3.1, R3.2.2⟩
      rw [← eS4] at km hP4
      have hB4 := f4.B hB3
      have R4 : CR S4 87 (mv m c (dr (sd s) (vW m))) := ⟨hCs.1.c hp (mv_lo _), hP4, hCs.2.c hd.1 (mv_lo _) (mv_hi (by omega) _)⟩
      have g1 : S4.2.1 148 1 = nI p := (f4.row rfl rfl 1).trans ((k3 1 (by decide)).trans h1)
      have R5 := R4.f ((rvf.rf [148] S4).w (a := 148) (k := 1) (v := nI (p + 1)) rfl rfl) hv (Or.inl rfl) (Or.inl rfl) (Or.inr (by decide)) (Or.inr (by decide))
      have o : ∀ k, k ≠ 1 → k ≠ 0 → (rv_sI S4 148 1 (nI (p + 1))).2.1 148 k = S.2.1 148 k := fun k q1 q0 => by rw [rv_sI_k _ _ q1, f4.row rfl rfl, k3 k q0]
      refine ⟨rv_sI S4 148 1 (nI (p + 1)), ?_, (f13.tr (f4.mono rfl)).w rfl rfl, by rw [e]; exact R5, by rw [e, rv_sI_k _ _ (by decide), f4.row rfl rfl]; exact hs3, by rw [e, rv_sI_eq], by rw [e]; exact (o 2 (by decide) (by decide)).trans h2, o 3 (by decide) (by decide), o 4 (by decide) (by decide)⟩
      repeat (first | (conv => (lhs; arg 1; simp (disch := first | assumption | omega) only [tk_gI, tk_gL, tk_gR, tk_pI, tk_pL, rv_aI, rv_aL, rv_aR, rv_uI, rv_uL, rv_uB, rv_uZ, pu_ckI, pu_ckL, pu_lnI, pu_lnL, tk_rI, tk_rL, Option.bind_some, Option.map_some, rv_lt, tk_ix, z0, z1, z2, z3, z4, z5, z6, z7, z8, z9, z10, z11, z12, z13, z15, z16, z17, z18, z20, z21, z23, z24, z25, z31, z32, z39, z40, z41, z46, z48, z50, z57, z59, z60, z61, z62, z63, z64, z97, z98, z99, z100, z101, z102, z103, z104, z105, z106, z107, z108, z109, z110, z111, z112, z113, z114, z115, z116, z117, z118, z119, z120, z121, z122, z128, z132, z200, z240, z255, z372, z390625, z400, z420, z421, z422, z662, z900, z940, z999, z1000, z1024, z2000, z5860, z10000, z12345, z15625, z266240, z1048575, z1064960, z1103515245, z_m1, n_le, n_lt, n_eq, n_bit0, n_bit1, n_sbit0, n_shl, z_ltM, z_Mlt, z_leM, z_Mle, z_eqM, z_Meq, bI0, bI1, bI_01, bI_01t, bI_10, bI_10f, if_true, if_false, eq_self, reduceCtorEq, pc_bs (n := n) (S := S2) (p := fun c => decide (ow m c = dr s (vW m))) h40, rc_148 hB2, d3, kk, hVS3, kw, hPS3, km, rc_148 hB4, g1, nI_add])); first | rw [Option.bind_some] | rw [bp_s] | rw [if_true] | rw [if_false] | rw [rv_lt_eq] | rw [if_pos (by omega)] | rw [if_neg (by omega)])
      all_goals rfl
    · have e : dpay m s = (m, sd (sd (sd s)), 0, 1) := by
        rw [dpay, if_neg c0, ← ec, if_neg c1]
      have g2 : S3.2.1 148 2 = nI q := (k3 2 (by decide)).trans h2
      have R5 := R3.f ((rvf.rf [148] S3).w (a := 148) (k := 2) (v := nI (q + 1)) rfl rfl) hv (Or.inl rfl) (Or.inl rfl) (Or.inr (by decide)) (Or.inr (by decide))
      have o : ∀ k, k ≠ 2 → k ≠ 0 → (rv_sI S3 148 2 (nI (q + 1))).2.1 148 k = S.2.1 148 k := fun k q1 q0 => by rw [rv_sI_k _ _ q1, k3 k q0]
      refine ⟨rv_sI S3 148 2 (nI (q + 1)), ?_, f13.w rfl rfl, by rw [e]; exact R5, by rw [e, rv_sI_k _ _ (by decide)]; exact hs3, by rw [e]; exact (o 1 (by decide) (by decide)).trans h1, by rw [e, rv_sI_eq], o 3 (by decide) (by decide), o 4 (by decide) (by decide)⟩
      repeat (first | (conv => (lhs; arg 1; simp (disch := first | assumption | omega) only [tk_gI, tk_gL, tk_gR, tk_pI, tk_pL, rv_aI, rv_aL, rv_aR, rv_uI, rv_uL, rv_uB, rv_uZ, pu_ckI, pu_ckL, pu_lnI, pu_lnL, tk_rI, tk_rL, Option.bind_some, Option.map_some, rv_lt, tk_ix, z0, z1, z2, z3, z4, z5, z6, z7, z8, z9, z10, z11, z12, z13, z15, z16, z17, z18, z20, z21, z23, z24, z25, z31, z32, z39, z40, z41, z46, z48, z50, z57, z59, z60, z61, z62, z63, z64, z97, z98, z99, z100, z101, z102, z103, z104, z105, z106, z107, z108, z109, z110, z111, z112, z113, z114, z115, z116, z117, z118, z119, z120, z121, z122, z128, z132, z200, z240, z255, z372, z390625, z400, z420, z421, z422, z662, z900, z940, z999, z1000, z1024, z2000, z5860, z10000, z12345, z15625, z266240, z1048575, z1064960, z1103515245, z_m1, n_le, n_lt, n_eq, n_bit0, n_bit1, n_sbit0, n_shl, z_ltM, z_Mlt, z_leM, z_Mle, z_eqM, z_Meq, bI0, bI1, bI_01, bI_01t, bI_10, bI_10f, if_true, if_false, eq_self, reduceCtorEq, pc_bs (n := n) (S := S2) (p := fun c => decide (ow m c = dr s (vW m))) h40, rc_148 hB2, d3, kk, hVS3, kw, if_neg c1, rc_148 hB3, g2, nI_add])); first | rw [Option.bind_some] | rw [bp_s] | rw [if_true] | rw [if_false] | rw [rv_lt_eq] | rw [if_pos (by omega)] | rw [if_neg (by omega)])
      all_goals rfl
end
