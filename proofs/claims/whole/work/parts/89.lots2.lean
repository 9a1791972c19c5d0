/-! LOTS: a payment drawn (printed by gen/lots.py for the valley and the draft) -/
section
variable {n : Nat} {S : rvS} {m m' : Nat → Nat} {wd : Nat → List Nat}
/-- a payment by lot: the valley after, the seed after, gone, refused -/
def dpay (m : Nat → Nat) (s : Int32) : (Nat → Nat) × Int32 × Nat × Nat :=
  if fb_ct (fun c => decide (ow m c = dr s (vW m))) (vC m) = 0 then (m, sd (sd s), 0, 0)
  else if wy m (ow m (kth (fun c => decide (ow m c = dr s (vW m))) (dr (sd (sd s)) (fb_ct (fun c => decide (ow m c = dr s (vW m))) (vC m))) (vC m) 0 0)) (rl m (kth (fun c => decide (ow m c = dr s (vW m))) (dr (sd (sd s)) (fb_ct (fun c => decide (ow m c = dr s (vW m))) (vC m))) (vC m) 0 0)) (dr (sd s) (vW m)) = 0 then (mv m (kth (fun c => decide (ow m c = dr s (vW m))) (dr (sd (sd s)) (fb_ct (fun c => decide (ow m c = dr s (vW m))) (vC m))) (vC m) 0 0) (dr (sd s) (vW m)), sd (sd (sd s)), 1, 0)
  else (m, sd (sd (sd s)), 0, 1)
theorem pc_bs {p : Nat → Bool} {N : Nat} (hN : N ≤ 40) : fnJ13_bitCount_95d88 n S (lN (bs p N)) = some (nI (fb_ct p N)) := by
  have h64 := bs_64 p hN
  rw [pc_64 n S (by omega)]
  rw [show 64 = N + (64 - N) by omega, fb_ct_split, fb_ct_cong (q := p) (n := N) (fun k hk => by rw [bs_bit, decide_eq_true hk, Bool.true_and])]
  rw [show fb_ct (fun k => (bs p N).testBit (N + k)) (64 - N) = 0 from fb_ct_zero.mpr (fun k _ => by rw [bs_bit, decide_eq_false (by omega), Bool.false_and]), Nat.add_zero]
theorem k_dpay67 (hn : 50 ≤ n) (hB : rv_B S) (hR : CR S 67 m) (hk : okm m) (hW : 0 < vW m) {s : Int32} {p q : Nat} (hs : S.2.1 147 0 = s) (h1 : S.2.1 147 1 = nI p) (h2 : S.2.1 147 2 = nI q) :
    ∃ S', fnX3_drawPayment n S 147 67 = some (nI (dr s (vW m)), S') ∧ rvf [147, 77, 78] S S' ∧ CR S' 67 (dpay m s).1 ∧ S'.2.1 147 0 = (dpay m s).2.1 ∧ S'.2.1 147 1 = nI (p + (dpay m s).2.2.1) ∧ S'.2.1 147 2 = nI (q + (dpay m s).2.2.2) ∧ S'.2.1 147 3 = S.2.1 147 3 ∧ S'.2.1 147 4 = S.2.1 147 4 := by
  obtain ⟨hp, hc, hd⟩ := id hk
  have h24 := hp.1
  have h40 := hc.1
  have hv : vb 67 := by unfold vb; decide
  have la := dr_lt s hW
  have lb := dr_lt (sd s) hW
  have hVS := VS_of hB hv
  have hFS := FS_of hB hv.f
  have d1 := k_draw (n := n) hB hs hW (by omega)
  obtain ⟨S1, eS1⟩ : ∃ S1, S1 = rv_sI S 147 0 (sd s) := ⟨_, rfl⟩
  have f1 : rvf [147] S S1 := by rw [eS1]; exact rvf.sI S 147 0 (sd s)
  have hB1 := f1.B hB
  have hs1 : S1.2.1 147 0 = sd s := by rw [eS1, rv_sI_eq]
  have R1 := hR.f f1 hv (Or.inl rfl) (Or.inl rfl) (Or.inr (by decide)) (Or.inr (by decide))
  have hVS1 := VS_of hB1 hv
  have hFS1 := FS_of hB1 hv.f
  have d2 := k_draw (n := n) hB1 hs1 hW (by omega)
  obtain ⟨S2, eS2⟩ : ∃ S2, S2 = rv_sI S1 147 0 (sd (sd s)) := ⟨_, rfl⟩
  have f2 : rvf [147] S1 S2 := by rw [eS2]; exact rvf.sI S1 147 0 (sd (sd s))
  have hB2 := f2.B hB1
  have hs2 : S2.2.1 147 0 = sd (sd s) := by rw [eS2, rv_sI_eq]
  have R2 := R1.f f2 hv (Or.inl rfl) (Or.inl rfl) (Or.inr (by decide)) (Or.inr (by decide))
  have hVS2 := VS_of hB2 hv
  have hPS2 := PS_of hB2 hv.p
  have k12 : ∀ k, k ≠ 0 → S2.2.1 147 k = S.2.1 147 k := fun k hk => by rw [eS2, rv_sI_k _ _ hk, eS1, rv_sI_k _ _ hk]
  have kco := k_coinsOf hn hPS2 R2.2.1 hp hc (w := dr s (vW m)) (by omega)
  rw [← eS1] at d1
  rw [← eS2] at d2
  have hF := hR.1.1
  have hF1 := R1.1.1
  have top : fnX3_drawPayment n S 147 67 = (if (lg_cmp (lN (bs (fun c => decide (ow m c = dr s (vW m))) (vC m))) (0 : Int64)) = 0 then some (nI (dr s (vW m)), S2) else
      (fnJ13_bitCount_95d88 n S2 (lN (bs (fun c => decide (ow m c = dr s (vW m))) (vC m)))).bind fun x32_ =>
      (rv_ck S2 2 147).bind fun u34_ =>
      rv_bp (fnX3_draw n S2 147 x32_) fun x37_ S38_ =>
      (fnX12_countOrOne n S38_ (lN (bs (fun c => decide (ow m c = dr s (vW m))) (vC m))) x37_).bind fun x42_ =>
      (rv_ck S38_ 8 67).bind fun u44_ =>
      (fnX9_whyNot n S38_ 67 x42_ (nI (dr (sd s) (vW m)))).bind fun x47_ =>
      if x47_ = 0 then (
        (rv_gR S38_ 8 67 1).bind fun a54_ =>
        (rv_ck S38_ 5 a54_).bind fun u56_ =>
        (fnX6_move n S38_ a54_ x42_ (nI (dr (sd s) (vW m)))).bind fun S59_ =>
        (rv_gI S59_ 2 147 1).bind fun x62_ =>
        (rv_pI S59_ 2 147 1 (x62_ + (1 : Int32))).bind fun S64_ =>
        some (nI (dr s (vW m)), S64_))
      else (
        (rv_gI S38_ 2 147 2).bind fun x50_ =>
        (rv_pI S38_ 2 147 2 (x50_ + (1 : Int32))).bind fun S52_ =>
        some (nI (dr s (vW m)), S52_))) := by
    rw [fnX3_drawPayment]
    repeat (first | (conv => (lhs; arg 1; simp (disch := first | assumption | omega) only [tk_gI, tk_gL, tk_gR, tk_pI, tk_pL, rv_aI, rv_aL, rv_aR, rv_uI, rv_uL, rv_uB, rv_uZ, pu_ckI, pu_ckL, pu_lnI, pu_lnL, tk_rI, tk_rL, Option.bind_some, Option.map_some, rv_lt, tk_ix, hVS, hFS, hF, rc_147 hB, d1, hVS1, hFS1, hF1, rc_147 hB1, d2, hVS2, hPS2, kco])); first | rw [Option.bind_some] | rw [bp_s] | rw [if_true] | rw [if_false] | rw [rv_lt_eq] | rw [if_pos (by omega)] | rw [if_neg (by omega)])
    all_goals rfl
  rw [top]
  have b40 := bs_64 (fun c => decide (ow m c = dr s (vW m))) h40
  by_cases c0 : fb_ct (fun c => decide (ow m c = dr s (vW m))) (vC m) = 0
  · have z : bs (fun c => decide (ow m c = dr s (vW m))) (vC m) = 0 := bs_zero.mpr (fb_ct_zero.mp c0)
    have e : dpay m s = (m, sd (sd s), 0, 0) := if_pos c0
    have h : lg_cmp (lN 0) (0 : Int64) = 0 := by rw [y0, z0, m_cmp (by decide) (by decide)]
    rw [z, if_pos h, e]
    exact ⟨S2, rfl, (f1.mono rfl).tr (f2.mono rfl), R2, hs2, (k12 1 (by decide)).trans h1, (k12 2 (by decide)).trans h2, k12 3 (by decide), k12 4 (by decide)⟩
  · have zb : ¬ bs (fun c => decide (ow m c = dr s (vW m))) (vC m) = 0 := fun z => c0 (fb_ct_zero.mpr (bs_zero.mp z))
    have h : ¬ lg_cmp (lN (bs (fun c => decide (ow m c = dr s (vW m))) (vC m))) (0 : Int64) = 0 := by rw [y0, z0, m_cmp (by omega) (by decide)]; exact zb
    have hle := fb_ct_le (fun c => decide (ow m c = dr s (vW m))) (vC m)
    have lk := dr_lt (sd (sd s)) (show 0 < fb_ct (fun c => decide (ow m c = dr s (vW m))) (vC m) by omega)
    have d3 := k_draw (n := n) hB2 hs2 (N := fb_ct (fun c => decide (ow m c = dr s (vW m))) (vC m)) (by omega) (by omega)
    obtain ⟨S3, eS3⟩ : ∃ S3, S3 = rv_sI S2 147 0 (sd (sd (sd s))) := ⟨_, rfl⟩
    have f3 : rvf [147] S2 S3 := by rw [eS3]; exact rvf.sI S2 147 0 _
    rw [← eS3] at d3
    have hB3 := f3.B hB2
    have hs3 : S3.2.1 147 0 = sd (sd (sd s)) := by rw [eS3, rv_sI_eq]
    have k3 : ∀ k, k ≠ 0 → S3.2.1 147 k = S.2.1 147 k := fun k hk => by rw [eS3, rv_sI_k _ _ hk]; exact k12 k hk
    have R3 := R2.f f3 hv (Or.inl rfl) (Or.inl rfl) (Or.inr (by decide)) (Or.inr (by decide))
    have hVS3 := VS_of hB3 hv
    have hPS3 := PS_of hB3 hv.p
    obtain ⟨kk, kl, ko⟩ := k_kth (n := n) (S := S3) hn h40 lk
    obtain ⟨c, ec⟩ : ∃ c, c = kth (fun c => decide (ow m c = dr s (vW m))) (dr (sd (sd s)) (fb_ct (fun c => decide (ow m c = dr s (vW m))) (vC m))) (vC m) 0 0 := ⟨_, rfl⟩
    rw [← ec] at kk kl ko
    have ko : ow m c = dr s (vW m) := of_decide_eq_true ko
    have kw := k9_whyNot (n := n) (by omega) hB3 hv R3 hk kl lb
    have wl := wy_le m (ow m c) (rl m c) (dr (sd s) (vW m))
    have f13 : rvf [147, 77, 78] S S3 := (f1.mono rfl).tr ((f2.mono rfl).tr (f3.mono rfl))
    rw [if_neg h]
    by_cases c1 : wy m (ow m c) (rl m c) (dr (sd s) (vW m)) = 0
    · have e : dpay m s = (mv m c (dr (sd s) (vW m)), sd (sd (sd s)), 1, 0) := by
        rw [dpay, if_neg c0, ← ec, if_pos c1]
      rw [c1] at kw
      have km := k_move (n := n) hPS3 R3.2.1 hp hc kl (nI (dr (sd s) (vW m)))
      have hP4 := mv_PR (w := dr (sd s) (vW m)) R3.2.1 hc kl
      obtain ⟨S4, eS4⟩ : ∃ S4, S4 = rv_sI (rv_sI S3 (67 + 8 + 3) c (nI (rb (ps m (ow m c) (rl m c))))) (67 + 8 + 2) c (nI (dr (sd s) (vW m))) := ⟨_, rfl⟩
      have f4 : rvf [77, 78] S3 S4 := by rw [eS4]; exact ((rvf.rf _ _).w rfl rfl).w rfl rfl
      have hCs : FR S4 (67 + 1) m ∧ DR S4 67 m := by rw [eS4]; exact ⟨R3.1, R3.2.2⟩
      rw [← eS4] at km hP4
      have hB4 := f4.B hB3
      have R4 : CR S4 67 (mv m c (dr (sd s) (vW m))) := ⟨hCs.1.c hp (mv_lo _), hP4, hCs.2.c hd.1 (mv_lo _) (mv_hi (by omega) _)⟩
      have g1 : S4.2.1 147 1 = nI p := (f4.row rfl rfl 1).trans ((k3 1 (by decide)).trans h1)
      have R5 := R4.f ((rvf.rf [147] S4).w (a := 147) (k := 1) (v := nI (p + 1)) rfl rfl) hv (Or.inl rfl) (Or.inl rfl) (Or.inr (by decide)) (Or.inr (by decide))
      have o : ∀ k, k ≠ 1 → k ≠ 0 → (rv_sI S4 147 1 (nI (p + 1))).2.1 147 k = S.2.1 147 k := fun k q1 q0 => by rw [rv_sI_k _ _ q1, f4.row rfl rfl, k3 k q0]
      refine ⟨rv_sI S4 147 1 (nI (p + 1)), ?_, (f13.tr (f4.mono rfl)).w rfl rfl, by rw [e]; exact R5, by rw [e, rv_sI_k _ _ (by decide), f4.row rfl rfl]; exact hs3, by rw [e, rv_sI_eq], by rw [e]; exact (o 2 (by decide) (by decide)).trans h2, o 3 (by decide) (by decide), o 4 (by decide) (by decide)⟩
      repeat (first | (conv => (lhs; arg 1; simp (disch := first | assumption | omega) only [tk_gI, tk_gL, tk_gR, tk_pI, tk_pL, rv_aI, rv_aL, rv_aR, rv_uI, rv_uL, rv_uB, rv_uZ, pu_ckI, pu_ckL, pu_lnI, pu_lnL, tk_rI, tk_rL, Option.bind_some, Option.map_some, rv_lt, tk_ix, z0, z1, z2, z3, z4, z5, z6, z7, z8, z9, z10, z11, z12, z13, z15, z16, z17, z18, z20, z21, z23, z24, z25, z31, z32, z39, z40, z41, z46, z48, z50, z57, z59, z60, z61, z62, z63, z64, z97, z98, z99, z100, z101, z102, z103, z104, z105, z106, z107, z108, z109, z110, z111, z112, z113, z114, z115, z116, z117, z118, z119, z120, z121, z122, z128, z132, z200, z240, z255, z372, z390625, z400, z420, z421, z422, z662, z900, z940, z999, z1000, z1024, z2000, z5860, z10000, z12345, z15625, z266240, z1048575, z1064960, z1103515245, z_m1, n_le, n_lt, n_eq, n_bit0, n_bit1, n_sbit0, n_shl, z_ltM, z_Mlt, z_leM, z_Mle, z_eqM, z_Meq, bI0, bI1, bI_01, bI_01t, bI_10, bI_10f, if_true, if_false, eq_self, reduceCtorEq, pc_bs (n := n) (S := S2) (p := fun c => decide (ow m c = dr s (vW m))) h40, rc_147 hB2, d3, kk, hVS3, kw, hPS3, km, rc_147 hB4, g1, nI_add])); first | rw [Option.bind_some] | rw [bp_s] | rw [if_true] | rw [if_false] | rw [rv_lt_eq] | rw [if_pos (by omega)] | rw [if_neg (by omega)])
      all_goals rfl
    · have e : dpay m s = (m, sd (sd (sd s)), 0, 1) := by
        rw [dpay, if_neg c0, ← ec, if_neg c1]
      have g2 : S3.2.1 147 2 = nI q := (k3 2 (by decide)).trans h2
      have R5 := R3.f ((rvf.rf [147] S3).w (a := 147) (k := 2) (v := nI (q + 1)) rfl rfl) hv (Or.inl rfl) (Or.inl rfl) (Or.inr (by decide)) (Or.inr (by decide))
      have o : ∀ k, k ≠ 2 → k ≠ 0 → (rv_sI S3 147 2 (nI (q + 1))).2.1 147 k = S.2.1 147 k := fun k q1 q0 => by rw [rv_sI_k _ _ q1, k3 k q0]
      refine ⟨rv_sI S3 147 2 (nI (q + 1)), ?_, f13.w rfl rfl, by rw [e]; exact R5, by rw [e, rv_sI_k _ _ (by decide)]; exact hs3, by rw [e]; exact (o 1 (by decide) (by decide)).trans h1, by rw [e, rv_sI_eq], o 3 (by decide) (by decide), o 4 (by decide) (by decide)⟩
      repeat (first | (conv => (lhs; arg 1; simp (disch := first | assumption | omega) only [tk_gI, tk_gL, tk_gR, tk_pI, tk_pL, rv_aI, rv_aL, rv_aR, rv_uI, rv_uL, rv_uB, rv_uZ, pu_ckI, pu_ckL, pu_lnI, pu_lnL, tk_rI, tk_rL, Option.bind_some, Option.map_some, rv_lt, tk_ix, z0, z1, z2, z3, z4, z5, z6, z7, z8, z9, z10, z11, z12, z13, z15, z16, z17, z18, z20, z21, z23, z24, z25, z31, z32, z39, z40, z41, z46, z48, z50, z57, z59, z60, z61, z62, z63, z64, z97, z98, z99, z100, z101, z102, z103, z104, z105, z106, z107, z108, z109, z110, z111, z112, z113, z114, z115, z116, z117, z118, z119, z120, z121, z122, z128, z132, z200, z240, z255, z372, z390625, z400, z420, z421, z422, z662, z900, z940, z999, z1000, z1024, z2000, z5860, z10000, z12345, z15625, z266240, z1048575, z1064960, z1103515245, z_m1, n_le, n_lt, n_eq, n_bit0, n_bit1, n_sbit0, n_shl, z_ltM, z_Mlt, z_leM, z_Mle, z_eqM, z_Meq, bI0, bI1, bI_01, bI_01t, bI_10, bI_10f, if_true, if_false, eq_self, reduceCtorEq, pc_bs (n := n) (S := S2) (p := fun c => decide (ow m c = dr s (vW m))) h40, rc_147 hB2, d3, kk, hVS3, kw, if_neg c1, rc_147 hB3, g2, nI_add])); first | rw [Option.bind_some] | rw [bp_s] | rw [if_true] | rw [if_false] | rw [rv_lt_eq] | rw [if_pos (by omega)] | rw [if_neg (by omega)])
      all_goals rfl
end
