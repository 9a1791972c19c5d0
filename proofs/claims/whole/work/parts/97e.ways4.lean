/-! WAYS: both sides together -/
section
variable {n : Nat} {S : rvS} {m : Nat → Nat} {wd : Nat → List Nat}
theorem k_nameAt3 (hB : rv_B S) {p : Nat} (hpb : pb p) (hR : PR S p m) (hc : okc m) {c : Nat} (h : c < vC m) : fnX6_nameAt n S p (nI c) (nI 3) = some iM := by
  have h1 := hc.1
  have hS := PS_of hB hpb
  simp (disch := first | assumption | omega) only [fnX6_nameAt, tk_gI, tk_gL, tk_gR, tk_pI, tk_pL, rv_aI, rv_aL, rv_aR, rv_uI, rv_uL, rv_uB, rv_uZ, pu_ckI, pu_ckL, pu_lnI, pu_lnL, tk_rI, tk_rL, Option.bind_some, Option.map_some, rv_lt, tk_ix, z0, z1, z2, z3, z4, z5, z6, z7, z8, z9, z10, z11, z12, z13, z15, z16, z17, z18, z20, z21, z23, z24, z25, z31, z32, z39, z40, z41, z46, z48, z50, z57, z59, z60, z61, z62, z63, z64, z97, z98, z99, z100, z101, z102, z103, z104, z105, z106, z107, z108, z109, z110, z111, z112, z113, z114, z115, z116, z117, z118, z119, z120, z121, z122, z128, z132, z200, z240, z255, z372, z390625, z400, z420, z421, z422, z662, z900, z940, z999, z1000, z1024, z2000, z5860, z10000, z12345, z15625, z266240, z1048575, z1064960, z1103515245, z_m1, n_le, n_lt, n_eq, n_bit0, n_bit1, n_sbit0, n_shl, z_ltM, z_Mlt, z_leM, z_Mle, z_eqM, z_Meq, bI0, bI1, bI_01, bI_01t, bI_10, bI_10f, if_true, if_false, eq_self, reduceCtorEq, if_pos, if_neg, hS, hR, Nat.not_lt_zero, k_hasC hS hR hc h]
theorem k_nameX (hB : rv_B S) {p : Nat} (hpb : pb p) (hR : PR S p m) (hp : okp m) (hc : okc m) {c : Nat} (h : c < vC m) {i : Nat} (hi : i < 4) : fnX6_nameAt n S p (nI c) (nI i) = some (nmI (rl m c) i) := by
  by_cases c3 : i < 3
  · exact k_nameAt (PS_of hB hpb) hR hp hc h c3
  · have e : i = 3 := by omega
    have hl := hc.l h
    rw [e, k_nameAt3 hB hpb hR hc h, nmI, List.getElem?_eq_none hl.1]
theorem nm_al {go : Nat} {gl : List Nat} {k : Nat} (h : 1 ≤ k) (hg : ∀ x ∈ gl, x < 24) : (gl[k - 1]? = none ∧ nmI gl (k - 1) = iM ∧ alI go gl k = iM) ∨ ∃ y, y < 24 ∧ nmI gl (k - 1) = nI y ∧ alI go gl k = nI (2 ^ y) := by
  have e : (go :: gl)[k]? = gl[k - 1]? := by
    obtain ⟨k', rfl⟩ : ∃ k', k = k' + 1 := ⟨k - 1, by omega⟩
    rw [List.getElem?_cons_succ, Nat.add_sub_cancel]
  unfold nmI alI
  rw [e]
  cases h : gl[k - 1]? with
  | none => exact Or.inl ⟨rfl, rfl, rfl⟩
  | some y => exact Or.inr ⟨y, hg y (List.mem_of_getElem? h), rfl, rfl⟩
theorem k_cw1 (hn : 50 ≤ n) (hB : rv_B S) (hR : CR S 67 m) (hk : okm m) {c : Nat} (hcc : c < vC m) {N : Nat} (h1 : 1 ≤ N) (hN : N ≤ 5) (x3 : Int32) : ∃ S', cX2_countWays_15 n n S 111 67 (nI c) x3 (nI N) 75 (nI 0) = cX2_countWays_97 n S' 111 67 (nI c) x3 (nI N) 75 ∧ rvf [116, 117] S S' ∧ ∀ i, i < N → S'.2.1 116 i = alI (ow m c) (rl m c) (N - 1 - i) ∧ S'.2.1 117 i = nI 0 := by
  obtain ⟨hp, hc, hd⟩ := id hk
  have h40 := hc.1
  have h24 := hp.1
  have hv : vb 67 := Or.inl rfl
  refine lp (F := fun q (x : rvS × Int32) => cX2_countWays_15 n q x.1 111 67 (nI c) x3 (nI N) 75 x.2) (fun i x => x.2 = nI i ∧ rvf [116, 117] S x.1 ∧ ∀ j, j < i → x.1.2.1 116 j = alI (ow m c) (rl m c) (N - 1 - j) ∧ x.1.2.1 117 j = nI 0) (fun o => ∃ S', o = cX2_countWays_97 n S' 111 67 (nI c) x3 (nI N) 75 ∧ rvf [116, 117] S S' ∧ ∀ i, i < N → S'.2.1 116 i = alI (ow m c) (rl m c) (N - 1 - i) ∧ S'.2.1 117 i = nI 0) N (fun i x q hi hx => Or.inr ?_) (fun x q hx => ?_) (i := 0) (x := (S, nI 0)) (q := n) (Nat.zero_le _) ⟨rfl, rvf.rf _ _, fun j h => absurd h (Nat.not_lt_zero j)⟩ (by omega)
  · obtain ⟨S1, x2⟩ := x
    obtain ⟨rfl, f, g⟩ := hx
    have f : rvf [116, 117] S S1 := f
    have hB1 := f.B hB
    have R1 := hR.f f hv (Or.inl rfl) (Or.inr (by decide)) (Or.inr (by decide)) (Or.inr (by decide))
    have hPS1 := PS_of hB1 (show pb 75 from Or.inl rfl)
    have ho := (hc.2.2 c hcc).2.2.1
    have q77 : S1.2.1 77 c = nI (ow m c) := R1.2.1.2.2.2.1 c hcc
    obtain ⟨S2, eS2⟩ : ∃ S2, S2 = rv_sI S1 116 i (alI (ow m c) (rl m c) (N - 1 - i)) := ⟨_, rfl⟩
    have f2 : rvf [116, 117] S1 S2 := by rw [eS2]; exact (rvf.rf _ _).w rfl rfl
    have hB2 := f2.B hB1
    obtain ⟨S3, eS3⟩ : ∃ S3, S3 = rv_sI S2 117 i (nI 0) := ⟨_, rfl⟩
    have f3 : rvf [116, 117] S2 S3 := by rw [eS3]; exact (rvf.rf _ _).w rfl rfl
    have ra := rf_of hB1 (show (111, 6, 116) ∈ rv_rf0 by decide)
    have rb := rf_of hB2 (show (111, 7, 117) ∈ rv_rf0 by decide)
    obtain ⟨K, eK⟩ : ∃ K, K = (fun a0 a1 x2 x3 x4 a5 x6 S => cX2_countWays_15 n q S a0 a1 x2 x3 x4 a5 x6) := ⟨_, rfl⟩
    have e82 : cX2_countWays_82 n K S1 111 67 (nI c) x3 (nI N) 75 (nI i) 116 (nI i) (alI (ow m c) (rl m c) (N - 1 - i)) = K 111 67 (nI c) x3 (nI N) 75 (nI (i + 1)) S3 := by
      rw [cX2_countWays_82]
      simp (disch := first | assumption | omega) only [tk_gI, tk_gL, tk_gR, tk_pI, tk_pL, rv_aI, rv_aL, rv_aR, rv_uI, rv_uL, rv_uB, rv_uZ, pu_ckI, pu_ckL, pu_lnI, pu_lnL, tk_rI, tk_rL, Option.bind_some, Option.map_some, rv_lt, tk_ix, z0, z1, z2, z3, z4, z5, z6, z7, z8, z9, z10, z11, z12, z13, z15, z16, z17, z18, z20, z21, z23, z24, z25, z31, z32, z39, z40, z41, z46, z48, z50, z57, z59, z60, z61, z62, z63, z64, z97, z98, z99, z100, z101, z102, z103, z104, z105, z106, z107, z108, z109, z110, z111, z112, z113, z114, z115, z116, z117, z118, z119, z120, z121, z122, z128, z132, z200, z240, z255, z372, z390625, z400, z420, z421, z422, z662, z900, z940, z999, z1000, z1024, z2000, z5860, z10000, z12345, z15625, z266240, z1048575, z1064960, z1103515245, z_m1, rn_116 hB1, ← eS2, rc_111 hB2, rb, rn_117 hB2, ← eS3, nI_add]
    refine ⟨(S3, nI (i + 1)), ?_, rfl, f.tr (f2.tr f3), fun j hj => ?_⟩
    · show cX2_countWays_15 n (q + 1) S1 111 67 (nI c) x3 (nI N) 75 (nI i) = cX2_countWays_15 n q S3 111 67 (nI c) x3 (nI N) 75 (nI (i + 1))
      rw [show cX2_countWays_15 n q S3 111 67 (nI c) x3 (nI N) 75 (nI (i + 1)) = K 111 67 (nI c) x3 (nI N) 75 (nI (i + 1)) S3 by rw [eK], ← e82, cX2_countWays_15, ← eK]
      have n1 : ¬ nI N ≤ nI i := by rw [n_le (by omega) (by omega)]; omega
      have n2 : ¬ nI 5 ≤ nI i := by rw [n_le (by omega) (by omega)]; omega
      rw [if_neg n1, z5, if_neg n2, z1, z_sub h1]
      by_cases ce : i = N - 1
      · rw [if_pos (show nI i = nI (N - 1) by rw [ce])]
        have ea : alI (ow m c) (rl m c) (N - 1 - i) = nI (2 ^ ow m c) := by rw [ce, Nat.sub_self]; rfl
        have nM : ¬ nI (ow m c) = iM := by rw [z_eqM (by omega)]; exact fun z => z
        rw [ea]
        simp (disch := first | assumption | omega) only [cX2_countWays_60, tk_gI, tk_gL, tk_gR, tk_pI, tk_pL, rv_aI, rv_aL, rv_aR, rv_uI, rv_uL, rv_uB, rv_uZ, pu_ckI, pu_ckL, pu_lnI, pu_lnL, tk_rI, tk_rL, Option.bind_some, Option.map_some, rv_lt, tk_ix, z0, z1, z2, z3, z4, z5, z6, z7, z8, z9, z10, z11, z12, z13, z15, z16, z17, z18, z20, z21, z23, z24, z25, z31, z32, z39, z40, z41, z46, z48, z50, z57, z59, z60, z61, z62, z63, z64, z97, z98, z99, z100, z101, z102, z103, z104, z105, z106, z107, z108, z109, z110, z111, z112, z113, z114, z115, z116, z117, z118, z119, z120, z121, z122, z128, z132, z200, z240, z255, z372, z390625, z400, z420, z421, z422, z662, z900, z940, z999, z1000, z1024, z2000, z5860, z10000, z12345, z15625, z266240, z1048575, z1064960, z1103515245, z_m1, hPS1, q77, rc_111 hB1, ra, z_m1]
        rw [if_neg nM, n_shl (by omega)]
      · rw [if_neg (show ¬ nI i = nI (N - 1) by rw [n_eq (by omega) (by omega)]; exact ce)]
        have ei : nI N - nI 2 - nI i = nI (N - 1 - i - 1) := by
          rw [z_sub (by omega), z_sub (by omega)]
          exact congrArg nI (by omega)
        have kn := k_nameX (n := n) hB1 (show pb 75 from Or.inl rfl) R1.2.1 hp hc hcc (i := N - 1 - i - 1) (by omega)
        have kn : fnX6_nameAt n S1 75 (nI c) (nI (N - 1 - i - 1)) = some (nmI (rl m c) (N - 1 - i - 1)) := kn
        rcases nm_al (go := ow m c) (gl := rl m c) (k := N - 1 - i) (by omega) ((hc.l hcc).all hp) with ⟨-, e1, e2⟩ | ⟨y, hy, e1, e2⟩
        · rw [e1] at kn
          rw [e2]
          simp (disch := first | assumption | omega) only [cX2_countWays_60, tk_gI, tk_gL, tk_gR, tk_pI, tk_pL, rv_aI, rv_aL, rv_aR, rv_uI, rv_uL, rv_uB, rv_uZ, pu_ckI, pu_ckL, pu_lnI, pu_lnL, tk_rI, tk_rL, Option.bind_some, Option.map_some, rv_lt, tk_ix, z0, z1, z2, z3, z4, z5, z6, z7, z8, z9, z10, z11, z12, z13, z15, z16, z17, z18, z20, z21, z23, z24, z25, z31, z32, z39, z40, z41, z46, z48, z50, z57, z59, z60, z61, z62, z63, z64, z97, z98, z99, z100, z101, z102, z103, z104, z105, z106, z107, z108, z109, z110, z111, z112, z113, z114, z115, z116, z117, z118, z119, z120, z121, z122, z128, z132, z200, z240, z255, z372, z390625, z400, z420, z421, z422, z662, z900, z940, z999, z1000, z1024, z2000, z5860, z10000, z12345, z15625, z266240, z1048575, z1064960, z1103515245, z_m1, hPS1, ei, kn, rc_111 hB1, ra, z_m1]
          rw [if_true]
        · have nM : ¬ nI y = iM := by rw [z_eqM (by omega)]; exact fun z => z
          rw [e1] at kn
          rw [e2]
          simp (disch := first | assumption | omega) only [cX2_countWays_60, tk_gI, tk_gL, tk_gR, tk_pI, tk_pL, rv_aI, rv_aL, rv_aR, rv_uI, rv_uL, rv_uB, rv_uZ, pu_ckI, pu_ckL, pu_lnI, pu_lnL, tk_rI, tk_rL, Option.bind_some, Option.map_some, rv_lt, tk_ix, z0, z1, z2, z3, z4, z5, z6, z7, z8, z9, z10, z11, z12, z13, z15, z16, z17, z18, z20, z21, z23, z24, z25, z31, z32, z39, z40, z41, z46, z48, z50, z57, z59, z60, z61, z62, z63, z64, z97, z98, z99, z100, z101, z102, z103, z104, z105, z106, z107, z108, z109, z110, z111, z112, z113, z114, z115, z116, z117, z118, z119, z120, z121, z122, z128, z132, z200, z240, z255, z372, z390625, z400, z420, z421, z422, z662, z900, z940, z999, z1000, z1024, z2000, z5860, z10000, z12345, z15625, z266240, z1048575, z1064960, z1103515245, z_m1, hPS1, ei, kn, rc_111 hB1, ra, z_m1]
          rw [if_neg nM, n_shl (by omega)]
    · show S3.2.1 116 j = _ ∧ S3.2.1 117 j = _
      rw [eS3, rv_sI_a _ _ _ (by decide)]
      by_cases ce : j = i
      · rw [ce, rv_sI_eq, eS2, rv_sI_eq]
        exact ⟨rfl, rfl⟩
      · rw [rv_sI_k _ _ ce, eS2, rv_sI_k _ _ ce, rv_sI_a _ _ _ (by decide)]
        exact g j (by omega)
  · obtain ⟨S1, x2⟩ := x
    obtain ⟨rfl, f, g⟩ := hx
    refine ⟨S1, ?_, f, g⟩
    show cX2_countWays_15 n (q + 1) S1 111 67 (nI c) x3 (nI N) 75 (nI N) = _
    rw [cX2_countWays_15]
    simp (disch := first | assumption | omega) only [tk_gI, tk_gL, tk_gR, tk_pI, tk_pL, rv_aI, rv_aL, rv_aR, rv_uI, rv_uL, rv_uB, rv_uZ, pu_ckI, pu_ckL, pu_lnI, pu_lnL, tk_rI, tk_rL, Option.bind_some, Option.map_some, rv_lt, tk_ix, z0, z1, z2, z3, z4, z5, z6, z7, z8, z9, z10, z11, z12, z13, z15, z16, z17, z18, z20, z21, z23, z24, z25, z31, z32, z39, z40, z41, z46, z48, z50, z57, z59, z60, z61, z62, z63, z64, z97, z98, z99, z100, z101, z102, z103, z104, z105, z106, z107, z108, z109, z110, z111, z112, z113, z114, z115, z116, z117, z118, z119, z120, z121, z122, z128, z132, z200, z240, z255, z372, z390625, z400, z420, z421, z422, z662, z900, z940, z999, z1000, z1024, z2000, z5860, z10000, z12345, z15625, z266240, z1048575, z1064960, z1103515245, z_m1, n_le, n_lt, n_eq, n_bit0, n_bit1, n_sbit0, n_shl, z_ltM, z_Mlt, z_leM, z_Mle, z_eqM, z_Meq, bI0, bI1, bI_01, bI_01t, bI_10, bI_10f, if_true, if_false, eq_self, reduceCtorEq, if_pos, if_neg]
theorem k_ways (hn : 50 ≤ n) (hB : rv_B S) (hR : CR S 67 m) (hk : okm m) {c a : Nat} (hcc : c < vC m) (ha : a < vW m) {N : Nat} (h1 : 1 ≤ N) (hN : N ≤ 5) : ∃ S', fnX2_countWays n S 111 67 (nI c) (nI a) (nI N) = some (nI (cw m (ow m c) (rl m c) N a []), S') ∧ rvf [111008, 116, 117] S S' ∧ S'.2.1 111 8 = nI N ∧ ∀ j, j < N → S'.2.1 117 j = nI (bs (hb m (ow m c) (rl m c) N a [] j) (vW m)) := by
  obtain ⟨hp, hc, hd⟩ := id hk
  have h24 := hp.1
  have h40 := hc.1
  have hv : vb 67 := Or.inl rfl
  obtain ⟨-, -, q3, q4, -⟩ := hc.2.2 c hcc
  have hl := hc.l hcc
  have hN3 := hc.2.1
  obtain ⟨S1, eS1⟩ : ∃ S1, S1 = rv_sI S 111 8 (nI N) := ⟨_, rfl⟩
  have f1 : rvf [111008] S S1 := by rw [eS1]; exact rvf.sI S 111 8 _
  have hB1 := f1.B hB
  have R1 := hR.f f1 hv (Or.inl rfl) (Or.inr (by decide)) (Or.inr (by decide)) (Or.inr (by decide))
  have g8 : S1.2.1 111 8 = nI N := by rw [eS1, rv_sI_eq]
  obtain ⟨S2, e2, f2, g2⟩ := k_cw1 hn hB1 R1 hk hcc h1 hN (nI a)
  have hB2 := f2.B hB1
  have R2 := R1.f f2 hv (Or.inl rfl) (Or.inr (by decide)) (Or.inr (by decide)) (Or.inr (by decide))
  have hVS := VS_of hB hv
  have top : fnX2_countWays n S 111 67 (nI c) (nI a) (nI N) = cX2_countWays_97 n S2 111 67 (nI c) (nI a) (nI N) 75 := by
    rw [← e2, fnX2_countWays]
    simp (disch := first | assumption | omega) only [tk_gI, tk_gL, tk_gR, tk_pI, tk_pL, rv_aI, rv_aL, rv_aR, rv_uI, rv_uL, rv_uB, rv_uZ, pu_ckI, pu_ckL, pu_lnI, pu_lnL, tk_rI, tk_rL, Option.bind_some, Option.map_some, rv_lt, tk_ix, z0, z1, z2, z3, z4, z5, z6, z7, z8, z9, z10, z11, z12, z13, z15, z16, z17, z18, z20, z21, z23, z24, z25, z31, z32, z39, z40, z41, z46, z48, z50, z57, z59, z60, z61, z62, z63, z64, z97, z98, z99, z100, z101, z102, z103, z104, z105, z106, z107, z108, z109, z110, z111, z112, z113, z114, z115, z116, z117, z118, z119, z120, z121, z122, z128, z132, z200, z240, z255, z372, z390625, z400, z420, z421, z422, z662, z900, z940, z999, z1000, z1024, z2000, z5860, z10000, z12345, z15625, z266240, z1048575, z1064960, z1103515245, z_m1, hVS, rc_111 hB, ← eS1]
  have hPS2 := PS_of hB2 (show pb 75 from Or.inl rfl)
  have kn := k_names (n := n) (by omega) hPS2 R2.2.1 hp hc hcc
  have p1 : S2.2.1 75 1 = nI (vN m) := R2.2.1.2.1
  have rl3 := rl_len (m := m) (c := c) (by omega)
  rw [top, cX2_countWays_97]
  have mn' : (if nI N < nI (vN m) then nI N else nI (vN m)) = nI (if N < vN m then N else vN m) := by
    by_cases q : N < vN m
    · rw [if_pos q, if_pos (by rw [n_lt (by omega) (by omega)]; exact q)]
    · rw [if_neg q, if_neg (by rw [n_lt (by omega) (by omega)]; exact q)]
  by_cases ce : (rl m c).length = if N < vN m then N else vN m
  · have ks := k_stateOf (n := n) (S := S2) (o := a) (x := 0) (by omega) (by decide)
    have kN := k_stateNow (n := n) hB2 hv R2 hk hcc
    have w := k_walk (n := n) (go := ow m c) (gl := rl m c) hn hk hN q3 (by omega) hl N 16 (Nat.le_refl N) (by omega)
    obtain ⟨S3, e3, f3, g3⟩ := w a [] S2 (fun _ => 0) ha ⟨Nat.zero_le 3, fun x hx => absurd hx List.not_mem_nil⟩ ⟨hB2, R2, (f2.at (a := 111) (k := 8) rfl).trans g8, fun i hi => (g2 i hi).1⟩ (fun j hj => ⟨by decide, (g2 j hj).2⟩)
    rw [Nat.sub_self] at e3
    refine ⟨S3, ?_, (f1.mono rfl).tr ((f2.mono rfl).tr (f3.mono rfl)), (f3.at (a := 111) (k := 8) rfl).trans ((f2.at (a := 111) (k := 8) rfl).trans g8), fun j hj => (g3 j hj).trans (congrArg nI ?_)⟩
    · have kN : fnX2_stateNow n S2 75 (nI c) = some (nI (sB (ow m c) (rl m c))) := kN
      have e3 : fnX2_walk n 16 S2 111 67 (nI (a + 32 * 0)) (nI 0) (nI (sB (ow m c) (rl m c))) = some (nI (cw m (ow m c) (rl m c) N a []), S3) := e3
      repeat (first | (conv => (lhs; arg 1; simp (disch := first | assumption | omega) only [tk_gI, tk_gL, tk_gR, tk_pI, tk_pL, rv_aI, rv_aL, rv_aR, rv_uI, rv_uL, rv_uB, rv_uZ, pu_ckI, pu_ckL, pu_lnI, pu_lnL, tk_rI, tk_rL, Option.bind_some, Option.map_some, rv_lt, tk_ix, z0, z1, z2, z3, z4, z5, z6, z7, z8, z9, z10, z11, z12, z13, z15, z16, z17, z18, z20, z21, z23, z24, z25, z31, z32, z39, z40, z41, z46, z48, z50, z57, z59, z60, z61, z62, z63, z64, z97, z98, z99, z100, z101, z102, z103, z104, z105, z106, z107, z108, z109, z110, z111, z112, z113, z114, z115, z116, z117, z118, z119, z120, z121, z122, z128, z132, z200, z240, z255, z372, z390625, z400, z420, z421, z422, z662, z900, z940, z999, z1000, z1024, z2000, z5860, z10000, z12345, z15625, z266240, z1048575, z1064960, z1103515245, z_m1, hPS2, kn, p1])); first | rw [Option.bind_some] | rw [bp_s] | rw [if_true] | rw [if_false] | rw [rv_lt_eq] | rw [if_pos (by omega)] | rw [if_neg (by omega)])
      rw [mn', ce, if_pos rfl]
      repeat (first | (conv => (lhs; arg 1; simp (disch := first | assumption | omega) only [tk_gI, tk_gL, tk_gR, tk_pI, tk_pL, rv_aI, rv_aL, rv_aR, rv_uI, rv_uL, rv_uB, rv_uZ, pu_ckI, pu_ckL, pu_lnI, pu_lnL, tk_rI, tk_rL, Option.bind_some, Option.map_some, rv_lt, tk_ix, z0, z1, z2, z3, z4, z5, z6, z7, z8, z9, z10, z11, z12, z13, z15, z16, z17, z18, z20, z21, z23, z24, z25, z31, z32, z39, z40, z41, z46, z48, z50, z57, z59, z60, z61, z62, z63, z64, z97, z98, z99, z100, z101, z102, z103, z104, z105, z106, z107, z108, z109, z110, z111, z112, z113, z114, z115, z116, z117, z118, z119, z120, z121, z122, z128, z132, z200, z240, z255, z372, z390625, z400, z420, z421, z422, z662, z900, z940, z999, z1000, z1024, z2000, z5860, z10000, z12345, z15625, z266240, z1048575, z1064960, z1103515245, z_m1, ks, kN, rc_111 hB2, e3])); first | rw [Option.bind_some] | rw [bp_s] | rw [if_true] | rw [if_false] | rw [rv_lt_eq] | rw [if_pos (by omega)] | rw [if_neg (by omega)])
    · rw [Nat.sub_self, if_pos (Nat.zero_le j), Nat.sub_zero, Nat.zero_or]
  · have z : cw m (ow m c) (rl m c) N a [] = 0 := Nat.eq_zero_of_not_pos fun p => ce (by
      have := cw_len N a [] p (Nat.zero_le _)
      rw [this]
      show (if N + 0 < vN m then N + 0 else vN m) = _
      rw [Nat.add_zero])
    refine ⟨S2, ?_, (f1.mono rfl).tr (f2.mono rfl), (f2.at (a := 111) (k := 8) rfl).trans g8, fun j hj => (g2 j hj).2.trans (congrArg nI (bs_zero.mpr fun x hx => hb_0 N a [] j x z hx).symm)⟩
    have nl : (rl m c).length ≤ 3 := hl.1
    have ne : ¬ nI (rl m c).length = nI (if N < vN m then N else vN m) := by
      rw [n_eq (by omega) (by split <;> omega)]; exact ce
    rw [z]
    repeat (first | (conv => (lhs; arg 1; simp (disch := first | assumption | omega) only [tk_gI, tk_gL, tk_gR, tk_pI, tk_pL, rv_aI, rv_aL, rv_aR, rv_uI, rv_uL, rv_uB, rv_uZ, pu_ckI, pu_ckL, pu_lnI, pu_lnL, tk_rI, tk_rL, Option.bind_some, Option.map_some, rv_lt, tk_ix, z0, z1, z2, z3, z4, z5, z6, z7, z8, z9, z10, z11, z12, z13, z15, z16, z17, z18, z20, z21, z23, z24, z25, z31, z32, z39, z40, z41, z46, z48, z50, z57, z59, z60, z61, z62, z63, z64, z97, z98, z99, z100, z101, z102, z103, z104, z105, z106, z107, z108, z109, z110, z111, z112, z113, z114, z115, z116, z117, z118, z119, z120, z121, z122, z128, z132, z200, z240, z255, z372, z390625, z400, z420, z421, z422, z662, z900, z940, z999, z1000, z1024, z2000, z5860, z10000, z12345, z15625, z266240, z1048575, z1064960, z1103515245, z_m1, hPS2, kn, p1])); first | rw [Option.bind_some] | rw [bp_s] | rw [if_true] | rw [if_false] | rw [rv_lt_eq] | rw [if_pos (by omega)] | rw [if_neg (by omega)])
    rw [mn', if_neg ne]
    rfl
theorem m_ways0 (hn : 50 ≤ n) (hB : rv_B S) (x1 x2 x3 : Int32) : ∃ S', cX13_ways_49 n n S 189 x1 x2 x3 (nI 0) = cX13_ways_69 n S' 189 x1 x2 x3 ∧ rvf [214] S S' ∧ ∀ j, j < 5 → S'.2.1 214 j = nI 0 := by
  refine lp (F := fun q (x : rvS × Int32) => cX13_ways_49 n q x.1 189 x1 x2 x3 x.2) (fun i x => x.2 = nI i ∧ rvf [214] S x.1 ∧ ∀ j, j < i → x.1.2.1 214 j = nI 0) (fun o => ∃ S', o = cX13_ways_69 n S' 189 x1 x2 x3 ∧ rvf [214] S S' ∧ ∀ j, j < 5 → S'.2.1 214 j = nI 0) 5 (fun i x q hi hx => Or.inr ?_) (fun x q hx => ?_) (i := 0) (x := (S, nI 0)) (q := n) (Nat.zero_le _) ⟨rfl, rvf.rf _ _, fun j h => absurd h (Nat.not_lt_zero j)⟩ (by omega)
  · obtain ⟨S1, x2'⟩ := x
    obtain ⟨rfl, f, g⟩ := hx
    have f : rvf [214] S S1 := f
    have hB1 := f.B hB
    refine ⟨(rv_sI S1 214 i (nI 0), nI (i + 1)), ?_, rfl, f.w rfl rfl, fun j hj => ?_⟩
    · show cX13_ways_49 n (q + 1) S1 189 x1 x2 x3 (nI i) = cX13_ways_49 n q _ 189 x1 x2 x3 (nI (i + 1))
      rw [cX13_ways_49]
      simp (disch := first | assumption | omega) only [tk_gI, tk_gL, tk_gR, tk_pI, tk_pL, rv_aI, rv_aL, rv_aR, rv_uI, rv_uL, rv_uB, rv_uZ, pu_ckI, pu_ckL, pu_lnI, pu_lnL, tk_rI, tk_rL, Option.bind_some, Option.map_some, rv_lt, tk_ix, z0, z1, z2, z3, z4, z5, z6, z7, z8, z9, z10, z11, z12, z13, z15, z16, z17, z18, z20, z21, z23, z24, z25, z31, z32, z39, z40, z41, z46, z48, z50, z57, z59, z60, z61, z62, z63, z64, z97, z98, z99, z100, z101, z102, z103, z104, z105, z106, z107, z108, z109, z110, z111, z112, z113, z114, z115, z116, z117, z118, z119, z120, z121, z122, z128, z132, z200, z240, z255, z372, z390625, z400, z420, z421, z422, z662, z900, z940, z999, z1000, z1024, z2000, z5860, z10000, z12345, z15625, z266240, z1048575, z1064960, z1103515245, z_m1, n_le, n_lt, n_eq, n_bit0, n_bit1, n_sbit0, n_shl, z_ltM, z_Mlt, z_leM, z_Mle, z_eqM, z_Meq, bI0, bI1, bI_01, bI_01t, bI_10, bI_10f, if_true, if_false, eq_self, reduceCtorEq, if_pos, if_neg, rc_189 hB1, rf_of hB1 (show (189, 46, 214) ∈ rv_rf0 by decide), rn_214 hB1, nI_add]
    · show (rv_sI S1 214 i _).2.1 214 j = _
      by_cases c : j = i
      · subst c; exact rv_sI_eq _ _ _ _
      · rw [rv_sI_k _ _ c]; exact g j (by omega)
  · obtain ⟨S1, x2'⟩ := x
    obtain ⟨rfl, f, g⟩ := hx
    refine ⟨S1, ?_, f, g⟩
    show cX13_ways_49 n (q + 1) S1 189 x1 x2 x3 (nI 5) = _
    rw [cX13_ways_49]
    simp (disch := first | assumption | omega) only [z0, z1, z2, z3, z4, z5, z6, z7, z8, z9, z10, z11, z12, z13, z15, z16, z17, z18, z20, z21, z23, z24, z25, z31, z32, z39, z40, z41, z46, z48, z50, z57, z59, z60, z61, z62, z63, z64, z97, z98, z99, z100, z101, z102, z103, z104, z105, z106, z107, z108, z109, z110, z111, z112, z113, z114, z115, z116, z117, z118, z119, z120, z121, z122, z128, z132, z200, z240, z255, z372, z390625, z400, z420, z421, z422, z662, z900, z940, z999, z1000, z1024, z2000, z5860, z10000, z12345, z15625, z266240, z1048575, z1064960, z1103515245, z_m1, n_le, n_lt, n_eq, n_bit0, n_bit1, n_sbit0, n_shl, z_ltM, z_Mlt, z_leM, z_Mle, z_eqM, z_Meq, bI0, bI1, bI_01, bI_01t, bI_10, bI_10f, if_true, if_false, eq_self, reduceCtorEq, if_pos, if_neg]
theorem m_ways (hn : 50 ≤ n) (hB : rv_B S) (hM : MR S m) (hk : okm m) {c a : Nat} (hcc : c < vC m) (ha : a < vW m) {N : Nat} (h1 : 1 ≤ N) (hN : N ≤ 5) (hv0 : S.2.1 189 48 = nI 0) (h214 : ∀ j, j < 5 → S.2.1 214 j = nI 0) : ∃ S', cX13_ways_69 n S 189 (nI c) (nI a) (nI N) = some (nI (cw m (ow m c) (rl m c) N a []), S') ∧ rvf [199, 213, 189048, 214] S S' ∧ MR S' m ∧ ∀ j, j < N → S'.2.1 214 j = nI (bs (hb m (ow m c) (rl m c) N a [] j) (vW m)) := by
  obtain ⟨hp, hc, hd⟩ := id hk
  have h24 := hp.1
  have rr := rf_of hB (show (189, 24, 199) ∈ rv_rf0 by decide)
  obtain ⟨S1, eS1⟩ : ∃ S1, S1 = rv_sI S 199 0 (nI a) := ⟨_, rfl⟩
  have f1 : rvf [199] S S1 := by rw [eS1]; exact (rvf.rf _ _).w rfl rfl
  have hB1 := f1.B hB
  have rr1 := rf_of hB1 (show (189, 24, 199) ∈ rv_rf0 by decide)
  obtain ⟨S2, eS2⟩ : ∃ S2, S2 = rv_sI S1 199 1 (nI 0) := ⟨_, rfl⟩
  have f2 : rvf [199] S1 S2 := by rw [eS2]; exact (rvf.rf _ _).w rfl rfl
  have hB2 := f2.B hB1
  have H2 : HR S2 a [] := ⟨by rw [eS2, rv_sI_k _ _ (by decide), eS1, rv_sI_eq], by rw [eS2, rv_sI_eq]; rfl, fun i x h => by cases h⟩
  have okn : okl m [] := ⟨Nat.zero_le 3, fun x hx => absurd hx List.not_mem_nil⟩
  have kc := m_code (n := n) (by omega) hB2 hp H2 ha okn
  have f12 : rvf [199] S S2 := f1.tr f2
  have hM2 := hM.f f12 rfl
  have t := m_tryW (n := n) hn hk hcc hN N 8 (Nat.le_refl N) (by omega)
  unfold WM at t
  rw [Nat.sub_self] at t
  obtain ⟨S3, e3, f3, -, g3, g4⟩ := t a [] S2 (fun _ => 0) (fun _ => 0) 0 ha okn hB2 hM2 (fun j hj => absurd hj (Nat.not_lt_zero j)) ((f12.at (a := 189) (k := 48) rfl).trans hv0) (fun j hj => (f12.row rfl rfl j).trans (h214 j (by omega)))
  have hB3 := f3.B hB2
  rw [Nat.zero_add] at g3
  refine ⟨S3, ?_, (f12.mono rfl).tr f3, hM2.f f3 rfl, fun j hj => (g4 j hj).trans (congrArg nI ?_)⟩
  · have e3 : fnX13_tryWays n 8 S2 189 (nI c) (nI (cd a [])) (nI N) (nI 0) = some S3 := e3
    rw [cX13_ways_69]
    simp (disch := first | assumption | omega) only [tk_gI, tk_gL, tk_gR, tk_pI, tk_pL, rv_aI, rv_aL, rv_aR, rv_uI, rv_uL, rv_uB, rv_uZ, pu_ckI, pu_ckL, pu_lnI, pu_lnL, tk_rI, tk_rL, Option.bind_some, Option.map_some, rv_lt, tk_ix, z0, z1, z2, z3, z4, z5, z6, z7, z8, z9, z10, z11, z12, z13, z15, z16, z17, z18, z20, z21, z23, z24, z25, z31, z32, z39, z40, z41, z46, z48, z50, z57, z59, z60, z61, z62, z63, z64, z97, z98, z99, z100, z101, z102, z103, z104, z105, z106, z107, z108, z109, z110, z111, z112, z113, z114, z115, z116, z117, z118, z119, z120, z121, z122, z128, z132, z200, z240, z255, z372, z390625, z400, z420, z421, z422, z662, z900, z940, z999, z1000, z1024, z2000, z5860, z10000, z12345, z15625, z266240, z1048575, z1064960, z1103515245, z_m1, rc_189 hB, rr, rn_199 hB, ← eS1, rc_189 hB1, rr1, rn_199 hB1, ← eS2, rc_189 hB2, kc, e3, rc_189 hB3, g3]
  · rw [if_pos (Nat.zero_le j), Nat.sub_zero, Nat.zero_or]
theorem rng5 (x : Int32) : (∃ a, 1 ≤ a ∧ a ≤ 5 ∧ x = nI a) ∨ (x < nI 1 ∨ (¬ x < nI 1 ∧ nI 5 < x)) := by
  rcases rng x (N := 6) (by decide) with ⟨a, h, rfl⟩ | h
  · by_cases c : 1 ≤ a
    · exact Or.inl ⟨a, c, by omega, rfl⟩
    · exact Or.inr (Or.inl (by rw [n_lt (by omega) (by decide)]; omega))
  · rcases h with h | h
    · exact Or.inr (Or.inl (Int32.lt_trans h (by decide)))
    · by_cases c : x < nI 1
      · exact Or.inr (Or.inl c)
      · exact Or.inr (Or.inr ⟨c, Int32.lt_of_lt_of_le (show nI 5 < nI 6 by decide) h⟩)
def DWY : List Nat := DV ++ [111008, 117, 189047, 214]
theorem QS.wy {S' : rvS} (h : QS S S' m wd) : QD DWY S S' m wd := ⟨h.1, h.2.1.mono (by decide), h.2.2⟩
theorem HV.v {S' : rvS} (h : HV S) (q : QS S S' m wd) : HV S' := h.f q.2.1 rfl rfl rfl rfl
theorem op_ways (hn : 500 ≤ n) (hV : VI S m wd) (hH : HV S) (x y z : Int32) : ∃ r S1 S', fnX12_ways n S 64 x y z = some (r, S1) ∧ fnX13_ways n S1 189 x y z = some (r, S') ∧ QD DWY S S' m wd ∧ HV S' := by
  obtain ⟨hB, hR, hL, hk, -⟩ := id hV
  obtain ⟨hp, hc, hd⟩ := id hk
  have h24 := hp.1
  have h40 := hc.1
  have hC := CS_of hB
  have hv : vb 67 := Or.inl rfl
  have bad : fnX12_ways n S 64 x y z = some (iM, S) → (∀ S6, fnX13_lay n (rv_sI S 189 0 (nI 0)) 189 = some S6 → rv_B S6 → MR S6 m → fnX13_ways n S 189 x y z = some (iM, S6)) → ∃ r S1 S', fnX12_ways n S 64 x y z = some (r, S1) ∧ fnX13_ways n S1 189 x y z = some (r, S') ∧ QD DWY S S' m wd ∧ HV S' := fun h1 h2 => by
    obtain ⟨S6, e6, hB6, f6, hM6, r6, b6⟩ := start_ok (n := n) (by omega) hB hL
    have q := QS.s0 hV f6 hM6 r6 b6
    exact ⟨_, S, S6, h1, h2 S6 e6 hB6 hM6, q.wy, hH.v q⟩
  rcases rng x (N := vC m) (by omega) with ⟨c, hcc, rfl⟩ | hx
  · have k1 := k_isCoin (n := n) hB hR hk hcc
    rcases rng y (N := vW m) (by omega) with ⟨a, ha, rfl⟩ | hy
    · have k2 := k_isWho (n := n) hB hR hk ha
      rcases rng5 z with ⟨N, h1, hN, rfl⟩ | hz
      · obtain ⟨S1, e1, f1, g1, g2⟩ := k_ways (n := n) (by omega) hB hR hk hcc ha h1 hN
        have hB1 := f1.B hB
        have R1 := hR.f f1 hv (Or.inl rfl) (Or.inr (by decide)) (Or.inr (by decide)) (Or.inr (by decide))
        obtain ⟨S6, e6, hB6, f6, hM6, r6, b6⟩ := start_ok (n := n) (by omega) hB1 (hL.f f1 rfl rfl)
        obtain ⟨S7, eS7⟩ : ∃ S7, S7 = rv_sI (rv_sI S6 189 48 (nI 0)) 189 47 (nI N) := ⟨_, rfl⟩
        have f7 : rvf [189048, 189047] S6 S7 := by
          rw [eS7]
          exact ((rvf.sI S6 189 48 (nI 0)).mono rfl).tr ((rvf.sI _ 189 47 (nI N)).mono rfl)
        have hB7 := f7.B hB6
        have v47 : S7.2.1 189 47 = nI N := by rw [eS7, rv_sI_eq]
        have v48 : S7.2.1 189 48 = nI 0 := by rw [eS7, rv_sI_k _ _ (by decide), rv_sI_eq]
        obtain ⟨S8, e8, f8, g8⟩ := m_ways0 (n := n) (by omega) hB7 (nI c) (nI a) (nI N)
        have hB8 := f8.B hB7
        obtain ⟨S9, e9, f9, M9, g9⟩ := m_ways (n := n) (by omega) hB8 ((hM6.f f7 rfl).f f8 rfl) hk hcc ha h1 hN ((f8.at (a := 189) (k := 48) rfl).trans v48) g8
        have fz : rvf [189000, 189022, 191, 189048, 189047, 214, 199, 213] S1 S9 := (f6.mono rfl).tr ((f7.mono rfl).tr ((f8.mono rfl).tr (f9.mono rfl)))
        refine ⟨nI (cw m (ow m c) (rl m c) N a []), S1, S9, ?_, ?_, QD.two hV f1 fz rfl rfl (by decide) (by decide) R1 M9 (by rw [f9.at (a := 189) (k := 22) rfl, f8.at (a := 189) (k := 22) rfl, f7.at (a := 189) (k := 22) rfl]; exact b6) hk rfl rfl (r6.tr ((R42.of f7 rfl).tr ((R42.of f8 rfl).tr (R42.of f9 rfl)))), ⟨N, hN, (fz.at (a := 111) (k := 8) rfl).trans g1, (f9.at (a := 189) (k := 47) rfl).trans ((f8.at (a := 189) (k := 47) rfl).trans v47), fun j hj => ?_⟩⟩
        · have r6' := rf_of hB (show (64, 6, 111) ∈ rv_rf0 by decide)
          have n1 : ¬ nI N < (1 : Int32) := by rw [z1, n_lt (by omega) (by decide)]; omega
          have n5 : nI N ≤ (5 : Int32) := by rw [z5, n_le (by omega) (by decide)]; omega
          rw [fnX12_ways]
          repeat (first | (conv => (lhs; arg 1; simp (disch := first | assumption | omega) only [tk_gI, tk_gL, tk_gR, tk_pI, tk_pL, rv_aI, rv_aL, rv_aR, rv_uI, rv_uL, rv_uB, rv_uZ, pu_ckI, pu_ckL, pu_lnI, pu_lnL, tk_rI, tk_rL, Option.bind_some, Option.map_some, rv_lt, tk_ix, z0, z1, z2, z3, z4, z5, z6, z7, z8, z9, z10, z11, z12, z13, z15, z16, z17, z18, z20, z21, z23, z24, z25, z31, z32, z39, z40, z41, z46, z48, z50, z57, z59, z60, z61, z62, z63, z64, z97, z98, z99, z100, z101, z102, z103, z104, z105, z106, z107, z108, z109, z110, z111, z112, z113, z114, z115, z116, z117, z118, z119, z120, z121, z122, z128, z132, z200, z240, z255, z372, z390625, z400, z420, z421, z422, z662, z900, z940, z999, z1000, z1024, z2000, z5860, z10000, z12345, z15625, z266240, z1048575, z1064960, z1103515245, z_m1, n_le, n_lt, n_eq, n_bit0, n_bit1, n_sbit0, n_shl, z_ltM, z_Mlt, z_leM, z_Mle, z_eqM, z_Meq, bI0, bI1, bI_01, bI_01t, bI_10, bI_10f, if_true, if_false, eq_self, reduceCtorEq, hC, k1, k2])); first | rw [Option.bind_some] | rw [bp_s] | rw [if_true] | rw [if_false] | rw [rv_lt_eq] | rw [if_pos (by omega)] | rw [if_neg (by omega)])
          simp (disch := first | assumption | omega) only [tk_gI, tk_gL, tk_gR, tk_pI, tk_pL, rv_aI, rv_aL, rv_aR, rv_uI, rv_uL, rv_uB, rv_uZ, pu_ckI, pu_ckL, pu_lnI, pu_lnL, tk_rI, tk_rL, Option.bind_some, Option.map_some, rv_lt, tk_ix, hC, r6', rc_111 hB, e1, bp_s]
        · have i1 : fnX13_isIn n S6 (nI N) (nI 1) (nI 5) = some (nI 1) := by
            rw [fnX13_isIn]
            simp (disch := first | assumption | omega) only [z0, z1, z2, z3, z4, z5, z6, z7, z8, z9, z10, z11, z12, z13, z15, z16, z17, z18, z20, z21, z23, z24, z25, z31, z32, z39, z40, z41, z46, z48, z50, z57, z59, z60, z61, z62, z63, z64, z97, z98, z99, z100, z101, z102, z103, z104, z105, z106, z107, z108, z109, z110, z111, z112, z113, z114, z115, z116, z117, z118, z119, z120, z121, z122, z128, z132, z200, z240, z255, z372, z390625, z400, z420, z421, z422, z662, z900, z940, z999, z1000, z1024, z2000, z5860, z10000, z12345, z15625, z266240, z1048575, z1064960, z1103515245, z_m1, n_le, n_lt, n_eq, n_bit0, n_bit1, n_sbit0, n_shl, z_ltM, z_Mlt, z_leM, z_Mle, z_eqM, z_Meq, bI0, bI1, bI_01, bI_01t, bI_10, bI_10f, if_true, if_false, eq_self, reduceCtorEq, if_pos, if_neg, bo_1]
          rw [fnX13_ways]
          repeat (first | (conv => (lhs; arg 1; simp (disch := first | assumption | omega) only [tk_gI, tk_gL, tk_gR, tk_pI, tk_pL, rv_aI, rv_aL, rv_aR, rv_uI, rv_uL, rv_uB, rv_uZ, pu_ckI, pu_ckL, pu_lnI, pu_lnL, tk_rI, tk_rL, Option.bind_some, Option.map_some, rv_lt, tk_ix, z0, z1, z2, z3, z4, z5, z6, z7, z8, z9, z10, z11, z12, z13, z15, z16, z17, z18, z20, z21, z23, z24, z25, z31, z32, z39, z40, z41, z46, z48, z50, z57, z59, z60, z61, z62, z63, z64, z97, z98, z99, z100, z101, z102, z103, z104, z105, z106, z107, z108, z109, z110, z111, z112, z113, z114, z115, z116, z117, z118, z119, z120, z121, z122, z128, z132, z200, z240, z255, z372, z390625, z400, z420, z421, z422, z662, z900, z940, z999, z1000, z1024, z2000, z5860, z10000, z12345, z15625, z266240, z1048575, z1064960, z1103515245, z_m1, n_le, n_lt, n_eq, n_bit0, n_bit1, n_sbit0, n_shl, z_ltM, z_Mlt, z_leM, z_Mle, z_eqM, z_Meq, bI0, bI1, bI_01, bI_01t, bI_10, bI_10f, if_true, if_false, eq_self, reduceCtorEq, rc_189 hB1, e6, rc_189 hB6, m_isCoin hB6 hM6 hc hcc, m_isWho hB6 hM6 hp ha, i1])); first | rw [Option.bind_some] | rw [bp_s] | rw [if_true] | rw [if_false] | rw [rv_lt_eq] | rw [if_pos (by omega)] | rw [if_neg (by omega)])
          simp (disch := first | assumption | omega) only [tk_gI, tk_gL, tk_gR, tk_pI, tk_pL, rv_aI, rv_aL, rv_aR, rv_uI, rv_uL, rv_uB, rv_uZ, pu_ckI, pu_ckL, pu_lnI, pu_lnL, tk_rI, tk_rL, Option.bind_some, Option.map_some, rv_lt, tk_ix, z0, z1, z2, z3, z4, z5, z6, z7, z8, z9, z10, z11, z12, z13, z15, z16, z17, z18, z20, z21, z23, z24, z25, z31, z32, z39, z40, z41, z46, z48, z50, z57, z59, z60, z61, z62, z63, z64, z97, z98, z99, z100, z101, z102, z103, z104, z105, z106, z107, z108, z109, z110, z111, z112, z113, z114, z115, z116, z117, z118, z119, z120, z121, z122, z128, z132, z200, z240, z255, z372, z390625, z400, z420, z421, z422, z662, z900, z940, z999, z1000, z1024, z2000, z5860, z10000, z12345, z15625, z266240, z1048575, z1064960, z1103515245, z_m1, rc_189 hB6]
          rw [← eS7, e8, e9]
        · rw [fz.row rfl rfl]
          exact (g2 j hj).trans (g9 j hj).symm
      · refine bad ?_ fun S6 e6 hB6 hM6 => ?_
        · rw [fnX12_ways]
          repeat (first | (conv => (lhs; arg 1; simp (disch := first | assumption | omega) only [tk_gI, tk_gL, tk_gR, tk_pI, tk_pL, rv_aI, rv_aL, rv_aR, rv_uI, rv_uL, rv_uB, rv_uZ, pu_ckI, pu_ckL, pu_lnI, pu_lnL, tk_rI, tk_rL, Option.bind_some, Option.map_some, rv_lt, tk_ix, z0, z1, z2, z3, z4, z5, z6, z7, z8, z9, z10, z11, z12, z13, z15, z16, z17, z18, z20, z21, z23, z24, z25, z31, z32, z39, z40, z41, z46, z48, z50, z57, z59, z60, z61, z62, z63, z64, z97, z98, z99, z100, z101, z102, z103, z104, z105, z106, z107, z108, z109, z110, z111, z112, z113, z114, z115, z116, z117, z118, z119, z120, z121, z122, z128, z132, z200, z240, z255, z372, z390625, z400, z420, z421, z422, z662, z900, z940, z999, z1000, z1024, z2000, z5860, z10000, z12345, z15625, z266240, z1048575, z1064960, z1103515245, z_m1, n_le, n_lt, n_eq, n_bit0, n_bit1, n_sbit0, n_shl, z_ltM, z_Mlt, z_leM, z_Mle, z_eqM, z_Meq, bI0, bI1, bI_01, bI_01t, bI_10, bI_10f, if_true, if_false, eq_self, reduceCtorEq, hC, k1, k2])); first | rw [Option.bind_some] | rw [bp_s] | rw [if_true] | rw [if_false] | rw [rv_lt_eq] | rw [if_pos (by omega)] | rw [if_neg (by omega)])
          rcases hz with h | ⟨h, h2⟩
          · rw [if_pos (show z < (1 : Int32) from h)]; rfl
          · rw [if_neg (show ¬ z < (1 : Int32) from h), if_neg (show ¬ z ≤ (5 : Int32) from fun q => Int32.lt_irrefl (Int32.lt_of_lt_of_le h2 q))]; rfl
        · have i1 : fnX13_isIn n S6 z (nI 1) (nI 5) = some (nI 0) := by
            rw [fnX13_isIn]
            rcases hz with h | ⟨h, h2⟩
            · rw [if_pos h]; rfl
            · rw [if_neg h, if_pos h2]; rfl
          rw [fnX13_ways]
          repeat (first | (conv => (lhs; arg 1; simp (disch := first | assumption | omega) only [tk_gI, tk_gL, tk_gR, tk_pI, tk_pL, rv_aI, rv_aL, rv_aR, rv_uI, rv_uL, rv_uB, rv_uZ, pu_ckI, pu_ckL, pu_lnI, pu_lnL, tk_rI, tk_rL, Option.bind_some, Option.map_some, rv_lt, tk_ix, z0, z1, z2, z3, z4, z5, z6, z7, z8, z9, z10, z11, z12, z13, z15, z16, z17, z18, z20, z21, z23, z24, z25, z31, z32, z39, z40, z41, z46, z48, z50, z57, z59, z60, z61, z62, z63, z64, z97, z98, z99, z100, z101, z102, z103, z104, z105, z106, z107, z108, z109, z110, z111, z112, z113, z114, z115, z116, z117, z118, z119, z120, z121, z122, z128, z132, z200, z240, z255, z372, z390625, z400, z420, z421, z422, z662, z900, z940, z999, z1000, z1024, z2000, z5860, z10000, z12345, z15625, z266240, z1048575, z1064960, z1103515245, z_m1, n_le, n_lt, n_eq, n_bit0, n_bit1, n_sbit0, n_shl, z_ltM, z_Mlt, z_leM, z_Mle, z_eqM, z_Meq, bI0, bI1, bI_01, bI_01t, bI_10, bI_10f, if_true, if_false, eq_self, reduceCtorEq, rc_189 hB, e6, rc_189 hB6, m_isCoin hB6 hM6 hc hcc, m_isWho hB6 hM6 hp ha, i1])); first | rw [Option.bind_some] | rw [bp_s] | rw [if_true] | rw [if_false] | rw [rv_lt_eq] | rw [if_pos (by omega)] | rw [if_neg (by omega)])
          all_goals rfl
    · refine bad ?_ fun S6 e6 hB6 hM6 => ?_
      · rw [fnX12_ways]
        repeat (first | (conv => (lhs; arg 1; simp (disch := first | assumption | omega) only [tk_gI, tk_gL, tk_gR, tk_pI, tk_pL, rv_aI, rv_aL, rv_aR, rv_uI, rv_uL, rv_uB, rv_uZ, pu_ckI, pu_ckL, pu_lnI, pu_lnL, tk_rI, tk_rL, Option.bind_some, Option.map_some, rv_lt, tk_ix, z0, z1, z2, z3, z4, z5, z6, z7, z8, z9, z10, z11, z12, z13, z15, z16, z17, z18, z20, z21, z23, z24, z25, z31, z32, z39, z40, z41, z46, z48, z50, z57, z59, z60, z61, z62, z63, z64, z97, z98, z99, z100, z101, z102, z103, z104, z105, z106, z107, z108, z109, z110, z111, z112, z113, z114, z115, z116, z117, z118, z119, z120, z121, z122, z128, z132, z200, z240, z255, z372, z390625, z400, z420, z421, z422, z662, z900, z940, z999, z1000, z1024, z2000, z5860, z10000, z12345, z15625, z266240, z1048575, z1064960, z1103515245, z_m1, n_le, n_lt, n_eq, n_bit0, n_bit1, n_sbit0, n_shl, z_ltM, z_Mlt, z_leM, z_Mle, z_eqM, z_Meq, bI0, bI1, bI_01, bI_01t, bI_10, bI_10f, if_true, if_false, eq_self, reduceCtorEq, hC, k1, k_isWho0 hB hR hy])); first | rw [Option.bind_some] | rw [bp_s] | rw [if_true] | rw [if_false] | rw [rv_lt_eq] | rw [if_pos (by omega)] | rw [if_neg (by omega)])
        all_goals rfl
      · rw [fnX13_ways]
        repeat (first | (conv => (lhs; arg 1; simp (disch := first | assumption | omega) only [tk_gI, tk_gL, tk_gR, tk_pI, tk_pL, rv_aI, rv_aL, rv_aR, rv_uI, rv_uL, rv_uB, rv_uZ, pu_ckI, pu_ckL, pu_lnI, pu_lnL, tk_rI, tk_rL, Option.bind_some, Option.map_some, rv_lt, tk_ix, z0, z1, z2, z3, z4, z5, z6, z7, z8, z9, z10, z11, z12, z13, z15, z16, z17, z18, z20, z21, z23, z24, z25, z31, z32, z39, z40, z41, z46, z48, z50, z57, z59, z60, z61, z62, z63, z64, z97, z98, z99, z100, z101, z102, z103, z104, z105, z106, z107, z108, z109, z110, z111, z112, z113, z114, z115, z116, z117, z118, z119, z120, z121, z122, z128, z132, z200, z240, z255, z372, z390625, z400, z420, z421, z422, z662, z900, z940, z999, z1000, z1024, z2000, z5860, z10000, z12345, z15625, z266240, z1048575, z1064960, z1103515245, z_m1, n_le, n_lt, n_eq, n_bit0, n_bit1, n_sbit0, n_shl, z_ltM, z_Mlt, z_leM, z_Mle, z_eqM, z_Meq, bI0, bI1, bI_01, bI_01t, bI_10, bI_10f, if_true, if_false, eq_self, reduceCtorEq, rc_189 hB, e6, rc_189 hB6, m_isCoin hB6 hM6 hc hcc, m_isWho0 hB6 hM6 hy])); first | rw [Option.bind_some] | rw [bp_s] | rw [if_true] | rw [if_false] | rw [rv_lt_eq] | rw [if_pos (by omega)] | rw [if_neg (by omega)])
        all_goals rfl
  · refine bad ?_ fun S6 e6 hB6 hM6 => ?_
    · rw [fnX12_ways]
      repeat (first | (conv => (lhs; arg 1; simp (disch := first | assumption | omega) only [tk_gI, tk_gL, tk_gR, tk_pI, tk_pL, rv_aI, rv_aL, rv_aR, rv_uI, rv_uL, rv_uB, rv_uZ, pu_ckI, pu_ckL, pu_lnI, pu_lnL, tk_rI, tk_rL, Option.bind_some, Option.map_some, rv_lt, tk_ix, z0, z1, z2, z3, z4, z5, z6, z7, z8, z9, z10, z11, z12, z13, z15, z16, z17, z18, z20, z21, z23, z24, z25, z31, z32, z39, z40, z41, z46, z48, z50, z57, z59, z60, z61, z62, z63, z64, z97, z98, z99, z100, z101, z102, z103, z104, z105, z106, z107, z108, z109, z110, z111, z112, z113, z114, z115, z116, z117, z118, z119, z120, z121, z122, z128, z132, z200, z240, z255, z372, z390625, z400, z420, z421, z422, z662, z900, z940, z999, z1000, z1024, z2000, z5860, z10000, z12345, z15625, z266240, z1048575, z1064960, z1103515245, z_m1, n_le, n_lt, n_eq, n_bit0, n_bit1, n_sbit0, n_shl, z_ltM, z_Mlt, z_leM, z_Mle, z_eqM, z_Meq, bI0, bI1, bI_01, bI_01t, bI_10, bI_10f, if_true, if_false, eq_self, reduceCtorEq, hC, k_isCoin0 hB hR hx])); first | rw [Option.bind_some] | rw [bp_s] | rw [if_true] | rw [if_false] | rw [rv_lt_eq] | rw [if_pos (by omega)] | rw [if_neg (by omega)])
      all_goals rfl
    · rw [fnX13_ways]
      repeat (first | (conv => (lhs; arg 1; simp (disch := first | assumption | omega) only [tk_gI, tk_gL, tk_gR, tk_pI, tk_pL, rv_aI, rv_aL, rv_aR, rv_uI, rv_uL, rv_uB, rv_uZ, pu_ckI, pu_ckL, pu_lnI, pu_lnL, tk_rI, tk_rL, Option.bind_some, Option.map_some, rv_lt, tk_ix, z0, z1, z2, z3, z4, z5, z6, z7, z8, z9, z10, z11, z12, z13, z15, z16, z17, z18, z20, z21, z23, z24, z25, z31, z32, z39, z40, z41, z46, z48, z50, z57, z59, z60, z61, z62, z63, z64, z97, z98, z99, z100, z101, z102, z103, z104, z105, z106, z107, z108, z109, z110, z111, z112, z113, z114, z115, z116, z117, z118, z119, z120, z121, z122, z128, z132, z200, z240, z255, z372, z390625, z400, z420, z421, z422, z662, z900, z940, z999, z1000, z1024, z2000, z5860, z10000, z12345, z15625, z266240, z1048575, z1064960, z1103515245, z_m1, n_le, n_lt, n_eq, n_bit0, n_bit1, n_sbit0, n_shl, z_ltM, z_Mlt, z_leM, z_Mle, z_eqM, z_Meq, bI0, bI1, bI_01, bI_01t, bI_10, bI_10f, if_true, if_false, eq_self, reduceCtorEq, rc_189 hB, e6, rc_189 hB6, m_isCoin0 hB6 hM6 hx])); first | rw [Option.bind_some] | rw [bp_s] | rw [if_true] | rw [if_false] | rw [rv_lt_eq] | rw [if_pos (by omega)] | rw [if_neg (by omega)])
      all_goals rfl
end
