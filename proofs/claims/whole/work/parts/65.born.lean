/-! BORN, CHANGE -/
section
variable {n : Nat} {S : rvS} {m m' : Nat → Nat} {wd : Nat → List Nat}
def br (m : Nat → Nat) (u : Nat) : Nat → Nat := fun k => if k = 0 then m 0 + 1 else if k = 8 + 5 * m 0 then u else if 8 + 5 * m 0 < k ∧ k < 13 + 5 * m 0 then 0 else m k
theorem br_off {u k : Nat} (h0 : k ≠ 0) (h : k < 8 + 5 * m 0 ∨ 13 + 5 * m 0 ≤ k) : br m u k = m k := by
  unfold br
  rw [if_neg h0, if_neg (by omega), if_neg (by omega)]
theorem br_0 (m : Nat → Nat) (u : Nat) : vW (br m u) = vW m + 1 := if_pos rfl
theorem br_new (m : Nat → Nat) (u : Nat) : at_ (br m u) (vW m) = u ∧ mt (br m u) (vW m) = 0 ∧ de (br m u) (vW m) = 0 ∧ sg (br m u) (vW m) = 0 ∧ ea (br m u) (vW m) = 0 := by
  refine ⟨?_, ?_, ?_, ?_, ?_⟩
  · show br m u (8 + 5 * m 0) = u
    unfold br; rw [if_neg (by omega), if_pos rfl]
  · show br m u (9 + 5 * m 0) = 0
    unfold br; rw [if_neg (by omega), if_neg (by omega), if_pos (by omega)]
  · show br m u (10 + 5 * m 0) = 0
    unfold br; rw [if_neg (by omega), if_neg (by omega), if_pos (by omega)]
  · show br m u (11 + 5 * m 0) = 0
    unfold br; rw [if_neg (by omega), if_neg (by omega), if_pos (by omega)]
  · show br m u (12 + 5 * m 0) = 0
    unfold br; rw [if_neg (by omega), if_neg (by omega), if_pos (by omega)]
theorem br_okp (hp : okp m) (hW : vW m < 24) {u : Nat} (hu : u < 4) : okp (br m u) := by
  obtain ⟨q1, q2, q3, q4, q5, q6⟩ := hp
  obtain ⟨n1, n2, n3, n4, n5⟩ := br_new m u
  have e0 := br_0 m u
  have rdo : ∀ v, v < 4 → rd (br m u) v = rd m v := fun v hv => br_off (by omega) (Or.inr (by show 13 + 5 * vW m ≤ 128 + v; omega))
  have off : ∀ w, w < vW m → at_ (br m u) w = at_ m w ∧ mt (br m u) w = mt m w ∧ de (br m u) w = de m w ∧ sg (br m u) w = sg m w := fun w hw => ⟨br_off (by omega) (Or.inl (by show 8 + 5 * w < 8 + 5 * vW m; omega)), br_off (by omega) (Or.inl (by show 9 + 5 * w < 8 + 5 * vW m; omega)), br_off (by omega) (Or.inl (by show 10 + 5 * w < 8 + 5 * vW m; omega)), br_off (by omega) (Or.inl (by show 11 + 5 * w < 8 + 5 * vW m; omega))⟩
  refine ⟨by rw [e0]; omega, fun w hw => ?_, fun w hw => ?_, fun a b ha hb => ?_, fun v hv => ?_, fun a b ha hb => ?_⟩
  · rw [e0] at hw
    by_cases c : w = vW m
    · subst c; rw [n1]; exact hu
    · rw [(off w (by omega)).1]; exact q2 w (by omega)
  · rw [e0] at hw
    rw [e0]
    by_cases c : w = vW m
    · subst c; rw [n2, n3, n4]; omega
    · have o := off w (by omega)
      have z := q3 w (by omega)
      rw [o.2.1, o.2.2.1, o.2.2.2]; omega
  · rw [e0] at ha hb
    by_cases c : a = vW m
    · subst c; rw [n2]; intro z; omega
    · rw [(off a (by omega)).2.1]
      intro z
      have := (q3 a (by omega)).1
      by_cases c2 : b = vW m
      · omega
      · rw [(off b (by omega)).2.1]
        exact q4 a b (by omega) (by omega) z
  · rw [rdo v hv]; exact q5 v hv
  · unfold nr
    rw [rdo a ha, rdo b hb]; exact q6 a b ha hb
theorem br_okm (hk : okm m) (hW : vW m < 24) {u : Nat} (hu : u < 4) : okm (br m u) := by
  obtain ⟨hp, hc, hd⟩ := hk
  have lo : ∀ k, k ≠ 0 → k < 8 → br m u k = m k := fun k h0 hk => br_off h0 (Or.inl (by omega))
  have hi : ∀ k, 132 ≤ k → br m u k = m k := fun k hk => br_off (by omega) (Or.inr (by show 13 + 5 * vW m ≤ k; omega))
  have e0 := br_0 m u
  refine ⟨br_okp hp hW hu, ?_, ?_⟩
  · obtain ⟨h1, h2, h3⟩ := hc
    have e1 : vC (br m u) = vC m := lo 1 (by decide) (by decide)
    have e3 : vN (br m u) = vN m := lo 3 (by decide) (by decide)
    refine ⟨by rw [e1]; exact h1, by rw [e3]; exact h2, fun c hc => ?_⟩
    rw [e1] at hc
    obtain ⟨g1, g2, g3, g4, g5⟩ := h3 c hc
    have r2 : mn (br m u) c = mn m c := hi _ (by omega)
    have r1 : va (br m u) c = va m c := hi _ (by omega)
    refine ⟨by rw [r1]; exact g1, by rw [r1]; exact g2, by rw [e0, show ow (br m u) c = ow m c from hi _ (by omega)]; omega, by rw [e3, r2]; exact g4, fun i hi2 => ?_⟩
    rw [r2] at hi2
    rw [e0, show rm (br m u) c i = rm m c i from hi _ (by omega)]
    have := g5 i hi2
    omega
  · obtain ⟨h1, h2, h3, h4, h5, h6, h7⟩ := hd
    have e3 : vD (br m u) = vD m := lo 2 (by decide) (by decide)
    have e4 : vF (br m u) = vF m := lo 4 (by decide) (by decide)
    have e5 : vL (br m u) = vL m := lo 5 (by decide) (by decide)
    have e6 : br m u 6 = m 6 := lo 6 (by decide) (by decide)
    refine ⟨by rw [e3]; exact h1, by rw [e4]; exact h2, by rw [e4]; exact h3, by rw [e5]; exact h4, by rw [e6]; exact h5, by rw [e6, e0]; omega, fun k hk => ?_⟩
    rw [e3] at hk
    have g : ∀ i, db (br m u) k i = db m k i := fun i => hi _ (by omega)
    obtain ⟨z1, z2, z3⟩ := h7 k hk
    rw [g, g, g, g, e0]
    exact ⟨by omega, by omega, z3⟩
theorem k_add (hn : 50 ≤ n) (hB : rv_B S) {f : Nat} (hf : fb f) (hR : FR S f m) (hp : okp m) (hW : vW m < 24) {u : Nat} (hu : u < 4) : ∃ S', fnX1_add n S f 0 (nI u) = some (nI (vW m), S') ∧ rvf [f, f + 1, f + 2, f + 3, f + 4, f + 6] S S' ∧ FR S' f (br m u) ∧ ∀ j, S'.2.2.1 (f + 4) j = if j = vW m then lN 0 else S.2.2.1 (f + 4) j := by
  have hS := FS_of hB hf
  have hr : ∀ i, i < 7 → rwb (f + i) = true := by
    rcases hf with rfl | rfl | rfl | rfl <;> decide
  have hr0 := hr 0 (by decide)
  rw [Nat.add_zero] at hr0
  obtain ⟨n1, n2, n3, n4, n5⟩ := br_new m u
  have e0 := br_0 m u
  have rdo : ∀ v, v < 4 → rd (br m u) v = rd m v := fun v hv => br_off (by omega) (Or.inr (by show 13 + 5 * vW m ≤ 128 + v; omega))
  have off : ∀ w, w < vW m → at_ (br m u) w = at_ m w ∧ mt (br m u) w = mt m w ∧ de (br m u) w = de m w ∧ sg (br m u) w = sg m w ∧ ea (br m u) w = ea m w := fun w hw => ⟨br_off (by omega) (Or.inl (by show 8 + 5 * w < 8 + 5 * vW m; omega)), br_off (by omega) (Or.inl (by show 9 + 5 * w < 8 + 5 * vW m; omega)), br_off (by omega) (Or.inl (by show 10 + 5 * w < 8 + 5 * vW m; omega)), br_off (by omega) (Or.inl (by show 11 + 5 * w < 8 + 5 * vW m; omega)), br_off (by omega) (Or.inl (by show 12 + 5 * w < 8 + 5 * vW m; omega))⟩
  obtain ⟨a1, a2, a3, a4, a5, a6, a7, a8⟩ := hR
  obtain ⟨S2, eS2⟩ : ∃ S2, S2 = rv_sI (rv_sI (rv_sI (rv_sL (rv_sI S f 0 (nI (vW m + 1))) (f + 4) (vW m) (lN 0)) (f + 1) (vW m) (nI u)) (f + 2) (vW m) (nI (2 ^ vW m))) (f + 3) (vW m) (nI 0) := ⟨_, rfl⟩
  have f2 : rvf [f, f + 1, f + 2, f + 3, f + 4] S S2 := by
    rw [eS2]
    exact (((((rvf.sIr S 0 _ hr0).mono (by simp)).tr ((rvf.sLr _ (vW m) _ (hr 4 (by decide))).mono (by simp))).w (hr 1 (by decide)) (by simp)).w (hr 2 (by decide)) (by simp)).w (hr 3 (by decide)) (by simp)
  have hB2 := f2.B hB
  have r0 : FR0 S2 f (br m u) := by
    rw [eS2]
    have p : ∀ (q : Nat → Bool) (w : Nat), q w = false → bs q (w + 1) = bs q w := fun q w h => by rw [bs_s, if_neg (by rw [h]; decide)]
    refine ⟨?_, ?_, ?_, fun w hw => ?_, fun w hw => ?_, fun w hw => ?_, fun j hj => ?_⟩
    · rw [rv_sI_a _ _ _ (by omega), rv_sI_a _ _ _ (by omega), rv_sI_a _ _ _ (by omega), rd_LI, rv_sI_eq, e0]
    · rw [rv_sI_a _ _ _ (by omega), rv_sI_a _ _ _ (by omega), rv_sI_a _ _ _ (by omega), rd_LI, rv_sI_k _ _ (by decide), e0, p _ _ (by rw [n3]; rfl), a2]
      exact congrArg nI (bs_cong fun w hw => by rw [(off w hw).2.2.1])
    · rw [rv_sI_a _ _ _ (by omega), rv_sI_a _ _ _ (by omega), rv_sI_a _ _ _ (by omega), rd_LI, rv_sI_k _ _ (by decide), e0, p _ _ (by rw [n4]; rfl), a3]
      exact congrArg nI (bs_cong fun w hw => by rw [(off w hw).2.2.2.1])
    · rw [e0] at hw
      rw [rv_sI_a _ _ _ (by omega), rv_sI_a _ _ _ (by omega)]
      by_cases c : w = vW m
      · subst c; rw [rv_sI_eq, n1]
      · rw [rv_sI_k _ _ c, rd_LI, rv_sI_a _ _ _ (by omega), (off w (by omega)).1]; exact a4 w (by omega)
    · rw [e0] at hw
      rw [rv_sI_a _ _ _ (by omega)]
      unfold hs
      by_cases c : w = vW m
      · subst c; rw [rv_sI_eq, n2, if_pos rfl]
      · rw [rv_sI_k _ _ c, rv_sI_a _ _ _ (by omega), rd_LI, rv_sI_a _ _ _ (by omega), (off w (by omega)).2.1]; exact a5 w (by omega)
    · rw [e0] at hw
      by_cases c : w = vW m
      · subst c; rw [rv_sI_eq, n5]
      · rw [rv_sI_k _ _ c, rv_sI_a _ _ _ (by omega), rv_sI_a _ _ _ (by omega), rd_LI, rv_sI_a _ _ _ (by omega), (off w (by omega)).2.2.2.2]; exact a6 w (by omega)
    · rw [rv_sI_a _ _ _ (by omega), rv_sI_a _ _ _ (by omega), rv_sI_a _ _ _ (by omega), rd_LI, rv_sI_a _ _ _ (by omega), rdo j hj]; exact a7 j hj
  obtain ⟨S', e3, f3, g3⟩ := k_refresh hn hB2 hf r0 (br_okp hp hW hu)
  refine ⟨S', ?_, (f2.mono (by simp)).tr (f3.mono (by simp)), g3, fun j => ?_⟩
  · rw [fnX1_add]
    repeat (first | (conv => (lhs; arg 1; simp (disch := first | assumption | omega) only [tk_gI, tk_gL, tk_gR, tk_pI, tk_pL, rv_aI, rv_aL, rv_aR, rv_uI, rv_uL, rv_uB, rv_uZ, pu_ckI, pu_ckL, pu_lnI, pu_lnL, tk_rI, tk_rL, Option.bind_some, Option.map_some, rv_lt, tk_ix, z0, z1, z2, z3, z4, z5, z6, z7, z8, z9, z10, z11, z12, z13, z15, z16, z17, z18, z20, z21, z23, z24, z25, z31, z32, z39, z40, z41, z46, z48, z50, z57, z59, z60, z61, z62, z63, z64, z97, z98, z99, z100, z101, z102, z103, z104, z105, z106, z107, z108, z109, z110, z111, z112, z113, z114, z115, z116, z117, z118, z119, z120, z121, z122, z128, z132, z200, z240, z255, z372, z390625, z400, z420, z421, z422, z662, z900, z940, z999, z1000, z1024, z2000, z5860, z10000, z12345, z15625, z266240, z1048575, z1064960, z1103515245, z_m1, y0, y1, y27, y63, y96, y1099511627776, y69269232549888, n_le, n_lt, n_eq, n_bit0, n_bit1, n_sbit0, n_shl, z_ltM, z_Mlt, z_leM, z_Mle, z_eqM, z_Meq, bI0, bI1, bI_01, bI_01t, bI_10, bI_10f, if_true, if_false, eq_self, reduceCtorEq, if_pos, if_neg, hS, a1, rv_sI_eq, nI_add, n_shl])); first | rw [Option.bind_some] | rw [bp_s] | rw [if_true] | rw [if_false] | rw [rv_lt_eq] | rw [if_pos (by omega)] | rw [if_neg (by omega)])
    rw [← eS2, e3, Option.bind_some]
  · rw [f3.rowL (hr 4 (by decide)) (by simp), eS2, rd_IL, rd_IL, rd_IL, rd_L]
    by_cases c : j = vW m
    · rw [if_pos ⟨rfl, c⟩, if_pos c]
    · rw [if_neg (fun z => c z.2), if_neg c, rd_IL]
theorem m_bear (hn : 10 ≤ n) (hB : rv_B S) (hM : MR S m) (hW : vW m < 24) {u : Nat} (hu : u < 4) : ∃ S', fnX13_bear n S 189 (nI u) = some (nI (vW m), S') ∧ rvf [191] S S' ∧ MR S' (br m u) ∧ R42 S S' := by
  obtain ⟨S', e, f, g⟩ : ∃ S', cX13_bear_7 n n S 189 (nI u) (nI (vW m)) (nI 0) = some (nI (vW m), S') ∧ rvf [191] S S' ∧ ∀ k, S'.2.1 191 k = if k = 0 then nI (m 0 + 1) else if k = 8 + 5 * m 0 then nI u else if 8 + 5 * m 0 ≤ k ∧ k < 13 + 5 * m 0 then nI 0 else S.2.1 191 k := by
    refine lp (F := fun q (x : rvS × Int32) => cX13_bear_7 n q x.1 189 (nI u) (nI (vW m)) x.2) (fun i x => x.2 = nI i ∧ rvf [191] S x.1 ∧ ∀ k, x.1.2.1 191 k = if 8 + 5 * m 0 ≤ k ∧ k < 8 + 5 * m 0 + i then nI 0 else S.2.1 191 k) (fun o => ∃ S', o = some (nI (vW m), S') ∧ rvf [191] S S' ∧ ∀ k, S'.2.1 191 k = if k = 0 then nI (m 0 + 1) else if k = 8 + 5 * m 0 then nI u else if 8 + 5 * m 0 ≤ k ∧ k < 13 + 5 * m 0 then nI 0 else S.2.1 191 k) 5 (fun i x q hi hx => Or.inr ?_) (fun x q hx => ?_) (i := 0) (x := (S, nI 0)) (q := n) (Nat.zero_le _) ⟨rfl, rvf.rf _ _, fun k => by rw [if_neg (by omega)]⟩ (by omega)
    · obtain ⟨S1, x2⟩ := x
      obtain ⟨rfl, f, g⟩ := hx
      have f : rvf [191] S S1 := f
      have hB1 := f.B hB
      have hW' : m 0 < 24 := hW
      refine ⟨(rv_sI S1 191 (8 + 5 * m 0 + i) (nI 0), nI (i + 1)), ?_, rfl, f.w rfl rfl, fun k => ?_⟩
      · show cX13_bear_7 n (q + 1) S1 189 (nI u) (nI (m 0)) (nI i) = cX13_bear_7 n q _ 189 (nI u) (nI (m 0)) (nI (i + 1))
        rw [cX13_bear_7]
        simp (disch := first | assumption | omega) only [tk_gI, tk_gL, tk_gR, tk_pI, tk_pL, rv_aI, rv_aL, rv_aR, rv_uI, rv_uL, rv_uB, rv_uZ, pu_ckI, pu_ckL, pu_lnI, pu_lnL, tk_rI, tk_rL, Option.bind_some, Option.map_some, rv_lt, tk_ix, z0, z1, z2, z3, z4, z5, z6, z7, z8, z9, z10, z11, z12, z13, z15, z16, z17, z18, z20, z21, z23, z24, z25, z31, z32, z39, z40, z41, z46, z48, z50, z57, z59, z60, z61, z62, z63, z64, z97, z98, z99, z100, z101, z102, z103, z104, z105, z106, z107, z108, z109, z110, z111, z112, z113, z114, z115, z116, z117, z118, z119, z120, z121, z122, z128, z132, z200, z240, z255, z372, z390625, z400, z420, z421, z422, z662, z900, z940, z999, z1000, z1024, z2000, z5860, z10000, z12345, z15625, z266240, z1048575, z1064960, z1103515245, z_m1, n_le, n_lt, n_eq, n_bit0, n_bit1, n_sbit0, n_shl, z_ltM, z_Mlt, z_leM, z_Mle, z_eqM, z_Meq, bI0, bI1, bI_01, bI_01t, bI_10, bI_10f, if_true, if_false, eq_self, reduceCtorEq, if_pos, if_neg, rc_189 hB1, rf_of hB1 (show (189, 14, 191) ∈ rv_rf0 by decide), rn_191 hB1, nI_add, z_mul]
      · show (rv_sI S1 191 (8 + 5 * m 0 + i) _).2.1 191 k = _
        by_cases c1 : k = 8 + 5 * m 0 + i
        · subst c1
          rw [rv_sI_eq, if_pos (by omega)]
        · rw [rv_sI_k _ _ c1]
          have := g k
          rw [show (S1, nI i).1.2.1 191 k = S1.2.1 191 k from rfl] at this
          rw [this]
          by_cases c2 : 8 + 5 * m 0 ≤ k ∧ k < 8 + 5 * m 0 + i
          · rw [if_pos c2, if_pos (by omega)]
          · rw [if_neg c2, if_neg (by omega)]
    · obtain ⟨S1, x2⟩ := x
      obtain ⟨rfl, f, g⟩ := hx
      have f : rvf [191] S S1 := f
      have hB1 := f.B hB
      have hW' : m 0 < 24 := hW
      have g0 : S1.2.1 191 0 = nI (m 0) := by
        have := g 0
        rw [if_neg (by omega)] at this
        exact this.trans (hM 0 (by decide))
      have r0 : (rv_sI S1 191 (8 + 5 * m 0 + 0) (nI u)).2.1 191 0 = nI (m 0) := by rw [rv_sI_k _ _ (by omega)]; exact g0
      refine ⟨rv_sI (rv_sI S1 191 (8 + 5 * m 0 + 0) (nI u)) 191 0 (nI (m 0 + 1)), ?_, (f.w rfl rfl).w rfl rfl, fun k => ?_⟩
      · show cX13_bear_7 n (q + 1) S1 189 (nI u) (nI (m 0)) (nI 5) = _
        rw [cX13_bear_7]
        simp (disch := first | assumption | omega) only [cX13_bear_32, tk_gI, tk_gL, tk_gR, tk_pI, tk_pL, rv_aI, rv_aL, rv_aR, rv_uI, rv_uL, rv_uB, rv_uZ, pu_ckI, pu_ckL, pu_lnI, pu_lnL, tk_rI, tk_rL, Option.bind_some, Option.map_some, rv_lt, tk_ix, z0, z1, z2, z3, z4, z5, z6, z7, z8, z9, z10, z11, z12, z13, z15, z16, z17, z18, z20, z21, z23, z24, z25, z31, z32, z39, z40, z41, z46, z48, z50, z57, z59, z60, z61, z62, z63, z64, z97, z98, z99, z100, z101, z102, z103, z104, z105, z106, z107, z108, z109, z110, z111, z112, z113, z114, z115, z116, z117, z118, z119, z120, z121, z122, z128, z132, z200, z240, z255, z372, z390625, z400, z420, z421, z422, z662, z900, z940, z999, z1000, z1024, z2000, z5860, z10000, z12345, z15625, z266240, z1048575, z1064960, z1103515245, z_m1, n_le, n_lt, n_eq, n_bit0, n_bit1, n_sbit0, n_shl, z_ltM, z_Mlt, z_leM, z_Mle, z_eqM, z_Meq, bI0, bI1, bI_01, bI_01t, bI_10, bI_10f, if_true, if_false, eq_self, reduceCtorEq, if_pos, if_neg, rc_189 hB1, rf_of hB1 (show (189, 14, 191) ∈ rv_rf0 by decide), rn_191 hB1, nI_add, z_mul, r0]
      · by_cases c0 : k = 0
        · subst c0; rw [rv_sI_eq, if_pos rfl]
        · rw [rv_sI_k _ _ c0, if_neg c0]
          by_cases c1 : k = 8 + 5 * m 0
          · subst c1; rw [if_pos rfl]; exact rv_sI_eq _ _ _ _
          · rw [rv_sI_k _ _ (by omega), if_neg c1]
            have := g k
            rw [show (S1, nI 5).1.2.1 191 k = S1.2.1 191 k from rfl] at this
            rw [this]
            by_cases c2 : 8 + 5 * m 0 ≤ k ∧ k < 13 + 5 * m 0
            · rw [if_pos c2, if_pos (by omega)]
            · rw [if_neg c2, if_neg (by omega)]
  refine ⟨S', ?_, f, fun k hk => ?_, fun k hk => ?_⟩
  · simp (disch := first | assumption | omega) only [fnX13_bear, tk_gI, tk_gL, tk_gR, tk_pI, tk_pL, rv_aI, rv_aL, rv_aR, rv_uI, rv_uL, rv_uB, rv_uZ, pu_ckI, pu_ckL, pu_lnI, pu_lnL, tk_rI, tk_rL, Option.bind_some, Option.map_some, rv_lt, tk_ix, z0, z1, z2, z3, z4, z5, z6, z7, z8, z9, z10, z11, z12, z13, z15, z16, z17, z18, z20, z21, z23, z24, z25, z31, z32, z39, z40, z41, z46, z48, z50, z57, z59, z60, z61, z62, z63, z64, z97, z98, z99, z100, z101, z102, z103, z104, z105, z106, z107, z108, z109, z110, z111, z112, z113, z114, z115, z116, z117, z118, z119, z120, z121, z122, z128, z132, z200, z240, z255, z372, z390625, z400, z420, z421, z422, z662, z900, z940, z999, z1000, z1024, z2000, z5860, z10000, z12345, z15625, z266240, z1048575, z1064960, z1103515245, z_m1, rc_189 hB, m_whos hB hM, e]
  · rw [g, br]
    by_cases c0 : k = 0
    · rw [if_pos c0, if_pos c0]
    · rw [if_neg c0, if_neg c0]
      by_cases c1 : k = 8 + 5 * m 0
      · rw [if_pos c1, if_pos c1]
      · rw [if_neg c1, if_neg c1]
        by_cases c2 : 8 + 5 * m 0 ≤ k ∧ k < 13 + 5 * m 0
        · rw [if_pos c2, if_pos (by omega)]
        · rw [if_neg c2, if_neg (by omega)]; exact hM k hk
  · have hW' : m 0 < 24 := hW
    rw [g, if_neg (by omega), if_neg (by omega), if_neg (by omega)]
theorem op_born (hn : 500 ≤ n) (hV : VI S m wd) (x : Int32) : ∃ r S1 S' m', fnX12_born n S 64 x = some (r, S1) ∧ fnX13_born n S1 189 x = some (r, S') ∧ QS S S' m' wd := by
  obtain ⟨hB, hR, hL, hk, -⟩ := id hV; have hp := hk.1; have hc := hk.2.1; have hd := hk.2.2; obtain ⟨S6, e6, hB6, f6, hM6, r6, b6⟩ := start_ok hn hB hL; have hC := CS_of hB; have hv : vb 67 := Or.inl rfl; have hVS := VS_of hB hv; have hFS := FS_of hB hv.f; have hPS := PS_of hB hv.p; have h24 := hp.1; have h40 := hc.1; have n10 : 10 ≤ n := (by omega); have n50 : 50 ≤ n := (by omega)
  obtain ⟨hF, hP, hD⟩ := id hR
  have same : ∀ {r : Int32}, fnX12_born n S 64 x = some (r, S) → (∃ S', fnX13_born n S 189 x = some (r, S') ∧ QS S S' m wd) → ∃ r S1 S' m', fnX12_born n S 64 x = some (r, S1) ∧ fnX13_born n S1 189 x = some (r, S') ∧ QS S S' m' wd := fun h1 ⟨S', h2, h3⟩ => ⟨_, S, S', m, h1, h2, h3⟩
  rcases rng x (N := 4) (by omega) with ⟨u, hu, rfl⟩ | hx
  · by_cases hW : vW m < 24
    · obtain ⟨S1, e1, f1, g1, nm1⟩ := k_add n50 hB hv.f hF hp hW hu
      have f1 : rvf [68, 69, 70, 71, 72, 74] S S1 := f1
      have hB1 := f1.B hB
      obtain ⟨S2, e2, hB2, f2, hM2, r2, b2⟩ := start_ok hn hB1 (hL.f f1 rfl rfl)
      obtain ⟨S3, e3, f3, hM3, r3⟩ := m_bear n10 hB2 hM2 hW hu
      have fz : rvf [189000, 189022, 191] S1 S3 := (f2.mono rfl).tr (f3.mono rfl)
      have hi : ∀ k, 132 ≤ k → br m u k = m k := fun k hk => br_off (by omega) (Or.inr (by show 13 + 5 * vW m ≤ k; omega))
      have lo : ∀ k, k ≠ 0 → k < 8 → br m u k = m k := fun k h0 hk => br_off h0 (Or.inl (by omega))
      have hR1 : CR S1 67 (br m u) := by
        have p1 : ∀ k, S1.2.1 (67 + 8) k = S.2.1 (67 + 8) k := f1.row rfl rfl
        have p2 : ∀ k, S1.2.1 (67 + 8 + 1) k = S.2.1 (67 + 8 + 1) k := f1.row rfl rfl
        have p3 : ∀ k, S1.2.1 (67 + 8 + 2) k = S.2.1 (67 + 8 + 2) k := f1.row rfl rfl
        have p4 : ∀ k, S1.2.1 (67 + 8 + 3) k = S.2.1 (67 + 8 + 3) k := f1.row rfl rfl
        have d0 : ∀ k, S1.2.1 67 k = S.2.1 67 k := f1.row rfl rfl
        have d1 : ∀ k, S1.2.1 (67 + 17) k = S.2.1 (67 + 17) k := f1.row rfl rfl
        have d2 : ∀ k, S1.2.1 (67 + 18) k = S.2.1 (67 + 18) k := f1.row rfl rfl
        have d3 : ∀ k, S1.2.1 (67 + 19) k = S.2.1 (67 + 19) k := f1.row rfl rfl
        obtain ⟨b1, b2, b3, b4, b5⟩ := hP
        obtain ⟨c1, c2, c3, c4, c5, c6, c7⟩ := hD
        have hP1 : PR S1 (67 + 8) m := ⟨(p1 _).trans b1, (p1 _).trans b2, fun c h => (p2 c).trans (b3 c h), fun c h => (p3 c).trans (b4 c h), fun c h => (p4 c).trans (b5 c h)⟩
        have hD1 : DR S1 67 m := ⟨(d0 _).trans c1, (d0 _).trans c2, (d0 _).trans c3, (d0 _).trans c4, fun c h => (d1 c).trans (c5 c h), fun c h => (d2 c).trans (c6 c h), fun c h => (d3 c).trans (c7 c h)⟩
        exact ⟨g1, hP1.c h40 (lo 1 (by decide) (by decide)) (lo 3 (by decide) (by decide)) (fun k h1 h2 => hi k h1), hD1.c2 (lo 2 (by decide) (by decide)) (lo 4 (by decide) (by decide)) (lo 5 (by decide) (by decide)) (fun k h1 => hi k (by omega))⟩
      obtain ⟨-, -, -, -, hNC, hNM, hok⟩ := id hV
      have e6 : br m u 6 = m 6 := lo 6 (by decide) (by decide)
      refine ⟨nI (vW m), S1, S3, br m u, ?_, ?_, ⟨fz.B hB1, hR1.f fz hv (Or.inl rfl) (Or.inr (by decide)) (Or.inr (by decide)) (Or.inr (by decide)), MRL.of hM3 (by rw [f3.at (a := 189) (k := 22) rfl]; exact b2), br_okm hk hW hu, fun w hw => ?_, fun w hw => ?_, hok.c e6⟩, (f1.mono rfl).tr (fz.mono rfl), ((R42.of f1 rfl).tr r2).tr r3⟩
      · rw [fnX12_born]
        repeat (first | (conv => (lhs; arg 1; simp (disch := first | assumption | omega) only [tk_gI, tk_gL, tk_gR, tk_pI, tk_pL, rv_aI, rv_aL, rv_aR, rv_uI, rv_uL, rv_uB, rv_uZ, pu_ckI, pu_ckL, pu_lnI, pu_lnL, tk_rI, tk_rL, Option.bind_some, Option.map_some, rv_lt, tk_ix, z0, z1, z2, z3, z4, z5, z6, z7, z8, z9, z10, z11, z12, z13, z15, z16, z17, z18, z20, z21, z23, z24, z25, z31, z32, z39, z40, z41, z46, z48, z50, z57, z59, z60, z61, z62, z63, z64, z97, z98, z99, z100, z101, z102, z103, z104, z105, z106, z107, z108, z109, z110, z111, z112, z113, z114, z115, z116, z117, z118, z119, z120, z121, z122, z128, z132, z200, z240, z255, z372, z390625, z400, z420, z421, z422, z662, z900, z940, z999, z1000, z1024, z2000, z5860, z10000, z12345, z15625, z266240, z1048575, z1064960, z1103515245, z_m1, n_le, n_lt, n_eq, n_bit0, n_bit1, n_sbit0, n_shl, z_ltM, z_Mlt, z_leM, z_Mle, z_eqM, z_Meq, bI0, bI1, bI_01, bI_01t, bI_10, bI_10f, if_true, if_false, eq_self, reduceCtorEq, if_pos, if_neg, hC, hVS, hFS, hF, k_isVillage hu, ← y0, e1])); first | rw [Option.bind_some] | rw [bp_s] | rw [if_true] | rw [if_false] | rw [rv_lt_eq] | rw [if_pos (by omega)] | rw [if_neg (by omega)])
      · rw [fnX13_born]
        repeat (first | (conv => (lhs; arg 1; simp (disch := first | assumption | omega) only [tk_gI, tk_gL, tk_gR, tk_pI, tk_pL, rv_aI, rv_aL, rv_aR, rv_uI, rv_uL, rv_uB, rv_uZ, pu_ckI, pu_ckL, pu_lnI, pu_lnL, tk_rI, tk_rL, Option.bind_some, Option.map_some, rv_lt, tk_ix, z0, z1, z2, z3, z4, z5, z6, z7, z8, z9, z10, z11, z12, z13, z15, z16, z17, z18, z20, z21, z23, z24, z25, z31, z32, z39, z40, z41, z46, z48, z50, z57, z59, z60, z61, z62, z63, z64, z97, z98, z99, z100, z101, z102, z103, z104, z105, z106, z107, z108, z109, z110, z111, z112, z113, z114, z115, z116, z117, z118, z119, z120, z121, z122, z128, z132, z200, z240, z255, z372, z390625, z400, z420, z421, z422, z662, z900, z940, z999, z1000, z1024, z2000, z5860, z10000, z12345, z15625, z266240, z1048575, z1064960, z1103515245, z_m1, n_le, n_lt, n_eq, n_bit0, n_bit1, n_sbit0, n_shl, z_ltM, z_Mlt, z_leM, z_Mle, z_eqM, z_Meq, bI0, bI1, bI_01, bI_01t, bI_10, bI_10f, if_true, if_false, eq_self, reduceCtorEq, if_pos, if_neg, rc_189 hB1, e2, rc_189 hB2, m_isV hu, m_whos hB2 hM2, e3])); first | rw [Option.bind_some] | rw [bp_s] | rw [if_true] | rw [if_false] | rw [rv_lt_eq] | rw [if_pos (by omega)] | rw [if_neg (by omega)])
      · rw [fz.rowL (a := 67 + 5) rfl rfl, nm1, e6]
        rw [br_0] at hw
        have h6 := hd.2.2.2.2.2.1
        by_cases c : w = vW m
        · rw [if_pos c, if_neg (by omega)]
        · rw [if_neg c]; exact hNC w (by omega)
      · rw [e6] at hw
        rw [fz.rowL (a := 195) rfl rfl, f1.rowL (a := 195) rfl rfl]
        exact hNM w hw
    · have e24 : vW m = 24 := by omega
      refine same (r := iM) ?_ ⟨S6, ?_, QS.s0 hV f6 hM6 r6 b6⟩
      · simp (disch := first | assumption | omega) only [fnX12_born, tk_gI, tk_gL, tk_gR, tk_pI, tk_pL, rv_aI, rv_aL, rv_aR, rv_uI, rv_uL, rv_uB, rv_uZ, pu_ckI, pu_ckL, pu_lnI, pu_lnL, tk_rI, tk_rL, Option.bind_some, Option.map_some, rv_lt, tk_ix, z0, z1, z2, z3, z4, z5, z6, z7, z8, z9, z10, z11, z12, z13, z15, z16, z17, z18, z20, z21, z23, z24, z25, z31, z32, z39, z40, z41, z46, z48, z50, z57, z59, z60, z61, z62, z63, z64, z97, z98, z99, z100, z101, z102, z103, z104, z105, z106, z107, z108, z109, z110, z111, z112, z113, z114, z115, z116, z117, z118, z119, z120, z121, z122, z128, z132, z200, z240, z255, z372, z390625, z400, z420, z421, z422, z662, z900, z940, z999, z1000, z1024, z2000, z5860, z10000, z12345, z15625, z266240, z1048575, z1064960, z1103515245, z_m1, n_le, n_lt, n_eq, n_bit0, n_bit1, n_sbit0, n_shl, z_ltM, z_Mlt, z_leM, z_Mle, z_eqM, z_Meq, bI0, bI1, bI_01, bI_01t, bI_10, bI_10f, if_true, if_false, eq_self, reduceCtorEq, if_pos, if_neg, hC, hVS, hFS, hF, k_isVillage hu]
      · simp (disch := first | assumption | omega) only [fnX13_born, tk_gI, tk_gL, tk_gR, tk_pI, tk_pL, rv_aI, rv_aL, rv_aR, rv_uI, rv_uL, rv_uB, rv_uZ, pu_ckI, pu_ckL, pu_lnI, pu_lnL, tk_rI, tk_rL, Option.bind_some, Option.map_some, rv_lt, tk_ix, z0, z1, z2, z3, z4, z5, z6, z7, z8, z9, z10, z11, z12, z13, z15, z16, z17, z18, z20, z21, z23, z24, z25, z31, z32, z39, z40, z41, z46, z48, z50, z57, z59, z60, z61, z62, z63, z64, z97, z98, z99, z100, z101, z102, z103, z104, z105, z106, z107, z108, z109, z110, z111, z112, z113, z114, z115, z116, z117, z118, z119, z120, z121, z122, z128, z132, z200, z240, z255, z372, z390625, z400, z420, z421, z422, z662, z900, z940, z999, z1000, z1024, z2000, z5860, z10000, z12345, z15625, z266240, z1048575, z1064960, z1103515245, z_m1, n_le, n_lt, n_eq, n_bit0, n_bit1, n_sbit0, n_shl, z_ltM, z_Mlt, z_leM, z_Mle, z_eqM, z_Meq, bI0, bI1, bI_01, bI_01t, bI_10, bI_10f, if_true, if_false, eq_self, reduceCtorEq, if_pos, if_neg, rc_189 hB, e6, rc_189 hB6, m_isV hu, m_whos hB6 hM6]
  · refine same (r := iM) ?_ ⟨S6, ?_, QS.s0 hV f6 hM6 r6 b6⟩
    · simp (disch := first | assumption | omega) only [fnX12_born, tk_gI, tk_gL, tk_gR, tk_pI, tk_pL, rv_aI, rv_aL, rv_aR, rv_uI, rv_uL, rv_uB, rv_uZ, pu_ckI, pu_ckL, pu_lnI, pu_lnL, tk_rI, tk_rL, Option.bind_some, Option.map_some, rv_lt, tk_ix, z0, z1, z2, z3, z4, z5, z6, z7, z8, z9, z10, z11, z12, z13, z15, z16, z17, z18, z20, z21, z23, z24, z25, z31, z32, z39, z40, z41, z46, z48, z50, z57, z59, z60, z61, z62, z63, z64, z97, z98, z99, z100, z101, z102, z103, z104, z105, z106, z107, z108, z109, z110, z111, z112, z113, z114, z115, z116, z117, z118, z119, z120, z121, z122, z128, z132, z200, z240, z255, z372, z390625, z400, z420, z421, z422, z662, z900, z940, z999, z1000, z1024, z2000, z5860, z10000, z12345, z15625, z266240, z1048575, z1064960, z1103515245, z_m1, n_le, n_lt, n_eq, n_bit0, n_bit1, n_sbit0, n_shl, z_ltM, z_Mlt, z_leM, z_Mle, z_eqM, z_Meq, bI0, bI1, bI_01, bI_01t, bI_10, bI_10f, if_true, if_false, eq_self, reduceCtorEq, k_isV0 hx]
    · simp (disch := first | assumption | omega) only [fnX13_born, tk_gI, tk_gL, tk_gR, tk_pI, tk_pL, rv_aI, rv_aL, rv_aR, rv_uI, rv_uL, rv_uB, rv_uZ, pu_ckI, pu_ckL, pu_lnI, pu_lnL, tk_rI, tk_rL, Option.bind_some, Option.map_some, rv_lt, tk_ix, z0, z1, z2, z3, z4, z5, z6, z7, z8, z9, z10, z11, z12, z13, z15, z16, z17, z18, z20, z21, z23, z24, z25, z31, z32, z39, z40, z41, z46, z48, z50, z57, z59, z60, z61, z62, z63, z64, z97, z98, z99, z100, z101, z102, z103, z104, z105, z106, z107, z108, z109, z110, z111, z112, z113, z114, z115, z116, z117, z118, z119, z120, z121, z122, z128, z132, z200, z240, z255, z372, z390625, z400, z420, z421, z422, z662, z900, z940, z999, z1000, z1024, z2000, z5860, z10000, z12345, z15625, z266240, z1048575, z1064960, z1103515245, z_m1, n_le, n_lt, n_eq, n_bit0, n_bit1, n_sbit0, n_shl, z_ltM, z_Mlt, z_leM, z_Mle, z_eqM, z_Meq, bI0, bI1, bI_01, bI_01t, bI_10, bI_10f, if_true, if_false, eq_self, reduceCtorEq, rc_189 hB, e6, rc_189 hB6, m_isV0 hx]
end
