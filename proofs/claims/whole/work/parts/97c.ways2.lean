/-! WAYS: the class's walk -/
section
variable {n : Nat} {S : rvS} {m : Nat → Nat} {go : Nat} {gl : List Nat}
/-- who may stand at a place, as the class holds it -/
def alI (go : Nat) (gl : List Nat) (k : Nat) : Int32 := match (go :: gl)[k]? with
  | some y => nI (2 ^ y)
  | none => iM
def alb (go : Nat) (gl : List Nat) (k w : Nat) : Bool := match (go :: gl)[k]? with
  | some y => decide (w = y)
  | none => true
theorem and_M (x : Nat) : nI x &&& iM = nI x := by
  apply b_ext
  intro i hi
  rw [b_and, show bt iM i = true from b_m1 i hi, Bool.and_true]
theorem al_and (hp : okp m) {o : Nat} {l : List Nat} (k : Nat) : nI (gs m o l) &&& alI go gl k = nI (bs (fun w => decide (wy m o l w = 0) && alb go gl k w) (vW m)) := by
  unfold alI alb
  cases h : (go :: gl)[k]? with
  | none =>
    show nI (gs m o l) &&& iM = _
    rw [and_M, gs]
    exact congrArg nI (bs_cong fun w _ => by rw [Bool.and_true])
  | some y =>
    show nI (gs m o l) &&& nI (2 ^ y) = _
    rw [fa_and]
    refine congrArg nI (Nat.eq_of_testBit_eq fun i => ?_)
    rw [Nat.testBit_and, gs, bs_bit, bs_bit, Nat.testBit_two_pow]
    show _ = (decide (i < vW m) && (decide (wy m o l i = 0) && decide (i = y)))
    rw [Bool.and_assoc]
    congr 2
    exact decide_eq_decide.mpr ⟨fun z => z.symm, fun z => z.symm⟩
def WLS (S : rvS) (m : Nat → Nat) (N go : Nat) (gl : List Nat) : Prop := rv_B S ∧ CR S 67 m ∧ S.2.1 111 8 = nI N ∧ ∀ i, i < N → S.2.1 116 i = alI go gl (N - 1 - i)
theorem WLS_f {S' : rvS} {N : Nat} (h : WLS S m N go gl) (f : rvf [117] S S') : WLS S' m N go gl := ⟨f.B h.1, h.2.1.f f (Or.inl rfl) (Or.inl rfl) (Or.inr (by decide)) (Or.inr (by decide)) (Or.inr (by decide)), (f.at (a := 111) (k := 8) rfl).trans h.2.2.1, fun i hi => (f.row rfl rfl i).trans (h.2.2.2 i hi)⟩
def WLK (n : Nat) (m : Nat → Nat) (N go : Nat) (gl : List Nat) (k dd : Nat) : Prop := ∀ (o : Nat) (l : List Nat) (S : rvS) (B : Nat → Nat), o < vW m → okl m l → WLS S m N go gl → (∀ j, j < N → B j < 16777216 ∧ S.2.1 117 j = nI (B j)) → ∃ S', (fGX2_walkBy n dd).2 S 111 67 (nI (sB o l)) (nI (N - k)) (nI (sB go gl)) = some (nI (cw m go gl k o l), S') ∧ rvf [117] S S' ∧ ∀ j, j < N → S'.2.1 117 j = nI (B j ||| if N - k ≤ j then bs (hb m go gl k o l (j - (N - k))) (vW m) else 0)
theorem or_lt24 {a b : Nat} (h : a < 16777216) (h2 : b < 16777216) : a ||| b < 16777216 := Nat.or_lt_two_pow (n := 24) h h2
theorem bs24 (hp : okp m) (p : Nat → Bool) {j : Nat} (h : j ≤ vW m) : bs p j < 16777216 := Nat.lt_of_lt_of_le (bs_lt p j) (show 2 ^ j ≤ 2 ^ 24 from Nat.pow_le_pow_right (by decide) (by have := hp.1; omega))
theorem k_by (hn : 50 ≤ n) (hk : okm m) {N : Nat} (hN : N ≤ 5) {k dd : Nat} (hkN : k + 1 ≤ N) (ih : WLK n m N go gl k dd) {o : Nat} {l : List Nat} (ho : o < vW m) (hl : okl m l) {B : Nat → Nat} {w : Nat} (hw : w < vW m) (hS : WLS S m N go gl) (hb' : ∀ j, j < N → B j < 16777216 ∧ S.2.1 117 j = nI (B j)) : ∃ S', (fGX2_walkBy n (dd + 1)).1 S 111 67 (nI (sB o l)) (nI w) (nI (N - (k + 1))) (nI (sB go gl)) = some (nI (cw m go gl k w (ps m o l)), S') ∧ rvf [117] S S' ∧ ∀ j, j < N → S'.2.1 117 j = nI (B j ||| if N - k ≤ j then bs (hb m go gl k w (ps m o l) (j - (N - k))) (vW m) else 0) := by
  obtain ⟨hB, hR, -, -⟩ := id hS
  have h24 := hk.1.1
  have hv : vb 67 := Or.inl rfl
  have ka := k2_after (n := n) hB hv hR hk ho hl (w := w) (by omega)
  obtain ⟨S1, e1, f1, g1⟩ := ih w (ps m o l) S B hw (ps_ok hk.2.1 ho hl) hS hb'
  refine ⟨S1, ?_, f1, g1⟩
  have eg : N - (k + 1) + 1 = N - k := by omega
  show fbX2_walkBy n (fGX2_walkBy n dd).1 (fGX2_walkBy n dd).2 S 111 67 (nI (sB o l)) (nI w) (nI (N - (k + 1))) (nI (sB go gl)) = _
  rw [fbX2_walkBy, ka, Option.bind_some, rc_111 hB, Option.bind_some, z1, nI_add, eg, e1, bp_s]
theorem k_walkL (hn : 50 ≤ n) (hk : okm m) {N : Nat} (hN : N ≤ 5) (hgl : gl.length ≤ vN m) {k dd : Nat} (hkN : k + 1 ≤ N) (ih : WLK n m N go gl k dd) {o : Nat} {l : List Nat} (ho : o < vW m) (hl : okl m l) {B : Nat → Nat} (hBl : ∀ j, j < N → B j < 16777216) {X : Nat} (eX : X = bs (fun w => decide (wy m o l w = 0) && alb go gl k w) (vW m)) (hS : WLS S m N go gl) (G1 : rvS → Nat → Nat → Int32 → Int32 → Int32 → Option (Int32 × rvS)) : ∀ (r q j : Nat) (S1 : rvS), j + r = vW m → r < q → rvf [117] S S1 → (∀ i, i < N → S1.2.1 117 i = nI (B i ||| if N - (k + 1) ≤ i then hj m go gl k o l j (i - (N - (k + 1))) else 0)) → ∃ S', cX2_walk_42 n (fGX2_walkBy n (dd + 1)).1 G1 q S1 111 67 (nI (sB o l)) (nI (N - (k + 1))) (nI (sB go gl)) (nI (cj m go gl k o l j)) (nI (lb X j)) = some (nI (cj m go gl k o l (vW m)), S') ∧ rvf [117] S S' ∧ ∀ i, i < N → S'.2.1 117 i = nI (B i ||| if N - (k + 1) ≤ i then hj m go gl k o l (vW m) (i - (N - (k + 1))) else 0) := by
  have h24 := hk.1.1
  have hX : X < 2 ^ vW m := by rw [eX]; exact bs_lt _ _
  have hX31 : X < 2147483648 := Nat.lt_of_lt_of_le hX (Nat.pow_le_pow_right (n := 2) (by decide) (by omega : vW m ≤ 31))
  have Xb : ∀ j, j < vW m → X.testBit j = (decide (wy m o l j = 0) && alb go gl k j) := fun j hj => by rw [eX, bs_bit, decide_eq_true hj, Bool.true_and]
  intro r
  induction r with
  | zero =>
    intro q j S1 hjr hq f g
    obtain ⟨q, rfl⟩ : ∃ q', q = q' + 1 := ⟨q - 1, by omega⟩
    have e : j = vW m := by omega
    subst e
    refine ⟨S1, ?_, f, g⟩
    rw [lb_end hX, cX2_walk_42, if_pos (show nI 0 = 0 from rfl)]
  | succ r ihr =>
    intro q j S1 hjr hq f g
    have hjW : j < vW m := by omega
    cases hb' : X.testBit j
    · have z : wy m o l j = 0 → cw m go gl k j (ps m o l) = 0 := fun c => by
        rw [Xb j hjW, decide_eq_true c, Bool.true_and] at hb'
        refine Nat.eq_zero_of_not_pos fun p => ?_
        unfold alb at hb'
        cases hy : (go :: gl)[k]? with
        | none => rw [hy] at hb'; simp at hb'
        | some y =>
          rw [hy] at hb'
          have := cw_fin hgl k j (ps m o l) p 0 j y rfl hy
          exact (of_decide_eq_false hb') this
      have cz : cj m go gl k o l j = cj m go gl k o l (j + 1) := by
        rw [cj_s]
        by_cases c : wy m o l j = 0
        · rw [if_pos c, z c, Nat.add_zero]
        · rw [if_neg c, Nat.add_zero]
      rw [lb_no hb', cz]
      exact ihr q (j + 1) S1 (by omega) (by omega) f (fun i hi => by rw [hj_n k o l hjW z]; exact g i hi)
    · obtain ⟨q, rfl⟩ : ∃ q', q = q' + 1 := ⟨q - 1, by omega⟩
      have hwy : wy m o l j = 0 := by
        rw [Xb j hjW, Bool.and_eq_true, decide_eq_true_eq] at hb'
        exact hb'.1
      obtain ⟨l1, l2⟩ := lb_I hb' hX31
      have ll := lb_lowest n S1 hb' (by omega)
      have hB1 := f.B hS.1
      have hS1 := WLS_f hS f
      obtain ⟨S2, e2, f2, g2⟩ := k_by hn hk hN hkN ih ho hl hjW hS1 (B := fun i => B i ||| if N - (k + 1) ≤ i then hj m go gl k o l j (i - (N - (k + 1))) else 0) (fun i hi => ⟨or_lt24 (hBl i hi) (by split; exact hj_lt h24 _ _ _ (by omega) _; decide), g i hi⟩)
      have hB2 := f2.B hB1
      have cwl := cw_le (go := go) (gl := gl) h24 k j (ps m o l)
      have cwb : cw m go gl k j (ps m o l) < 2147483648 := by
        have : 24 ^ k ≤ 24 ^ 5 := Nat.pow_le_pow_right (by decide) (by omega)
        have e5 : (24 : Nat) ^ 5 = 7962624 := rfl
        omega
      have rr := rf_of hB2 (show (111, 7, 117) ∈ rv_rf0 by decide)
      have mid : ∀ i, i < N → N - (k + 1) < i → (B i ||| if N - (k + 1) ≤ i then hj m go gl k o l j (i - (N - (k + 1))) else 0) ||| (if N - k ≤ i then bs (hb m go gl k j (ps m o l) (i - (N - k))) (vW m) else 0) = B i ||| if N - (k + 1) ≤ i then hj m go gl k o l (j + 1) (i - (N - (k + 1))) else 0 := fun i hi h => by
        rw [if_pos (show N - (k + 1) ≤ i by omega), if_pos (show N - k ≤ i by omega), if_pos (show N - (k + 1) ≤ i by omega), hj_s k o l hwy, if_neg (show ¬ i - (N - (k + 1)) = 0 by omega), show i - (N - (k + 1)) - 1 = i - (N - k) by omega, Nat.or_assoc]
      have low : ∀ i, i < N - (k + 1) → (B i ||| if N - (k + 1) ≤ i then hj m go gl k o l j (i - (N - (k + 1))) else 0) ||| (if N - k ≤ i then bs (hb m go gl k j (ps m o l) (i - (N - k))) (vW m) else 0) = B i ||| if N - (k + 1) ≤ i then hj m go gl k o l (j + 1) (i - (N - (k + 1))) else 0 := fun i h => by
        rw [if_neg (show ¬ N - (k + 1) ≤ i by omega), if_neg (show ¬ N - k ≤ i by omega), if_neg (show ¬ N - (k + 1) ≤ i by omega), Nat.or_zero]
      have at0 : (B (N - (k + 1)) ||| if N - (k + 1) ≤ N - (k + 1) then hj m go gl k o l j (N - (k + 1) - (N - (k + 1))) else 0) ||| (if N - k ≤ N - (k + 1) then bs (hb m go gl k j (ps m o l) (N - (k + 1) - (N - k))) (vW m) else 0) = B (N - (k + 1)) ||| hj m go gl k o l j 0 := by
        rw [if_pos (Nat.le_refl _), if_neg (show ¬ N - k ≤ N - (k + 1) by omega), Nat.or_zero, Nat.sub_self]
      have g0 : S2.2.1 117 (N - (k + 1)) = nI (B (N - (k + 1)) ||| hj m go gl k o l j 0) := (g2 _ (by omega)).trans (congrArg nI at0)
      by_cases c : 0 < cw m go gl k j (ps m o l)
      · obtain ⟨S3, eS3⟩ : ∃ S3, S3 = rv_sI S2 117 (N - (k + 1)) (nI (B (N - (k + 1)) ||| hj m go gl k o l j 0 ||| 2 ^ j)) := ⟨_, rfl⟩
        have f3 : rvf [117] S2 S3 := by rw [eS3]; exact (rvf.rf _ _).w rfl rfl
        obtain ⟨S4, e4, f4, g4⟩ := ihr q (j + 1) S3 (by omega) (by omega) (f.tr (f2.tr f3)) (fun i hi => by
          rw [eS3]
          by_cases ci : i = N - (k + 1)
          · rw [ci, rv_sI_eq, if_pos (Nat.le_refl _), Nat.sub_self, hj_s k o l hwy, if_pos rfl, if_pos c, Nat.or_assoc]
          · rw [rv_sI_k _ _ ci, g2 i hi]
            refine congrArg nI ?_
            by_cases h : i < N - (k + 1)
            · exact low i h
            · exact mid i hi (by omega))
        refine ⟨S4, ?_, f4, g4⟩
        have pos : ¬ nI (cw m go gl k j (ps m o l)) ≤ nI 0 := by rw [n_le cwb (by decide)]; omega
        have cs : cj m go gl k o l (j + 1) = cj m go gl k o l j + cw m go gl k j (ps m o l) := by rw [cj_s, if_pos hwy]
        rw [← e4, cs, cX2_walk_42, if_neg l2, ll, Option.bind_some, rc_111 hB1, Option.bind_some, e2, bp_s, z0, if_neg pos]
        simp (disch := first | assumption | omega) only [cX2_walk_92, tk_gI, tk_gL, tk_gR, tk_pI, tk_pL, rv_aI, rv_aL, rv_aR, rv_uI, rv_uL, rv_uB, rv_uZ, pu_ckI, pu_ckL, pu_lnI, pu_lnL, tk_rI, tk_rL, Option.bind_some, Option.map_some, rv_lt, tk_ix, z0, z1, z2, z3, z4, z5, z6, z7, z8, z9, z10, z11, z12, z13, z15, z16, z17, z18, z20, z21, z23, z24, z25, z31, z32, z39, z40, z41, z46, z48, z50, z57, z59, z60, z61, z62, z63, z64, z97, z98, z99, z100, z101, z102, z103, z104, z105, z106, z107, z108, z109, z110, z111, z112, z113, z114, z115, z116, z117, z118, z119, z120, z121, z122, z128, z132, z200, z240, z255, z372, z390625, z400, z420, z421, z422, z662, z900, z940, z999, z1000, z1024, z2000, z5860, z10000, z12345, z15625, z266240, z1048575, z1064960, z1103515245, z_m1, n_le, n_lt, n_eq, n_bit0, n_bit1, n_sbit0, n_shl, z_ltM, z_Mlt, z_leM, z_Mle, z_eqM, z_Meq, bI0, bI1, bI_01, bI_01t, bI_10, bI_10f, if_true, if_false, eq_self, reduceCtorEq, rc_111 hB2, rr, rn_117 hB2, g0, fa_or, ← eS3, nI_add]
        rw [← z1, l1]
      · have cz : cw m go gl k j (ps m o l) = 0 := by omega
        obtain ⟨S4, e4, f4, g4⟩ := ihr q (j + 1) S2 (by omega) (by omega) (f.tr f2) (fun i hi => by
          by_cases ci : i = N - (k + 1)
          · rw [ci, g0, if_pos (Nat.le_refl _), Nat.sub_self, hj_s k o l hwy, if_pos rfl, if_neg c, Nat.or_zero]
          · rw [g2 i hi]
            refine congrArg nI ?_
            by_cases h : i < N - (k + 1)
            · exact low i h
            · exact mid i hi (by omega))
        refine ⟨S4, ?_, f4, g4⟩
        have cs : cj m go gl k o l (j + 1) = cj m go gl k o l j := by rw [cj_s, if_pos hwy, cz, Nat.add_zero]
        have pos : nI 0 ≤ nI 0 := by decide
        rw [cz] at e2
        rw [← e4, cs, cX2_walk_42, if_neg l2, ll, Option.bind_some, rc_111 hB1, Option.bind_some, e2, bp_s, z0, if_pos pos, cX2_walk_92, rv_lt_eq, l1]
theorem k_walk (hn : 50 ≤ n) (hk : okm m) {N : Nat} (hN : N ≤ 5) (hgo : go < vW m) (hgl : gl.length ≤ vN m) (hgl2 : okl m gl) : ∀ k dd, k ≤ N → 2 * k < dd → WLK n m N go gl k dd := by
  have h24 := hk.1.1
  intro k
  induction k with
  | zero =>
    intro dd _ hd o l S B ho hl hS hB'
    obtain ⟨dd, rfl⟩ : ∃ d', dd = d' + 1 := ⟨dd - 1, by omega⟩
    obtain ⟨hB, hR, h8, -⟩ := id hS
    have b1 := sB_lt hk.1 ho hl
    have b2 := sB_lt hk.1 hgo hgl2
    refine ⟨S, ?_, rvf.rf _ _, fun j hj => by rw [if_neg (by omega), Nat.or_zero]; exact (hB' j hj).2⟩
    show fbX2_walk n (fGX2_walkBy n dd).1 (fGX2_walkBy n dd).2 S 111 67 (nI (sB o l)) (nI (N - 0)) (nI (sB go gl)) = _
    rw [Nat.sub_zero, fbX2_walk, cw]
    by_cases c : o = go ∧ l = gl
    · rw [if_pos c, c.1, c.2]
      simp (disch := first | assumption | omega) only [cX2_walk_13, tk_gI, tk_gL, tk_gR, tk_pI, tk_pL, rv_aI, rv_aL, rv_aR, rv_uI, rv_uL, rv_uB, rv_uZ, pu_ckI, pu_ckL, pu_lnI, pu_lnL, tk_rI, tk_rL, Option.bind_some, Option.map_some, rv_lt, tk_ix, z0, z1, z2, z3, z4, z5, z6, z7, z8, z9, z10, z11, z12, z13, z15, z16, z17, z18, z20, z21, z23, z24, z25, z31, z32, z39, z40, z41, z46, z48, z50, z57, z59, z60, z61, z62, z63, z64, z97, z98, z99, z100, z101, z102, z103, z104, z105, z106, z107, z108, z109, z110, z111, z112, z113, z114, z115, z116, z117, z118, z119, z120, z121, z122, z128, z132, z200, z240, z255, z372, z390625, z400, z420, z421, z422, z662, z900, z940, z999, z1000, z1024, z2000, z5860, z10000, z12345, z15625, z266240, z1048575, z1064960, z1103515245, z_m1, n_le, n_lt, n_eq, n_bit0, n_bit1, n_sbit0, n_shl, z_ltM, z_Mlt, z_leM, z_Mle, z_eqM, z_Meq, bI0, bI1, bI_01, bI_01t, bI_10, bI_10f, if_true, if_false, eq_self, reduceCtorEq, if_pos, if_neg, rc_111 hB, h8, Nat.le_refl]
    · rw [if_neg c]
      have ne : ¬ sB o l = sB go gl := fun z => c (sB_inj hk.1 ho hgo hl hgl2 z)
      simp (disch := first | assumption | omega) only [cX2_walk_13, tk_gI, tk_gL, tk_gR, tk_pI, tk_pL, rv_aI, rv_aL, rv_aR, rv_uI, rv_uL, rv_uB, rv_uZ, pu_ckI, pu_ckL, pu_lnI, pu_lnL, tk_rI, tk_rL, Option.bind_some, Option.map_some, rv_lt, tk_ix, z0, z1, z2, z3, z4, z5, z6, z7, z8, z9, z10, z11, z12, z13, z15, z16, z17, z18, z20, z21, z23, z24, z25, z31, z32, z39, z40, z41, z46, z48, z50, z57, z59, z60, z61, z62, z63, z64, z97, z98, z99, z100, z101, z102, z103, z104, z105, z106, z107, z108, z109, z110, z111, z112, z113, z114, z115, z116, z117, z118, z119, z120, z121, z122, z128, z132, z200, z240, z255, z372, z390625, z400, z420, z421, z422, z662, z900, z940, z999, z1000, z1024, z2000, z5860, z10000, z12345, z15625, z266240, z1048575, z1064960, z1103515245, z_m1, n_le, n_lt, n_eq, n_bit0, n_bit1, n_sbit0, n_shl, z_ltM, z_Mlt, z_leM, z_Mle, z_eqM, z_Meq, bI0, bI1, bI_01, bI_01t, bI_10, bI_10f, if_true, if_false, eq_self, reduceCtorEq, if_pos, if_neg, rc_111 hB, h8, Nat.le_refl, ne]
  | succ k ih =>
    intro dd hkN hd o l S B ho hl hS hB'
    obtain ⟨dd, rfl⟩ : ∃ d', dd = d' + 2 := ⟨dd - 2, by omega⟩
    have ih := ih dd (by omega) (by omega)
    obtain ⟨hB, hR, h8, h116⟩ := id hS
    have hv : vb 67 := Or.inl rfl
    have kg := k2_goers (n := n) (by omega) hB hv hR hk ho hl
    have rr := rf_of hB (show (111, 6, 116) ∈ rv_rf0 by decide)
    have a1 := h116 (N - (k + 1)) (by omega)
    rw [show N - 1 - (N - (k + 1)) = k by omega] at a1
    obtain ⟨X, eX⟩ : ∃ X, X = bs (fun w => decide (wy m o l w = 0) && alb go gl k w) (vW m) := ⟨_, rfl⟩
    have ea := al_and (go := go) (gl := gl) hk.1 (o := o) (l := l) k
    rw [← eX] at ea
    obtain ⟨S1, e1, f1, g1⟩ := k_walkL hn hk hN hgl hkN ih ho hl (fun j hj => (hB' j hj).1) eX hS (fGX2_walkBy n (dd + 1)).2 (vW m) n 0 S (Nat.zero_add _) (by omega) (rvf.rf _ _) (fun i hi => by
      rw [hj_0]
      split <;> (rw [Nat.or_zero]; exact (hB' i hi).2))
    rw [lb_0] at e1
    refine ⟨S1, ?_, f1, fun j hj => (g1 j hj).trans (congrArg nI ?_)⟩
    · show fbX2_walk n (fGX2_walkBy n (dd + 1)).1 (fGX2_walkBy n (dd + 1)).2 S 111 67 (nI (sB o l)) (nI (N - (k + 1))) (nI (sB go gl)) = _
      rw [show cw m go gl (k + 1) o l = cj m go gl k o l (vW m) from rfl, ← e1, fbX2_walk]
      simp (disch := first | assumption | omega) only [tk_gI, tk_gL, tk_gR, tk_pI, tk_pL, rv_aI, rv_aL, rv_aR, rv_uI, rv_uL, rv_uB, rv_uZ, pu_ckI, pu_ckL, pu_lnI, pu_lnL, tk_rI, tk_rL, Option.bind_some, Option.map_some, rv_lt, tk_ix, z0, z1, z2, z3, z4, z5, z6, z7, z8, z9, z10, z11, z12, z13, z15, z16, z17, z18, z20, z21, z23, z24, z25, z31, z32, z39, z40, z41, z46, z48, z50, z57, z59, z60, z61, z62, z63, z64, z97, z98, z99, z100, z101, z102, z103, z104, z105, z106, z107, z108, z109, z110, z111, z112, z113, z114, z115, z116, z117, z118, z119, z120, z121, z122, z128, z132, z200, z240, z255, z372, z390625, z400, z420, z421, z422, z662, z900, z940, z999, z1000, z1024, z2000, z5860, z10000, z12345, z15625, z266240, z1048575, z1064960, z1103515245, z_m1, n_le, n_lt, n_eq, n_bit0, n_bit1, n_sbit0, n_shl, z_ltM, z_Mlt, z_leM, z_Mle, z_eqM, z_Meq, bI0, bI1, bI_01, bI_01t, bI_10, bI_10f, if_true, if_false, eq_self, reduceCtorEq, if_pos, if_neg, rc_111 hB, h8, show ¬ N ≤ N - (k + 1) by omega, show N - (k + 1) < 5 by omega, kg, rr, rn_116 hB, a1, ea]
      rfl
    · by_cases c : N - (k + 1) ≤ j
      · rw [if_pos c, if_pos c, hj_end]
      · rw [if_neg c, if_neg c]
end
