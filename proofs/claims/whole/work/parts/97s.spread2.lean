/-! THE SEARCH: the class's, whole; it walks back -/
section
variable {n : Nat} {S : rvS} {m : Nat → Nat} {s0 : St}
abbrev KE : List Nat := [111003, 112, 113, 114]
theorem CR_K {D : List Nat} {S' : rvS} (hR : CR S 67 m) (f : rvf D S S') (h : D.all (fun d => [111003, 112, 113, 114, 111005, 115].elem d) = true) : CR S' 67 m := hR.f (f.mono h) (Or.inl rfl) (Or.inl rfl) (Or.inr (by decide)) (Or.inr (by decide)) (Or.inr (by decide))
theorem k_sbegin (hn : 6000 ≤ n) (hB : rv_B S) (hR : CR S 67 m) (hk : okm m) (hs0 : okS m s0) (w : Nat) (x4 : Int32) : ∃ S', fnX2_spread n S 111 67 (nI (sB s0.1 s0.2)) (nI w) x4 = cX2_spread_32 n n S' 111 67 (nI w) x4 (nI 1) (nI 0) ∧ rvf KE S S' ∧ KQ S' m (bfs m s0 0) := by
  obtain ⟨hp, hc, hd⟩ := id hk
  have h24 := hp.1
  have hv : vb 67 := Or.inl rfl
  obtain ⟨S1, e1, f1, g3, s1, s2⟩ := k_begin hn hB hv hR hk
  have hB1 := f1.B hB
  have sl := sB_lt hp hs0.1 hs0.2
  obtain ⟨S2, eS2⟩ : ∃ S2, S2 = rv_sL S1 114 0 (lN (sB s0.1 s0.2)) := ⟨_, rfl⟩
  have f2 : rvf KE S1 S2 := by rw [eS2]; exact (rvf.rf _ _).wL rfl rfl
  have f2' : rvf [114] S1 S2 := by rw [eS2]; exact (rvf.rf _ _).wL rfl rfl
  have hB2 := f2.B hB1
  have g32 := (f2'.at (a := 111) (k := 3) rfl).trans g3
  have kM' := kM_le h24
  have kl := kc_lt hs0
  have kc := k_codeOf (n := n) (by omega) hB2 hp g32 hs0.1 hs0.2
  obtain ⟨S3, e3, f3, g4⟩ := k_put (n := n) rfl (rn_112 hB2) kM' (s1.f f2' rfl rfl) (x := kcs (vW m) s0) (by omega)
  have hB3 := f3.B hB2
  refine ⟨S3, ?_, (f1.mono rfl).tr (f2.tr (f3.mono rfl)), (f3.at (a := 111) (k := 3) rfl).trans g32, fun i hi => ?_, fun k hk' => ?_⟩
  · rw [fnX2_spread]
    repeat (first | (conv => (lhs; arg 1; simp (disch := first | assumption | omega) only [tk_gI, tk_gL, tk_gR, tk_pI, tk_pL, rv_aI, rv_aL, rv_aR, rv_uI, rv_uL, rv_uB, rv_uZ, pu_ckI, pu_ckL, pu_lnI, pu_lnL, tk_rI, tk_rL, Option.bind_some, Option.map_some, rv_lt, tk_ix, rc_111 hB, e1, rc_111 hB1, rf_of hB1 (show (111, 2, 114) ∈ rv_rf0 by decide)])); first | rw [Option.bind_some] | rw [bp_s] | rw [if_true] | rw [if_false] | rw [rv_lt_eq] | rw [if_pos (by omega)] | rw [if_neg (by omega)])
    rw [n_l (by omega), z0]
    repeat (first | (conv => (lhs; arg 1; simp (disch := first | assumption | omega) only [tk_gI, tk_gL, tk_gR, tk_pI, tk_pL, rv_aI, rv_aL, rv_aR, rv_uI, rv_uL, rv_uB, rv_uZ, pu_ckI, pu_ckL, pu_lnI, pu_lnL, tk_rI, tk_rL, Option.bind_some, Option.map_some, rv_lt, tk_ix, rn_114 hB1, ← eS2, rc_111 hB2, rf_of hB2 (show (111, 0, 112) ∈ rv_rf0 by decide), kc])); first | rw [Option.bind_some] | rw [bp_s] | rw [if_true] | rw [if_false] | rw [rv_lt_eq] | rw [if_pos (by omega)] | rw [if_neg (by omega)])
    rw [z1, e3, Option.bind_some]
  · have hi : i < 1 := hi
    have e : i = 0 := by omega
    rw [e, f3.rowL rfl rfl, eS2, rv_sL_eq]
    exact congrArg lN (by show sB s0.1 s0.2 = sB s0.1 s0.2 + 0 * 1048576; omega)
  · rw [g4 k hk']
    refine congrArg lN (bs_cong fun i _ => ?_)
    refine Bool.eq_iff_iff.mpr ?_
    rw [inK_iff]
    show (false || decide (64 * k + i = kcs (vW m) s0)) = true ↔ _
    rw [Bool.false_or, decide_eq_true_eq]
    constructor
    · intro h; exact ⟨0, Nat.lt_succ_self 0, h.symm⟩
    · rintro ⟨j, -, h⟩; exact h.symm
/-- what the class takes for a hit -/
def hitK (m : Nat → Nat) (s0 : St) (w : Nat) (x4 : Int32) (i : Nat) : Prop := gok m ((bfs m s0 i).2.1 i) w ∧ (x4 = iM ∨ nI (sB w (ps m ((bfs m s0 i).2.1 i).1 ((bfs m s0 i).2.1 i).2)) = x4)
theorem k_heads (hn : 50 ≤ n) (hB : rv_B S) (hR : CR S 67 m) (hk : okm m) (hs0 : okS m s0) (h0 : s0.2.length ≤ vN m) (hQ : KQ S m (bfs m s0 0)) {w : Nat} (hw : w < vW m) (x4 : Int32) : ∀ h, (∀ i, i < h → ¬ hitK m s0 w x4 i ∧ i < (bfs m s0 i).1) → ∀ q, ∃ S', cX2_spread_32 n (q + h) S 111 67 (nI w) x4 (nI 1) (nI 0) = cX2_spread_32 n q S' 111 67 (nI w) x4 (nI (bfs m s0 h).1) (nI h) ∧ rvf KD S S' ∧ KQ S' m (bfs m s0 h) ∧ BS m s0 h := by
  intro h
  induction h with
  | zero => intro _ q; exact ⟨S, rfl, rvf.rf _ _, hQ, BS_0 hs0⟩
  | succ h ih =>
    intro hno q
    obtain ⟨S1, e1, f1, Q1, b1⟩ := ih (fun i hi => hno i (by omega)) (q + 1)
    obtain ⟨nh, hh⟩ := hno h (by omega)
    have hP : (bfs m s0 h).2.2 h ≤ h := b1.2.1.1 h hh
    obtain ⟨-, st⟩ := k_shead (n := n) (q := q) hn (f1.B hB) (CR_K hR f1 rfl) hk h0 b1.1 (BI_cap hk b1.1 h0) Q1 hh hP hw x4 rfl rfl
    obtain ⟨S2, e2, f2, Q2⟩ := st nh
    refine ⟨S2, ?_, f1.tr f2, Q2, BS_s hk b1 hh⟩
    rw [show q + (h + 1) = q + 1 + h by omega, e1, e2]
    rfl
theorem k_found (hn : 390630 ≤ n) (hB : rv_B S) (hR : CR S 67 m) (hk : okm m) (hs0 : okS m s0) (h0 : s0.2.length ≤ vN m) (hQ : KQ S m (bfs m s0 0)) {w h : Nat} (hw : w < vW m) (x4 : Int32) (hh : h < (bfs m s0 h).1) (hb : BS m s0 h) (hit : hitK m s0 w x4 h) (hno : ∀ i, i < h → ¬ hitK m s0 w x4 i ∧ i < (bfs m s0 i).1) : ∃ S', cX2_spread_32 n n S 111 67 (nI w) x4 (nI 1) (nI 0) = some (nI h, S') ∧ rvf KD S S' ∧ KQ S' m (bfs m s0 h) := by
  have cap := BI_cap hk hb.1 h0
  obtain ⟨S1, e1, f1, Q1, -⟩ := k_heads (n := n) (by omega) hB hR hk hs0 h0 hQ hw x4 h hno (n - h - 1 + 1)
  rw [show n - h - 1 + 1 + h = n by omega] at e1
  obtain ⟨st, -⟩ := k_shead (n := n) (q := n - h - 1) (by omega) (f1.B hB) (CR_K hR f1 rfl) hk h0 hb.1 cap Q1 hh (hb.2.1.1 h hh) hw x4 rfl rfl
  exact ⟨S1, e1.trans (st hit), f1, Q1⟩
theorem k_none (hn : 390630 ≤ n) (hB : rv_B S) (hR : CR S 67 m) (hk : okm m) (hs0 : okS m s0) (h0 : s0.2.length ≤ vN m) (hQ : KQ S m (bfs m s0 0)) {w T : Nat} (hw : w < vW m) (x4 : Int32) (hT : (bfs m s0 T).1 = T) (hb : BS m s0 T) (hno : ∀ i, i < T → ¬ hitK m s0 w x4 i ∧ i < (bfs m s0 i).1) : ∃ S', cX2_spread_32 n n S 111 67 (nI w) x4 (nI 1) (nI 0) = some (iM, S') ∧ rvf KD S S' ∧ KQ S' m (bfs m s0 T) := by
  have cap := BI_cap hk hb.1 h0
  obtain ⟨S1, e1, f1, Q1, -⟩ := k_heads (n := n) (by omega) hB hR hk hs0 h0 hQ hw x4 T hno (n - T - 1 + 1)
  rw [show n - T - 1 + 1 + T = n by omega] at e1
  refine ⟨S1, e1.trans ?_, f1, Q1⟩
  rw [hT] at cap ⊢
  rw [cX2_spread_32, if_pos (by rw [n_le (by omega) (by omega)]; omega)]
  rfl
theorem KQ_at (hp : okp m) {c : Cf} (hb : BI m s0 c) (hQ : KQ S m c) {i : Nat} (hi : i < c.1) (hcap : c.1 ≤ 255640) : S.2.2.1 114 i = lN (sB (c.2.1 i).1 (c.2.1 i).2 + c.2.2 i * 1048576) ∧ sB (c.2.1 i).1 (c.2.1 i).2 < 1048576 ∧ c.2.2 i ≤ i := by
  obtain ⟨ho, hl⟩ := (hb.2.2.2.1 i hi).1
  refine ⟨hQ.2.1 i hi, sB_lt hp ho hl, ?_⟩
  by_cases e : i = 0
  · rw [e, hb.2.2.1]; exact Nat.le_refl 0
  · have := BI_P hb i (by omega) hi
    omega
theorem k_before (hB : rv_B S) (hp : okp m) {c : Cf} (hb : BI m s0 c) (hcap : c.1 ≤ 255640) (hQ : KQ S m c) {i : Nat} (hi : i < c.1) : fnX2_before n S 111 (nI i) = some (nI (c.2.2 i)) := by
  obtain ⟨q1, q2, q3⟩ := KQ_at hp hb hQ hi hcap
  by_cases e : i = 0
  · rw [e, hb.2.2.1, fnX2_before, if_pos (show nI 0 ≤ 0 by decide)]
    rfl
  · have c1 : ¬ nI i ≤ 0 := by rw [z0, n_le (by omega) (by decide)]; omega
    have c2 : ¬ (266240 : Int32) ≤ nI i := by rw [z266240, n_le (by decide) (by omega)]; omega
    have sh := m_shr (x := sB (c.2.1 i).1 (c.2.1 i).2 + c.2.2 i * 1048576) (k := 20) (by omega) (by decide)
    have dv : (sB (c.2.1 i).1 (c.2.1 i).2 + c.2.2 i * 1048576) / 2 ^ 20 = c.2.2 i := by
      rw [show (2 : Nat) ^ 20 = 1048576 by decide, Nat.add_mul_div_right _ _ (by decide), Nat.div_eq_of_lt q2, Nat.zero_add]
    rw [dv] at sh
    rw [fnX2_before, if_neg c1, if_neg c2]
    repeat (first | (conv => (lhs; arg 1; simp (disch := first | assumption | omega) only [tk_gI, tk_gL, tk_gR, tk_pI, tk_pL, rv_aI, rv_aL, rv_aR, rv_uI, rv_uL, rv_uB, rv_uZ, pu_ckI, pu_ckL, pu_lnI, pu_lnL, tk_rI, tk_rL, Option.bind_some, Option.map_some, rv_lt, tk_ix, rc_111 hB, rf_of hB (show (111, 2, 114) ∈ rv_rf0 by decide), rn_114 hB, q1])); first | rw [Option.bind_some] | rw [bp_s] | rw [if_true] | rw [if_false] | rw [rv_lt_eq] | rw [if_pos (by omega)] | rw [if_neg (by omega)])
    rw [z20, y63, sh, lN_I]
theorem k_steps (hB : rv_B S) (hp : okp m) {c : Cf} (hb : BI m s0 c) (hcap : c.1 ≤ 255640) (hQ : KQ S m c) : ∀ k i a q, i < c.1 → Chn c.2.2 k i → a + k ≤ 255640 → cX2_steps_4 n S (q + k + 1) 111 (nI a) (nI i) = some (nI (a + k)) := by
  intro k
  induction k with
  | zero =>
    intro i a q hi h _
    have h : i = 0 := h
    rw [h, cX2_steps_4, if_pos (show nI 0 ≤ 0 by decide), Nat.add_zero]
  | succ k ih =>
    intro i a q hi h ha
    have h1 := h.1
    have hP := BI_P hb i h1 hi
    have c1 : ¬ nI i ≤ 0 := by rw [z0, n_le (by omega) (by decide)]; omega
    have c2 : ¬ (266240 : Int32) ≤ nI a := by rw [z266240, n_le (by decide) (by omega)]; omega
    have kb := k_before (n := n) hB hp hb hcap hQ hi
    rw [cX2_steps_4, if_neg c1, if_neg c2, rv_lt, rc_111 hB, Option.bind_some, kb, Option.bind_some, z1, nI_add, show q + (k + 1) = q + k + 1 by omega, ih (c.2.2 i) (a + 1) q (by omega) h.2 (by omega), show a + 1 + k = a + (k + 1) by omega]
theorem k_row (hp : okp m) {c : Cf} (hb : BI m s0 c) (hcap : c.1 ≤ 255640) : ∀ k i (who : Int32) q (S : rvS), rv_B S → KQ S m c → i < c.1 → Chn c.2.2 k i → k < 1024 → ∃ S', cX2_writeRow_13 n (q + k + 2) S 111 who (nI i) (nI k) = some S' ∧ rvf [115] S S' ∧ S'.2.1 115 k = who ∧ (∀ j, k < j → S'.2.1 115 j = S.2.1 115 j) ∧ ∀ j, j < k → S'.2.1 115 j = nI (c.2.1 (anc c.2.2 (k - 1 - j) i)).1 := by
  intro k
  induction k with
  | zero =>
    intro i who q S hB hQ hi h _
    have h : i = 0 := h
    have kb := k_before (n := n) hB hp hb hcap hQ hi
    obtain ⟨q1, q2, q3⟩ := KQ_at hp hb hQ hi hcap
    obtain ⟨S1, eS1⟩ : ∃ S1, S1 = rv_sI S 115 0 who := ⟨_, rfl⟩
    have f1 : rvf [115] S S1 := by rw [eS1]; exact (rvf.rf _ _).w rfl rfl
    have hB1 := f1.B hB
    have kb1 := k_before (n := n) hB1 hp hb hcap (hQ.f f1 rfl rfl rfl) hi
    have q1' : S1.2.2.1 114 i = _ := (f1.rowL rfl rfl i).trans q1
    have c1 : ¬ nI i < 0 := nI_pos (by omega)
    have c2 : ¬ (266240 : Int32) ≤ nI i := by rw [z266240, n_le (by decide) (by omega)]; omega
    refine ⟨S1, ?_, f1, by rw [eS1, rv_sI_eq], fun j hj => by rw [eS1, rv_sI_k _ _ (by omega)], fun j hj => absurd hj (Nat.not_lt_zero j)⟩
    show cX2_writeRow_13 n (q + 0 + 1 + 1) S 111 who (nI i) (nI 0) = _
    rw [cX2_writeRow_13, if_neg (show ¬ nI 0 < 0 by decide), if_neg (show ¬ (1024 : Int32) ≤ nI 0 by decide)]
    repeat (first | (conv => (lhs; arg 1; simp (disch := first | assumption | omega) only [tk_gI, tk_gL, tk_gR, tk_pI, tk_pL, rv_aI, rv_aL, rv_aR, rv_uI, rv_uL, rv_uB, rv_uZ, pu_ckI, pu_ckL, pu_lnI, pu_lnL, tk_rI, tk_rL, Option.bind_some, Option.map_some, rv_lt, tk_ix, rc_111 hB, rf_of hB (show (111, 4, 115) ∈ rv_rf0 by decide), rn_115 hB, ← eS1])); first | rw [Option.bind_some] | rw [bp_s] | rw [if_true] | rw [if_false] | rw [rv_lt_eq] | rw [if_pos (by omega)] | rw [if_neg (by omega)])
    rw [cX2_writeRow_34, if_neg c1, if_neg c2]
    repeat (first | (conv => (lhs; arg 1; simp (disch := first | assumption | omega) only [tk_gI, tk_gL, tk_gR, tk_pI, tk_pL, rv_aI, rv_aL, rv_aR, rv_uI, rv_uL, rv_uB, rv_uZ, pu_ckI, pu_ckL, pu_lnI, pu_lnL, tk_rI, tk_rL, Option.bind_some, Option.map_some, rv_lt, tk_ix, rc_111 hB1, rf_of hB1 (show (111, 2, 114) ∈ rv_rf0 by decide), rn_114 hB1, q1', fnX2_ownerOf])); first | rw [Option.bind_some] | rw [bp_s] | rw [if_true] | rw [if_false] | rw [rv_lt_eq] | rw [if_pos (by omega)] | rw [if_neg (by omega)])
    rw [cX2_writeRow_61]
    repeat (first | (conv => (lhs; arg 1; simp (disch := first | assumption | omega) only [tk_gI, tk_gL, tk_gR, tk_pI, tk_pL, rv_aI, rv_aL, rv_aR, rv_uI, rv_uL, rv_uB, rv_uZ, pu_ckI, pu_ckL, pu_lnI, pu_lnL, tk_rI, tk_rL, Option.bind_some, Option.map_some, rv_lt, tk_ix, rc_111 hB1, kb1])); first | rw [Option.bind_some] | rw [bp_s] | rw [if_true] | rw [if_false] | rw [rv_lt_eq] | rw [if_pos (by omega)] | rw [if_neg (by omega)])
    rw [cX2_writeRow_13, if_pos (show nI 0 + (-1) < 0 by decide)]
  | succ k ih =>
    intro i who q S hB hQ hi h hk
    have h1 := h.1
    have hP := BI_P hb i h1 hi
    obtain ⟨q1, q2, q3⟩ := KQ_at hp hb hQ hi hcap
    obtain ⟨S1, eS1⟩ : ∃ S1, S1 = rv_sI S 115 (k + 1) who := ⟨_, rfl⟩
    have f1 : rvf [115] S S1 := by rw [eS1]; exact (rvf.rf _ _).w rfl rfl
    have hB1 := f1.B hB
    have hQ1 := hQ.f f1 rfl rfl rfl
    have kb1 := k_before (n := n) hB1 hp hb hcap hQ1 hi
    have q1' : S1.2.2.1 114 i = _ := (f1.rowL rfl rfl i).trans q1
    have c1 : ¬ nI i < 0 := nI_pos (by omega)
    have c2 : ¬ (266240 : Int32) ≤ nI i := by rw [z266240, n_le (by decide) (by omega)]; omega
    have c3 : ¬ nI (k + 1) < 0 := nI_pos (by omega)
    have c4 : ¬ (1024 : Int32) ≤ nI (k + 1) := by rw [z1024, n_le (by decide) (by omega)]; omega
    obtain ⟨ho, hl⟩ := (hb.2.2.2.1 i hi).1
    have own : nI (sB (c.2.1 i).1 (c.2.1 i).2 + c.2.2 i * 1048576) &&& (31 : Int32) = nI (c.2.1 i).1 := by
      rw [z31, n_and31, show c.2.2 i * 1048576 = c.2.2 i * 32768 * 32 by omega, Nat.add_mul_mod_self_right, sB_mod hp ho]
    obtain ⟨S2, e2, f2, g2, g3, g4⟩ := ih (c.2.2 i) (nI (c.2.1 i).1) q S1 hB1 hQ1 (by omega) h.2 (by omega)
    refine ⟨S2, ?_, f1.tr f2, by rw [g3 (k + 1) (by omega), eS1, rv_sI_eq], fun j hj => by rw [g3 j (by omega), eS1, rv_sI_k _ _ (by omega)], fun j hj => ?_⟩
    · rw [show q + (k + 1) + 2 = q + k + 2 + 1 by omega, cX2_writeRow_13, if_neg c3, if_neg c4]
      repeat (first | (conv => (lhs; arg 1; simp (disch := first | assumption | omega) only [tk_gI, tk_gL, tk_gR, tk_pI, tk_pL, rv_aI, rv_aL, rv_aR, rv_uI, rv_uL, rv_uB, rv_uZ, pu_ckI, pu_ckL, pu_lnI, pu_lnL, tk_rI, tk_rL, Option.bind_some, Option.map_some, rv_lt, tk_ix, rc_111 hB, rf_of hB (show (111, 4, 115) ∈ rv_rf0 by decide), rn_115 hB, ← eS1])); first | rw [Option.bind_some] | rw [bp_s] | rw [if_true] | rw [if_false] | rw [rv_lt_eq] | rw [if_pos (by omega)] | rw [if_neg (by omega)])
      rw [cX2_writeRow_34, if_neg c1, if_neg c2]
      repeat (first | (conv => (lhs; arg 1; simp (disch := first | assumption | omega) only [tk_gI, tk_gL, tk_gR, tk_pI, tk_pL, rv_aI, rv_aL, rv_aR, rv_uI, rv_uL, rv_uB, rv_uZ, pu_ckI, pu_ckL, pu_lnI, pu_lnL, tk_rI, tk_rL, Option.bind_some, Option.map_some, rv_lt, tk_ix, rc_111 hB1, rf_of hB1 (show (111, 2, 114) ∈ rv_rf0 by decide), rn_114 hB1, q1', fnX2_ownerOf])); first | rw [Option.bind_some] | rw [bp_s] | rw [if_true] | rw [if_false] | rw [rv_lt_eq] | rw [if_pos (by omega)] | rw [if_neg (by omega)])
      rw [lN_I, own, cX2_writeRow_61]
      repeat (first | (conv => (lhs; arg 1; simp (disch := first | assumption | omega) only [tk_gI, tk_gL, tk_gR, tk_pI, tk_pL, rv_aI, rv_aL, rv_aR, rv_uI, rv_uL, rv_uB, rv_uZ, pu_ckI, pu_ckL, pu_lnI, pu_lnL, tk_rI, tk_rL, Option.bind_some, Option.map_some, rv_lt, tk_ix, rc_111 hB1, kb1])); first | rw [Option.bind_some] | rw [bp_s] | rw [if_true] | rw [if_false] | rw [rv_lt_eq] | rw [if_pos (by omega)] | rw [if_neg (by omega)])
      rw [show (-1 : Int32) = iM from rfl, z_dec]
      exact e2
    · by_cases e : j = k
      · rw [e, g2, show k + 1 - 1 - k = 0 by omega]
        rfl
      · rw [g4 j (by omega), show k + 1 - 1 - j = (k - 1 - j) + 1 by omega]
        rfl
end
