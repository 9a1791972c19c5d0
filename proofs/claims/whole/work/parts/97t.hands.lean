/-! HANDS: how many hands -/
section
variable {n : Nat} {S : rvS} {m : Nat → Nat} {s0 : St} {wd : Nat → List Nat}
theorem anc_cong {P P' : Nat → Nat} {t : Nat} (hP : ∀ i, i < t → P i < t) (e : ∀ i, i < t → P' i = P i) : ∀ d i, i < t → anc P' d i = anc P d i ∧ anc P d i < t := by
  intro d
  induction d with
  | zero => intro i hi; exact ⟨rfl, hi⟩
  | succ d ih =>
    intro i hi
    show anc P' d (P' i) = anc P d (P i) ∧ anc P d (P i) < t
    rw [e i hi]
    exact ih (P i) (hP i hi)
theorem BI_Pt {c : Cf} (hb : BI m s0 c) : ∀ i, i < c.1 → c.2.2 i < c.1 := fun i hi => by
  by_cases e : i = 0
  · rw [e, hb.2.2.1]; exact hb.1
  · have := BI_P hb i (by omega) hi
    omega
theorem hitK_M {w i : Nat} : hitK m s0 w iM i ↔ gok m ((bfs m s0 i).2.1 i) w := ⟨fun h => h.1, fun h => ⟨h, Or.inl rfl⟩⟩
theorem k_goTo (hn : 400000 ≤ n) (hB : rv_B S) (hR : CR S 67 m) (hk : okm m) {c w : Nat} (hc : c < vC m) (hw : w < vW m) (hne : ow m c ≠ w) (es0 : s0 = (ow m c, rl m c)) (hs0 : okS m s0) (h0 : s0.2.length ≤ vN m) :
    (∀ h K, h < (bfs m s0 h).1 → gok m ((bfs m s0 h).2.1 h) w → BS m s0 h → (∀ i, i < h → ¬ gok m ((bfs m s0 i).2.1 i) w ∧ i < (bfs m s0 i).1) → Chn (bfs m s0 h).2.2 K h → K + 1 ≤ 480 → ∃ S', fnX2_goTo n S 111 67 (nI c) (nI w) = some (nI (K + 1), S') ∧ rvf (KE ++ [111005, 115]) S S' ∧ S'.2.1 111 5 = nI (K + 1) ∧ S'.2.1 115 K = nI w ∧ ∀ j, j < K → S'.2.1 115 j = nI ((bfs m s0 h).2.1 (anc (bfs m s0 h).2.2 (K - 1 - j) h)).1) ∧
    (∀ T, (bfs m s0 T).1 = T → BS m s0 T → (∀ i, i < T → ¬ gok m ((bfs m s0 i).2.1 i) w ∧ i < (bfs m s0 i).1) → ∃ S', fnX2_goTo n S 111 67 (nI c) (nI w) = some (iM, S') ∧ rvf KE S S') := by
  obtain ⟨hp, hcc, hd⟩ := id hk
  have h24 := hp.1
  have hv : vb 67 := Or.inl rfl
  have hVS := VS_of hB hv
  have hFS := FS_of hB hv.f
  have hF := hR.1
  have ho : ow m c < vW m := by have := hs0.1; rw [es0] at this; exact this
  have hl : okl m (rl m c) := by have := hs0.2; rw [es0] at this; exact this
  have sn := k_stateNow (n := n) hB hv hR hk hc
  have own := k_ownerOf (n := n) (S := S) hp ho (rl m c)
  have dd := k_isDead (n := n) hFS hF hp hw
  have rr := k_roadsLead (n := n) (by omega) hFS hF hp ho hw
  have ne : ¬ nI (ow m c) = nI w := by rw [n_eq (by omega) (by omega)]; exact hne
  obtain ⟨S1, e1, f1, Q1⟩ := k_sbegin (n := n) (by omega) hB hR hk hs0 w iM
  have eS : nI (sB s0.1 s0.2) = nI (sB (ow m c) (rl m c)) := by rw [es0]
  rw [eS] at e1
  have hB1 := f1.B hB
  have hR1 := CR_K hR f1 rfl
  have early : (∀ h : Nat, (rlm m (at_ m (ow m c))).testBit (at_ m w) = false ∨ 0 < de m w → fnX2_goTo n S 111 67 (nI c) (nI w) = some (iM, S)) := fun _ h => by
    rw [fnX2_goTo]
    repeat (first | (conv => (lhs; arg 1; simp (disch := first | assumption | omega) only [tk_gI, tk_gL, tk_gR, tk_pI, tk_pL, rv_aI, rv_aL, rv_aR, rv_uI, rv_uL, rv_uB, rv_uZ, pu_ckI, pu_ckL, pu_lnI, pu_lnL, tk_rI, tk_rL, Option.bind_some, Option.map_some, rv_lt, tk_ix, hVS, sn, own])); first | rw [Option.bind_some] | rw [bp_s] | rw [if_true] | rw [if_false] | rw [rv_lt_eq] | rw [if_pos (by omega)] | rw [if_neg (by omega)])
    repeat (first | (conv => (lhs; arg 1; simp (disch := first | assumption | omega) only [tk_gI, tk_gL, tk_gR, tk_pI, tk_pL, rv_aI, rv_aL, rv_aR, rv_uI, rv_uL, rv_uB, rv_uZ, pu_ckI, pu_ckL, pu_lnI, pu_lnL, tk_rI, tk_rL, Option.bind_some, Option.map_some, rv_lt, tk_ix, hVS, hFS, dd])); first | rw [Option.bind_some] | rw [bp_s] | rw [if_true] | rw [if_false] | rw [rv_lt_eq] | rw [if_pos (by omega)] | rw [if_neg (by omega)])
    by_cases c1 : 0 < de m w
    · rw [decide_eq_true c1, bI_t, if_neg (by decide)]; rfl
    · rw [decide_eq_false c1, bI_f, if_pos (by rfl)]
      repeat (first | (conv => (lhs; arg 1; simp (disch := first | assumption | omega) only [tk_gI, tk_gL, tk_gR, tk_pI, tk_pL, rv_aI, rv_aL, rv_aR, rv_uI, rv_uL, rv_uB, rv_uZ, pu_ckI, pu_ckL, pu_lnI, pu_lnL, tk_rI, tk_rL, Option.bind_some, Option.map_some, rv_lt, tk_ix, hVS, hFS, own, rr])); first | rw [Option.bind_some] | rw [bp_s] | rw [if_true] | rw [if_false] | rw [rv_lt_eq] | rw [if_pos (by omega)] | rw [if_neg (by omega)])
      rcases h with h | h
      · rw [h, bI_f, if_pos (by rfl)]; rfl
      · exact absurd h c1
  have late : (rlm m (at_ m (ow m c))).testBit (at_ m w) = true → ¬ 0 < de m w → ∀ R, ((rv_ck S 1 111).bind fun _ => rv_bp (cX2_spread_32 n n S1 111 67 (nI w) iM (nI 1) (nI 0)) fun x32_ S33_ =>
        if x32_ = (-1 : Int32) then (
          some ((-1 : Int32), S33_))
        else (
          (rv_ck S33_ 1 111).bind fun u37_ =>
          (fnX2_steps n S33_ 111 x32_).bind fun x40_ =>
          (rv_pI S33_ 1 111 5 (x40_ + (1 : Int32))).bind fun S42_ =>
          (rv_ck S42_ 1 111).bind fun u44_ =>
          (fnX2_writeRow n S42_ 111 x32_ (nI w)).bind fun S47_ =>
          (rv_gI S47_ 1 111 5).bind fun x50_ =>
          some (x50_, S47_))) = R → fnX2_goTo n S 111 67 (nI c) (nI w) = R := fun h1 h2 R hR' => by
    rw [fnX2_goTo]
    repeat (first | (conv => (lhs; arg 1; simp (disch := first | assumption | omega) only [tk_gI, tk_gL, tk_gR, tk_pI, tk_pL, rv_aI, rv_aL, rv_aR, rv_uI, rv_uL, rv_uB, rv_uZ, pu_ckI, pu_ckL, pu_lnI, pu_lnL, tk_rI, tk_rL, Option.bind_some, Option.map_some, rv_lt, tk_ix, hVS, sn, own])); first | rw [Option.bind_some] | rw [bp_s] | rw [if_true] | rw [if_false] | rw [rv_lt_eq] | rw [if_pos (by omega)] | rw [if_neg (by omega)])
    repeat (first | (conv => (lhs; arg 1; simp (disch := first | assumption | omega) only [tk_gI, tk_gL, tk_gR, tk_pI, tk_pL, rv_aI, rv_aL, rv_aR, rv_uI, rv_uL, rv_uB, rv_uZ, pu_ckI, pu_ckL, pu_lnI, pu_lnL, tk_rI, tk_rL, Option.bind_some, Option.map_some, rv_lt, tk_ix, hVS, hFS, dd])); first | rw [Option.bind_some] | rw [bp_s] | rw [if_true] | rw [if_false] | rw [rv_lt_eq] | rw [if_pos (by omega)] | rw [if_neg (by omega)])
    rw [decide_eq_false h2, bI_f, if_pos (by rfl)]
    repeat (first | (conv => (lhs; arg 1; simp (disch := first | assumption | omega) only [tk_gI, tk_gL, tk_gR, tk_pI, tk_pL, rv_aI, rv_aL, rv_aR, rv_uI, rv_uL, rv_uB, rv_uZ, pu_ckI, pu_ckL, pu_lnI, pu_lnL, tk_rI, tk_rL, Option.bind_some, Option.map_some, rv_lt, tk_ix, hVS, hFS, own, rr])); first | rw [Option.bind_some] | rw [bp_s] | rw [if_true] | rw [if_false] | rw [rv_lt_eq] | rw [if_pos (by omega)] | rw [if_neg (by omega)])
    rw [h1, bI_t, if_neg (by decide)]
    rw [show (-1 : Int32) = iM from rfl, e1]
    exact hR'
  constructor
  · intro h K hh hg hb hno hK h480
    have cap := BI_cap hk hb.1 h0
    have hit : hitK m s0 w iM h := hitK_M.mpr hg
    have hno' : ∀ i, i < h → ¬ hitK m s0 w iM i ∧ i < (bfs m s0 i).1 := fun i hi => ⟨fun z => (hno i hi).1 (hitK_M.mp z), (hno i hi).2⟩
    obtain ⟨S2, e2, f2, Q2⟩ := k_found (n := n) (by omega) hB1 hR1 hk hs0 h0 Q1 hw iM hh hb hit hno'
    have hB2 := f2.B hB1
    have st := k_steps (n := n) hB2 hp hb.1 cap Q2 K h 0 (n - K - 1) hh hK (by omega)
    rw [show n - K - 1 + K + 1 = n by omega, Nat.zero_add] at st
    obtain ⟨S3, eS3⟩ : ∃ S3, S3 = rv_sI S2 111 5 (nI (K + 1)) := ⟨_, rfl⟩
    have f3 : rvf [111005] S2 S3 := by rw [eS3]; exact rvf.sI S2 111 5 _
    have hB3 := f3.B hB2
    have g3 : S3.2.1 111 5 = nI (K + 1) := by rw [eS3, rv_sI_eq]
    obtain ⟨S4, e4, f4, g4, -, g5⟩ := k_row (n := n) hp hb.1 cap K h (nI w) (n - K - 2) S3 hB3 (Q2.f f3 rfl rfl rfl) hh hK (by omega)
    rw [show n - K - 2 + K + 2 = n by omega] at e4
    have hB4 := f4.B hB3
    have g35 : S4.2.1 111 5 = nI (K + 1) := (f4.at (a := 111) (k := 5) rfl).trans g3
    have l1 : (rlm m (at_ m (ow m c))).testBit (at_ m w) = true := by
      cases hx : (rlm m (at_ m (ow m c))).testBit (at_ m w)
      · exact absurd hg (no_road hp hs0 hb.1 hw (Or.inl (by rw [es0]; exact hx)) hh)
      · rfl
    have l2 : ¬ 0 < de m w := (wy_road hg).1
    refine ⟨S4, late l1 l2 _ ?_, (f1.mono rfl).tr ((f2.mono rfl).tr ((f3.mono rfl).tr (f4.mono rfl))), g35, g4, g5⟩
    have nh : ¬ nI h = (-1 : Int32) := by rw [show (-1 : Int32) = iM from rfl, z_eqM (by omega)]; exact id
    have st' : fnX2_steps n S2 111 (nI h) = some (nI K) := st
    have wr : fnX2_writeRow n S3 111 (nI h) (nI w) = some S4 := by
      rw [fnX2_writeRow]
      repeat (first | (conv => (lhs; arg 1; simp (disch := first | assumption | omega) only [tk_gI, tk_gL, tk_gR, tk_pI, tk_pL, rv_aI, rv_aL, rv_aR, rv_uI, rv_uL, rv_uB, rv_uZ, pu_ckI, pu_ckL, pu_lnI, pu_lnL, tk_rI, tk_rL, Option.bind_some, Option.map_some, rv_lt, tk_ix, rc_111 hB3, g3])); first | rw [Option.bind_some] | rw [bp_s] | rw [if_true] | rw [if_false] | rw [rv_lt_eq] | rw [if_pos (by omega)] | rw [if_neg (by omega)])
      rw [z1, z_sub (by omega), show K + 1 - 1 = K by omega]
      exact e4
    rw [rc_111 hB, Option.bind_some, e2, bp_s, if_neg nh]
    repeat (first | (conv => (lhs; arg 1; simp (disch := first | assumption | omega) only [tk_gI, tk_gL, tk_gR, tk_pI, tk_pL, rv_aI, rv_aL, rv_aR, rv_uI, rv_uL, rv_uB, rv_uZ, pu_ckI, pu_ckL, pu_lnI, pu_lnL, tk_rI, tk_rL, Option.bind_some, Option.map_some, rv_lt, tk_ix, rc_111 hB2, st'])); first | rw [Option.bind_some] | rw [bp_s] | rw [if_true] | rw [if_false] | rw [rv_lt_eq] | rw [if_pos (by omega)] | rw [if_neg (by omega)])
    rw [z1, nI_add]
    repeat (first | (conv => (lhs; arg 1; simp (disch := first | assumption | omega) only [tk_gI, tk_gL, tk_gR, tk_pI, tk_pL, rv_aI, rv_aL, rv_aR, rv_uI, rv_uL, rv_uB, rv_uZ, pu_ckI, pu_ckL, pu_lnI, pu_lnL, tk_rI, tk_rL, Option.bind_some, Option.map_some, rv_lt, tk_ix, rc_111 hB2, ← eS3, rc_111 hB3, wr, rc_111 hB4, g35])); first | rw [Option.bind_some] | rw [bp_s] | rw [if_true] | rw [if_false] | rw [rv_lt_eq] | rw [if_pos (by omega)] | rw [if_neg (by omega)])
  · intro T hT hb hno
    have hno' : ∀ i, i < T → ¬ hitK m s0 w iM i ∧ i < (bfs m s0 i).1 := fun i hi => ⟨fun z => (hno i hi).1 (hitK_M.mp z), (hno i hi).2⟩
    by_cases c1 : (rlm m (at_ m (ow m c))).testBit (at_ m w) = true ∧ ¬ 0 < de m w
    · obtain ⟨S2, e2, f2, -⟩ := k_none (n := n) (by omega) hB1 hR1 hk hs0 h0 Q1 hw iM hT hb hno'
      refine ⟨S2, late c1.1 c1.2 _ ?_, f1.tr (f2.mono rfl)⟩
      rw [rc_111 hB, Option.bind_some, e2, bp_s, if_pos (show iM = (-1 : Int32) from rfl)]
      rfl
    · refine ⟨S, early 0 ?_, rvf.rf _ _⟩
      by_cases c2 : 0 < de m w
      · exact Or.inr c2
      · refine Or.inl ?_
        cases hx : (rlm m (at_ m (ow m c))).testBit (at_ m w)
        · rfl
        · exact absurd ⟨hx, c2⟩ c1
end
