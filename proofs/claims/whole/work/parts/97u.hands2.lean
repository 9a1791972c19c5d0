/-! HANDS: both sides -/
section
variable {n : Nat} {S : rvS} {m : Nat → Nat} {s0 : St} {wd : Nat → List Nat}
theorem NR_w {w : Nat} {x3 : Int32} (hp : okp m) (hx3 : x3 = iM) (hk : okm m) {c : Cf} {h J : Nat} (ho : okS m (c.2.1 h)) (hJ : J ≤ vW m) (hw : w < vW m) (h1 : w < J → ¬ gok m (c.2.1 h) w) : NR m (nI w) x3 c h J := fun j hj => by
  have h24 := hp.1
  refine ⟨fun _ => ?_, fun hg _ e => ?_⟩
  · have lt := cd_lt hp (o := j) (by omega) (ps_ok hk.2.1 ho.1 ho.2)
    intro e
    rw [hx3, z_eqM (Nat.lt_trans lt (by decide))] at e
    exact e
  · rw [n_eq (by omega) (by omega)] at e
    rw [e] at hg hj
    exact h1 hj hg
theorem m_handsW (hn : 400000 ≤ n) (hB : rv_B S) (hM : MR S m) (hk : okm m) {c w : Nat} (hc : c < vC m) (hw : w < vW m) (hne : ow m c ≠ w) (es0 : s0 = (ow m c, rl m c)) (hs0 : okS m s0) (h0 : s0.2.length ≤ vN m) :
    (∀ h K, h < (bfs m s0 h).1 → gok m ((bfs m s0 h).2.1 h) w → BS m s0 h → (∀ i, i < h → ¬ gok m ((bfs m s0 i).2.1 i) w ∧ i < (bfs m s0 i).1) → Chn (bfs m s0 h).2.2 K h → K + 1 ≤ 480 → ∃ S', (rv_bp (fnX13_reach n S 189 (nI c) (nI w) (-1)) fun x32_ S33_ => if x32_ = (-1 : Int32) then some ((-1 : Int32), S33_) else cX13_hands_60 n n S33_ 189 (0 : Int32) x32_ x32_) = some (nI (K + 1), S') ∧ rvf (RD ++ [208, 189036]) S S' ∧ S'.2.1 189 36 = nI (K + 1) ∧ S'.2.1 208 K = nI w ∧ ∀ j, j < K → S'.2.1 208 j = nI ((bfs m s0 h).2.1 (anc (bfs m s0 h).2.2 (K - 1 - j) h)).1) ∧
    (∀ T, (bfs m s0 T).1 = T → BS m s0 T → (∀ i, i < T → ¬ gok m ((bfs m s0 i).2.1 i) w ∧ i < (bfs m s0 i).1) → ∃ S', (rv_bp (fnX13_reach n S 189 (nI c) (nI w) (-1)) fun x32_ S33_ => if x32_ = (-1 : Int32) then some ((-1 : Int32), S33_) else cX13_hands_60 n n S33_ 189 (0 : Int32) x32_ x32_) = some (iM, S') ∧ rvf RD S S') := by
  obtain ⟨hp, hcc, hd⟩ := id hk
  have h24 := hp.1
  obtain ⟨S1, e1, f1, Q1⟩ := m_rbegin (n := n) (by omega) hB hM hk hc (nI w) iM
  rw [← es0] at Q1
  have hB1 := f1.B hB
  have hM1 := hM.f f1 rfl
  have nrs : ∀ i, BS m s0 i → (¬ gok m ((bfs m s0 i).2.1 i) w ∧ i < (bfs m s0 i).1) → i < (bfs m s0 i).1 ∧ NR m (nI w) iM (bfs m s0 i) i (vW m) := fun i hb hi => ⟨hi.2, NR_w hp rfl hk (hb.1.2.2.2.1 i hi.2).1 (Nat.le_refl _) hw fun _ => hi.1⟩
  have bss : ∀ h, (∀ i, i < h → i < (bfs m s0 i).1) → ∀ i, i ≤ h → BS m s0 i := by
    intro h hh i
    induction i with
    | zero => intro _; exact BS_0 hs0
    | succ i ih => intro hi; exact BS_s hk (ih (by omega)) (hh i (by omega))
  constructor
  · intro h K hh hg hb hno hK h480
    have cap := BI_cap hk hb.1 h0
    have hnr : ∀ i, i < h → i < (bfs m s0 i).1 ∧ NR m (nI w) iM (bfs m s0 i) i (vW m) := fun i hi => nrs i (bss h (fun i hi => (hno i hi).2) i (by omega)) (hno i hi)
    obtain ⟨s, es⟩ : ∃ s, s = nx m ((bfs m s0 h).2.1 h) w := ⟨_, rfl⟩
    have hs : okS m s := by rw [es]; exact nx_ok hk (hb.1.2.2.2.1 h hh).1 hw
    have lt := cd_lt hp hs.1 hs.2
    have eQ := exl_Q (m := m) hh w
    have hin : inC (exl m h (bfs m s0 h) w) s = false := inC_No (exl_No hh (bfs_No (by rw [es0]; exact hne) h hno) w fun z => absurd z (Nat.lt_irrefl w)) (by rw [es])
    obtain ⟨-, mf⟩ := m_found (n := n) (by omega) hB1 hM1 hk hs0 h0 Q1 (nI w) iM hw hh hb hg hnr (NR_w hp rfl hk (hb.1.2.2.2.1 h hh).1 (by omega) hw fun z => absurd z (Nat.lt_irrefl w)) es
    obtain ⟨S2, e2, f2, Q2⟩ := mf (by rw [ne_eq, z_eqM (by omega)]; exact id) hin rfl
    have hB2 := f2.B hB1
    obtain ⟨t, et⟩ : ∃ t, t = (exl m h (bfs m s0 h) w).1 := ⟨_, rfl⟩
    have ec : pushC (exl m h (bfs m s0 h) w) s h = exl m h (bfs m s0 h) (w + 1) := by
      rw [exl, stp, eQ]
      rw [if_pos (show wy m ((bfs m s0 h).2.1 h).1 ((bfs m s0 h).2.1 h).2 w = 0 from hg), ← es, hin, if_neg (by decide)]
    obtain ⟨y1, y2⟩ := push_new (exl m h (bfs m s0 h) w) s h
    obtain ⟨c', ec'⟩ : ∃ c', c' = exl m h (bfs m s0 h) (w + 1) := ⟨_, rfl⟩
    rw [ec, ← ec', ← et] at y1 y2
    rw [ec, ← ec'] at Q2
    have hb' : BI m s0 c' := by rw [ec']; exact exl_BI hk hh hb.1 (w + 1) (by omega)
    have xt : (bfs m s0 h).1 ≤ t := by rw [et]; exact (exl_ext h _ w).1
    have ht : t < c'.1 := by
      rw [ec', ← ec, et]
      exact Nat.lt_succ_self _
    have x := exl_ext (m := m) h (bfs m s0 h) (w + 1)
    rw [← ec'] at x
    have cQt : cQ c' t = cd s.1 s.2 := by rw [cQ, y1]
    have chn : Chn c'.2.2 (K + 1) t := ⟨by omega, by
      rw [y2]
      exact Chn_cong (BI_P hb.1) (fun i hi => (x.2 i hi).2) K h hh hK⟩
    have h60 := m_h60 (n := n) hB2 hp hb' Q2 (nI (cd s.1 s.2)) (K + 1) t 0 (n - K - 2) ht chn (by omega)
    rw [show n - K - 2 + (K + 1) + 1 = n by omega, Nat.zero_add, cQt] at h60
    obtain ⟨S3, e3, f3, g3, -, g4⟩ := m_h94 (n := n) hp hb' (K + 1) (K + 1) t (n - K - 2) S2 hB2 Q2 ht chn (by omega)
    rw [show n - K - 2 + (K + 1) + 1 = n by omega, cQt] at e3
    refine ⟨S3, ?_, (f1.mono rfl).tr ((f2.mono rfl).tr (f3.mono rfl)), g3, ?_, fun j hj => ?_⟩
    · have ns : ¬ nI (cd s.1 s.2) = (-1 : Int32) := by rw [show (-1 : Int32) = iM from rfl, z_eqM (by omega)]; exact id
      rw [show (-1 : Int32) = iM from rfl] at ns ⊢
      rw [e1, e2, bp_s, if_neg ns, z0, h60, e3]
    · rw [g4 K (by omega), show K + 1 - 1 - K = 0 by omega]
      show nI (c'.2.1 t).1 = nI w
      rw [y1, es]
    · rw [g4 j (by omega), show K + 1 - 1 - j = (K - 1 - j) + 1 by omega]
      show nI (c'.2.1 (anc c'.2.2 (K - 1 - j) (c'.2.2 t))).1 = _
      obtain ⟨a1, a2⟩ := anc_cong (BI_Pt hb.1) (fun i hi => (x.2 i hi).2) (K - 1 - j) h hh
      rw [y2, a1, (x.2 _ a2).1]
  · intro T hT hb hno
    obtain ⟨S2, e2, f2, -⟩ := m_none (n := n) (by omega) hB1 hM1 hk hs0 h0 Q1 (nI w) iM hT hb fun i hi => nrs i (bss T (fun i hi => (hno i hi).2) i (by omega)) (hno i hi)
    refine ⟨S2, ?_, f1.tr f2⟩
    rw [show (-1 : Int32) = iM from rfl, e1, e2, bp_s, if_pos rfl]
def DHD : List Nat := DV ++ [111005, 115, 189036, 208]
theorem QS.hd {S' : rvS} (h : QS S S' m wd) : QD DHD S S' m wd := ⟨h.1, h.2.1.mono (by decide), h.2.2⟩
theorem HD.v {S' : rvS} (h : HD S) (q : QS S S' m wd) : HD S' := h.f q.2.1 rfl rfl rfl rfl
theorem op_hands (hn : 400000 ≤ n) (hV : VI S m wd) (hH : HD S) (x y : Int32) : ∃ r S1 S', fnX12_hands n S 64 x y = some (r, S1) ∧ fnX13_hands n S1 189 x y = some (r, S') ∧ QD DHD S S' m wd ∧ HD S' := by
  obtain ⟨hB, hR, hL, hk, -⟩ := id hV
  obtain ⟨hp, hc, hd⟩ := id hk
  have h24 := hp.1
  have h40 := hc.1
  have hC := CS_of hB
  have hv : vb 67 := Or.inl rfl
  have hVS := VS_of hB hv
  have r6 := rf_of hB (show (64, 6, 111) ∈ rv_rf0 by decide)
  have bad : fnX12_hands n S 64 x y = some (iM, S) → (∀ S6, fnX13_lay n (rv_sI S 189 0 (nI 0)) 189 = some S6 → rv_B S6 → MR S6 m → fnX13_hands n S 189 x y = some (iM, S6)) → ∃ r S1 S', fnX12_hands n S 64 x y = some (r, S1) ∧ fnX13_hands n S1 189 x y = some (r, S') ∧ QD DHD S S' m wd ∧ HD S' := fun h1 h2 => by
    obtain ⟨S6, e6, hB6, f6, hM6, r6, b6⟩ := start_ok (n := n) (by omega) hB hL
    have q := QS.s0 hV f6 hM6 r6 b6
    exact ⟨_, S, S6, h1, h2 S6 e6 hB6 hM6, q.hd, hH.v q⟩
  rcases rng x (N := vC m) (by omega) with ⟨c, hcc, rfl⟩ | hx
  · have k1 := k_isCoin (n := n) hB hR hk hcc
    rcases rng y (N := vW m) (by omega) with ⟨w, hw, rfl⟩ | hy
    · have k2 := k_isWho (n := n) hB hR hk hw
      have ho := (hc.2.2 c hcc).2.2.1
      have hl := hc.l hcc
      have ln : (rl m c).length ≤ vN m := by rw [rl_len (by have := (hc.2.2 c hcc).2.2.2.1; have := hc.2.1; omega)]; exact (hc.2.2 c hcc).2.2.2.1
      have cls : ∀ r S1, fnX2_goTo n S 111 67 (nI c) (nI w) = some (r, S1) → fnX12_hands n S 64 (nI c) (nI w) = some (r, S1) := fun r S1 e => by
        rw [fnX12_hands]
        repeat (first | (conv => (lhs; arg 1; simp (disch := first | assumption | omega) only [tk_gI, tk_gL, tk_gR, tk_pI, tk_pL, rv_aI, rv_aL, rv_aR, rv_uI, rv_uL, rv_uB, rv_uZ, pu_ckI, pu_ckL, pu_lnI, pu_lnL, tk_rI, tk_rL, Option.bind_some, Option.map_some, rv_lt, tk_ix, z0, z1, z2, z3, z4, z5, z6, z7, z8, z9, z10, z11, z12, z13, z15, z16, z17, z18, z20, z21, z23, z24, z25, z31, z32, z39, z40, z41, z46, z48, z50, z57, z59, z60, z61, z62, z63, z64, z97, z98, z99, z100, z101, z102, z103, z104, z105, z106, z107, z108, z109, z110, z111, z112, z113, z114, z115, z116, z117, z118, z119, z120, z121, z122, z128, z132, z200, z240, z255, z372, z390625, z400, z420, z421, z422, z662, z900, z940, z999, z1000, z1024, z2000, z5860, z10000, z12345, z15625, z266240, z1048575, z1064960, z1103515245, z_m1, n_le, n_lt, n_eq, n_bit0, n_bit1, n_sbit0, n_shl, z_ltM, z_Mlt, z_leM, z_Mle, z_eqM, z_Meq, bI0, bI1, bI_01, bI_01t, bI_10, bI_10f, if_true, if_false, eq_self, reduceCtorEq, hC, k1, k2])); first | rw [Option.bind_some] | rw [bp_s] | rw [if_true] | rw [if_false] | rw [rv_lt_eq] | rw [if_pos (by omega)] | rw [if_neg (by omega)])
        repeat (first | (conv => (lhs; arg 1; simp (disch := first | assumption | omega) only [tk_gI, tk_gL, tk_gR, tk_pI, tk_pL, rv_aI, rv_aL, rv_aR, rv_uI, rv_uL, rv_uB, rv_uZ, pu_ckI, pu_ckL, pu_lnI, pu_lnL, tk_rI, tk_rL, Option.bind_some, Option.map_some, rv_lt, tk_ix, hC, r6, rc_111 hB, e])); first | rw [Option.bind_some] | rw [bp_s] | rw [if_true] | rw [if_false] | rw [rv_lt_eq] | rw [if_pos (by omega)] | rw [if_neg (by omega)])
      by_cases hne : ow m c = w
      · obtain ⟨S1, eS1⟩ : ∃ S1, S1 = rv_sI S 111 5 (nI 0) := ⟨_, rfl⟩
        have f1 : rvf [111005] S S1 := by rw [eS1]; exact rvf.sI S 111 5 _
        have hB1 := f1.B hB
        obtain ⟨S6, e6, hB6, f6, hM6, r6', b6⟩ := start_ok (n := n) (by omega) hB1 (hL.f f1 rfl rfl)
        obtain ⟨S7, eS7⟩ : ∃ S7, S7 = rv_sI S6 189 36 (nI 0) := ⟨_, rfl⟩
        have f7 : rvf [189036] S6 S7 := by rw [eS7]; exact rvf.sI S6 189 36 _
        have fz : rvf [189000, 189022, 191, 189036] S1 S7 := (f6.mono rfl).tr (f7.mono rfl)
        have R1 := CR_K hR f1 rfl
        refine ⟨nI 0, S1, S7, cls _ _ ?_, ?_, QD.two hV f1 fz rfl rfl (by decide) (by decide) R1 (hM6.f f7 rfl) (by rw [f7.at (a := 189) (k := 22) rfl]; exact b6) hk rfl rfl (r6'.tr (R42.of f7 rfl)), ⟨0, Nat.zero_le _, (fz.at (a := 111) (k := 5) rfl).trans (by rw [eS1, rv_sI_eq]), by rw [eS7, rv_sI_eq], fun j hj => absurd hj (Nat.not_lt_zero j)⟩⟩
        · have sn := k_stateNow (n := n) hB hv hR hk hcc
          have own := k_ownerOf (n := n) (S := S) hp ho (rl m c)
          have eq : nI (ow m c) = nI w := by rw [hne]
          rw [fnX2_goTo]
          repeat (first | (conv => (lhs; arg 1; simp (disch := first | assumption | omega) only [tk_gI, tk_gL, tk_gR, tk_pI, tk_pL, rv_aI, rv_aL, rv_aR, rv_uI, rv_uL, rv_uB, rv_uZ, pu_ckI, pu_ckL, pu_lnI, pu_lnL, tk_rI, tk_rL, Option.bind_some, Option.map_some, rv_lt, tk_ix, hVS, sn, own])); first | rw [Option.bind_some] | rw [bp_s] | rw [if_true] | rw [if_false] | rw [rv_lt_eq] | rw [if_pos (by omega)] | rw [if_neg (by omega)])
          repeat (first | (conv => (lhs; arg 1; simp (disch := first | assumption | omega) only [tk_gI, tk_gL, tk_gR, tk_pI, tk_pL, rv_aI, rv_aL, rv_aR, rv_uI, rv_uL, rv_uB, rv_uZ, pu_ckI, pu_ckL, pu_lnI, pu_lnL, tk_rI, tk_rL, Option.bind_some, Option.map_some, rv_lt, tk_ix, z0, z1, z2, z3, z4, z5, z6, z7, z8, z9, z10, z11, z12, z13, z15, z16, z17, z18, z20, z21, z23, z24, z25, z31, z32, z39, z40, z41, z46, z48, z50, z57, z59, z60, z61, z62, z63, z64, z97, z98, z99, z100, z101, z102, z103, z104, z105, z106, z107, z108, z109, z110, z111, z112, z113, z114, z115, z116, z117, z118, z119, z120, z121, z122, z128, z132, z200, z240, z255, z372, z390625, z400, z420, z421, z422, z662, z900, z940, z999, z1000, z1024, z2000, z5860, z10000, z12345, z15625, z266240, z1048575, z1064960, z1103515245, z_m1, rc_111 hB, ← eS1])); first | rw [Option.bind_some] | rw [bp_s] | rw [if_true] | rw [if_false] | rw [rv_lt_eq] | rw [if_pos (by omega)] | rw [if_neg (by omega)])
          rfl
        · have eq : nI (ow m c) = nI w := by rw [hne]
          have mo := m_ow (n := n) hB6 hM6 (c := c) (by omega)
          rw [fnX13_hands]
          repeat (first | (conv => (lhs; arg 1; simp (disch := first | assumption | omega) only [tk_gI, tk_gL, tk_gR, tk_pI, tk_pL, rv_aI, rv_aL, rv_aR, rv_uI, rv_uL, rv_uB, rv_uZ, pu_ckI, pu_ckL, pu_lnI, pu_lnL, tk_rI, tk_rL, Option.bind_some, Option.map_some, rv_lt, tk_ix, z0, z1, z2, z3, z4, z5, z6, z7, z8, z9, z10, z11, z12, z13, z15, z16, z17, z18, z20, z21, z23, z24, z25, z31, z32, z39, z40, z41, z46, z48, z50, z57, z59, z60, z61, z62, z63, z64, z97, z98, z99, z100, z101, z102, z103, z104, z105, z106, z107, z108, z109, z110, z111, z112, z113, z114, z115, z116, z117, z118, z119, z120, z121, z122, z128, z132, z200, z240, z255, z372, z390625, z400, z420, z421, z422, z662, z900, z940, z999, z1000, z1024, z2000, z5860, z10000, z12345, z15625, z266240, z1048575, z1064960, z1103515245, z_m1, n_le, n_lt, n_eq, n_bit0, n_bit1, n_sbit0, n_shl, z_ltM, z_Mlt, z_leM, z_Mle, z_eqM, z_Meq, bI0, bI1, bI_01, bI_01t, bI_10, bI_10f, if_true, if_false, eq_self, reduceCtorEq, rc_189 hB1, e6, rc_189 hB6, m_isCoin hB6 hM6 hc hcc, m_isWho hB6 hM6 hp hw, mo, ← eS7])); first | rw [Option.bind_some] | rw [bp_s] | rw [if_true] | rw [if_false] | rw [rv_lt_eq] | rw [if_pos (by omega)] | rw [if_neg (by omega)])
          rfl
      · obtain ⟨s0, es0⟩ : ∃ s0 : St, s0 = (ow m c, rl m c) := ⟨_, rfl⟩
        have hs0 : okS m s0 := by rw [es0]; exact ⟨ho, hl⟩
        have h0 : s0.2.length ≤ vN m := by rw [es0]; exact ln
        obtain ⟨kf, kn⟩ := k_goTo (n := n) hn hB hR hk hcc hw hne es0 hs0 h0
        have ne : ¬ nI (ow m c) = nI w := by rw [n_eq (by omega) (by omega)]; exact hne
        have ref : ∀ S1 S6 r S7, rv_B S1 → fnX13_lay n (rv_sI S1 189 0 (nI 0)) 189 = some S6 → rv_B S6 → MR S6 m → (rv_bp (fnX13_reach n S6 189 (nI c) (nI w) (-1)) fun x32_ S33_ => if x32_ = (-1 : Int32) then some ((-1 : Int32), S33_) else cX13_hands_60 n n S33_ 189 (0 : Int32) x32_ x32_) = some (r, S7) → fnX13_hands n S1 189 (nI c) (nI w) = some (r, S7) := fun S1 S6 r S7 hB1 e6 hB6 hM6 e => by
          have mo := m_ow (n := n) hB6 hM6 (c := c) (by omega)
          rw [fnX13_hands]
          repeat (first | (conv => (lhs; arg 1; simp (disch := first | assumption | omega) only [tk_gI, tk_gL, tk_gR, tk_pI, tk_pL, rv_aI, rv_aL, rv_aR, rv_uI, rv_uL, rv_uB, rv_uZ, pu_ckI, pu_ckL, pu_lnI, pu_lnL, tk_rI, tk_rL, Option.bind_some, Option.map_some, rv_lt, tk_ix, z0, z1, z2, z3, z4, z5, z6, z7, z8, z9, z10, z11, z12, z13, z15, z16, z17, z18, z20, z21, z23, z24, z25, z31, z32, z39, z40, z41, z46, z48, z50, z57, z59, z60, z61, z62, z63, z64, z97, z98, z99, z100, z101, z102, z103, z104, z105, z106, z107, z108, z109, z110, z111, z112, z113, z114, z115, z116, z117, z118, z119, z120, z121, z122, z128, z132, z200, z240, z255, z372, z390625, z400, z420, z421, z422, z662, z900, z940, z999, z1000, z1024, z2000, z5860, z10000, z12345, z15625, z266240, z1048575, z1064960, z1103515245, z_m1, n_le, n_lt, n_eq, n_bit0, n_bit1, n_sbit0, n_shl, z_ltM, z_Mlt, z_leM, z_Mle, z_eqM, z_Meq, bI0, bI1, bI_01, bI_01t, bI_10, bI_10f, if_true, if_false, eq_self, reduceCtorEq, rc_189 hB1, e6, rc_189 hB6, m_isCoin hB6 hM6 hc hcc, m_isWho hB6 hM6 hp hw, mo])); first | rw [Option.bind_some] | rw [bp_s] | rw [if_true] | rw [if_false] | rw [rv_lt_eq] | rw [if_pos (by omega)] | rw [if_neg (by omega)])
          exact e
        rcases bfs_end hk hs0 h0 (fun i => gok m ((bfs m s0 i).2.1 i) w) with ⟨h, hh, hit, hb, hno⟩ | ⟨T, hT, hb, hno⟩
        · obtain ⟨K, -, hK⟩ := Chn_ex (BI_P hb.1) (h + 1) h (Nat.lt_succ_self h) hh
          have xe : ∀ i, i < h → (bfs m s0 h).2.1 i = (bfs m s0 i).2.1 i := fun i hi => by
            have := (bfs_ext (m := m) s0 i (h - i)).2 i (hno i hi).2
            rw [show i + (h - i) = h by omega] at this
            exact this.1
          have short' := BS_short hk hs0 h0 hw hb hh hK hit fun i hi => by rw [xe i hi]; exact (hno i hi).1
          obtain ⟨S1, e1, f1, g1, g2, g3⟩ := kf h K hh hit hb hno hK short'
          have hB1 := f1.B hB
          have R1 := CR_K hR f1 rfl
          obtain ⟨S6, e6, hB6, f6, hM6, r6', b6⟩ := start_ok (n := n) (by omega) hB1 (hL.f f1 rfl rfl)
          obtain ⟨mf, -⟩ := m_handsW (n := n) hn hB6 hM6 hk hcc hw hne es0 hs0 h0
          obtain ⟨S7, e7, f7, v1, v2, v3⟩ := mf h K hh hit hb hno hK short'
          have fz : rvf ([189000, 189022, 191] ++ (RD ++ [208, 189036])) S1 S7 := (f6.mono rfl).tr (f7.mono rfl)
          refine ⟨nI (K + 1), S1, S7, cls _ _ e1, ref S1 S6 _ S7 hB1 e6 hB6 hM6 e7, QD.two hV f1 fz rfl rfl (by decide) (by decide) R1 (hM6.f f7 rfl) (by rw [f7.at (a := 189) (k := 22) rfl]; exact b6) hk rfl rfl (r6'.tr (R42.of f7 rfl)), ⟨K + 1, by omega, (fz.at (a := 111) (k := 5) rfl).trans g1, v1, fun j hj => ?_⟩⟩
          rw [fz.row rfl rfl]
          by_cases e : j = K
          · rw [e, g2, v2]
          · rw [g3 j (by omega), v3 j (by omega)]
        · obtain ⟨S1, e1, f1⟩ := kn T hT hb hno
          have hB1 := f1.B hB
          have R1 := CR_K hR f1 rfl
          obtain ⟨S6, e6, hB6, f6, hM6, r6', b6⟩ := start_ok (n := n) (by omega) hB1 (hL.f f1 rfl rfl)
          obtain ⟨-, mn⟩ := m_handsW (n := n) hn hB6 hM6 hk hcc hw hne es0 hs0 h0
          obtain ⟨S7, e7, f7⟩ := mn T hT hb hno
          have fz : rvf ([189000, 189022, 191] ++ RD) S1 S7 := (f6.mono rfl).tr (f7.mono rfl)
          exact ⟨iM, S1, S7, cls _ _ e1, ref S1 S6 _ S7 hB1 e6 hB6 hM6 e7, QD.two hV f1 fz rfl rfl (by decide) (by decide) R1 (hM6.f f7 rfl) (by rw [f7.at (a := 189) (k := 22) rfl]; exact b6) hk rfl rfl (r6'.tr (R42.of f7 rfl)), (hH.f f1 rfl rfl rfl rfl).f fz rfl rfl rfl rfl⟩
    · refine bad ?_ fun S6 e6 hB6 hM6 => ?_
      · rw [fnX12_hands]
        repeat (first | (conv => (lhs; arg 1; simp (disch := first | assumption | omega) only [tk_gI, tk_gL, tk_gR, tk_pI, tk_pL, rv_aI, rv_aL, rv_aR, rv_uI, rv_uL, rv_uB, rv_uZ, pu_ckI, pu_ckL, pu_lnI, pu_lnL, tk_rI, tk_rL, Option.bind_some, Option.map_some, rv_lt, tk_ix, z0, z1, z2, z3, z4, z5, z6, z7, z8, z9, z10, z11, z12, z13, z15, z16, z17, z18, z20, z21, z23, z24, z25, z31, z32, z39, z40, z41, z46, z48, z50, z57, z59, z60, z61, z62, z63, z64, z97, z98, z99, z100, z101, z102, z103, z104, z105, z106, z107, z108, z109, z110, z111, z112, z113, z114, z115, z116, z117, z118, z119, z120, z121, z122, z128, z132, z200, z240, z255, z372, z390625, z400, z420, z421, z422, z662, z900, z940, z999, z1000, z1024, z2000, z5860, z10000, z12345, z15625, z266240, z1048575, z1064960, z1103515245, z_m1, n_le, n_lt, n_eq, n_bit0, n_bit1, n_sbit0, n_shl, z_ltM, z_Mlt, z_leM, z_Mle, z_eqM, z_Meq, bI0, bI1, bI_01, bI_01t, bI_10, bI_10f, if_true, if_false, eq_self, reduceCtorEq, hC, k1, k_isWho0 hB hR hy])); first | rw [Option.bind_some] | rw [bp_s] | rw [if_true] | rw [if_false] | rw [rv_lt_eq] | rw [if_pos (by omega)] | rw [if_neg (by omega)])
        all_goals rfl
      · rw [fnX13_hands]
        repeat (first | (conv => (lhs; arg 1; simp (disch := first | assumption | omega) only [tk_gI, tk_gL, tk_gR, tk_pI, tk_pL, rv_aI, rv_aL, rv_aR, rv_uI, rv_uL, rv_uB, rv_uZ, pu_ckI, pu_ckL, pu_lnI, pu_lnL, tk_rI, tk_rL, Option.bind_some, Option.map_some, rv_lt, tk_ix, z0, z1, z2, z3, z4, z5, z6, z7, z8, z9, z10, z11, z12, z13, z15, z16, z17, z18, z20, z21, z23, z24, z25, z31, z32, z39, z40, z41, z46, z48, z50, z57, z59, z60, z61, z62, z63, z64, z97, z98, z99, z100, z101, z102, z103, z104, z105, z106, z107, z108, z109, z110, z111, z112, z113, z114, z115, z116, z117, z118, z119, z120, z121, z122, z128, z132, z200, z240, z255, z372, z390625, z400, z420, z421, z422, z662, z900, z940, z999, z1000, z1024, z2000, z5860, z10000, z12345, z15625, z266240, z1048575, z1064960, z1103515245, z_m1, n_le, n_lt, n_eq, n_bit0, n_bit1, n_sbit0, n_shl, z_ltM, z_Mlt, z_leM, z_Mle, z_eqM, z_Meq, bI0, bI1, bI_01, bI_01t, bI_10, bI_10f, if_true, if_false, eq_self, reduceCtorEq, rc_189 hB, e6, rc_189 hB6, m_isCoin hB6 hM6 hc hcc, m_isWho0 hB6 hM6 hy])); first | rw [Option.bind_some] | rw [bp_s] | rw [if_true] | rw [if_false] | rw [rv_lt_eq] | rw [if_pos (by omega)] | rw [if_neg (by omega)])
        all_goals rfl
  · refine bad ?_ fun S6 e6 hB6 hM6 => ?_
    · rw [fnX12_hands]
      repeat (first | (conv => (lhs; arg 1; simp (disch := first | assumption | omega) only [tk_gI, tk_gL, tk_gR, tk_pI, tk_pL, rv_aI, rv_aL, rv_aR, rv_uI, rv_uL, rv_uB, rv_uZ, pu_ckI, pu_ckL, pu_lnI, pu_lnL, tk_rI, tk_rL, Option.bind_some, Option.map_some, rv_lt, tk_ix, z0, z1, z2, z3, z4, z5, z6, z7, z8, z9, z10, z11, z12, z13, z15, z16, z17, z18, z20, z21, z23, z24, z25, z31, z32, z39, z40, z41, z46, z48, z50, z57, z59, z60, z61, z62, z63, z64, z97, z98, z99, z100, z101, z102, z103, z104, z105, z106, z107, z108, z109, z110, z111, z112, z113, z114, z115, z116, z117, z118, z119, z120, z121, z122, z128, z132, z200, z240, z255, z372, z390625, z400, z420, z421, z422, z662, z900, z940, z999, z1000, z1024, z2000, z5860, z10000, z12345, z15625, z266240, z1048575, z1064960, z1103515245, z_m1, n_le, n_lt, n_eq, n_bit0, n_bit1, n_sbit0, n_shl, z_ltM, z_Mlt, z_leM, z_Mle, z_eqM, z_Meq, bI0, bI1, bI_01, bI_01t, bI_10, bI_10f, if_true, if_false, eq_self, reduceCtorEq, hC, k_isCoin0 hB hR hx])); first | rw [Option.bind_some] | rw [bp_s] | rw [if_true] | rw [if_false] | rw [rv_lt_eq] | rw [if_pos (by omega)] | rw [if_neg (by omega)])
      all_goals rfl
    · rw [fnX13_hands]
      repeat (first | (conv => (lhs; arg 1; simp (disch := first | assumption | omega) only [tk_gI, tk_gL, tk_gR, tk_pI, tk_pL, rv_aI, rv_aL, rv_aR, rv_uI, rv_uL, rv_uB, rv_uZ, pu_ckI, pu_ckL, pu_lnI, pu_lnL, tk_rI, tk_rL, Option.bind_some, Option.map_some, rv_lt, tk_ix, z0, z1, z2, z3, z4, z5, z6, z7, z8, z9, z10, z11, z12, z13, z15, z16, z17, z18, z20, z21, z23, z24, z25, z31, z32, z39, z40, z41, z46, z48, z50, z57, z59, z60, z61, z62, z63, z64, z97, z98, z99, z100, z101, z102, z103, z104, z105, z106, z107, z108, z109, z110, z111, z112, z113, z114, z115, z116, z117, z118, z119, z120, z121, z122, z128, z132, z200, z240, z255, z372, z390625, z400, z420, z421, z422, z662, z900, z940, z999, z1000, z1024, z2000, z5860, z10000, z12345, z15625, z266240, z1048575, z1064960, z1103515245, z_m1, n_le, n_lt, n_eq, n_bit0, n_bit1, n_sbit0, n_shl, z_ltM, z_Mlt, z_leM, z_Mle, z_eqM, z_Meq, bI0, bI1, bI_01, bI_01t, bI_10, bI_10f, if_true, if_false, eq_self, reduceCtorEq, rc_189 hB, e6, rc_189 hB6, m_isCoin0 hB6 hM6 hx])); first | rw [Option.bind_some] | rw [bp_s] | rw [if_true] | rw [if_false] | rw [rv_lt_eq] | rw [if_pos (by omega)] | rw [if_neg (by omega)])
      all_goals rfl
end
