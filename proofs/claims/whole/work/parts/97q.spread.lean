/-! THE SEARCH: the class's -/
section
variable {n : Nat} {S : rvS} {m : Nat → Nat} {s0 : St}
abbrev KD : List Nat := [112, 114]
def inK (W : Nat) (c : Cf) (x : Nat) : Bool := ex (fun i => decide (kcs W (c.2.1 i) = x)) c.1
theorem inK_iff {W : Nat} {c : Cf} {x : Nat} : inK W c x = true ↔ ∃ i, i < c.1 ∧ kcs W (c.2.1 i) = x := by
  rw [inK, ex_iff]
  constructor
  · rintro ⟨i, h1, h2⟩; exact ⟨i, h1, of_decide_eq_true h2⟩
  · rintro ⟨i, h1, h2⟩; exact ⟨i, h1, decide_eq_true h2⟩
theorem inK_C {c : Cf} (hb : BI m s0 c) {s : St} (hs : okS m s) : inK (vW m) c (kcs (vW m) s) = inC c s := by
  refine Bool.eq_iff_iff.mpr ?_
  rw [inK_iff, inC_iff]
  constructor
  · rintro ⟨i, h1, h2⟩; exact ⟨i, h1, kc_inj (hb.2.2.2.1 i h1).1 hs h2⟩
  · rintro ⟨i, h1, h2⟩; exact ⟨i, h1, by rw [h2]⟩
theorem inK_push {W : Nat} {c : Cf} {s : St} {h x : Nat} : inK W (pushC c s h) x = (inK W c x || decide (x = kcs W s)) := by
  refine Bool.eq_iff_iff.mpr ?_
  obtain ⟨-, x2⟩ := push_ext c s h
  obtain ⟨y1, -⟩ := push_new c s h
  rw [inK_iff, Bool.or_eq_true, inK_iff, decide_eq_true_eq]
  constructor
  · rintro ⟨i, h1, h2⟩
    have h1 : i < c.1 + 1 := h1
    by_cases e : i = c.1
    · rw [e, y1] at h2; exact Or.inr h2.symm
    · rw [(x2 i (by omega)).1] at h2; exact Or.inl ⟨i, by omega, h2⟩
  · rintro (⟨i, h1, h2⟩ | h2)
    · exact ⟨i, by show i < c.1 + 1; omega, by rw [(x2 i h1).1]; exact h2⟩
    · exact ⟨c.1, by show c.1 < c.1 + 1; omega, by rw [y1]; exact h2.symm⟩
/-- the class's queue and what it has seen -/
def KQ (S : rvS) (m : Nat → Nat) (c : Cf) : Prop := S.2.1 111 3 = nI (vW m) ∧ (∀ i, i < c.1 → S.2.2.1 114 i = lN (sB (c.2.1 i).1 (c.2.1 i).2 + c.2.2 i * 1048576)) ∧ SN S 112 (kMs (vW m)) (inK (vW m) c)
theorem KQ.f {D : List Nat} {S' : rvS} {c : Cf} (h : KQ S m c) (f : rvf D S S') (h1 : D.elem 111003 = false) (h2 : D.elem 114 = false) (h3 : D.elem 112 = false) : KQ S' m c := ⟨(f.at (a := 111) (k := 3) h1).trans h.1, fun i hi => (f.rowL rfl h2 i).trans (h.2.1 i hi), h.2.2.f f rfl h3⟩
theorem KQ_push {S' : rvS} {c : Cf} (hQ : KQ S m c) {h : Nat} {s : St} (f : rvf [112] S S') (h1 : SN S' 112 (kMs (vW m)) (fun y => inK (vW m) c y || decide (y = kcs (vW m) s))) : KQ (rv_sL S' 114 c.1 (lN (sB s.1 s.2 + h * 1048576))) m (pushC c s h) := by
  obtain ⟨q1, q2, q3⟩ := hQ
  obtain ⟨-, x2⟩ := push_ext c s h
  obtain ⟨y1, y2⟩ := push_new c s h
  refine ⟨(f.at (a := 111) (k := 3) rfl).trans q1, fun i hi => ?_, fun k hk => ?_⟩
  · have hi : i < c.1 + 1 := hi
    by_cases e : i = c.1
    · rw [e, rv_sL_eq, y1, y2]
    · rw [rv_sL_k _ _ e, (x2 i (by omega)).1, (x2 i (by omega)).2, f.rowL rfl rfl]
      exact q2 i (by omega)
  · rw [rv_sL_a _ _ _ (by decide), h1 k hk]
    exact congrArg lN (bs_cong fun i _ => inK_push.symm)
theorem qval {h r j : Nat} (hh : h < 266240) (hr : r < 32768) (hj : j < 32) : ((nI h).toInt64 <<< ((20 : Int32).toInt64 &&& 63) ||| (nI (32 * r)).toInt64) ||| (nI j).toInt64 = lN (j + 32 * r + h * 1048576) := by
  rw [n_l (by omega), n_l (by omega), n_l (by omega), show (20 : Int32) = nI 20 by rw [z20], wb_shl h (by decide)]
  rw [g_or (k := 20) rfl (by omega) (show h * 1048576 + 32 * r < 2 ^ 64 by omega)]
  have := fb_or_sumL (a := j) (k := 5) (h * 32768 + r) hj
  rw [show (2 : Nat) ^ 5 * (h * 32768 + r) = h * 1048576 + 32 * r by omega] at this
  rw [this]
  exact congrArg lN (by omega)
theorem k_sstep (hn : 10 ≤ n) (hB : rv_B S) (hk : okm m) {c : Cf} (hb : BI m s0 c) (hcap : c.1 ≤ 255640) (hQ : KQ S m c) {h j q : Nat} (hh : h < c.1) (hj : j < vW m) (x3 x4 : Int32) (K : Nat → Nat → Int32 → Int32 → Int32 → Int32 → rvS → Option (Int32 × rvS)) {o : Nat} {l : List Nat} (eo : o = (c.2.1 h).1) (el : l = (c.2.1 h).2) (hg : gok m (c.2.1 h) j) : ∃ S', cX2_spread_115 n K (q + 1) S 111 67 x3 x4 (nI c.1) (nI h) (nI (sB 0 (ps m o l))) (nI (k3s (vW m) (ps m o l))) (nI (lb (gs m o l) j)) = cX2_spread_115 n K q S' 111 67 x3 x4 (nI (stp m h c j).1) (nI h) (nI (sB 0 (ps m o l))) (nI (k3s (vW m) (ps m o l))) (nI (lb (gs m o l) (j + 1))) ∧ rvf KD S S' ∧ KQ S' m (stp m h c j) := by
  obtain ⟨hp, hc, hd⟩ := id hk
  have h24 := hp.1
  obtain ⟨ho, hl⟩ := (hb.2.2.2.1 h hh).1
  rw [← eo] at ho
  rw [← el] at hl
  have hg' : wy m o l j = 0 := by rw [eo, el]; exact hg
  have es : nx m (c.2.1 h) j = (j, ps m o l) := by rw [nx, ← eo, ← el]
  have hs : okS m (j, ps m o l) := by rw [← es]; exact nx_ok hk (hb.2.2.2.1 h hh).1 hj
  have hbit : (gs m o l).testBit j = true := by rw [gs_bit hj, decide_eq_true hg']
  have hX31 : gs m o l < 2147483648 := bs_24 _ h24
  obtain ⟨l1, l2⟩ := lb_I hbit hX31
  have ll := lb_lowest n S hbit (by omega)
  have kM' := kM_le h24
  have kl := kc_lt hs
  have hQ3 := hQ.2.2
  have is := k_isIn (n := n) (rn_112 hB) kM' hQ3 (x := kcs (vW m) (j, ps m o l)) (by omega)
  rw [inK_C hb hs] at is
  have estp : stp m h c j = if inC c (j, ps m o l) = true then c else pushC c (j, ps m o l) h := by rw [stp, if_pos hg, es]
  have sm : nI (k3s (vW m) (ps m o l)) + nI j = nI (kcs (vW m) (j, ps m o l)) := nI_add _ _
  have r112 := rf_of hB (show (111, 0, 112) ∈ rv_rf0 by decide)
  have tb : ¬ (266240 : Int32) ≤ nI c.1 := by rw [z266240, n_le (by decide) (by omega)]; omega
  have fl : ∀ (S : rvS) (t : Int32), cX2_spread_186 n K (fun a0 a1 x3 x4 x5 x6 x9 x10 x11 S => cX2_spread_115 n K q S a0 a1 x3 x4 x5 x6 x9 x10 x11) S 111 67 x3 x4 t (nI h) (nI (sB 0 (ps m o l))) (nI (k3s (vW m) (ps m o l))) (nI (lb (gs m o l) j)) = cX2_spread_115 n K q S 111 67 x3 x4 t (nI h) (nI (sB 0 (ps m o l))) (nI (k3s (vW m) (ps m o l))) (nI (lb (gs m o l) (j + 1))) := fun S t => by
    rw [cX2_spread_186, z1, rv_lt, ← z1, l1]
  cases hin : inC c (j, ps m o l)
  · rw [hin] at estp is
    rw [if_neg (by decide)] at estp
    obtain ⟨S1, e1, f1, g1⟩ := k_put (n := n) rfl (rn_112 hB) kM' hQ3 (x := kcs (vW m) (j, ps m o l)) (by omega)
    have hB1 := f1.B hB
    obtain ⟨S2, eS2⟩ : ∃ S2, S2 = rv_sL S1 114 c.1 (lN (sB j (ps m o l) + h * 1048576)) := ⟨_, rfl⟩
    have f2 : rvf KD S1 S2 := by rw [eS2]; exact (rvf.rf _ _).wL rfl rfl
    refine ⟨S2, ?_, (f1.mono rfl).tr f2, by rw [estp, eS2]; exact KQ_push hQ f1 g1⟩
    have rl := (ps_ok hc ho hl).lt hp
    have qv := qval (h := h) (r := rb (ps m o l)) (j := j) (by omega) rl (by omega)
    have sB0 : sB 0 (ps m o l) = 32 * rb (ps m o l) := Nat.zero_add _
    rw [cX2_spread_115, if_neg l2, ll, Option.bind_some, if_neg tb, sm]
    repeat (first | (conv => (lhs; arg 1; simp (disch := first | assumption | omega) only [tk_gI, tk_gL, tk_gR, tk_pI, tk_pL, rv_aI, rv_aL, rv_aR, rv_uI, rv_uL, rv_uB, rv_uZ, pu_ckI, pu_ckL, pu_lnI, pu_lnL, tk_rI, tk_rL, Option.bind_some, Option.map_some, rv_lt, tk_ix, rc_111 hB, r112, is])); first | rw [Option.bind_some] | rw [bp_s] | rw [if_true] | rw [if_false] | rw [rv_lt_eq] | rw [if_pos (by omega)] | rw [if_neg (by omega)])
    rw [bI_f, if_pos (show nI 0 = (0 : Int32) from rfl), z1]
    repeat (first | (conv => (lhs; arg 1; simp (disch := first | assumption | omega) only [tk_gI, tk_gL, tk_gR, tk_pI, tk_pL, rv_aI, rv_aL, rv_aR, rv_uI, rv_uL, rv_uB, rv_uZ, pu_ckI, pu_ckL, pu_lnI, pu_lnL, tk_rI, tk_rL, Option.bind_some, Option.map_some, rv_lt, tk_ix, rc_111 hB, r112, e1, rc_111 hB1, rf_of hB1 (show (111, 2, 114) ∈ rv_rf0 by decide), rn_114 hB1])); first | rw [Option.bind_some] | rw [bp_s] | rw [if_true] | rw [if_false] | rw [rv_lt_eq] | rw [if_pos (by omega)] | rw [if_neg (by omega)])
    rw [fl, nI_add, sB0, qv, estp, eS2]
    rfl
  · rw [hin] at estp is
    rw [if_pos rfl] at estp
    refine ⟨S, ?_, rvf.rf _ _, by rw [estp]; exact hQ⟩
    rw [estp, cX2_spread_115, if_neg l2, ll, Option.bind_some, if_neg tb, sm]
    repeat (first | (conv => (lhs; arg 1; simp (disch := first | assumption | omega) only [tk_gI, tk_gL, tk_gR, tk_pI, tk_pL, rv_aI, rv_aL, rv_aR, rv_uI, rv_uL, rv_uB, rv_uZ, pu_ckI, pu_ckL, pu_lnI, pu_lnL, tk_rI, tk_rL, Option.bind_some, Option.map_some, rv_lt, tk_ix, rc_111 hB, r112, is])); first | rw [Option.bind_some] | rw [bp_s] | rw [if_true] | rw [if_false] | rw [rv_lt_eq] | rw [if_pos (by omega)] | rw [if_neg (by omega)])
    rw [bI_t, if_neg (by decide), fl]
theorem k_sloop (hn : 10 ≤ n) (hB : rv_B S) (hk : okm m) (h0 : s0.2.length ≤ vN m) {c : Cf} (hb : BI m s0 c) (hQ : KQ S m c) {h : Nat} (hh : h < c.1) (x3 x4 : Int32) (K : Nat → Nat → Int32 → Int32 → Int32 → Int32 → rvS → Option (Int32 × rvS)) {o : Nat} {l : List Nat} (eo : o = (c.2.1 h).1) (el : l = (c.2.1 h).2) : ∀ r q j (S1 : rvS), j + r = vW m → r < q → rvf KD S S1 → KQ S1 m (exl m h c j) → ∃ S', cX2_spread_115 n K q S1 111 67 x3 x4 (nI (exl m h c j).1) (nI h) (nI (sB 0 (ps m o l))) (nI (k3s (vW m) (ps m o l))) (nI (lb (gs m o l) j)) = K 111 67 x3 x4 (nI (exl m h c (vW m)).1) (nI (h + 1)) S' ∧ rvf KD S S' ∧ KQ S' m (exl m h c (vW m)) := by
  have h24 := hk.1.1
  have hX : gs m o l < 2 ^ vW m := bs_lt _ _
  intro r
  induction r with
  | zero =>
    intro q j S1 hj hq f hQ1
    obtain ⟨q, rfl⟩ : ∃ q', q = q' + 1 := ⟨q - 1, by omega⟩
    have e : j = vW m := by omega
    subst e
    refine ⟨S1, ?_, f, hQ1⟩
    rw [lb_end hX, cX2_spread_115, if_pos (show nI 0 = (0 : Int32) from rfl), rv_lt, z1, nI_add]
  | succ r ih =>
    intro q j S1 hj hq f hQ1
    obtain ⟨q, rfl⟩ : ∃ q', q = q' + 1 := ⟨q - 1, by omega⟩
    have hjW : j < vW m := by omega
    have hh1 : h < (exl m h c j).1 := Nat.lt_of_lt_of_le hh (exl_ext h c j).1
    have eq := exl_Q (m := m) hh j
    by_cases hg : gok m (c.2.1 h) j
    · obtain ⟨S2, e2, f2, Q2⟩ := k_sstep (n := n) (q := q) hn (f.B hB) hk (exl_BI hk hh hb j (by omega)) (exl_cap hk h0 hh hb (by omega)) hQ1 hh1 hjW x3 x4 K (o := o) (l := l) (by rw [eq]; exact eo) (by rw [eq]; exact el) (by rw [eq]; exact hg)
      obtain ⟨S3, e3, f3, Q3⟩ := ih q (j + 1) S2 (by omega) (by omega) (f.tr f2) Q2
      exact ⟨S3, e2.trans e3, f3, Q3⟩
    · have hbit : (gs m o l).testBit j = false := by
        rw [gs_bit hjW, decide_eq_false]
        rw [eo, el]; exact hg
      have es : exl m h c (j + 1) = exl m h c j := by
        rw [exl, stp, eq, if_neg hg]
      rw [lb_no hbit, ← es]
      exact ih (q + 1) (j + 1) S1 (by omega) (by omega) f (by rw [es]; exact hQ1)
theorem k_shead (hn : 50 ≤ n) (hB : rv_B S) (hR : CR S 67 m) (hk : okm m) (h0 : s0.2.length ≤ vN m) {c : Cf} (hb : BI m s0 c) (hcap : c.1 ≤ 255640) (hQ : KQ S m c) {h q w : Nat} (hh : h < c.1) (hP : c.2.2 h ≤ h) (hw : w < vW m) (x4 : Int32) {o : Nat} {l : List Nat} (eo : o = (c.2.1 h).1) (el : l = (c.2.1 h).2) :
    (gok m (c.2.1 h) w ∧ (x4 = iM ∨ nI (sB w (ps m o l)) = x4) → cX2_spread_32 n (q + 1) S 111 67 (nI w) x4 (nI c.1) (nI h) = some (nI h, S)) ∧
    (¬ (gok m (c.2.1 h) w ∧ (x4 = iM ∨ nI (sB w (ps m o l)) = x4)) → ∃ S', cX2_spread_32 n (q + 1) S 111 67 (nI w) x4 (nI c.1) (nI h) = cX2_spread_32 n q S' 111 67 (nI w) x4 (nI (exl m h c (vW m)).1) (nI (h + 1)) ∧ rvf KD S S' ∧ KQ S' m (exl m h c (vW m))) := by
  obtain ⟨hp, hc, hd⟩ := id hk
  have h24 := hp.1
  obtain ⟨ho, hl⟩ := (hb.2.2.2.1 h hh).1
  have q114 := hQ.2.1 h hh
  rw [← eo, ← el] at q114
  rw [← eo] at ho
  rw [← el] at hl
  have hv : vb 67 := Or.inl rfl
  have sl := sB_lt hp ho hl
  have msk : (lN (sB o l + c.2.2 h * 1048576)).toInt32 &&& (1048575 : Int32) = nI (sB o l) := by
    have := fa_mask (sB o l + c.2.2 h * 1048576) 20
    rw [show (2 : Nat) ^ 20 = 1048576 by decide] at this
    rw [lN_I, z1048575]
    rw [show (1048576 : Nat) - 1 = 1048575 by decide] at this
    rw [this, Nat.add_mul_mod_self_right, Nat.mod_eq_of_lt sl]
  have kg := k2_goers (n := n) (by omega) hB hv hR hk ho hl
  have ka := k2_after (n := n) hB hv hR hk ho hl (w := 0) (by decide)
  have hps := ps_ok hc ho hl
  have kc := k_codeOf (n := n) (by omega) hB hp hQ.1 (o := 0) (by omega) hps
  have k30 : kcs (vW m) (0, ps m o l) = k3s (vW m) (ps m o l) := Nat.add_zero _
  rw [k30] at kc
  have gb : ((nI (gs m o l)).toUInt32 >>> ((nI w).toUInt32 &&& Int32.toUInt32 31)).toInt32 &&& 1 = 0 ↔ (gs m o l).testBit w = false := z_bit0 (by have := bs_24 (fun w => decide (wy m o l w = 0)) h24; exact Nat.lt_trans this (by decide)) (by omega)
  rw [gs_bit hw] at gb
  have gk : gok m (c.2.1 h) w ↔ wy m o l w = 0 := by rw [eo, el]
  have r114 := rf_of hB (show (111, 2, 114) ∈ rv_rf0 by decide)
  have th : ¬ nI c.1 ≤ nI h := by rw [n_le (by omega) (by omega)]; omega
  have hr : ¬ (266240 : Int32) ≤ nI h := by rw [z266240, n_le (by decide) (by omega)]; omega
  have rl := hps.lt hp
  have or_w : nI (sB 0 (ps m o l)) ||| nI w = nI (sB w (ps m o l)) := by
    have := fa_or_sum (a := w) (k := 5) (rb (ps m o l)) (by omega)
    rw [show (2 : Nat) ^ 5 = 32 by decide] at this
    rw [show sB 0 (ps m o l) = 32 * rb (ps m o l) from Nat.zero_add _, this]
    exact congrArg nI (Nat.add_comm _ _)
  have go : ∃ S', cX2_spread_103 n (fun a0 a1 x3 x4 x5 x6 S => cX2_spread_32 n q S a0 a1 x3 x4 x5 x6) S 111 67 (nI w) x4 (nI c.1) (nI h) (nI (gs m o l)) (nI (sB 0 (ps m o l))) = cX2_spread_32 n q S' 111 67 (nI w) x4 (nI (exl m h c (vW m)).1) (nI (h + 1)) ∧ rvf KD S S' ∧ KQ S' m (exl m h c (vW m)) := by
    obtain ⟨S1, e1, f1, Q1⟩ := k_sloop (n := n) (by omega) hB hk h0 hb hQ hh (nI w) x4 (fun a0 a1 x3 x4 x5 x6 S => cX2_spread_32 n q S a0 a1 x3 x4 x5 x6) eo el (vW m) n 0 S (by omega) (by omega) (rvf.rf _ _) hQ
    rw [lb_0] at e1
    refine ⟨S1, ?_, f1, Q1⟩
    rw [cX2_spread_103, rc_111 hB, Option.bind_some, kc, Option.bind_some]
    exact e1
  have top : ∀ R, (if ((nI (gs m o l)).toUInt32 >>> ((nI w).toUInt32 &&& Int32.toUInt32 31)).toInt32 &&& 1 = 0 then cX2_spread_103 n (fun a0 a1 x3 x4 x5 x6 S => cX2_spread_32 n q S a0 a1 x3 x4 x5 x6) S 111 67 (nI w) x4 (nI c.1) (nI h) (nI (gs m o l)) (nI (sB 0 (ps m o l))) else if x4 = -1 then some (nI h, S) else if nI (sB w (ps m o l)) = x4 then some (nI h, S) else cX2_spread_103 n (fun a0 a1 x3 x4 x5 x6 S => cX2_spread_32 n q S a0 a1 x3 x4 x5 x6) S 111 67 (nI w) x4 (nI c.1) (nI h) (nI (gs m o l)) (nI (sB 0 (ps m o l)))) = R → cX2_spread_32 n (q + 1) S 111 67 (nI w) x4 (nI c.1) (nI h) = R := fun R hR => by
    rw [cX2_spread_32, if_neg th, if_neg hr]
    repeat (first | (conv => (lhs; arg 1; simp (disch := first | assumption | omega) only [tk_gI, tk_gL, tk_gR, tk_pI, tk_pL, rv_aI, rv_aL, rv_aR, rv_uI, rv_uL, rv_uB, rv_uZ, pu_ckI, pu_ckL, pu_lnI, pu_lnL, tk_rI, tk_rL, Option.bind_some, Option.map_some, rv_lt, tk_ix, rc_111 hB, r114, rn_114 hB, q114])); first | rw [Option.bind_some] | rw [bp_s] | rw [if_true] | rw [if_false] | rw [rv_lt_eq] | rw [if_pos (by omega)] | rw [if_neg (by omega)])
    rw [msk, kg, Option.bind_some, z0, ka, Option.bind_some, or_w]
    exact hR
  constructor
  · rintro ⟨h1, h2⟩
    refine top _ ?_
    rw [if_neg (by rw [gb, decide_eq_true (gk.mp h1)]; decide)]
    rcases h2 with h2 | h2
    · rw [if_pos (show x4 = -1 from h2)]
    · by_cases c1 : x4 = -1
      · rw [if_pos c1]
      · rw [if_neg c1, if_pos h2]
  · intro hno
    obtain ⟨S1, e1, f1, Q1⟩ := go
    refine ⟨S1, top _ ?_, f1, Q1⟩
    by_cases g : gok m (c.2.1 h) w
    · rw [if_neg (by rw [gb, decide_eq_true (gk.mp g)]; decide), if_neg (show ¬ x4 = -1 from fun z => hno ⟨g, Or.inl z⟩), if_neg (fun z => hno ⟨g, Or.inr z⟩)]
      exact e1
    · rw [if_pos (by rw [gb]; exact decide_eq_false fun z => g (gk.mpr z))]
      exact e1
end
