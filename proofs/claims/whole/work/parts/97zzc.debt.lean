/-! VALLEY TEXTS: debts read; what lies behind the last coin, the last debt, is not seen -/
section
variable {n : Nat} {C R : rvS} {b : Nat → Nat} {L M a : Nat} {T : Tk} {m m' : Nat → Nat} {wd : Nat → List Nat} {f0 f1 f2 : Bool}
theorem DR.c4 {v : Nat} (h : DR C v m) (e3 : m' 2 = m 2) (e4 : m' 4 = m 4) (e5 : m' 5 = m 5) (e2 : ∀ k, 372 ≤ k → k < 372 + 4 * m 2 → m' k = m k) : DR C v m' := by
  obtain ⟨c1, c2, c3, c4, c5, c6, c7⟩ := h
  have e3 : vD m' = vD m := e3
  have g : ∀ k i, k < vD m → i < 4 → db m' k i = db m k i := fun k i hk hi => e2 _ (by omega) (by have : vD m = m 2 := rfl; omega)
  refine ⟨by rw [e3]; exact c1, ?_, by rw [show vF m' = vF m from e4]; exact c3, by rw [show vL m' = vL m from e5]; exact c4, fun k hk => ?_, fun k hk => ?_, fun k hk => ?_⟩
  · rw [e3, c2]
    exact congrArg nI (bs_cong fun k hk => by rw [g k 3 hk (by decide)])
  · rw [e3] at hk; rw [g k 0 hk (by decide)]; exact c5 k hk
  · rw [e3] at hk; rw [g k 1 hk (by decide)]; exact c6 k hk
  · rw [e3] at hk; rw [g k 2 hk (by decide)]; exact c7 k hk
theorem PR.c4 {p : Nat} (h : PR C p m) (hc : okc m) (e1 : m' 1 = m 1) (e3 : m' 3 = m 3) (e : ∀ k, 132 ≤ k → k < 132 + 6 * m 1 → m' k = m k) : PR C p m' := by
  obtain ⟨b1, b2, b3, b4, b5⟩ := h
  have e1 : vC m' = vC m := e1
  have e3 : vN m' = vN m := e3
  have g : ∀ c i, c < vC m → i < 6 → m' (132 + 6 * c + i) = m (132 + 6 * c + i) := fun c i hc hi => e _ (by omega) (by have : vC m = m 1 := rfl; omega)
  refine ⟨by rw [e1]; exact b1, by rw [e3]; exact b2, fun c hc => ?_, fun c hc => ?_, fun c hc => ?_⟩ <;> rw [e1] at hc
  · rw [show va m' c = va m c from g c 0 hc (by decide)]; exact b3 c hc
  · rw [show ow m' c = ow m c from by have := g c 1 hc (by decide); rwa [c_1 m' c, c_1 m c] at this]; exact b4 c hc
  · have g2 : mn m' c = mn m c := by have := g c 2 hc (by decide); rwa [c_2 m' c, c_2 m c] at this
    have g3 : ∀ i, i < 3 → rm m' c i = rm m c i := fun i hi => by have := g c (3 + i) hc (by omega); rwa [c_3 m' c i, c_3 m c i] at this
    unfold rl
    rw [g2, g3 0 (by decide), g3 1 (by decide), g3 2 (by decide)]; exact b5 c hc
theorem okc.c4 (h : okc m) (e0 : m' 0 = m 0) (e1 : m' 1 = m 1) (e3 : m' 3 = m 3) (e : ∀ k, 132 ≤ k → k < 132 + 6 * m 1 → m' k = m k) : okc m' := by
  obtain ⟨h1, h2, h3⟩ := h
  have e0 : vW m' = vW m := e0
  have e1 : vC m' = vC m := e1
  have e3 : vN m' = vN m := e3
  have g : ∀ c i, c < vC m → i < 6 → m' (132 + 6 * c + i) = m (132 + 6 * c + i) := fun c i hc hi => e _ (by omega) (by have : vC m = m 1 := rfl; omega)
  refine ⟨by rw [e1]; exact h1, by rw [e3]; exact h2, fun c hc => ?_⟩
  rw [e1] at hc
  obtain ⟨g1, g2, g3, g4, g5⟩ := h3 c hc
  have r0 : va m' c = va m c := g c 0 hc (by decide)
  have r1 : ow m' c = ow m c := by have := g c 1 hc (by decide); rwa [c_1 m' c, c_1 m c] at this
  have r2 : mn m' c = mn m c := by have := g c 2 hc (by decide); rwa [c_2 m' c, c_2 m c] at this
  have r3 : ∀ i, i < 3 → rm m' c i = rm m c i := fun i hi => by have := g c (3 + i) hc (by omega); rwa [c_3 m' c i, c_3 m c i] at this
  refine ⟨by rw [r0]; exact g1, by rw [r0]; exact g2, by rw [e0, r1]; exact g3, by rw [e3, r2]; exact g4, fun i hi => ?_⟩
  rw [r2] at hi
  rw [e0, r3 i (by omega)]
  exact g5 i hi
theorem okd.c4 (h : okd m) (e0 : m' 0 = m 0) (e2 : m' 2 = m 2) (e4 : m' 4 = m 4) (e5 : m' 5 = m 5) (e6 : m' 6 = m 6) (e : ∀ k, 372 ≤ k → k < 372 + 4 * m 2 → m' k = m k) : okd m' := by
  obtain ⟨h1, h2, h3, h4, h5, h6, h7⟩ := h
  have e0 : vW m' = vW m := e0
  have e2 : vD m' = vD m := e2
  have e4 : vF m' = vF m := e4
  have e5 : vL m' = vL m := e5
  refine ⟨by rw [e2]; exact h1, by rw [e4]; exact h2, by rw [e4]; exact h3, by rw [e5]; exact h4, by rw [e6]; exact h5, by rw [e6, e0]; exact h6, fun k hk => ?_⟩
  rw [e2] at hk
  have g : ∀ i, i < 4 → db m' k i = db m k i := fun i hi => e _ (by omega) (by have : vD m = m 2 := rfl; omega)
  rw [g 0 (by decide), g 1 (by decide), g 2 (by decide), g 3 (by decide), e0]
  exact h7 k hk
/-- what is written behind the last one is not seen -/
theorem DRF.inv (h : DRF C R m wd) {k0 v : Nat} (hk : (132 + 6 * m 1 ≤ k0 ∧ k0 < 372) ∨ 372 + 4 * m 2 ≤ k0) : DRF C (rv_sI R 192 k0 (nI v)) (u1 m k0 v) wd := by
  obtain ⟨⟨hF, hP, hD⟩, d2, d3, d4, d5⟩ := h
  obtain ⟨hp, hc, hd⟩ := id d5.1
  have e : ∀ k, k ≠ k0 → u1 m k0 v k = m k := fun k hk => u1_ne _ _ hk
  have eW : vW (u1 m k0 v) = vW m := e 0 (by omega)
  have hk2 : okm (u1 m k0 v) := ⟨hp.c8 (e 0 (by omega)) (fun k h1 h2 => e k (by omega)), hc.c4 (e 0 (by omega)) (e 1 (by omega)) (e 3 (by omega)) (fun k h1 h2 => e k (by have := hc.1; have : vC m = m 1 := rfl; omega)), hd.c4 (e 0 (by omega)) (e 2 (by omega)) (e 4 (by omega)) (e 5 (by omega)) (e 6 (by omega)) (fun k h1 h2 => e k (by omega))⟩
  refine ⟨⟨hF.c8 hp (e 0 (by omega)) (fun k h1 h2 => e k (by omega)), hP.c4 hc (e 1 (by omega)) (e 3 (by omega)) (fun k h1 h2 => e k (by have := hc.1; have : vC m = m 1 := rfl; omega)), hD.c4 (e 2 (by omega)) (e 4 (by omega)) (e 5 (by omega)) (fun k h1 h2 => e k (by omega))⟩, fun w hw => ?_, rd_u d3 _ _, fun w hw => ?_, d5.same hk2 (e 0 (by omega)) (e 6 (by omega)) (fun k h1 h2 => e k (by omega))⟩
  · rw [eW] at hw; exact d2 w hw
  · rw [eW] at hw; exact d4 w hw
theorem rv_sI_same {S : rvS} {x k : Nat} {v : Int32} (h : S.2.1 x k = v) : rv_sI S x k v = S := by
  unfold rv_sI
  have e : (fun y j => if y = x ∧ j = k then v else S.2.1 y j) = S.2.1 := funext fun y => funext fun j => by
    by_cases c : y = x ∧ j = k
    · rw [if_pos c, c.1, c.2, h]
    · rw [if_neg c]
  rw [e]
theorem vt_inv (h : VT C R a b L M T m wd) {k0 v : Nat} (hk : (132 + 6 * m 1 ≤ k0 ∧ k0 < 372) ∨ 372 + 4 * m 2 ≤ k0) : VT C (rv_sI R 192 k0 (nI v)) a b L M T (u1 m k0 v) wd := ⟨h.1.fr (rvf.sIr R (a := 192) k0 (nI v) rfl) rfl, h.2.1, h.2.2.inv hk⟩
/-- debts -/
theorem vt_debt (hn : 1000 ≤ n) (h : VT C R a b L M T m wd) (hf : FLG C R a f0 f1 f2) (kd : T.2.2.1 = 2) : RES C R a b L M T.2.1 (fnX10_readDebt n C a) (fnX13_readOwes n R 189) (fun R' => some (1, R')) := by
  obtain ⟨hK, ha, hD⟩ := id h
  obtain ⟨hB, hB2, hTC, hTR, hC, hR, hT, hL⟩ := id hK
  have ck := ha.ck
  have r0 := ha.2.2.2.1
  have r1 := ha.2.2.2.2
  have c65 := rc_65 hB
  have hv : vb 87 := Or.inr (Or.inl rfl)
  have hVS := VS_of hB hv
  obtain ⟨hp, hc, hd⟩ := id hD.2.2.2.2.1
  have h12 := hd.1
  have h12' : m 2 ≤ 12 := h12
  have s6 : C.2.1 87 6 = nI (vD m) := hD.1.2.2.1
  have w2 := hD.2.2.1 2 (by decide)
  have r15 := rf_of hB2 (show (189, 15, 192) ∈ rv_rf0 by decide)
  by_cases c12 : vD m < 12
  · have c12' : m 2 < 12 := c12
    have n12 : ¬ nI (m 2) = nI 12 := fun z => by
      rw [n_eq (by omega) (by omega)] at z
      have : vD m = m 2 := rfl
      omega
    obtain ⟨C2, R2, T2, e3, e4, fa2, fr2, h2, nxh2⟩ := vt_next (n := n) hn h
    obtain ⟨C3, R3, fa3, fr3, h3⟩ := vt_who (n := n) hn h2
    have ck2 := h2.2.1.ck
    have hB22 := h2.1.2.1
    have pre1 : ∀ X, (rv_bp (fnX10_seesWho n C2 a) fun x17_ S18_ => if x17_ = 0 then some ((0 : Int32), S18_) else (rv_gI S18_ 9 a 4).bind fun x22_ => (rv_gR S18_ 9 a 0).bind fun a24_ => (rv_ck S18_ 7 a24_).bind fun u26_ => (fnX8_next n S18_ a24_).bind fun S29_ => (rv_ck S29_ 9 a).bind fun u32_ => rv_bp (fnX10_seesWho n S29_ a) fun x35_ S36_ => if x35_ = 0 then some ((0 : Int32), S36_) else (rv_gI S36_ 9 a 4).bind fun x40_ => if x40_ = x22_ then ((rv_gR S36_ 9 a 0).bind fun a71_ => (rv_ck S36_ 7 a71_).bind fun u73_ => rv_bp (fnX8_fail n S36_ a71_ (3 : Int32)) fun x76_ S77_ => (rv_bo x76_).bind fun b_ => some (b_, S77_)) else ((rv_gR S36_ 9 a 0).bind fun a43_ => (rv_ck S36_ 7 a43_).bind fun u45_ => (fnX8_next n S36_ a43_).bind fun S48_ => (rv_ck S48_ 9 a).bind fun u51_ => rv_bp (fnX10_takesNumber n S48_ a (1 : Int32) (999 : Int32)) fun x54_ S55_ => if x54_ = 0 then some ((0 : Int32), S55_) else (rv_gR S55_ 9 a 1).bind fun a59_ => (rv_gI S55_ 9 a 4).bind fun x61_ => (rv_gI S55_ 9 a 3).bind fun x63_ => (rv_ck S55_ 8 a59_).bind fun u65_ => (fnX9_owe n S55_ a59_ x22_ x61_ x63_).bind fun S68_ => some ((1 : Int32), S68_))) = X → fnX10_readDebt n C a = X := fun X hX => by
      rw [fnX10_readDebt]
      repeat (first | (conv => (lhs; arg 1; simp (disch := first | assumption | omega) only [tk_gI, tk_gL, tk_gR, tk_pI, tk_pL, rv_aI, rv_aL, rv_aR, rv_uI, rv_uL, rv_uB, rv_uZ, pu_ckI, pu_ckL, pu_lnI, pu_lnL, tk_rI, tk_rL, Option.bind_some, Option.map_some, rv_lt, tk_ix, ck, r1, hVS, s6])); first | rw [Option.bind_some] | rw [bp_s] | rw [if_true] | rw [if_false] | rw [rv_lt_eq] | rw [if_pos (by omega)] | rw [if_neg (by omega)])
      rw [if_pos (by rw [z12, n_lt (by omega) (by omega)]; exact c12)]
      repeat (first | (conv => (lhs; arg 1; simp (disch := first | assumption | omega) only [tk_gI, tk_gL, tk_gR, tk_pI, tk_pL, rv_aI, rv_aL, rv_aR, rv_uI, rv_uL, rv_uB, rv_uZ, pu_ckI, pu_ckL, pu_lnI, pu_lnL, tk_rI, tk_rL, Option.bind_some, Option.map_some, rv_lt, tk_ix, ck, r0, c65])); first | rw [Option.bind_some] | rw [bp_s] | rw [if_true] | rw [if_false] | rw [rv_lt_eq] | rw [if_pos (by omega)] | rw [if_neg (by omega)])
      rw [e3, Option.bind_some, ck2, Option.bind_some]
      exact hX
    have zb : nI 372 + nI 4 * nI (m 2) = nI (372 + 4 * m 2) := by rw [z_mul, nI_add]
    have ref1 : ∀ X, (rv_bp (fnX13_isToldWho n R2 189) fun x21_ S22_ => if x21_ = 0 then some ((0 : Int32), S22_) else (rv_gR S22_ 11 189 15).bind fun a26_ => (rv_gI S22_ 11 189 13).bind fun x28_ => (rv_uI S22_ a26_ (nI (372 + 4 * m 2)) x28_).bind fun S30_ => (rv_ck S30_ 11 189).bind fun u32_ => (fnX13_go n S30_ 189).bind fun S35_ => (rv_ck S35_ 11 189).bind fun u38_ => rv_bp (fnX13_isToldWho n S35_ 189) fun x41_ S42_ => if x41_ = 0 then some ((0 : Int32), S42_) else (rv_gI S42_ 11 189 13).bind fun x46_ => (rv_gR S42_ 11 189 15).bind fun a48_ => (rv_aI S42_ 0 a48_ (nI (372 + 4 * m 2))).bind fun x50_ => if x46_ = x50_ then ((rv_ck S42_ 11 189).bind fun u89_ => rv_bp (fnX13_bad n S42_ 189 (3 : Int32)) fun x92_ S93_ => (rv_bo x92_).bind fun b_ => some (b_, S93_)) else ((rv_gR S42_ 11 189 15).bind fun a53_ => (rv_gI S42_ 11 189 13).bind fun x55_ => (rv_uI S42_ a53_ (nI (372 + 4 * m 2) + (1 : Int32)) x55_).bind fun S57_ => (rv_ck S57_ 11 189).bind fun u59_ => (fnX13_go n S57_ 189).bind fun S62_ => (rv_ck S62_ 11 189).bind fun u65_ => rv_bp (fnX13_readNumber n S62_ 189 (1 : Int32) (999 : Int32)) fun x68_ S69_ => if x68_ = 0 then some ((0 : Int32), S69_) else (rv_gR S69_ 11 189 15).bind fun a73_ => (rv_gI S69_ 11 189 13).bind fun x75_ => (rv_uI S69_ a73_ (nI (372 + 4 * m 2) + (2 : Int32)) x75_).bind fun S77_ => (rv_gR S77_ 11 189 15).bind fun a79_ => (rv_uI S77_ a79_ (nI (372 + 4 * m 2) + (3 : Int32)) (0 : Int32)).bind fun S81_ => (rv_gR S81_ 11 189 15).bind fun a83_ => (rv_aI S81_ 0 a83_ (2 : Int32)).bind fun x85_ => (rv_uI S81_ a83_ (2 : Int32) (x85_ + (1 : Int32))).bind fun S87_ => some ((1 : Int32), S87_))) = X → fnX13_readOwes n R 189 = X := fun X hX => by
      rw [fnX13_readOwes]
      repeat (first | (conv => (lhs; arg 1; simp (disch := first | assumption | omega) only [tk_gI, tk_gL, tk_gR, tk_pI, tk_pL, rv_aI, rv_aL, rv_aR, rv_uI, rv_uL, rv_uB, rv_uZ, pu_ckI, pu_ckL, pu_lnI, pu_lnL, tk_rI, tk_rL, Option.bind_some, Option.map_some, rv_lt, tk_ix, z2, rc_189 hB2, r15, rn_192 hB2, w2])); first | rw [Option.bind_some] | rw [bp_s] | rw [if_true] | rw [if_false] | rw [rv_lt_eq] | rw [if_pos (by omega)] | rw [if_neg (by omega)])
      rw [if_neg (show ¬ nI (m 2) = 12 by rw [z12]; exact n12), rc_189 hB2, Option.bind_some, e4, Option.bind_some, rc_189 hB22, Option.bind_some, z372, z4, zb]
      exact hX
    rcases h3 with ⟨e5, e6, g⟩ | ⟨x, x2, kd2, e5, e6, g4, g13, h4⟩
    · refine ⟨C3, R3, fa2.v.tr fa3.v, (fr2.mono rfl).tr (fr3.mono rfl), Or.inl ⟨pre1 _ ?_, ref1 _ ?_, g⟩⟩
      · rw [e5, bp_s, if_pos rfl]
      · rw [e6, bp_s, if_pos rfl]
    · obtain ⟨R4, eR4⟩ : ∃ R4, R4 = rv_sI R3 192 (372 + 4 * m 2) (nI x) := ⟨_, rfl⟩
      have fr4 : rvf [192] R3 R4 := by rw [eR4]; exact rvf.sIr _ _ _ rfl
      have h5 : VT C3 R4 a b L M T2 (u1 m (372 + 4 * m 2) x) wd := by rw [eR4]; exact vt_inv h4 (Or.inr (Nat.le_refl _))
      obtain ⟨C5, R5, T5, e7, e8, fa5, fr5, h6, nxh6⟩ := vt_next (n := n) hn h5
      obtain ⟨C6, R6, fa6, fr6, h7⟩ := vt_who (n := n) hn h6
      have ck3 := h4.2.1.ck
      have q03 := h4.2.1.2.2.2.1
      have hB42 := h4.1.2.1
      have r153 := rf_of hB42 (show (189, 15, 192) ∈ rv_rf0 by decide)
      have ck5 := h6.2.1.ck
      have hB62 := h6.1.2.1
      have pre2 : ∀ X, (rv_bp (fnX10_seesWho n C5 a) fun x35_ S36_ => if x35_ = 0 then some ((0 : Int32), S36_) else (rv_gI S36_ 9 a 4).bind fun x40_ => if x40_ = nI x then ((rv_gR S36_ 9 a 0).bind fun a71_ => (rv_ck S36_ 7 a71_).bind fun u73_ => rv_bp (fnX8_fail n S36_ a71_ (3 : Int32)) fun x76_ S77_ => (rv_bo x76_).bind fun b_ => some (b_, S77_)) else ((rv_gR S36_ 9 a 0).bind fun a43_ => (rv_ck S36_ 7 a43_).bind fun u45_ => (fnX8_next n S36_ a43_).bind fun S48_ => (rv_ck S48_ 9 a).bind fun u51_ => rv_bp (fnX10_takesNumber n S48_ a (1 : Int32) (999 : Int32)) fun x54_ S55_ => if x54_ = 0 then some ((0 : Int32), S55_) else (rv_gR S55_ 9 a 1).bind fun a59_ => (rv_gI S55_ 9 a 4).bind fun x61_ => (rv_gI S55_ 9 a 3).bind fun x63_ => (rv_ck S55_ 8 a59_).bind fun u65_ => (fnX9_owe n S55_ a59_ (nI x) x61_ x63_).bind fun S68_ => some ((1 : Int32), S68_))) = X → fnX10_readDebt n C a = X := fun X hX => pre1 X (by
        rw [e5, bp_s, if_neg (by decide)]
        repeat (first | (conv => (lhs; arg 1; simp (disch := first | assumption | omega) only [tk_gI, tk_gL, tk_gR, tk_pI, tk_pL, rv_aI, rv_aL, rv_aR, rv_uI, rv_uL, rv_uB, rv_uZ, pu_ckI, pu_ckL, pu_lnI, pu_lnL, tk_rI, tk_rL, Option.bind_some, Option.map_some, rv_lt, tk_ix, ck3, q03, rc_65 h4.1.1, g4])); first | rw [Option.bind_some] | rw [bp_s] | rw [if_true] | rw [if_false] | rw [rv_lt_eq] | rw [if_pos (by omega)] | rw [if_neg (by omega)])
        rw [e7, Option.bind_some, ck5, Option.bind_some]
        exact hX)
      have ref2 : ∀ X, (rv_bp (fnX13_isToldWho n R5 189) fun x41_ S42_ => if x41_ = 0 then some ((0 : Int32), S42_) else (rv_gI S42_ 11 189 13).bind fun x46_ => (rv_gR S42_ 11 189 15).bind fun a48_ => (rv_aI S42_ 0 a48_ (nI (372 + 4 * m 2))).bind fun x50_ => if x46_ = x50_ then ((rv_ck S42_ 11 189).bind fun u89_ => rv_bp (fnX13_bad n S42_ 189 (3 : Int32)) fun x92_ S93_ => (rv_bo x92_).bind fun b_ => some (b_, S93_)) else ((rv_gR S42_ 11 189 15).bind fun a53_ => (rv_gI S42_ 11 189 13).bind fun x55_ => (rv_uI S42_ a53_ (nI (372 + 4 * m 2) + (1 : Int32)) x55_).bind fun S57_ => (rv_ck S57_ 11 189).bind fun u59_ => (fnX13_go n S57_ 189).bind fun S62_ => (rv_ck S62_ 11 189).bind fun u65_ => rv_bp (fnX13_readNumber n S62_ 189 (1 : Int32) (999 : Int32)) fun x68_ S69_ => if x68_ = 0 then some ((0 : Int32), S69_) else (rv_gR S69_ 11 189 15).bind fun a73_ => (rv_gI S69_ 11 189 13).bind fun x75_ => (rv_uI S69_ a73_ (nI (372 + 4 * m 2) + (2 : Int32)) x75_).bind fun S77_ => (rv_gR S77_ 11 189 15).bind fun a79_ => (rv_uI S77_ a79_ (nI (372 + 4 * m 2) + (3 : Int32)) (0 : Int32)).bind fun S81_ => (rv_gR S81_ 11 189 15).bind fun a83_ => (rv_aI S81_ 0 a83_ (2 : Int32)).bind fun x85_ => (rv_uI S81_ a83_ (2 : Int32) (x85_ + (1 : Int32))).bind fun S87_ => some ((1 : Int32), S87_))) = X → fnX13_readOwes n R 189 = X := fun X hX => ref1 X (by
        rw [e6, bp_s, if_neg (by decide)]
        repeat (first | (conv => (lhs; arg 1; simp (disch := first | assumption | omega) only [tk_gI, tk_gL, tk_gR, tk_pI, tk_pL, rv_aI, rv_aL, rv_aR, rv_uI, rv_uL, rv_uB, rv_uZ, pu_ckI, pu_ckL, pu_lnI, pu_lnL, tk_rI, tk_rL, Option.bind_some, Option.map_some, rv_lt, tk_ix, rc_189 hB42, r153, rn_192 hB42, g13])); first | rw [Option.bind_some] | rw [bp_s] | rw [if_true] | rw [if_false] | rw [rv_lt_eq] | rw [if_pos (by omega)] | rw [if_neg (by omega)])
        rw [← eR4, e8, Option.bind_some, rc_189 hB62, Option.bind_some]
        exact hX)
      have frA : rvf DRv R R5 := (((fr2.mono rfl).tr (fr3.mono rfl)).tr (fr4.mono rfl)).tr (fr5.mono rfl)
      have fcA : rvf (DVc ++ [a]) C C5 := (fa2.v.tr fa3.v).tr fa5.v
      have flA : FLG C5 R5 a f0 f1 f2 := by
        have q := (hf.f fa2 fr2 rfl rfl rfl rfl).f fa3 fr3 rfl rfl rfl rfl
        have q2 : FLG C3 R4 a f0 f1 f2 := ⟨q.1, q.2.1, q.2.2.1, (fr4.at (a := 189) (k := 23) rfl).trans q.2.2.2⟩
        exact q2.f fa5 fr5 rfl rfl rfl rfl
      have lnA : C5.2.1 a 2 = C.2.1 a 2 := (fa5.2.2 2 rfl).trans ((fa3.2.2 2 rfl).trans (fa2.2.2 2 rfl))
      rcases h7 with ⟨e9, e10, g⟩ | ⟨y, y2, kd5, e9, e10, g5, g14, h8⟩
      · refine ⟨C6, R6, fcA.tr fa6.v, frA.tr (fr6.mono rfl), Or.inl ⟨pre2 _ ?_, ref2 _ ?_, g⟩⟩
        · rw [e9, bp_s, if_pos rfl]
        · rw [e10, bp_s, if_pos rfl]
      · have h16 := h4.2.2.2.2.2.2.2.1
        have eW : vW (u1 m (372 + 4 * m 2) x) = vW m := u1_ne _ _ (by omega)
        rw [eW] at y2
        have mb := h8.2.2.2.2.1 (372 + 4 * m 2) (by have : vD m = m 2 := rfl; omega)
        rw [u1_eq] at mb
        have ck6 := h8.2.1.ck
        have q06 := h8.2.1.2.2.2.1
        have hB8 := h8.1.1
        have hB82 := h8.1.2.1
        have r156 := rf_of hB82 (show (189, 15, 192) ∈ rv_rf0 by decide)
        have hlt : 372 + 4 * m 2 + 3 < 420 := by have : vD m = m 2 := rfl; omega
        by_cases cxy : y = x
        · refine vt_bad (n := n) h8 (f := 3) (by decide) (Or.inr ⟨by omega, by omega⟩) (fcA.tr fa6.v) (frA.tr (fr6.mono rfl)) (fun C' e => pre2 _ ?_) (fun R' e => ref2 _ ?_)
          · rw [e9, bp_s, if_neg (by decide)]
            repeat (first | (conv => (lhs; arg 1; simp (disch := first | assumption | omega) only [tk_gI, tk_gL, tk_gR, tk_pI, tk_pL, rv_aI, rv_aL, rv_aR, rv_uI, rv_uL, rv_uB, rv_uZ, pu_ckI, pu_ckL, pu_lnI, pu_lnL, tk_rI, tk_rL, Option.bind_some, Option.map_some, rv_lt, tk_ix, ck6, q06, rc_65 hB8, g5])); first | rw [Option.bind_some] | rw [bp_s] | rw [if_true] | rw [if_false] | rw [rv_lt_eq] | rw [if_pos (by omega)] | rw [if_neg (by omega)])
            rw [if_pos (by rw [cxy])]
            repeat (first | (conv => (lhs; arg 1; simp (disch := first | assumption | omega) only [tk_gI, tk_gL, tk_gR, tk_pI, tk_pL, rv_aI, rv_aL, rv_aR, rv_uI, rv_uL, rv_uB, rv_uZ, pu_ckI, pu_ckL, pu_lnI, pu_lnL, tk_rI, tk_rL, Option.bind_some, Option.map_some, rv_lt, tk_ix, ck6, q06, rc_65 hB8, g5])); first | rw [Option.bind_some] | rw [bp_s] | rw [if_true] | rw [if_false] | rw [rv_lt_eq] | rw [if_pos (by omega)] | rw [if_neg (by omega)])
            rw [z3, e, bp_s]
            rfl
          · rw [e10, bp_s, if_neg (by decide)]
            repeat (first | (conv => (lhs; arg 1; simp (disch := first | assumption | omega) only [tk_gI, tk_gL, tk_gR, tk_pI, tk_pL, rv_aI, rv_aL, rv_aR, rv_uI, rv_uL, rv_uB, rv_uZ, pu_ckI, pu_ckL, pu_lnI, pu_lnL, tk_rI, tk_rL, Option.bind_some, Option.map_some, rv_lt, tk_ix, rc_189 hB82, r156, rn_192 hB82, g14, mb])); first | rw [Option.bind_some] | rw [bp_s] | rw [if_true] | rw [if_false] | rw [rv_lt_eq] | rw [if_pos (by omega)] | rw [if_neg (by omega)])
            rw [if_pos (by rw [cxy]), rc_189 hB82, Option.bind_some, z3, e, bp_s]
            rfl
        · obtain ⟨R7, eR7⟩ : ∃ R7, R7 = rv_sI R6 192 (372 + 4 * m 2 + 1) (nI y) := ⟨_, rfl⟩
          have fr7 : rvf [192] R6 R7 := by rw [eR7]; exact rvf.sIr _ _ _ rfl
          have em2 : u1 m (372 + 4 * m 2) x 2 = m 2 := u1_ne _ _ (by omega)
          have h9 : VT C6 R7 a b L M T5 (u1 (u1 m (372 + 4 * m 2) x) (372 + 4 * m 2 + 1) y) wd := by rw [eR7]; exact vt_inv h8 (Or.inr (by rw [em2]; omega))
          obtain ⟨C8, R8, T8, e11, e12, fa8, fr8, h10, nxh10⟩ := vt_next (n := n) hn h9
          obtain ⟨C9, R9, fa9, fr9, h11⟩ := vt_takes (n := n) hn h10 (lo := 1) (hi := 999) (by decide) (by decide)
          have ck8 := h10.2.1.ck
          have hB102 := h10.1.2.1
          have pre3 : ∀ X, (rv_bp (fnX10_takesNumber n C8 a (1 : Int32) (999 : Int32)) fun x54_ S55_ => if x54_ = 0 then some ((0 : Int32), S55_) else (rv_gR S55_ 9 a 1).bind fun a59_ => (rv_gI S55_ 9 a 4).bind fun x61_ => (rv_gI S55_ 9 a 3).bind fun x63_ => (rv_ck S55_ 8 a59_).bind fun u65_ => (fnX9_owe n S55_ a59_ (nI x) x61_ x63_).bind fun S68_ => some ((1 : Int32), S68_)) = X → fnX10_readDebt n C a = X := fun X hX => pre2 X (by
            rw [e9, bp_s, if_neg (by decide)]
            repeat (first | (conv => (lhs; arg 1; simp (disch := first | assumption | omega) only [tk_gI, tk_gL, tk_gR, tk_pI, tk_pL, rv_aI, rv_aL, rv_aR, rv_uI, rv_uL, rv_uB, rv_uZ, pu_ckI, pu_ckL, pu_lnI, pu_lnL, tk_rI, tk_rL, Option.bind_some, Option.map_some, rv_lt, tk_ix, ck6, q06, rc_65 hB8, g5])); first | rw [Option.bind_some] | rw [bp_s] | rw [if_true] | rw [if_false] | rw [rv_lt_eq] | rw [if_pos (by omega)] | rw [if_neg (by omega)])
            rw [if_neg (by rw [n_eq (by omega) (by omega)]; exact cxy)]
            repeat (first | (conv => (lhs; arg 1; simp (disch := first | assumption | omega) only [tk_gI, tk_gL, tk_gR, tk_pI, tk_pL, rv_aI, rv_aL, rv_aR, rv_uI, rv_uL, rv_uB, rv_uZ, pu_ckI, pu_ckL, pu_lnI, pu_lnL, tk_rI, tk_rL, Option.bind_some, Option.map_some, rv_lt, tk_ix, ck6, q06, rc_65 hB8, g5])); first | rw [Option.bind_some] | rw [bp_s] | rw [if_true] | rw [if_false] | rw [rv_lt_eq] | rw [if_pos (by omega)] | rw [if_neg (by omega)])
            rw [e11, Option.bind_some, ck8, Option.bind_some]
            exact hX)
          have zb1 : nI (372 + 4 * m 2) + (1 : Int32) = nI (372 + 4 * m 2 + 1) := by rw [z1, nI_add]
          have zb2 : nI (372 + 4 * m 2) + (2 : Int32) = nI (372 + 4 * m 2 + 2) := by rw [z2, nI_add]
          have zb3 : nI (372 + 4 * m 2) + (3 : Int32) = nI (372 + 4 * m 2 + 3) := by rw [z3, nI_add]
          have ref3 : ∀ X, (rv_bp (fnX13_readNumber n R8 189 (1 : Int32) (999 : Int32)) fun x68_ S69_ => if x68_ = 0 then some ((0 : Int32), S69_) else (rv_gR S69_ 11 189 15).bind fun a73_ => (rv_gI S69_ 11 189 13).bind fun x75_ => (rv_uI S69_ a73_ (nI (372 + 4 * m 2) + (2 : Int32)) x75_).bind fun S77_ => (rv_gR S77_ 11 189 15).bind fun a79_ => (rv_uI S77_ a79_ (nI (372 + 4 * m 2) + (3 : Int32)) (0 : Int32)).bind fun S81_ => (rv_gR S81_ 11 189 15).bind fun a83_ => (rv_aI S81_ 0 a83_ (2 : Int32)).bind fun x85_ => (rv_uI S81_ a83_ (2 : Int32) (x85_ + (1 : Int32))).bind fun S87_ => some ((1 : Int32), S87_)) = X → fnX13_readOwes n R 189 = X := fun X hX => ref2 X (by
            rw [e10, bp_s, if_neg (by decide)]
            repeat (first | (conv => (lhs; arg 1; simp (disch := first | assumption | omega) only [tk_gI, tk_gL, tk_gR, tk_pI, tk_pL, rv_aI, rv_aL, rv_aR, rv_uI, rv_uL, rv_uB, rv_uZ, pu_ckI, pu_ckL, pu_lnI, pu_lnL, tk_rI, tk_rL, Option.bind_some, Option.map_some, rv_lt, tk_ix, rc_189 hB82, r156, rn_192 hB82, g14, mb])); first | rw [Option.bind_some] | rw [bp_s] | rw [if_true] | rw [if_false] | rw [rv_lt_eq] | rw [if_pos (by omega)] | rw [if_neg (by omega)])
            rw [if_neg (by rw [n_eq (by omega) (by omega)]; exact cxy)]
            repeat (first | (conv => (lhs; arg 1; simp (disch := first | assumption | omega) only [tk_gI, tk_gL, tk_gR, tk_pI, tk_pL, rv_aI, rv_aL, rv_aR, rv_uI, rv_uL, rv_uB, rv_uZ, pu_ckI, pu_ckL, pu_lnI, pu_lnL, tk_rI, tk_rL, Option.bind_some, Option.map_some, rv_lt, tk_ix, zb1, rc_189 hB82, r156, rn_192 hB82, g14, mb])); first | rw [Option.bind_some] | rw [bp_s] | rw [if_true] | rw [if_false] | rw [rv_lt_eq] | rw [if_pos (by omega)] | rw [if_neg (by omega)])
            rw [← eR7, e12, Option.bind_some, rc_189 hB102, Option.bind_some]
            exact hX)
          have frB : rvf DRv R R8 := ((frA.tr (fr6.mono rfl)).tr (fr7.mono rfl)).tr (fr8.mono rfl)
          have fcB : rvf (DVc ++ [a]) C C8 := (fcA.tr fa6.v).tr fa8.v
          rcases h11 with ⟨e13, e14, g⟩ | ⟨v, T9, v1, v2, e13, e14, g6, g15, h12v, nxh12v⟩
          · have e13 : fnX10_takesNumber n C8 a (1 : Int32) (999 : Int32) = some (0, C9) := e13
            have e14 : fnX13_readNumber n R8 189 (1 : Int32) (999 : Int32) = some (0, R9) := e14
            refine ⟨C9, R9, fcB.tr fa9.v, frB.tr (fr9.mono rfl), Or.inl ⟨pre3 _ ?_, ref3 _ ?_, g⟩⟩
            · rw [e13, bp_s, if_pos rfl]
            · rw [e14, bp_s, if_pos rfl]
          · have e13 : fnX10_takesNumber n C8 a (1 : Int32) (999 : Int32) = some (1, C9) := e13
            have e14 : fnX13_readNumber n R8 189 (1 : Int32) (999 : Int32) = some (1, R9) := e14
            obtain ⟨m2, em⟩ : ∃ m2, m2 = u1 (u1 m (372 + 4 * m 2) x) (372 + 4 * m 2 + 1) y := ⟨_, rfl⟩
            rw [← em] at h12v
            have e22 : m2 2 = m 2 := by rw [em, u1_ne _ _ (by omega), u1_ne _ _ (by omega)]
            have eW2 : vW m2 = vW m := by
              show m2 0 = m 0
              rw [em, u1_ne _ _ (by omega), u1_ne _ _ (by omega)]
            have eD2 : vD m2 = vD m := e22
            have d9 := owd_DRF h12v.2.2 (x := x) (y := y) (v := v) (by omega) (by omega) (by omega) (fun z => cxy z.symm) ⟨v1, v2⟩
            have rx : R9.2.1 192 (372 + 4 * m2 2) = nI x := by
              rw [h12v.2.2.2.2.1 _ (by omega), e22, em, u1_ne _ _ (by omega), u1_eq]
            have ry : R9.2.1 192 (372 + 4 * m2 2 + 1) = nI y := by
              rw [h12v.2.2.2.2.1 _ (by omega), e22, em, u1_eq]
            rw [rv_sI_same rx, rv_sI_same ry] at d9
            have ck9 := h12v.2.1.ck
            have q19 := h12v.2.1.2.2.2.2
            have hB9 := h12v.1.1
            have hB92 := h12v.1.2.1
            have hVS9 := VS_of hB9 hv
            have s69 : C9.2.1 87 6 = nI (vD m2) := h12v.2.2.1.2.2.1
            have g49 : C9.2.1 a 4 = nI y := by rw [fa9.2.2 4 rfl, fa8.2.2 4 rfl]; exact g5
            have r159 := rf_of hB92 (show (189, 15, 192) ∈ rv_rf0 by decide)
            have w29 := h12v.2.2.2.2.1 2 (by decide)
            obtain ⟨C10, eC10⟩ : ∃ C10, C10 = rv_sI (rv_sI (rv_sI (rv_sI C9 104 (vD m2) (nI x)) 105 (vD m2) (nI y)) 106 (vD m2) (nI v)) 87 6 (nI (vD m2 + 1)) := ⟨_, rfl⟩
            obtain ⟨R10, eR10⟩ : ∃ R10, R10 = rv_sI (rv_sI (rv_sI R9 192 (372 + 4 * m2 2 + 2) (nI v)) 192 (372 + 4 * m2 2 + 3) (nI 0)) 192 2 (nI (m2 2 + 1)) := ⟨_, rfl⟩
            have fc10 : rvf [87, 104, 105, 106] C9 C10 := by
              rw [eC10]
              exact ((((rvf.sIr C9 _ _ rfl).mono (D' := [87, 104, 105, 106]) rfl).w rfl rfl).w rfl rfl).w rfl rfl
            have fr10 : rvf [192] R9 R10 := by
              rw [eR10]
              exact (((rvf.sIr R9 _ _ rfl).mono (D' := [192]) rfl).w rfl rfl).w rfl rfl
            have i10 : isVT C10 a := h12v.2.1.f fc10 rfl
            have ow : fnX9_owe n C9 87 (nI x) (nI y) (nI v) = some C10 := by
              rw [fnX9_owe]
              repeat (first | (conv => (lhs; arg 1; simp (disch := first | assumption | omega) only [tk_gI, tk_gL, tk_gR, tk_pI, tk_pL, rv_aI, rv_aL, rv_aR, rv_uI, rv_uL, rv_uB, rv_uZ, pu_ckI, pu_ckL, pu_lnI, pu_lnL, tk_rI, tk_rL, Option.bind_some, Option.map_some, rv_lt, tk_ix, hVS9, s69])); first | rw [Option.bind_some] | rw [bp_s] | rw [if_true] | rw [if_false] | rw [rv_lt_eq] | rw [if_pos (by omega)] | rw [if_neg (by omega)])
              rw [if_neg (by rw [z12, n_le (by omega) (by omega)]; omega)]
              repeat (first | (conv => (lhs; arg 1; simp (disch := first | assumption | omega) only [tk_gI, tk_gL, tk_gR, tk_pI, tk_pL, rv_aI, rv_aL, rv_aR, rv_uI, rv_uL, rv_uB, rv_uZ, pu_ckI, pu_ckL, pu_lnI, pu_lnL, tk_rI, tk_rL, Option.bind_some, Option.map_some, rv_lt, tk_ix, hVS9, s69, rv_sI_a, ne_eq, Nat.reduceEqDiff, not_false_eq_true])); first | rw [Option.bind_some] | rw [bp_s] | rw [if_true] | rw [if_false] | rw [rv_lt_eq] | rw [if_pos (by omega)] | rw [if_neg (by omega)])
              rw [z1, nI_add, eC10]
            rw [← eC10, ← eR10] at d9
            refine ⟨C10, R10, (fcB.tr fa9.v).tr (rvfV fc10 rfl), (frB.tr (fr9.mono rfl)).tr (fr10.mono rfl), Or.inr ⟨pre3 _ ?_, ref3 _ ?_, T9, _, _, f0, f1, f2, ⟨(h12v.1.fc fc10 rfl).fr fr10 rfl, i10, d9⟩, ?_, ?_, _, Nat.le_trans nxh2.2.1 (Nat.le_trans nxh6.2.1 nxh10.2.1), nxh12v.2.2, nxh12v.1⟩⟩
            · rw [e13, bp_s, if_neg (by decide)]
              repeat (first | (conv => (lhs; arg 1; simp (disch := first | assumption | omega) only [tk_gI, tk_gL, tk_gR, tk_pI, tk_pL, rv_aI, rv_aL, rv_aR, rv_uI, rv_uL, rv_uB, rv_uZ, pu_ckI, pu_ckL, pu_lnI, pu_lnL, tk_rI, tk_rL, Option.bind_some, Option.map_some, rv_lt, tk_ix, ck9, q19, hVS9, g49, g6])); first | rw [Option.bind_some] | rw [bp_s] | rw [if_true] | rw [if_false] | rw [rv_lt_eq] | rw [if_pos (by omega)] | rw [if_neg (by omega)])
              rw [ow]
              rfl
            · rw [e14, bp_s, if_neg (by decide), zb2, zb3, ← e22]
              have w29' : (rv_sI (rv_sI R9 192 (372 + 4 * m2 2 + 2) (nI v)) 192 (372 + 4 * m2 2 + 3) (nI 0)).2.1 192 2 = nI (m2 2) := by
                rw [rv_sI_k _ _ (by omega), rv_sI_k _ _ (by omega)]; exact w29
              repeat (first | (conv => (lhs; arg 1; simp (disch := first | assumption | omega) only [tk_gI, tk_gL, tk_gR, tk_pI, tk_pL, rv_aI, rv_aL, rv_aR, rv_uI, rv_uL, rv_uB, rv_uZ, pu_ckI, pu_ckL, pu_lnI, pu_lnL, tk_rI, tk_rL, Option.bind_some, Option.map_some, rv_lt, tk_ix, z2, z0, rc_189 hB92, r159, rn_192 hB92, g15, w29'])); first | rw [Option.bind_some] | rw [bp_s] | rw [if_true] | rw [if_false] | rw [rv_lt_eq] | rw [if_pos (by omega)] | rw [if_neg (by omega)])
              rw [z1, nI_add, eR10]
            · have q := ((flA.f fa6 fr6 rfl rfl rfl rfl))
              have q2 : FLG C6 R7 a f0 f1 f2 := ⟨q.1, q.2.1, q.2.2.1, (fr7.at (a := 189) (k := 23) rfl).trans q.2.2.2⟩
              have q3 := (q2.f fa8 fr8 rfl rfl rfl rfl).f fa9 fr9 rfl rfl rfl rfl
              exact ⟨(h12v.2.1.rest fc10 rfl 5).trans q3.1, (h12v.2.1.rest fc10 rfl 6).trans q3.2.1, (h12v.2.1.rest fc10 rfl 7).trans q3.2.2.1, (fr10.at (a := 189) (k := 23) rfl).trans q3.2.2.2⟩
            · rw [h12v.2.1.rest fc10 rfl 2, fa9.2.2 2 rfl, fa8.2.2 2 rfl, fa6.2.2 2 rfl, lnA]
  · have e12 : m 2 = 12 := by have : vD m = m 2 := rfl; omega
    refine vt_bad (n := n) h (f := 4) (by decide) (Or.inr ⟨by omega, by omega⟩) (rvf.rf _ _) (rvf.rf _ _) (fun C' e => ?_) (fun R' e => ?_)
    · rw [fnX10_readDebt]
      repeat (first | (conv => (lhs; arg 1; simp (disch := first | assumption | omega) only [tk_gI, tk_gL, tk_gR, tk_pI, tk_pL, rv_aI, rv_aL, rv_aR, rv_uI, rv_uL, rv_uB, rv_uZ, pu_ckI, pu_ckL, pu_lnI, pu_lnL, tk_rI, tk_rL, Option.bind_some, Option.map_some, rv_lt, tk_ix, ck, r1, hVS, s6])); first | rw [Option.bind_some] | rw [bp_s] | rw [if_true] | rw [if_false] | rw [rv_lt_eq] | rw [if_pos (by omega)] | rw [if_neg (by omega)])
      rw [if_neg (by rw [z12, n_lt (by omega) (by omega)]; exact c12)]
      repeat (first | (conv => (lhs; arg 1; simp (disch := first | assumption | omega) only [tk_gI, tk_gL, tk_gR, tk_pI, tk_pL, rv_aI, rv_aL, rv_aR, rv_uI, rv_uL, rv_uB, rv_uZ, pu_ckI, pu_ckL, pu_lnI, pu_lnL, tk_rI, tk_rL, Option.bind_some, Option.map_some, rv_lt, tk_ix, ck, r0, c65])); first | rw [Option.bind_some] | rw [bp_s] | rw [if_true] | rw [if_false] | rw [rv_lt_eq] | rw [if_pos (by omega)] | rw [if_neg (by omega)])
      rw [z4, e, bp_s]
      rfl
    · rw [fnX13_readOwes]
      repeat (first | (conv => (lhs; arg 1; simp (disch := first | assumption | omega) only [tk_gI, tk_gL, tk_gR, tk_pI, tk_pL, rv_aI, rv_aL, rv_aR, rv_uI, rv_uL, rv_uB, rv_uZ, pu_ckI, pu_ckL, pu_lnI, pu_lnL, tk_rI, tk_rL, Option.bind_some, Option.map_some, rv_lt, tk_ix, z2, rc_189 hB2, r15, rn_192 hB2, w2])); first | rw [Option.bind_some] | rw [bp_s] | rw [if_true] | rw [if_false] | rw [rv_lt_eq] | rw [if_pos (by omega)] | rw [if_neg (by omega)])
      rw [if_pos (show nI (m 2) = 12 by rw [e12, z12]), rc_189 hB2, Option.bind_some, z4, e, bp_s]
      rfl
end
