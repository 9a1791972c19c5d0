/-! VALLEY TEXTS: a coin's line; any line -/
section
variable {n : Nat} {S C R : rvS} {b : Nat → Nat} {L M a : Nat} {T : Tk} {m mc : Nat → Nat} {wd : Nat → List Nat} {f0 f1 f2 : Bool}
theorem k_addP (hB : rv_B C) {c v w : Nat} (h0 : C.2.1 95 0 = nI c) (h40 : c < 40) : fnX6_add n C 95 (nI v) (nI w) = some (nI c, rv_sI (rv_sI (rv_sI (rv_sI C 95 0 (nI (c + 1))) 96 c (nI v)) 97 c (nI w)) 98 c (nI 0)) := by
  have hS := PS_of hB (p := 95) (Or.inr (Or.inl rfl))
  have c95 : rv_ck C 5 95 = some () := hS.1
  have r2 : C.2.2.2 95 2 = some 96 := hS.2.1
  have r3 : C.2.2.2 95 3 = some 97 := hS.2.2.1
  have r4 : C.2.2.2 95 4 = some 98 := hS.2.2.2.1
  have l2 : rv_ln C 0 96 = some 40 := hS.2.2.2.2.1
  have l3 : rv_ln C 0 97 = some 40 := hS.2.2.2.2.2.1
  have l4 : rv_ln C 0 98 = some 40 := hS.2.2.2.2.2.2
  rw [fnX6_add]
  repeat (first | (conv => (lhs; arg 1; simp (disch := first | assumption | omega) only [tk_gI, tk_gL, tk_gR, tk_pI, tk_pL, rv_aI, rv_aL, rv_aR, rv_uI, rv_uL, rv_uB, rv_uZ, pu_ckI, pu_ckL, pu_lnI, pu_lnL, tk_rI, tk_rL, Option.bind_some, Option.map_some, rv_lt, tk_ix, c95, h0])); first | rw [Option.bind_some] | rw [bp_s] | rw [if_true] | rw [if_false] | rw [rv_lt_eq] | rw [if_pos (by omega)] | rw [if_neg (by omega)])
  rw [if_pos (by rw [z40, n_lt (by omega) (by omega)]; exact h40)]
  repeat (first | (conv => (lhs; arg 1; simp (disch := first | assumption | omega) only [tk_gI, tk_gL, tk_gR, tk_pI, tk_pL, rv_aI, rv_aL, rv_aR, rv_uI, rv_uL, rv_uB, rv_uZ, pu_ckI, pu_ckL, pu_lnI, pu_lnL, tk_rI, tk_rL, Option.bind_some, Option.map_some, rv_lt, tk_ix, z0, z1, nI_add, c95, h0, r2, r3, r4, l2, l3, l4])); first | rw [Option.bind_some] | rw [bp_s] | rw [if_true] | rw [if_false] | rw [rv_lt_eq] | rw [if_pos (by omega)] | rw [if_neg (by omega)])
/-- a coin's line -/
theorem vt_coin (hn : 1000 ≤ n) (h : VT C R a b L M T m wd) (hf : FLG C R a f0 f1 f2) (kd : T.2.2.1 = 2) : RES C R a b L M T.2.1 (fnX10_readCoin n C a) (fnX13_readCoin n R 189) (fun R' => some (1, R')) := by
  obtain ⟨hK, ha, hD⟩ := id h
  obtain ⟨hB, hB2, hTC, hTR, hC, hR, hT, hL⟩ := id hK
  have ck := ha.ck
  have r0 := ha.2.2.2.1
  have r1 := ha.2.2.2.2
  have c65 := rc_65 hB
  have hv : vb 87 := Or.inr (Or.inl rfl)
  have hVS := VS_of hB hv
  have h40 : m 1 ≤ 40 := hD.2.2.2.2.1.2.1.1
  have c95 : rv_ck C 5 95 = some () := rc_95 hB
  have s0 : C.2.1 95 0 = nI (m 1) := hD.1.2.1.1
  have w1 := hD.2.2.1 1 (by decide)
  have r15 := rf_of hB2 (show (189, 15, 192) ∈ rv_rf0 by decide)
  by_cases c40 : m 1 < 40
  · obtain ⟨C2, R2, T2, e3, e4, fa2, fr2, h2, nxh2⟩ := vt_next (n := n) hn h
    obtain ⟨C3, R3, fa3, fr3, h3⟩ := vt_takes (n := n) hn h2 (lo := 1) (hi := 99) (by decide) (by decide)
    have ck2 := h2.2.1.ck
    have hB22 := h2.1.2.1
    have pre1 : ∀ X, (rv_bp (fnX10_takesNumber n C2 a (1 : Int32) (99 : Int32)) fun x19_ S20_ => if x19_ = 0 then some ((0 : Int32), S20_) else (rv_ck S20_ 9 a).bind fun u24_ => rv_bp (fnX10_seesWho n S20_ a) fun x27_ S28_ => if x27_ = 0 then some ((0 : Int32), S28_) else (rv_gR S28_ 9 a 1).bind fun a32_ => (rv_gR S28_ 8 a32_ 1).bind fun a34_ => (rv_gI S28_ 9 a 3).bind fun x36_ => (rv_gI S28_ 9 a 4).bind fun x38_ => (rv_ck S28_ 5 a34_).bind fun u40_ => rv_bp (fnX6_add n S28_ a34_ x36_ x38_) fun x43_ S44_ => (rv_gR S44_ 9 a 0).bind fun a47_ => (rv_ck S44_ 7 a47_).bind fun u49_ => (fnX8_next n S44_ a47_).bind fun S52_ => cX10_readCoin_80 n n S52_ a x43_ (0 : Int32)) = X → fnX10_readCoin n C a = X := fun X hX => by
      rw [fnX10_readCoin]
      repeat (first | (conv => (lhs; arg 1; simp (disch := first | assumption | omega) only [tk_gI, tk_gL, tk_gR, tk_pI, tk_pL, rv_aI, rv_aL, rv_aR, rv_uI, rv_uL, rv_uB, rv_uZ, pu_ckI, pu_ckL, pu_lnI, pu_lnL, tk_rI, tk_rL, Option.bind_some, Option.map_some, rv_lt, tk_ix, ck, r1, hVS, c95, s0])); first | rw [Option.bind_some] | rw [bp_s] | rw [if_true] | rw [if_false] | rw [rv_lt_eq] | rw [if_pos (by omega)] | rw [if_neg (by omega)])
      rw [if_pos (by rw [z40, n_lt (by omega) (by omega)]; exact c40)]
      repeat (first | (conv => (lhs; arg 1; simp (disch := first | assumption | omega) only [tk_gI, tk_gL, tk_gR, tk_pI, tk_pL, rv_aI, rv_aL, rv_aR, rv_uI, rv_uL, rv_uB, rv_uZ, pu_ckI, pu_ckL, pu_lnI, pu_lnL, tk_rI, tk_rL, Option.bind_some, Option.map_some, rv_lt, tk_ix, ck, r0, c65])); first | rw [Option.bind_some] | rw [bp_s] | rw [if_true] | rw [if_false] | rw [rv_lt_eq] | rw [if_pos (by omega)] | rw [if_neg (by omega)])
      rw [e3, Option.bind_some, ck2, Option.bind_some]
      exact hX
    have zb : nI 132 + nI 6 * nI (m 1) = nI (132 + 6 * m 1) := by rw [z_mul, nI_add]
    have ref1 : ∀ X, (rv_bp (fnX13_readNumber n R2 189 (1 : Int32) (99 : Int32)) fun x17_ S18_ => if x17_ = 0 then some ((0 : Int32), S18_) else (rv_gR S18_ 11 189 15).bind fun a22_ => (rv_gI S18_ 11 189 13).bind fun x24_ => (rv_uI S18_ a22_ (nI (132 + 6 * m 1) + (0 : Int32)) x24_).bind fun S26_ => (rv_ck S26_ 11 189).bind fun u28_ => rv_bp (fnX13_isToldWho n S26_ 189) fun x31_ S32_ => if x31_ = 0 then some ((0 : Int32), S32_) else (rv_gR S32_ 11 189 15).bind fun a36_ => (rv_gI S32_ 11 189 13).bind fun x38_ => (rv_uI S32_ a36_ (nI (132 + 6 * m 1) + (1 : Int32)) x38_).bind fun S40_ => (rv_gR S40_ 11 189 15).bind fun a42_ => (rv_uI S40_ a42_ (nI (132 + 6 * m 1) + (2 : Int32)) (0 : Int32)).bind fun S44_ => (rv_ck S44_ 11 189).bind fun u46_ => (fnX13_go n S44_ 189).bind fun S49_ => cX13_readCoin_90 n n S49_ 189 (nI (132 + 6 * m 1))) = X → fnX13_readCoin n R 189 = X := fun X hX => by
      rw [fnX13_readCoin]
      repeat (first | (conv => (lhs; arg 1; simp (disch := first | assumption | omega) only [tk_gI, tk_gL, tk_gR, tk_pI, tk_pL, rv_aI, rv_aL, rv_aR, rv_uI, rv_uL, rv_uB, rv_uZ, pu_ckI, pu_ckL, pu_lnI, pu_lnL, tk_rI, tk_rL, Option.bind_some, Option.map_some, rv_lt, tk_ix, z1, rc_189 hB2, r15, rn_192 hB2, w1])); first | rw [Option.bind_some] | rw [bp_s] | rw [if_true] | rw [if_false] | rw [rv_lt_eq] | rw [if_pos (by omega)] | rw [if_neg (by omega)])
      rw [if_neg (show ¬ nI (m 1) = 40 by rw [z40, n_eq (by omega) (by omega)]; omega)]
      rw [z132, z6, zb, rc_189 hB2, Option.bind_some, e4, Option.bind_some, rc_189 hB22, Option.bind_some]
      exact hX
    rcases h3 with ⟨e5, e6, g⟩ | ⟨v, T3, v1, v2, e5, e6, g3, g13, h4, nxh4⟩
    · have e5 : fnX10_takesNumber n C2 a (1 : Int32) (99 : Int32) = some (0, C3) := e5
      have e6 : fnX13_readNumber n R2 189 (1 : Int32) (99 : Int32) = some (0, R3) := e6
      refine ⟨C3, R3, fa2.v.tr fa3.v, (fr2.mono rfl).tr (fr3.mono rfl), Or.inl ⟨pre1 _ ?_, ref1 _ ?_, g⟩⟩
      · rw [e5, bp_s, if_pos rfl]
      · rw [e6, bp_s, if_pos rfl]
    · have e5 : fnX10_takesNumber n C2 a (1 : Int32) (99 : Int32) = some (1, C3) := e5
      have e6 : fnX13_readNumber n R2 189 (1 : Int32) (99 : Int32) = some (1, R3) := e6
      obtain ⟨R4, eR4⟩ : ∃ R4, R4 = rv_sI R3 192 (132 + 6 * m 1) (nI v) := ⟨_, rfl⟩
      have fr4 : rvf [192] R3 R4 := by rw [eR4]; exact rvf.sIr _ _ _ rfl
      have h5 : VT C3 R4 a b L M T3 (u1 m (132 + 6 * m 1) v) wd := by rw [eR4]; exact vt_inv h4 (Or.inl ⟨Nat.le_refl _, by omega⟩)
      obtain ⟨C6, R6, fa6, fr6, h6⟩ := vt_who (n := n) hn h5
      have ck3 := h4.2.1.ck
      have hB42 := h4.1.2.1
      have r153 := rf_of hB42 (show (189, 15, 192) ∈ rv_rf0 by decide)
      have z00 : nI (132 + 6 * m 1) + (0 : Int32) = nI (132 + 6 * m 1) := by rw [z0, nI_add, Nat.add_zero]
      have pre2 : ∀ X, (rv_bp (fnX10_seesWho n C3 a) fun x27_ S28_ => if x27_ = 0 then some ((0 : Int32), S28_) else (rv_gR S28_ 9 a 1).bind fun a32_ => (rv_gR S28_ 8 a32_ 1).bind fun a34_ => (rv_gI S28_ 9 a 3).bind fun x36_ => (rv_gI S28_ 9 a 4).bind fun x38_ => (rv_ck S28_ 5 a34_).bind fun u40_ => rv_bp (fnX6_add n S28_ a34_ x36_ x38_) fun x43_ S44_ => (rv_gR S44_ 9 a 0).bind fun a47_ => (rv_ck S44_ 7 a47_).bind fun u49_ => (fnX8_next n S44_ a47_).bind fun S52_ => cX10_readCoin_80 n n S52_ a x43_ (0 : Int32)) = X → fnX10_readCoin n C a = X := fun X hX => pre1 X (by
        rw [e5, bp_s, if_neg (by decide), ck3, Option.bind_some]
        exact hX)
      have ref2 : ∀ X, (rv_bp (fnX13_isToldWho n R4 189) fun x31_ S32_ => if x31_ = 0 then some ((0 : Int32), S32_) else (rv_gR S32_ 11 189 15).bind fun a36_ => (rv_gI S32_ 11 189 13).bind fun x38_ => (rv_uI S32_ a36_ (nI (132 + 6 * m 1) + (1 : Int32)) x38_).bind fun S40_ => (rv_gR S40_ 11 189 15).bind fun a42_ => (rv_uI S40_ a42_ (nI (132 + 6 * m 1) + (2 : Int32)) (0 : Int32)).bind fun S44_ => (rv_ck S44_ 11 189).bind fun u46_ => (fnX13_go n S44_ 189).bind fun S49_ => cX13_readCoin_90 n n S49_ 189 (nI (132 + 6 * m 1))) = X → fnX13_readCoin n R 189 = X := fun X hX => ref1 X (by
        rw [e6, bp_s, if_neg (by decide)]
        repeat (first | (conv => (lhs; arg 1; simp (disch := first | assumption | omega) only [tk_gI, tk_gL, tk_gR, tk_pI, tk_pL, rv_aI, rv_aL, rv_aR, rv_uI, rv_uL, rv_uB, rv_uZ, pu_ckI, pu_ckL, pu_lnI, pu_lnL, tk_rI, tk_rL, Option.bind_some, Option.map_some, rv_lt, tk_ix, z00, rc_189 hB42, r153, rn_192 hB42, g13])); first | rw [Option.bind_some] | rw [bp_s] | rw [if_true] | rw [if_false] | rw [rv_lt_eq] | rw [if_pos (by omega)] | rw [if_neg (by omega)])
        rw [← eR4]
        exact hX)
      have frA : rvf DRv R R4 := ((fr2.mono rfl).tr (fr3.mono rfl)).tr (fr4.mono rfl)
      have fcA : rvf (DVc ++ [a]) C C3 := fa2.v.tr fa3.v
      rcases h6 with ⟨e7, e8, g⟩ | ⟨w, w2, kd3, e7, e8, g4, g14, h7⟩
      · refine ⟨C6, R6, fcA.tr fa6.v, frA.tr (fr6.mono rfl), Or.inl ⟨pre2 _ ?_, ref2 _ ?_, g⟩⟩
        · rw [e7, bp_s, if_pos rfl]
        · rw [e8, bp_s, if_pos rfl]
      · have eW : vW (u1 m (132 + 6 * m 1) v) = vW m := u1_ne _ _ (by omega)
        have e11 : u1 m (132 + 6 * m 1) v 1 = m 1 := u1_ne _ _ (by omega)
        obtain ⟨R7, eR7⟩ : ∃ R7, R7 = rv_sI R6 192 (133 + 6 * m 1) (nI w) := ⟨_, rfl⟩
        obtain ⟨R8, eR8⟩ : ∃ R8, R8 = rv_sI R7 192 (134 + 6 * m 1) (nI 0) := ⟨_, rfl⟩
        obtain ⟨m3, em3⟩ : ∃ m3, m3 = u1 (u1 (u1 m (132 + 6 * m 1) v) (133 + 6 * m 1) w) (134 + 6 * m 1) 0 := ⟨_, rfl⟩
        have fr7 : rvf [192] R6 R7 := by rw [eR7]; exact rvf.sIr _ _ _ rfl
        have fr8 : rvf [192] R7 R8 := by rw [eR8]; exact rvf.sIr _ _ _ rfl
        have h8 : VT C6 R7 a b L M T3 (u1 (u1 m (132 + 6 * m 1) v) (133 + 6 * m 1) w) wd := by rw [eR7]; exact vt_inv h7 (Or.inl ⟨by rw [e11]; omega, by omega⟩)
        have h9 : VT C6 R8 a b L M T3 m3 wd := by rw [eR8, em3]; exact vt_inv h8 (Or.inl ⟨by rw [u1_ne _ _ (by omega), e11]; omega, by omega⟩)
        have off : ∀ k, k < 132 → m3 k = m k := fun k hk => by rw [em3, u1_ne _ _ (by omega), u1_ne _ _ (by omega), u1_ne _ _ (by omega)]
        have eC : vC m3 = m 1 := off 1 (by decide)
        have q1 : va m3 (vC m3) = v := by
          rw [eC]
          show m3 (132 + 6 * m 1) = v
          rw [em3, u1_ne _ _ (by omega), u1_ne _ _ (by omega), u1_eq]
        have q2 : ow m3 (vC m3) = w := by
          rw [eC]
          show m3 (133 + 6 * m 1) = w
          rw [em3, u1_ne _ _ (by omega), u1_eq]
        have q3 : mn m3 (vC m3) = 0 := by
          rw [eC]
          show m3 (134 + 6 * m 1) = 0
          rw [em3, u1_eq]
        have w3 : w < vW m3 := by
          rw [show vW m3 = vW m from off 0 (by decide)]
          rw [eW] at w2
          exact w2
        have l0 := LCN.start h9.2.2 (by rw [eC]; exact c40) q1 q2 q3 ⟨v1, v2⟩ w3
        rw [eC] at l0
        obtain ⟨C8, eC8⟩ : ∃ C8, C8 = rv_sI (rv_sI (rv_sI (rv_sI C6 95 0 (nI (m 1 + 1))) 96 (m 1) (nI v)) 97 (m 1) (nI w)) 98 (m 1) (nI 0) := ⟨_, rfl⟩
        rw [← eC8] at l0
        have fc8 : rvf [95, 96, 97, 98] C6 C8 := by
          rw [eC8]
          exact ((((rvf.sIr C6 _ _ rfl).mono (D' := [95, 96, 97, 98]) rfl).w rfl rfl).w rfl rfl).w rfl rfl
        have s06 : C6.2.1 95 0 = nI (m 1) := by rw [← eC]; exact h9.2.2.1.2.1.1
        have add := k_addP (n := n) h9.1.1 (v := v) (w := w) s06 c40
        rw [← eC8] at add
        have K8 : KX C8 R8 b L M T3 := h9.1.fc fc8 rfl
        have i8 : isVT C8 a := h9.2.1.f fc8 rfl
        obtain ⟨C9, R9, T9, e9, e10, f9, fr9, K9, nxK9⟩ := lk_next (n := n) hn K8
        have fa9 := FrA.of i8 f9 rfl
        have g3' : C6.2.1 a 3 = nI v := by rw [fa6.2.2 3 rfl]; exact g3
        have fl9 : FLG C9 R9 a f0 f1 f2 := by
          have p1 := (hf.f fa2 fr2 rfl rfl rfl rfl).f fa3 fr3 rfl rfl rfl rfl
          have p2 : FLG C3 R4 a f0 f1 f2 := ⟨p1.1, p1.2.1, p1.2.2.1, (fr4.at (a := 189) (k := 23) rfl).trans p1.2.2.2⟩
          have p3 := p2.f fa6 fr6 rfl rfl rfl rfl
          have p4 : FLG C8 R8 a f0 f1 f2 := ⟨(h9.2.1.rest fc8 rfl 5).trans p3.1, (h9.2.1.rest fc8 rfl 6).trans p3.2.1, (h9.2.1.rest fc8 rfl 7).trans p3.2.2.1, (fr8.at (a := 189) (k := 23) rfl).trans ((fr7.at (a := 189) (k := 23) rfl).trans p3.2.2.2)⟩
          exact p4.f fa9 fr9 rfl rfl rfl rfl
        have res := vt_names (n := n) hn (c := m 1) (p0 := T.2.1) 4 0 n n C9 R9 T9 m3 rfl (by omega) (by omega) K9 fa9.2.1 (l0.f i8 fa9.1 fr9 rfl rfl) fl9 (by rw [em3]; exact u1_eq _ _ _) (Nat.zero_le _) ⟨_, Nat.le_trans nxh2.2.1 nxh4.2.1, nxK9.2.2, nxK9.1⟩
        have ck6 := h9.2.1.ck
        have hVS6 := VS_of h9.1.1 hv
        have c956 : rv_ck C6 5 95 = some () := rc_95 h9.1.1
        have hB72 := h7.1.2.1
        have r157 := rf_of hB72 (show (189, 15, 192) ∈ rv_rf0 by decide)
        refine res.pre (((fcA.tr fa6.v).tr (rvfV fc8 rfl)).tr fa9.v) ((((frA.tr (fr6.mono rfl)).tr (fr7.mono rfl)).tr (fr8.mono rfl)).tr (fr9.mono rfl)) (pre2 _ ?_) (ref2 _ ?_) ?_
        · rw [e7, bp_s, if_neg (by decide)]
          repeat (first | (conv => (lhs; arg 1; simp (disch := first | assumption | omega) only [tk_gI, tk_gL, tk_gR, tk_pI, tk_pL, rv_aI, rv_aL, rv_aR, rv_uI, rv_uL, rv_uB, rv_uZ, pu_ckI, pu_ckL, pu_lnI, pu_lnL, tk_rI, tk_rL, Option.bind_some, Option.map_some, rv_lt, tk_ix, ck6, h9.2.1.2.2.2.2, hVS6, c956, g3', g4])); first | rw [Option.bind_some] | rw [bp_s] | rw [if_true] | rw [if_false] | rw [rv_lt_eq] | rw [if_pos (by omega)] | rw [if_neg (by omega)])
          rw [show (87 + 8 : Nat) = 95 from rfl, add, bp_s]
          repeat (first | (conv => (lhs; arg 1; simp (disch := first | assumption | omega) only [tk_gI, tk_gL, tk_gR, tk_pI, tk_pL, rv_aI, rv_aL, rv_aR, rv_uI, rv_uL, rv_uB, rv_uZ, pu_ckI, pu_ckL, pu_lnI, pu_lnL, tk_rI, tk_rL, Option.bind_some, Option.map_some, rv_lt, tk_ix, i8.ck, i8.2.2.2.1, rc_65 K8.1])); first | rw [Option.bind_some] | rw [bp_s] | rw [if_true] | rw [if_false] | rw [rv_lt_eq] | rw [if_pos (by omega)] | rw [if_neg (by omega)])
          rw [e9, Option.bind_some]
          rfl
        · rw [e8, bp_s, if_neg (by decide)]
          have z01 : nI (132 + 6 * m 1) + (1 : Int32) = nI (133 + 6 * m 1) := by
            rw [z1, nI_add]
            exact congrArg nI (by omega)
          have z02 : nI (132 + 6 * m 1) + (2 : Int32) = nI (134 + 6 * m 1) := by
            rw [z2, nI_add]
            exact congrArg nI (by omega)
          repeat (first | (conv => (lhs; arg 1; simp (disch := first | assumption | omega) only [tk_gI, tk_gL, tk_gR, tk_pI, tk_pL, rv_aI, rv_aL, rv_aR, rv_uI, rv_uL, rv_uB, rv_uZ, pu_ckI, pu_ckL, pu_lnI, pu_lnL, tk_rI, tk_rL, Option.bind_some, Option.map_some, rv_lt, tk_ix, z01, z02, z0, rc_189 hB72, r157, rn_192 hB72, g14])); first | rw [Option.bind_some] | rw [bp_s] | rw [if_true] | rw [if_false] | rw [rv_lt_eq] | rw [if_pos (by omega)] | rw [if_neg (by omega)])
          rw [← eR7, ← eR8, e10, Option.bind_some]
        · rw [fa9.2.2 2 rfl, h9.2.1.rest fc8 rfl 2, fa6.2.2 2 rfl, fa3.2.2 2 rfl, fa2.2.2 2 rfl]
  · have e40 : m 1 = 40 := by omega
    refine vt_bad (n := n) h (f := 4) (by decide) (Or.inr ⟨by omega, by omega⟩) (rvf.rf _ _) (rvf.rf _ _) (fun C' e => ?_) (fun R' e => ?_)
    · rw [fnX10_readCoin]
      repeat (first | (conv => (lhs; arg 1; simp (disch := first | assumption | omega) only [tk_gI, tk_gL, tk_gR, tk_pI, tk_pL, rv_aI, rv_aL, rv_aR, rv_uI, rv_uL, rv_uB, rv_uZ, pu_ckI, pu_ckL, pu_lnI, pu_lnL, tk_rI, tk_rL, Option.bind_some, Option.map_some, rv_lt, tk_ix, ck, r1, hVS, c95, s0])); first | rw [Option.bind_some] | rw [bp_s] | rw [if_true] | rw [if_false] | rw [rv_lt_eq] | rw [if_pos (by omega)] | rw [if_neg (by omega)])
      rw [if_neg (by rw [z40, n_lt (by omega) (by omega)]; exact c40)]
      repeat (first | (conv => (lhs; arg 1; simp (disch := first | assumption | omega) only [tk_gI, tk_gL, tk_gR, tk_pI, tk_pL, rv_aI, rv_aL, rv_aR, rv_uI, rv_uL, rv_uB, rv_uZ, pu_ckI, pu_ckL, pu_lnI, pu_lnL, tk_rI, tk_rL, Option.bind_some, Option.map_some, rv_lt, tk_ix, ck, r0, c65])); first | rw [Option.bind_some] | rw [bp_s] | rw [if_true] | rw [if_false] | rw [rv_lt_eq] | rw [if_pos (by omega)] | rw [if_neg (by omega)])
      rw [z4, e, bp_s]
      rfl
    · rw [fnX13_readCoin]
      repeat (first | (conv => (lhs; arg 1; simp (disch := first | assumption | omega) only [tk_gI, tk_gL, tk_gR, tk_pI, tk_pL, rv_aI, rv_aL, rv_aR, rv_uI, rv_uL, rv_uB, rv_uZ, pu_ckI, pu_ckL, pu_lnI, pu_lnL, tk_rI, tk_rL, Option.bind_some, Option.map_some, rv_lt, tk_ix, z1, rc_189 hB2, r15, rn_192 hB2, w1])); first | rw [Option.bind_some] | rw [bp_s] | rw [if_true] | rw [if_false] | rw [rv_lt_eq] | rw [if_pos (by omega)] | rw [if_neg (by omega)])
      rw [if_pos (show nI (m 1) = 40 by rw [e40, z40]), rc_189 hB2, Option.bind_some, z4, e, bp_s]
      rfl
end
