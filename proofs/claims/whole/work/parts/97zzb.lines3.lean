/-! VALLEY TEXTS: roads, debts -/
section
variable {n : Nat} {C R : rvS} {b : Nat → Nat} {L M a : Nat} {T : Tk} {m : Nat → Nat} {wd : Nat → List Nat} {f0 f1 f2 : Bool}
theorem okv_jn (h : okv m wd) {x y : Nat} (hx : x < 4) (hy : y < 4) (hne : x ≠ y) : okv (jn m x y) wd := by
  have e : ∀ k, k < 128 ∨ 132 ≤ k → jn m x y k = m k := fun k hk => jn_off hk hx hy
  exact h.same (jn_okm h.1 hx hy hne) (e 0 (by decide)) (e 6 (by decide)) (fun k h1 h2 => e k (by omega))
theorem FR.f' {D : List Nat} {C' : rvS} {f : Nat} (h : FR C f m) (g : rvf D C C') (hf : ∀ i, i < 7 → rwb (f + i) = true ∧ D.elem (f + i) = false) : FR C' f m := by
  obtain ⟨a1, a2, a3, a4, a5, a6, a7, a8⟩ := h
  have e : ∀ i, i < 7 → ∀ k, C'.2.1 (f + i) k = C.2.1 (f + i) k := fun i hi k => g.row (hf i hi).1 (hf i hi).2 k
  have e0 : ∀ k, C'.2.1 f k = C.2.1 f k := e 0 (by decide)
  exact ⟨(e0 _).trans a1, (e0 _).trans a2, (e0 _).trans a3, fun w hw => (e 1 (by decide) w).trans (a4 w hw), fun w hw => (e 2 (by decide) w).trans (a5 w hw), fun w hw => (e 3 (by decide) w).trans (a6 w hw), fun w hw => (e 5 (by decide) w).trans (a7 w hw), fun w hw => (e 6 (by decide) w).trans (a8 w hw)⟩
theorem PR.f' {D : List Nat} {C' : rvS} {p : Nat} (h : PR C p m) (g : rvf D C C') (hf : ∀ i, i < 4 → rwb (p + i) = true ∧ D.elem (p + i) = false) : PR C' p m := by
  obtain ⟨b1, b2, b3, b4, b5⟩ := h
  have e : ∀ i, i < 4 → ∀ k, C'.2.1 (p + i) k = C.2.1 (p + i) k := fun i hi k => g.row (hf i hi).1 (hf i hi).2 k
  have e0 : ∀ k, C'.2.1 p k = C.2.1 p k := e 0 (by decide)
  exact ⟨(e0 _).trans b1, (e0 _).trans b2, fun c hc => (e 1 (by decide) c).trans (b3 c hc), fun c hc => (e 2 (by decide) c).trans (b4 c hc), fun c hc => (e 3 (by decide) c).trans (b5 c hc)⟩
theorem DR.f' {D : List Nat} {C' : rvS} {v : Nat} (h : DR C v m) (g : rvf D C C') (hf : ∀ i, i = 0 ∨ i = 17 ∨ i = 18 ∨ i = 19 → rwb (v + i) = true ∧ D.elem (v + i) = false) : DR C' v m := by
  obtain ⟨c1, c2, c3, c4, c5, c6, c7⟩ := h
  have e : ∀ i, i = 0 ∨ i = 17 ∨ i = 18 ∨ i = 19 → ∀ k, C'.2.1 (v + i) k = C.2.1 (v + i) k := fun i hi k => g.row (hf i hi).1 (hf i hi).2 k
  have e0 : ∀ k, C'.2.1 v k = C.2.1 v k := e 0 (by decide)
  exact ⟨(e0 _).trans c1, (e0 _).trans c2, (e0 _).trans c3, (e0 _).trans c4, fun k hk => (e 17 (by decide) k).trans (c5 k hk), fun k hk => (e 18 (by decide) k).trans (c6 k hk), fun k hk => (e 19 (by decide) k).trans (c7 k hk)⟩
/-- roads -/
theorem vt_road (hn : 1000 ≤ n) (h : VT C R a b L M T m wd) (hf : FLG C R a f0 f1 f2) : RES C R a b L M T.2.1 (fnX10_readRoad n C a) (fnX13_readRoad n R 189) (fun R' => some (1, R')) := by
  obtain ⟨hK, ha, hD⟩ := id h
  obtain ⟨hB, hB2, hTC, hTR, hC, hR, hT, hL⟩ := id hK
  have ck := ha.ck
  have r0 := ha.2.2.2.1
  have c65 := rc_65 hB
  have hv : vb 87 := Or.inr (Or.inl rfl)
  obtain ⟨C2, R2, T2, e3, e4, fa2, fr2, h2, nxh2⟩ := vt_next (n := n) hn h
  obtain ⟨C3, R3, fa3, fr3, h3⟩ := vt_takes (n := n) hn h2 (lo := 0) (hi := 3) (by decide) (by decide)
  have ck2 := h2.2.1.ck
  have hB22 := h2.1.2.1
  rcases h3 with ⟨e5, e6, g⟩ | ⟨x, T3, x0, x3, e5, e6, g3, g13, h4, nxh4⟩
  · have e5 : fnX10_takesNumber n C2 a (0 : Int32) (3 : Int32) = some (0, C3) := e5
    have e6 : fnX13_readNumber n R2 189 (0 : Int32) (3 : Int32) = some (0, R3) := e6
    refine ⟨C3, R3, fa2.v.tr fa3.v, (fr2.mono rfl).tr (fr3.mono rfl), Or.inl ⟨?_, ?_, g⟩⟩
    · rw [fnX10_readRoad]
      repeat (first | (conv => (lhs; arg 1; simp (disch := first | assumption | omega) only [tk_gI, tk_gL, tk_gR, tk_pI, tk_pL, rv_aI, rv_aL, rv_aR, rv_uI, rv_uL, rv_uB, rv_uZ, pu_ckI, pu_ckL, pu_lnI, pu_lnL, tk_rI, tk_rL, Option.bind_some, Option.map_some, rv_lt, tk_ix, ck, r0, c65])); first | rw [Option.bind_some] | rw [bp_s] | rw [if_true] | rw [if_false] | rw [rv_lt_eq] | rw [if_pos (by omega)] | rw [if_neg (by omega)])
      rw [e3, Option.bind_some, ck2, Option.bind_some, e5, bp_s, if_pos rfl]
    · rw [fnX13_readRoad, rc_189 hB2, Option.bind_some, e4, Option.bind_some, rc_189 hB22, Option.bind_some, e6, bp_s, if_pos rfl]
  · have e5 : fnX10_takesNumber n C2 a (0 : Int32) (3 : Int32) = some (1, C3) := e5
    have e6 : fnX13_readNumber n R2 189 (0 : Int32) (3 : Int32) = some (1, R3) := e6
    obtain ⟨C4, R4, fa4, fr4, h5⟩ := vt_sees (n := n) hn h4 (lo := 0) (hi := 3) (by decide) (by decide)
    have ck3 := h4.2.1.ck
    have hB4 := h4.1.2.1
    have pre : ∀ X, (rv_bp (fnX10_seesNumber n C3 a (0 : Int32) (3 : Int32)) fun x22_ S23_ => if x22_ = 0 then some ((0 : Int32), S23_) else (rv_gR S23_ 9 a 1).bind fun a27_ => (rv_gR S23_ 8 a27_ 0).bind fun a29_ => (rv_gI S23_ 9 a 3).bind fun x31_ => (rv_ck S23_ 0 a29_).bind fun u33_ => (fnX1_areNear n S23_ a29_ (nI x) x31_).bind fun x36_ => if x36_ = 0 then ((rv_gR S23_ 9 a 1).bind fun a39_ => (rv_gR S23_ 8 a39_ 0).bind fun a41_ => (rv_gI S23_ 9 a 3).bind fun x43_ => (rv_ck S23_ 0 a41_).bind fun u45_ => (fnX1_join n S23_ a41_ (nI x) x43_).bind fun S48_ => (rv_gR S48_ 9 a 0).bind fun a51_ => (rv_ck S48_ 7 a51_).bind fun u53_ => (fnX8_next n S48_ a51_).bind fun S56_ => some ((1 : Int32), S56_)) else ((rv_gR S23_ 9 a 0).bind fun a59_ => (rv_ck S23_ 7 a59_).bind fun u61_ => rv_bp (fnX8_fail n S23_ a59_ (3 : Int32)) fun x64_ S65_ => (rv_bo x64_).bind fun b_ => some (b_, S65_))) = X → fnX10_readRoad n C a = X := fun X hX => by
      rw [fnX10_readRoad]
      repeat (first | (conv => (lhs; arg 1; simp (disch := first | assumption | omega) only [tk_gI, tk_gL, tk_gR, tk_pI, tk_pL, rv_aI, rv_aL, rv_aR, rv_uI, rv_uL, rv_uB, rv_uZ, pu_ckI, pu_ckL, pu_lnI, pu_lnL, tk_rI, tk_rL, Option.bind_some, Option.map_some, rv_lt, tk_ix, ck, r0, c65])); first | rw [Option.bind_some] | rw [bp_s] | rw [if_true] | rw [if_false] | rw [rv_lt_eq] | rw [if_pos (by omega)] | rw [if_neg (by omega)])
      rw [e3, Option.bind_some, ck2, Option.bind_some, e5, bp_s, if_neg (by decide)]
      repeat (first | (conv => (lhs; arg 1; simp (disch := first | assumption | omega) only [tk_gI, tk_gL, tk_gR, tk_pI, tk_pL, rv_aI, rv_aL, rv_aR, rv_uI, rv_uL, rv_uB, rv_uZ, pu_ckI, pu_ckL, pu_lnI, pu_lnL, tk_rI, tk_rL, Option.bind_some, Option.map_some, rv_lt, tk_ix, ck3, g3])); first | rw [Option.bind_some] | rw [bp_s] | rw [if_true] | rw [if_false] | rw [rv_lt_eq] | rw [if_pos (by omega)] | rw [if_neg (by omega)])
      exact hX
    have ref : ∀ X, (rv_bp (fnX13_isNumber n R3 189 (0 : Int32) (3 : Int32)) fun x20_ S21_ => if x20_ = 0 then some ((0 : Int32), S21_) else (rv_gR S21_ 11 189 15).bind fun a25_ => (rv_aI S21_ 0 a25_ ((128 : Int32) + nI x)).bind fun x27_ => (rv_gI S21_ 11 189 13).bind fun x29_ => (fnX13_has n S21_ x27_ x29_).bind fun x32_ => if x32_ = 0 then ((rv_gR S21_ 11 189 15).bind fun a35_ => rv_lt ((128 : Int32) + nI x) fun x37_ => (rv_aI S21_ 0 a35_ x37_).bind fun x39_ => (rv_gI S21_ 11 189 13).bind fun x41_ => (rv_uI S21_ a35_ x37_ (x39_ ||| ((1 : Int32) <<< (x41_ &&& 31)))).bind fun S43_ => (rv_gR S43_ 11 189 15).bind fun a45_ => (rv_gI S43_ 11 189 13).bind fun x47_ => rv_lt ((128 : Int32) + x47_) fun x49_ => (rv_aI S43_ 0 a45_ x49_).bind fun x51_ => (rv_uI S43_ a45_ x49_ (x51_ ||| ((1 : Int32) <<< (nI x &&& 31)))).bind fun S53_ => (rv_ck S53_ 11 189).bind fun u55_ => (fnX13_go n S53_ 189).bind fun S58_ => some ((1 : Int32), S58_)) else ((rv_ck S21_ 11 189).bind fun u61_ => rv_bp (fnX13_bad n S21_ 189 (3 : Int32)) fun x64_ S65_ => (rv_bo x64_).bind fun b_ => some (b_, S65_))) = X → fnX13_readRoad n R 189 = X := fun X hX => by
      rw [fnX13_readRoad, rc_189 hB2, Option.bind_some, e4, Option.bind_some, rc_189 hB22, Option.bind_some, e6, bp_s, if_neg (by decide)]
      repeat (first | (conv => (lhs; arg 1; simp (disch := first | assumption | omega) only [tk_gI, tk_gL, tk_gR, tk_pI, tk_pL, rv_aI, rv_aL, rv_aR, rv_uI, rv_uL, rv_uB, rv_uZ, pu_ckI, pu_ckL, pu_lnI, pu_lnL, tk_rI, tk_rL, Option.bind_some, Option.map_some, rv_lt, tk_ix, rc_189 hB4, g13])); first | rw [Option.bind_some] | rw [bp_s] | rw [if_true] | rw [if_false] | rw [rv_lt_eq] | rw [if_pos (by omega)] | rw [if_neg (by omega)])
      exact hX
    rcases h5 with ⟨e7, e8, g⟩ | ⟨y, y0, y3, kd3, e7, e8, g4, g14, h6⟩
    · have e7 : fnX10_seesNumber n C3 a (0 : Int32) (3 : Int32) = some (0, C4) := e7
      have e8 : fnX13_isNumber n R3 189 (0 : Int32) (3 : Int32) = some (0, R4) := e8
      refine ⟨C4, R4, (fa2.v.tr fa3.v).tr fa4.v, ((fr2.mono rfl).tr (fr3.mono rfl)).tr (fr4.mono rfl), Or.inl ⟨pre _ ?_, ref _ ?_, g⟩⟩
      · rw [e7, bp_s, if_pos rfl]
      · rw [e8, bp_s, if_pos rfl]
    · have e7 : fnX10_seesNumber n C3 a (0 : Int32) (3 : Int32) = some (1, C4) := e7
      have e8 : fnX13_isNumber n R3 189 (0 : Int32) (3 : Int32) = some (1, R4) := e8
      obtain ⟨hF, hP, hDD⟩ := id h6.2.2.1
      obtain ⟨-, d2, d3, d4, d5⟩ := id h6.2.2
      obtain ⟨hp, hc, hd⟩ := id d5.1
      have hB6 := h6.1.1
      have hB7 := h6.1.2.1
      have hVS6 := VS_of hB6 hv
      have hFS6 := FS_of hB6 hv.f
      have ck6 := h6.2.1.ck
      have q0 := h6.2.1.2.2.2.1
      have q1 := h6.2.1.2.2.2.2
      have c88 : rv_ck C4 0 88 = some () := rc_88 hB6
      have r15 := rf_of hB7 (show (189, 15, 192) ∈ rv_rf0 by decide)
      have kn : fnX1_areNear n C4 88 (nI x) (nI y) = _ := k_areNear (n := n) hFS6 hF hp (a := x) (b := y) (by omega) (by omega)
      have mx := d3 (128 + x) (by omega)
      have x16 := (hp.2.2.2.2.1 x (by omega)).1
      have mh : fnX13_has n R4 (nI (m (128 + x))) (nI y) = some (bI (nr m x y)) := by
        have x16 : m (128 + x) < 16 := x16
        rw [fnX13_has, z1, z31]
        simp (disch := first | assumption | omega) only [n_bit1]
        show (if nr m x y = true then _ else _) = _
        cases nr m x y <;> rfl
      have z128x : nI 128 + nI x = nI (128 + x) := nI_add _ _
      by_cases c : nr m x y = true
      · rw [c] at kn mh
        refine vt_bad (n := n) h6 (f := 3) (by decide) (Or.inr ⟨by omega, by omega⟩) ((fa2.v.tr fa3.v).tr fa4.v) (((fr2.mono rfl).tr (fr3.mono rfl)).tr (fr4.mono rfl)) (fun C' e => pre _ ?_) (fun R' e => ref _ ?_)
        · rw [e7, bp_s, if_neg (by decide)]
          repeat (first | (conv => (lhs; arg 1; simp (disch := first | assumption | omega) only [tk_gI, tk_gL, tk_gR, tk_pI, tk_pL, rv_aI, rv_aL, rv_aR, rv_uI, rv_uL, rv_uB, rv_uZ, pu_ckI, pu_ckL, pu_lnI, pu_lnL, tk_rI, tk_rL, Option.bind_some, Option.map_some, rv_lt, tk_ix, ck6, q1, hVS6, g4, c88, kn])); first | rw [Option.bind_some] | rw [bp_s] | rw [if_true] | rw [if_false] | rw [rv_lt_eq] | rw [if_pos (by omega)] | rw [if_neg (by omega)])
          rw [if_neg (show ¬ bI true = 0 by decide)]
          repeat (first | (conv => (lhs; arg 1; simp (disch := first | assumption | omega) only [tk_gI, tk_gL, tk_gR, tk_pI, tk_pL, rv_aI, rv_aL, rv_aR, rv_uI, rv_uL, rv_uB, rv_uZ, pu_ckI, pu_ckL, pu_lnI, pu_lnL, tk_rI, tk_rL, Option.bind_some, Option.map_some, rv_lt, tk_ix, ck6, q0, rc_65 hB6])); first | rw [Option.bind_some] | rw [bp_s] | rw [if_true] | rw [if_false] | rw [rv_lt_eq] | rw [if_pos (by omega)] | rw [if_neg (by omega)])
          rw [z3, e, bp_s]
          rfl
        · rw [e8, bp_s, if_neg (by decide)]
          repeat (first | (conv => (lhs; arg 1; simp (disch := first | assumption | omega) only [tk_gI, tk_gL, tk_gR, tk_pI, tk_pL, rv_aI, rv_aL, rv_aR, rv_uI, rv_uL, rv_uB, rv_uZ, pu_ckI, pu_ckL, pu_lnI, pu_lnL, tk_rI, tk_rL, Option.bind_some, Option.map_some, rv_lt, tk_ix, z128, z128x, rc_189 hB7, r15, rn_192 hB7, g14, mx, mh])); first | rw [Option.bind_some] | rw [bp_s] | rw [if_true] | rw [if_false] | rw [rv_lt_eq] | rw [if_pos (by omega)] | rw [if_neg (by omega)])
          rw [if_neg (show ¬ bI true = 0 by decide), rc_189 hB7, Option.bind_some, z3, e, bp_s]
          rfl
      · have cf : nr m x y = false := by
          cases h : nr m x y
          · rfl
          · exact absurd h c
        have hne : x ≠ y := fun z => by
          rw [z] at cf
          have : (rd m y).testBit y = true := (hp.2.2.2.2.1 y (by omega)).2
          rw [show nr m y y = (rd m y).testBit y from rfl, this] at cf
          cases cf
        rw [cf] at kn mh
        obtain ⟨C5, e9, f5, F5⟩ := k_join (n := n) (by omega) hB6 hv.f hF hp (a := x) (b := y) (by omega) (by omega) hne
        have e9 : fnX1_join n C4 88 (nI x) (nI y) = some C5 := e9
        have f5 : rvf [93, 94] C4 C5 := f5
        obtain ⟨R5, eR5⟩ : ∃ R5, R5 = rv_sI (rv_sI R4 192 (128 + x) (nI (rd m x ||| 2 ^ y))) 192 (128 + y) (nI (rd m y ||| 2 ^ x)) := ⟨_, rfl⟩
        have f5r : rvf [192] R4 R5 := by rw [eR5]; exact (rvf.sIr _ _ _ rfl).tr (rvf.sIr _ _ _ rfl)
        have d7 : DRF C5 R5 (jn m x y) wd := by
          have e : ∀ k, k < 128 ∨ 132 ≤ k → jn m x y k = m k := fun k hk => jn_off hk (by omega) (by omega)
          refine ⟨⟨F5, (hP.f' f5 (by decide)).c hc.1 (e 1 (by decide)) (e 3 (by decide)) (fun k h1 h2 => e k (by omega)), (hDD.f' f5 (by
            intro i hi
            rcases hi with rfl | rfl | rfl | rfl <;> exact ⟨rfl, rfl⟩)).c2 (e 2 (by decide)) (e 4 (by decide)) (e 5 (by decide)) (fun k hk => e k (by omega))⟩, fun w hw => ?_, ?_, fun w hw => ?_, okv_jn d5 (by omega) (by omega) hne⟩
          · rw [show vW (jn m x y) = vW m from e 0 (by decide)] at hw
            rw [f5.rowL (a := 92) rfl rfl]; exact d2 w hw
          · rw [eR5]
            exact rd_u (rd_u d3 _ _) _ _
          · rw [show vW (jn m x y) = vW m from e 0 (by decide)] at hw
            rw [f5r.rowL (a := 196) rfl rfl]; exact d4 w hw
        have h7 : VT C5 R5 a b L M T3 (jn m x y) wd := ⟨(h6.1.fc f5 rfl).fr f5r rfl, h6.2.1.f f5 rfl, d7⟩
        obtain ⟨C8, R8, T8, e10, e11, fa8, fr8, h8, nxh8⟩ := vt_next (n := n) hn h7
        have ck7 := h7.2.1.ck
        have q07 := h7.2.1.2.2.2.1
        refine ⟨C8, R8, (((fa2.v.tr fa3.v).tr fa4.v).tr (rvfV f5 rfl)).tr fa8.v, ((((fr2.mono rfl).tr (fr3.mono rfl)).tr (fr4.mono rfl)).tr (f5r.mono rfl)).tr (fr8.mono rfl), Or.inr ⟨pre _ ?_, ref _ ?_, T8, _, _, f0, f1, f2, h8, ?_, ?_, _, Nat.le_trans nxh2.2.1 nxh4.2.1, nxh8.2.2, nxh8.1⟩⟩
        · rw [e7, bp_s, if_neg (by decide)]
          repeat (first | (conv => (lhs; arg 1; simp (disch := first | assumption | omega) only [tk_gI, tk_gL, tk_gR, tk_pI, tk_pL, rv_aI, rv_aL, rv_aR, rv_uI, rv_uL, rv_uB, rv_uZ, pu_ckI, pu_ckL, pu_lnI, pu_lnL, tk_rI, tk_rL, Option.bind_some, Option.map_some, rv_lt, tk_ix, ck6, q1, hVS6, g4, c88, kn])); first | rw [Option.bind_some] | rw [bp_s] | rw [if_true] | rw [if_false] | rw [rv_lt_eq] | rw [if_pos (by omega)] | rw [if_neg (by omega)])
          rw [if_pos (show bI false = 0 from rfl)]
          repeat (first | (conv => (lhs; arg 1; simp (disch := first | assumption | omega) only [tk_gI, tk_gL, tk_gR, tk_pI, tk_pL, rv_aI, rv_aL, rv_aR, rv_uI, rv_uL, rv_uB, rv_uZ, pu_ckI, pu_ckL, pu_lnI, pu_lnL, tk_rI, tk_rL, Option.bind_some, Option.map_some, rv_lt, tk_ix, ck6, q1, hVS6, g4, c88, e9])); first | rw [Option.bind_some] | rw [bp_s] | rw [if_true] | rw [if_false] | rw [rv_lt_eq] | rw [if_pos (by omega)] | rw [if_neg (by omega)])
          repeat (first | (conv => (lhs; arg 1; simp (disch := first | assumption | omega) only [tk_gI, tk_gL, tk_gR, tk_pI, tk_pL, rv_aI, rv_aL, rv_aR, rv_uI, rv_uL, rv_uB, rv_uZ, pu_ckI, pu_ckL, pu_lnI, pu_lnL, tk_rI, tk_rL, Option.bind_some, Option.map_some, rv_lt, tk_ix, ck7, q07, rc_65 h7.1.1])); first | rw [Option.bind_some] | rw [bp_s] | rw [if_true] | rw [if_false] | rw [rv_lt_eq] | rw [if_pos (by omega)] | rw [if_neg (by omega)])
          rw [e10]
          rfl
        · have sx : (1 : Int32) <<< (nI x &&& 31) = nI (2 ^ x) := z_shl (by omega)
          have sy : (1 : Int32) <<< (nI y &&& 31) = nI (2 ^ y) := z_shl (by omega)
          have z128y : nI 128 + nI y = nI (128 + y) := nI_add _ _
          have my : (rv_sI R4 192 (128 + x) (nI (m (128 + x) ||| 2 ^ y))).2.1 192 (128 + y) = nI (m (128 + y)) := by
            rw [rv_sI_k _ _ (by omega)]; exact d3 _ (by omega)
          have g14' : (rv_sI R4 192 (128 + x) (nI (m (128 + x) ||| 2 ^ y))).2.1 189 13 = nI y := (rv_sI_a _ _ _ (by decide) _).trans g14
          rw [e8, bp_s, if_neg (by decide)]
          repeat (first | (conv => (lhs; arg 1; simp (disch := first | assumption | omega) only [tk_gI, tk_gL, tk_gR, tk_pI, tk_pL, rv_aI, rv_aL, rv_aR, rv_uI, rv_uL, rv_uB, rv_uZ, pu_ckI, pu_ckL, pu_lnI, pu_lnL, tk_rI, tk_rL, Option.bind_some, Option.map_some, rv_lt, tk_ix, z128, z128x, rc_189 hB7, r15, rn_192 hB7, g14, mx, mh])); first | rw [Option.bind_some] | rw [bp_s] | rw [if_true] | rw [if_false] | rw [rv_lt_eq] | rw [if_pos (by omega)] | rw [if_neg (by omega)])
          rw [if_pos (show bI false = 0 from rfl)]
          repeat (first | (conv => (lhs; arg 1; simp (disch := first | assumption | omega) only [tk_gI, tk_gL, tk_gR, tk_pI, tk_pL, rv_aI, rv_aL, rv_aR, rv_uI, rv_uL, rv_uB, rv_uZ, pu_ckI, pu_ckL, pu_lnI, pu_lnL, tk_rI, tk_rL, Option.bind_some, Option.map_some, rv_lt, tk_ix, z128, z128x, z128y, sx, sy, fa_or, rc_189 hB7, r15, rn_192 hB7, g14, g14', mx, my])); first | rw [Option.bind_some] | rw [bp_s] | rw [if_true] | rw [if_false] | rw [rv_lt_eq] | rw [if_pos (by omega)] | rw [if_neg (by omega)])
          rw [← eR5, e11]
          rfl
        · refine FLG.f ?_ fa8 fr8 rfl rfl rfl rfl
          have q := ((hf.f fa2 fr2 rfl rfl rfl rfl).f fa3 fr3 rfl rfl rfl rfl).f fa4 fr4 rfl rfl rfl rfl
          obtain ⟨w1, w2, w3, w4⟩ := q
          exact ⟨(h6.2.1.rest f5 rfl 5).trans w1, (h6.2.1.rest f5 rfl 6).trans w2, (h6.2.1.rest f5 rfl 7).trans w3, (f5r.at (a := 189) (k := 23) rfl).trans w4⟩
        · rw [fa8.2.2 2 rfl, h6.2.1.rest f5 rfl 2, fa4.2.2 2 rfl, fa3.2.2 2 rfl, fa2.2.2 2 rfl]
/-- one debt more -/
def owd (m : Nat → Nat) (x y v : Nat) : Nat → Nat := u1 (u1 (u1 (u1 (u1 m (372 + 4 * m 2) x) (372 + 4 * m 2 + 1) y) (372 + 4 * m 2 + 2) v) (372 + 4 * m 2 + 3) 0) 2 (m 2 + 1)
theorem owd_lo {x y v k : Nat} (hk : k < 372) (h2 : k ≠ 2) : owd m x y v k = m k := by
  unfold owd
  rw [u1_ne _ _ h2, u1_ne _ _ (by omega), u1_ne _ _ (by omega), u1_ne _ _ (by omega), u1_ne _ _ (by omega)]
theorem owd_2 (m : Nat → Nat) (x y v : Nat) : vD (owd m x y v) = vD m + 1 := u1_eq _ _ _
theorem owd_db {x y v k i : Nat} (hi : i < 4) : db (owd m x y v) k i = if k = vD m then (if i = 0 then x else if i = 1 then y else if i = 2 then v else 0) else db m k i := by
  show owd m x y v (372 + 4 * k + i) = _
  unfold owd
  rw [u1_ne _ _ (show 372 + 4 * k + i ≠ 2 by omega)]
  by_cases c : k = vD m
  · rw [if_pos c]
    have c : k = m 2 := c
    subst c
    have : i = 0 ∨ i = 1 ∨ i = 2 ∨ i = 3 := by omega
    rcases this with rfl | rfl | rfl | rfl
    · rw [u1_ne _ _ (by omega), u1_ne _ _ (by omega), u1_ne _ _ (by omega), Nat.add_zero, u1_eq]; rfl
    · rw [u1_ne _ _ (by omega), u1_ne _ _ (by omega), u1_eq]; rfl
    · rw [u1_ne _ _ (by omega), u1_eq]; rfl
    · rw [u1_eq]; rfl
  · rw [if_neg c]
    have c : ¬ k = m 2 := c
    rw [u1_ne _ _ (by omega), u1_ne _ _ (by omega), u1_ne _ _ (by omega), u1_ne _ _ (by omega)]
theorem owd_okv (h : okv m wd) (h12 : vD m < 12) {x y v : Nat} (hx : x < vW m) (hy : y < vW m) (hne : x ≠ y) (hv : 1 ≤ v ∧ v ≤ 999) : okv (owd m x y v) wd := by
  obtain ⟨hp, hc, hd⟩ := id h.1
  have e : ∀ k, k < 372 → k ≠ 2 → owd m x y v k = m k := fun k h1 h2 => owd_lo h1 h2
  have eW : vW (owd m x y v) = vW m := e 0 (by decide) (by decide)
  refine h.same ⟨hp.c8 (e 0 (by decide) (by decide)) (fun k h1 h2 => e k (by omega) (by omega)), hc.c (e 0 (by decide) (by decide)) (e 1 (by decide) (by decide)) (e 3 (by decide) (by decide)) (fun k h1 h2 => e k (by omega) (by omega)), ?_⟩ (e 0 (by decide) (by decide)) (e 6 (by decide) (by decide)) (fun k h1 h2 => e k (by omega) (by omega))
  obtain ⟨q1, q2, q3, q4, q5, q6, q7⟩ := hd
  refine ⟨by rw [owd_2]; omega, by rw [show vF (owd m x y v) = vF m from e 4 (by decide) (by decide)]; exact q2, by rw [show vF (owd m x y v) = vF m from e 4 (by decide) (by decide)]; exact q3, by rw [show vL (owd m x y v) = vL m from e 5 (by decide) (by decide)]; exact q4, by rw [e 6 (by decide) (by decide)]; exact q5, by rw [e 6 (by decide) (by decide), eW]; exact q6, fun k hk => ?_⟩
  rw [owd_2] at hk
  rw [owd_db (by decide), owd_db (by decide), owd_db (by decide), owd_db (by decide), eW]
  by_cases c : k = vD m
  · rw [if_pos c, if_pos c, if_pos c, if_pos c]
    exact ⟨hx, hy, hne, hv.1, hv.2, Nat.zero_le 1⟩
  · rw [if_neg c, if_neg c, if_neg c, if_neg c]
    exact q7 k (by omega)
theorem owd_DRF (h : DRF C R m wd) (h12 : vD m < 12) {x y v : Nat} (hx : x < vW m) (hy : y < vW m) (hne : x ≠ y) (hv : 1 ≤ v ∧ v ≤ 999) : DRF (rv_sI (rv_sI (rv_sI (rv_sI C 104 (vD m) (nI x)) 105 (vD m) (nI y)) 106 (vD m) (nI v)) 87 6 (nI (vD m + 1))) (rv_sI (rv_sI (rv_sI (rv_sI (rv_sI R 192 (372 + 4 * m 2) (nI x)) 192 (372 + 4 * m 2 + 1) (nI y)) 192 (372 + 4 * m 2 + 2) (nI v)) 192 (372 + 4 * m 2 + 3) (nI 0)) 192 2 (nI (m 2 + 1))) (owd m x y v) wd := by
  obtain ⟨⟨hF, hP, hD⟩, d2, d3, d4, d5⟩ := h
  obtain ⟨hp, hc, hd⟩ := id d5.1
  have e : ∀ k, k < 372 → k ≠ 2 → owd m x y v k = m k := fun k h1 h2 => owd_lo h1 h2
  have eW : vW (owd m x y v) = vW m := e 0 (by decide) (by decide)
  have hD2 : DR (rv_sI (rv_sI (rv_sI (rv_sI C 104 (vD m) (nI x)) 105 (vD m) (nI y)) 106 (vD m) (nI v)) 87 6 (nI (vD m + 1))) 87 (owd m x y v) := by
    obtain ⟨c1, c2, c3, c4, c5, c6, c7⟩ := hD
    refine ⟨?_, ?_, ?_, ?_, fun k hk => ?_, fun k hk => ?_, fun k hk => ?_⟩
    · rw [rv_sI_eq, owd_2]
    · rw [rv_sI_k _ _ (by decide), rv_sI_a _ _ _ (by decide), rv_sI_a _ _ _ (by decide), rv_sI_a _ _ _ (by decide), c2, owd_2, bs_s, owd_db (by decide), if_pos rfl, if_neg (show ¬ decide (0 < if 3 = 0 then x else if 3 = 1 then y else if 3 = 2 then v else 0) = true by simp)]
      exact congrArg nI (bs_cong fun k hk => by rw [owd_db (by decide), if_neg (by omega)])
    · rw [rv_sI_k _ _ (by decide), rv_sI_a _ _ _ (by decide), rv_sI_a _ _ _ (by decide), rv_sI_a _ _ _ (by decide), show vF (owd m x y v) = vF m from e 4 (by decide) (by decide)]; exact c3
    · rw [rv_sI_k _ _ (by decide), rv_sI_a _ _ _ (by decide), rv_sI_a _ _ _ (by decide), rv_sI_a _ _ _ (by decide), show vL (owd m x y v) = vL m from e 5 (by decide) (by decide)]; exact c4
    · rw [owd_2] at hk
      rw [owd_db (by decide), rv_sI_a _ _ _ (by decide), rv_sI_a _ _ _ (by decide), rv_sI_a _ _ _ (by decide)]
      by_cases c : k = vD m
      · rw [if_pos c, c]; exact rv_sI_eq _ _ _ _
      · rw [if_neg c, rv_sI_k _ _ c]; exact c5 k (by omega)
    · rw [owd_2] at hk
      rw [owd_db (by decide), rv_sI_a _ _ _ (by decide), rv_sI_a _ _ _ (by decide)]
      by_cases c : k = vD m
      · rw [if_pos c, c]; exact rv_sI_eq _ _ _ _
      · rw [if_neg c, rv_sI_k _ _ c, rv_sI_a _ _ _ (by decide)]; exact c6 k (by omega)
    · rw [owd_2] at hk
      rw [owd_db (by decide), rv_sI_a _ _ _ (by decide)]
      by_cases c : k = vD m
      · rw [if_pos c, c]; exact rv_sI_eq _ _ _ _
      · rw [if_neg c, rv_sI_k _ _ c, rv_sI_a _ _ _ (by decide), rv_sI_a _ _ _ (by decide)]; exact c7 k (by omega)
  refine ⟨⟨?_, ?_, hD2⟩, fun w hw => ?_, rd_u (rd_u (rd_u (rd_u (rd_u d3 _ _) _ _) _ _) _ _) _ _, fun w hw => ?_, owd_okv d5 h12 hx hy hne hv⟩
  · refine FR.c8 ?_ hp (e 0 (by decide) (by decide)) (fun k h1 h2 => e k (by omega) (by omega))
    exact (((hF.wx (Or.inr (by decide))).wx (Or.inr (by decide))).wx (Or.inr (by decide))).wx (Or.inl (by decide))
  · refine PR.c ?_ hc.1 (e 1 (by decide) (by decide)) (e 3 (by decide) (by decide)) (fun k h1 h2 => e k (by omega) (by omega))
    exact (((hP.wx (Or.inr (by decide))).wx (Or.inr (by decide))).wx (Or.inr (by decide))).wx (Or.inl (by decide))
  · rw [eW] at hw; exact d2 w hw
  · rw [eW] at hw; exact d4 w hw
end
