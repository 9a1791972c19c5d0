/-! VALLEY TEXTS: people read -/
section
variable {n : Nat} {S C R : rvS} {b : Nat → Nat} {L M a : Nat} {T : Tk} {m m' : Nat → Nat} {wd : Nat → List Nat} {f0 f1 f2 : Bool}
theorem k_addC (hn : 50 ≤ n) (hB : rv_B S) {f : Nat} (hf : fb f) (hR : FR S f m) (hp : okp m) (hW : vW m < 24) {u : Nat} (hu : u < 4) (yy : Int64) : ∃ S', fnX1_add n S f yy (nI u) = some (nI (vW m), S') ∧ rvf [f, f + 1, f + 2, f + 3, f + 4, f + 6] S S' ∧ FR S' f (br m u) ∧ ∀ j, S'.2.2.1 (f + 4) j = if j = vW m then yy else S.2.2.1 (f + 4) j := by
  have hS := FS_of hB hf
  have hr : ∀ i, i < 7 → rwb (f + i) = true := by
    rcases hf with rfl | rfl | rfl | rfl <;> decide
  have hr0 := hr 0 (by decide)
  rw [Nat.add_zero] at hr0
  obtain ⟨n1, n2, n3, n4, n5⟩ := br_new m u
  have e0 := br_0 m u
  have rdo : ∀ v, v < 4 → rd (br m u) v = rd m v := fun v hv => br_off (by omega) (Or.inr (by show 13 + 5 * vW m ≤ 128 + v; omega))
  have off : ∀ w, w < vW m → at_ (br m u) w = at_ m w ∧ mt (br m u) w = mt m w ∧ de (br m u) w = de m w ∧ sg (br m u) w = sg m w ∧ ea (br m u) w = ea m w := fun w hw => ⟨br_off (by omega) (Or.inl (by show 8 + 5 * w < 8 + 5 * vW m; omega)), br_off (by omega) (Or.inl (by show 9 + 5 * w < 8 + 5 * vW m; omega)), br_off (by omega) (Or.inl (by show 10 + 5 * w < 8 + 5 * vW m; omega)), br_off (by omega) (Or.inl (by show 11 + 5 * w < 8 + 5 * vW m; omega)), br_off (by omega) (Or.inl (by show 12 + 5 * w < 8 + 5 * vW m; omega))⟩
  obtain ⟨a1, a2, a3, a4, a5, a6, a7, a8⟩ := hR
  obtain ⟨S2, eS2⟩ : ∃ S2, S2 = rv_sI (rv_sI (rv_sI (rv_sL (rv_sI S f 0 (nI (vW m + 1))) (f + 4) (vW m) (yy)) (f + 1) (vW m) (nI u)) (f + 2) (vW m) (nI (2 ^ vW m))) (f + 3) (vW m) (nI 0) := ⟨_, rfl⟩
  have f2 : rvf [f, f + 1, f + 2, f + 3, f + 4] S S2 := by
    rw [eS2]
    exact (((((rvf.sIr S 0 _ hr0).mono (by simp)).tr ((rvf.sLr _ (vW m) _ (hr 4 (by decide))).mono (by simp))).w (hr 1 (by decide)) (by simp)).w (hr 2 (by decide)) (by simp)).w (hr 3 (by decide)) (by simp)
  have hB2 := f2.B hB
  have r0 : FR0 S2 f (br m u) := by
    rw [eS2]
    have p : ∀ (q : Nat → Bool) (w : Nat), q w = false → bs q (w + 1) = bs q w := fun q w h => by rw [bs_s, if_neg (by rw [h]; decide)]
    refine ⟨?_, ?_, ?_, fun w hw => ?_, fun w hw => ?_, fun w hw => ?_, fun j hj => ?_⟩
    · rw [rv_sI_a _ _ _ (by omega), rv_sI_a _ _ _ (by omega), rv_sI_a _ _ _ (by omega), rd_LI, rv_sI_eq, e0]
    · rw [rv_sI_a _ _ _ (by omega), rv_sI_a _ _ _ (by omega), rv_sI_a _ _ _ (by omega), rd_LI, rv_sI_k _ _ (by decide), e0, p _ _ (by rw [n3]; rfl), a2]
      exact congrArg nI (bs_cong fun w hw => by rw [(off w hw).2.2.1])
    · rw [rv_sI_a _ _ _ (by omega), rv_sI_a _ _ _ (by omega), rv_sI_a _ _ _ (by omega), rd_LI, rv_sI_k _ _ (by decide), e0, p _ _ (by rw [n4]; rfl), a3]
      exact congrArg nI (bs_cong fun w hw => by rw [(off w hw).2.2.2.1])
    · rw [e0] at hw
      rw [rv_sI_a _ _ _ (by omega), rv_sI_a _ _ _ (by omega)]
      by_cases c : w = vW m
      · subst c; rw [rv_sI_eq, n1]
      · rw [rv_sI_k _ _ c, rd_LI, rv_sI_a _ _ _ (by omega), (off w (by omega)).1]; exact a4 w (by omega)
    · rw [e0] at hw
      rw [rv_sI_a _ _ _ (by omega)]
      unfold hs
      by_cases c : w = vW m
      · subst c; rw [rv_sI_eq, n2, if_pos rfl]
      · rw [rv_sI_k _ _ c, rv_sI_a _ _ _ (by omega), rd_LI, rv_sI_a _ _ _ (by omega), (off w (by omega)).2.1]; exact a5 w (by omega)
    · rw [e0] at hw
      by_cases c : w = vW m
      · subst c; rw [rv_sI_eq, n5]
      · rw [rv_sI_k _ _ c, rv_sI_a _ _ _ (by omega), rv_sI_a _ _ _ (by omega), rd_LI, rv_sI_a _ _ _ (by omega), (off w (by omega)).2.2.2.2]; exact a6 w (by omega)
    · rw [rv_sI_a _ _ _ (by omega), rv_sI_a _ _ _ (by omega), rv_sI_a _ _ _ (by omega), rd_LI, rv_sI_a _ _ _ (by omega), rdo j hj]; exact a7 j hj
  obtain ⟨S', e3, f3, g3⟩ := k_refresh hn hB2 hf r0 (br_okp hp hW hu)
  refine ⟨S', ?_, (f2.mono (by simp)).tr (f3.mono (by simp)), g3, fun j => ?_⟩
  · rw [fnX1_add]
    repeat (first | (conv => (lhs; arg 1; simp (disch := first | assumption | omega) only [tk_gI, tk_gL, tk_gR, tk_pI, tk_pL, rv_aI, rv_aL, rv_aR, rv_uI, rv_uL, rv_uB, rv_uZ, pu_ckI, pu_ckL, pu_lnI, pu_lnL, tk_rI, tk_rL, Option.bind_some, Option.map_some, rv_lt, tk_ix, z0, z1, z2, z3, z4, z5, z6, z7, z8, z9, z10, z11, z12, z13, z15, z16, z17, z18, z20, z21, z23, z24, z25, z31, z32, z39, z40, z41, z46, z48, z50, z57, z59, z60, z61, z62, z63, z64, z97, z98, z99, z100, z101, z102, z103, z104, z105, z106, z107, z108, z109, z110, z111, z112, z113, z114, z115, z116, z117, z118, z119, z120, z121, z122, z128, z132, z200, z240, z255, z372, z390625, z400, z420, z421, z422, z662, z900, z940, z999, z1000, z1024, z2000, z5860, z10000, z12345, z15625, z266240, z1048575, z1064960, z1103515245, z_m1, n_le, n_lt, n_eq, n_bit0, n_bit1, n_sbit0, n_shl, z_ltM, z_Mlt, z_leM, z_Mle, z_eqM, z_Meq, bI0, bI1, bI_01, bI_01t, bI_10, bI_10f, if_true, if_false, eq_self, reduceCtorEq, if_pos, if_neg, hS, a1, rv_sI_eq, nI_add, n_shl])); first | rw [Option.bind_some] | rw [bp_s] | rw [if_true] | rw [if_false] | rw [rv_lt_eq] | rw [if_pos (by omega)] | rw [if_neg (by omega)])
    rw [← eS2, e3, Option.bind_some]
  · rw [f3.rowL (hr 4 (by decide)) (by simp), eS2, rd_IL, rd_IL, rd_IL, rd_L]
    by_cases c : j = vW m
    · rw [if_pos ⟨rfl, c⟩, if_pos c]
    · rw [if_neg (fun z => c z.2), if_neg c, rd_IL]
theorem k_settle (hn : 50 ≤ n) (hB : rv_B S) {f : Nat} (hf : fb f) (hp : okp m) (hW : vW m < 24) (hR : FR S f (br m 0)) {v : Nat} (hv : v < 4) : ∃ S', fnX1_settleIn n S f (nI (vW m)) (nI v) = some S' ∧ rvf [f + 1, f + 6] S S' ∧ FR S' f (br m v) := by
  have hS := FS_of hB hf
  have hp0 := br_okp hp hW (u := 0) (by decide)
  have hpv := br_okp hp hW hv
  have hrw : rwb (f + 1) = true := by rcases hf with rfl | rfl | rfl | rfl <;> rfl
  have hh : fnX1_has n S f (nI (vW m)) = some (nI 1) := k_has hS hR hp0 (by rw [br_0]; omega)
  obtain ⟨S2, eS2⟩ : ∃ S2, S2 = rv_sI S (f + 1) (vW m) (nI v) := ⟨_, rfl⟩
  have f2 : rvf [f + 1] S S2 := by rw [eS2]; exact rvf.sIr S _ _ hrw
  have hB2 := f2.B hB
  have e : ∀ k, k ≠ 8 + 5 * m 0 → br m v k = br m 0 k := fun k hk => by
    unfold br
    rw [if_neg hk, if_neg hk]
  have r0 : FR0 S2 f (br m v) := by
    obtain ⟨a1, a2, a3, a4, a5, a6, a7, a8⟩ := hR
    rw [eS2]
    have e0 : vW (br m v) = vW (br m 0) := e 0 (by omega)
    refine ⟨?_, ?_, ?_, fun w hw => ?_, fun w hw => ?_, fun w hw => ?_, fun j hj => ?_⟩
    · rw [rv_sI_a _ _ _ (by omega), e0]; exact a1
    · rw [rv_sI_a _ _ _ (by omega), e0, a2]
      exact congrArg nI (bs_cong fun w hw => by rw [show de (br m v) w = de (br m 0) w from e _ (by omega)])
    · rw [rv_sI_a _ _ _ (by omega), e0, a3]
      exact congrArg nI (bs_cong fun w hw => by rw [show sg (br m v) w = sg (br m 0) w from e _ (by omega)])
    · rw [e0] at hw
      by_cases c : w = vW m
      · rw [c, rv_sI_eq, (br_new m v).1]
      · rw [rv_sI_k _ _ c, show at_ (br m v) w = at_ (br m 0) w from e _ (by have : vW m = m 0 := rfl; omega)]; exact a4 w hw
    · rw [e0] at hw
      rw [rv_sI_a _ _ _ (by omega)]
      unfold hs
      rw [show mt (br m v) w = mt (br m 0) w from e _ (by omega)]; exact a5 w hw
    · rw [e0] at hw
      rw [rv_sI_a _ _ _ (by omega), show ea (br m v) w = ea (br m 0) w from e _ (by omega)]; exact a6 w hw
    · rw [rv_sI_a _ _ _ (by omega), show rd (br m v) j = rd (br m 0) j from e _ (by have : vW m = m 0 := rfl; omega)]; exact a7 j hj
  obtain ⟨S', e3, f3, g3⟩ := k_refresh hn hB2 hf r0 hpv
  refine ⟨S', ?_, (f2.mono (by simp)).tr (f3.mono (by simp)), g3⟩
  have hS2 := FS_of hB2 hf
  rw [fnX1_settleIn]
  repeat (first | (conv => (lhs; arg 1; simp (disch := first | assumption | omega) only [tk_gI, tk_gL, tk_gR, tk_pI, tk_pL, rv_aI, rv_aL, rv_aR, rv_uI, rv_uL, rv_uB, rv_uZ, pu_ckI, pu_ckL, pu_lnI, pu_lnL, tk_rI, tk_rL, Option.bind_some, Option.map_some, rv_lt, tk_ix, hS, hh])); first | rw [Option.bind_some] | rw [bp_s] | rw [if_true] | rw [if_false] | rw [rv_lt_eq] | rw [if_pos (by omega)] | rw [if_neg (by omega)])
  rw [if_neg (by decide)]
  repeat (first | (conv => (lhs; arg 1; simp (disch := first | assumption | omega) only [tk_gI, tk_gL, tk_gR, tk_pI, tk_pL, rv_aI, rv_aL, rv_aR, rv_uI, rv_uL, rv_uB, rv_uZ, pu_ckI, pu_ckL, pu_lnI, pu_lnL, tk_rI, tk_rL, Option.bind_some, Option.map_some, rv_lt, tk_ix, hS, hS2, e3, eS2.symm])); first | rw [Option.bind_some] | rw [bp_s] | rw [if_true] | rw [if_false] | rw [rv_lt_eq] | rw [if_pos (by omega)] | rw [if_neg (by omega)])
theorem br_okv (h : okv m wd) (hW : vW m < 16) {u : Nat} (hu : u < 4) {l : List Nat} (hl : okL l) : okv (br m u) (fun w => if w = vW m then l else wd w) := by
  obtain ⟨hk, h16, h6, hz, hw⟩ := h
  have e0 := br_0 m u
  refine ⟨br_okm hk (by omega) hu, by rw [e0]; omega, ?_, fun k h1 h2 => ?_, fun w hw2 => ?_⟩
  · rw [br_off (by decide) (Or.inl (by omega))]; exact h6
  · rw [e0] at h1
    rw [br_off (by omega) (Or.inr (by have : vW m = m 0 := rfl; omega))]
    exact hz k (by omega) h2
  · rw [e0] at hw2
    show okL (if w = vW m then l else wd w)
    by_cases c : w = vW m
    · rw [if_pos c]; exact hl
    · rw [if_neg c]; exact hw w (by omega)
theorem br_row (h : okv m wd) (hr : ∀ k, k < 420 → R.2.1 192 k = nI (m k)) : ∀ j, j < 420 → (rv_sI R 192 0 (nI (m 0 + 1))).2.1 192 j = nI (br m 0 j) := fun j hj => by
  by_cases c0 : j = 0
  · rw [c0, rv_sI_eq]; rfl
  · rw [rv_sI_k _ _ c0, hr j hj]
    unfold br
    rw [if_neg c0]
    obtain ⟨-, h16, -, hz, -⟩ := h
    have h16' : m 0 ≤ 16 := h16
    have hz' : ∀ k, 8 + 5 * m 0 ≤ k → k < 128 → m k = 0 := hz
    by_cases c1 : j = 8 + 5 * m 0
    · rw [if_pos c1, c1, hz' _ (Nat.le_refl _) (by omega)]
    · rw [if_neg c1]
      by_cases c2 : 8 + 5 * m 0 < j ∧ j < 13 + 5 * m 0
      · rw [if_pos c2, hz' _ (by omega) (by omega)]
      · rw [if_neg c2]
theorem br_DRF {C' R' : rvS} (h : DRF C R m wd) (hW : vW m < 16) {u : Nat} (hu : u < 4) {l : List Nat} (hl : okL l) {D : List Nat} (f : rvf D C C') (hD : [87, 95, 96, 97, 98, 104, 105, 106].all (fun a => !D.elem a) = true) (hF : FR C' 88 (br m u)) (hc : ∀ w, w < vW m + 1 → C'.2.2.1 92 w = lN (c32 (if w = vW m then l else wd w))) (hr : ∀ k, k < 420 → R'.2.1 192 k = nI (br m u k)) (hrn : ∀ w, w < vW m + 1 → R'.2.2.1 196 w = lN (c27 (if w = vW m then l else wd w))) : DRF C' R' (br m u) (fun w => if w = vW m then l else wd w) := by
  obtain ⟨⟨-, hP, hDD⟩, d2, d3, d4, d5⟩ := h
  obtain ⟨hp, hcc, hd⟩ := id d5.1
  have hW' : m 0 < 16 := hW
  have g : ∀ a, a ∈ [87, 95, 96, 97, 98, 104, 105, 106] → D.elem a = false := fun a ha => by
    have := List.all_eq_true.mp hD a ha
    simpa using this
  have e : ∀ k, k ≠ 0 → k < 8 → br m u k = m k := fun k h1 h2 => br_off h1 (Or.inl (by omega))
  have e2 : ∀ k, 128 ≤ k → br m u k = m k := fun k hk => br_off (by omega) (Or.inr (by omega))
  refine ⟨⟨hF, (hP.f' f (fun i hi => ?_)).c hcc.1 (e 1 (by decide) (by decide)) (e 3 (by decide) (by decide)) (fun k h1 h2 => e2 k (by omega)), (hDD.f' f (fun i hi => ?_)).c2 (e 2 (by decide) (by decide)) (e 4 (by decide) (by decide)) (e 5 (by decide) (by decide)) (fun k hk => e2 k (by omega))⟩, fun w hw => ?_, hr, fun w hw => ?_, br_okv d5 hW hu hl⟩
  · have : i = 0 ∨ i = 1 ∨ i = 2 ∨ i = 3 := by omega
    rcases this with rfl | rfl | rfl | rfl
    · exact ⟨rfl, g 95 (by decide)⟩
    · exact ⟨rfl, g 96 (by decide)⟩
    · exact ⟨rfl, g 97 (by decide)⟩
    · exact ⟨rfl, g 98 (by decide)⟩
  · rcases hi with rfl | rfl | rfl | rfl
    · exact ⟨rfl, g 87 (by decide)⟩
    · exact ⟨rfl, g 104 (by decide)⟩
    · exact ⟨rfl, g 105 (by decide)⟩
    · exact ⟨rfl, g 106 (by decide)⟩
  · rw [br_0] at hw; exact hc w hw
  · rw [br_0] at hw; exact hrn w hw
/-- people -/
theorem vt_whoL (hn : 1000 ≤ n) (h : VT C R a b L M T m wd) (hf : FLG C R a f0 f1 f2) (kd : T.2.2.1 = 2) : RES C R a b L M T.2.1 (fnX10_readWho n C a) (fnX13_readWho n R 189) (fun R' => some (1, R')) := by
  obtain ⟨hK, ha, hD⟩ := id h
  obtain ⟨hB, hB2, hTC, hTR, hC, hR, hT, hL⟩ := id hK
  have ck := ha.ck
  have r0 := ha.2.2.2.1
  have r1 := ha.2.2.2.2
  have c65 := rc_65 hB
  have hv : vb 87 := Or.inr (Or.inl rfl)
  have hVS := VS_of hB hv
  have h16 := hD.2.2.2.2.2.1
  have h16' : m 0 ≤ 16 := h16
  have c88 : rv_ck C 0 88 = some () := rc_88 hB
  have s0 : C.2.1 88 0 = nI (vW m) := hD.1.1.1
  have w0 := hD.2.2.1 0 (by decide)
  have r15 := rf_of hB2 (show (189, 15, 192) ∈ rv_rf0 by decide)
  by_cases c16 : vW m < 16
  · have c16' : m 0 < 16 := c16
    obtain ⟨C2, R2, T2, e3, e4, fa2, fr2, h2, nxh2⟩ := vt_next (n := n) hn h
    have ck2 := h2.2.1.ck
    have q0 := h2.2.1.2.2.2.1
    have q1 := h2.2.1.2.2.2.2
    have hB3 := h2.1.1
    have hB4 := h2.1.2.1
    have c652 := rc_65 hB3
    have hVS2 := VS_of hB3 hv
    have c882 : rv_ck C2 0 88 = some () := rc_88 hB3
    have hT2 := h2.1.2.2.2.2.2.2.1
    have r152 := rf_of hB4 (show (189, 15, 192) ∈ rv_rf0 by decide)
    have r192 := rf_of hB4 (show (189, 19, 196) ∈ rv_rf0 by decide)
    have kw := k_isWord (n := n) hB3 h2.1.2.2.2.2.1 hT2 (w := 22) (by decide)
    have mw := m_isName (n := n) (by omega) hB4 h2.1.2.2.2.2.2.1 hT2
    have pre : ∀ X, ((fnX8_isWord n C2 65 22).bind fun x21_ => if x21_ = 0 then ((rv_gR C2 9 a 0).bind fun a95_ => (rv_ck C2 7 a95_).bind fun u97_ => rv_bp (fnX8_fail n C2 a95_ (1 : Int32)) fun x100_ S101_ => (rv_bo x100_).bind fun b_ => some (b_, S101_)) else ((rv_gR C2 9 a 1).bind fun a24_ => (rv_gR C2 8 a24_ 0).bind fun a26_ => (rv_gR C2 9 a 0).bind fun a28_ => (rv_gL C2 7 a28_ 7).bind fun x30_ => (rv_ck C2 0 a26_).bind fun u32_ => (fnX1_find n C2 a26_ x30_).bind fun x35_ => if x35_ = (-1 : Int32) then ((rv_gR C2 9 a 1).bind fun a38_ => (rv_gR C2 8 a38_ 0).bind fun a40_ => (rv_gR C2 9 a 0).bind fun a42_ => (rv_gL C2 7 a42_ 7).bind fun x44_ => (rv_ck C2 0 a40_).bind fun u46_ => rv_bp (fnX1_add n C2 a40_ x44_ (0 : Int32)) fun x49_ S50_ => (rv_gR S50_ 9 a 0).bind fun a53_ => (rv_ck S50_ 7 a53_).bind fun u55_ => (fnX8_next n S50_ a53_).bind fun S58_ => (rv_gR S58_ 9 a 0).bind fun a61_ => (rv_gI S58_ 7 a61_ 4).bind fun x63_ => if x63_ = (3 : Int32) then ((rv_ck S58_ 9 a).bind fun u66_ => rv_bp (fnX10_takesNumber n S58_ a (0 : Int32) (3 : Int32)) fun x69_ S70_ => if x69_ = 0 then some ((0 : Int32), S70_) else (rv_gR S70_ 9 a 1).bind fun a74_ => (rv_gR S70_ 8 a74_ 0).bind fun a76_ => (rv_gI S70_ 9 a 3).bind fun x78_ => (rv_ck S70_ 0 a76_).bind fun u80_ => (fnX1_settleIn n S70_ a76_ x49_ x78_).bind fun S83_ => some ((1 : Int32), S83_)) else some ((1 : Int32), S58_)) else ((rv_gR C2 9 a 0).bind fun a86_ => (rv_ck C2 7 a86_).bind fun u88_ => rv_bp (fnX8_fail n C2 a86_ (3 : Int32)) fun x91_ S92_ => (rv_bo x91_).bind fun b_ => some (b_, S92_)))) = X → fnX10_readWho n C a = X := fun X hX => by
      rw [fnX10_readWho]
      repeat (first | (conv => (lhs; arg 1; simp (disch := first | assumption | omega) only [tk_gI, tk_gL, tk_gR, tk_pI, tk_pL, rv_aI, rv_aL, rv_aR, rv_uI, rv_uL, rv_uB, rv_uZ, pu_ckI, pu_ckL, pu_lnI, pu_lnL, tk_rI, tk_rL, Option.bind_some, Option.map_some, rv_lt, tk_ix, ck, r1, hVS, c88, s0])); first | rw [Option.bind_some] | rw [bp_s] | rw [if_true] | rw [if_false] | rw [rv_lt_eq] | rw [if_pos (by omega)] | rw [if_neg (by omega)])
      rw [if_pos (by rw [z16, n_lt (by omega) (by omega)]; exact c16)]
      repeat (first | (conv => (lhs; arg 1; simp (disch := first | assumption | omega) only [tk_gI, tk_gL, tk_gR, tk_pI, tk_pL, rv_aI, rv_aL, rv_aR, rv_uI, rv_uL, rv_uB, rv_uZ, pu_ckI, pu_ckL, pu_lnI, pu_lnL, tk_rI, tk_rL, Option.bind_some, Option.map_some, rv_lt, tk_ix, ck, r0, c65])); first | rw [Option.bind_some] | rw [bp_s] | rw [if_true] | rw [if_false] | rw [rv_lt_eq] | rw [if_pos (by omega)] | rw [if_neg (by omega)])
      rw [e3, Option.bind_some]
      repeat (first | (conv => (lhs; arg 1; simp (disch := first | assumption | omega) only [tk_gI, tk_gL, tk_gR, tk_pI, tk_pL, rv_aI, rv_aL, rv_aR, rv_uI, rv_uL, rv_uB, rv_uZ, pu_ckI, pu_ckL, pu_lnI, pu_lnL, tk_rI, tk_rL, Option.bind_some, Option.map_some, rv_lt, tk_ix, ck2, q0, c652])); first | rw [Option.bind_some] | rw [bp_s] | rw [if_true] | rw [if_false] | rw [rv_lt_eq] | rw [if_pos (by omega)] | rw [if_neg (by omega)])
      exact hX
    have ref : ∀ X, ((fnX13_isName n R2 189).bind fun x15_ => if x15_ = 0 then ((rv_ck R2 11 189).bind fun u68_ => rv_bp (fnX13_bad n R2 189 (1 : Int32)) fun x71_ S72_ => (rv_bo x71_).bind fun b_ => some (b_, S72_)) else ((rv_gR R2 11 189 19).bind fun a18_ => (rv_gL R2 11 189 12).bind fun x20_ => (fnX13_findIn n R2 a18_ (nI (m 0)) x20_).bind fun x23_ => if x23_ = (-1 : Int32) then ((rv_gR R2 11 189 19).bind fun a26_ => (rv_gL R2 11 189 12).bind fun x28_ => (rv_uL R2 a26_ (nI (m 0)) x28_).bind fun S30_ => (rv_gR S30_ 11 189 15).bind fun a32_ => (rv_aI S30_ 0 a32_ (0 : Int32)).bind fun x34_ => (rv_uI S30_ a32_ (0 : Int32) (x34_ + (1 : Int32))).bind fun S36_ => (rv_ck S36_ 11 189).bind fun u38_ => (fnX13_go n S36_ 189).bind fun S41_ => (rv_gI S41_ 11 189 7).bind fun x44_ => if x44_ = (3 : Int32) then ((rv_ck S41_ 11 189).bind fun u47_ => rv_bp (fnX13_readNumber n S41_ 189 (0 : Int32) (3 : Int32)) fun x50_ S51_ => if x50_ = 0 then some ((0 : Int32), S51_) else (rv_gR S51_ 11 189 15).bind fun a55_ => (rv_gI S51_ 11 189 13).bind fun x57_ => (rv_uI S51_ a55_ (((8 : Int32) + ((5 : Int32) * nI (m 0))) + (0 : Int32)) x57_).bind fun S59_ => some ((1 : Int32), S59_)) else some ((1 : Int32), S41_)) else ((rv_ck R2 11 189).bind fun u61_ => rv_bp (fnX13_bad n R2 189 (3 : Int32)) fun x64_ S65_ => (rv_bo x64_).bind fun b_ => some (b_, S65_)))) = X → fnX13_readWho n R 189 = X := fun X hX => by
      rw [fnX13_readWho]
      repeat (first | (conv => (lhs; arg 1; simp (disch := first | assumption | omega) only [tk_gI, tk_gL, tk_gR, tk_pI, tk_pL, rv_aI, rv_aL, rv_aR, rv_uI, rv_uL, rv_uB, rv_uZ, pu_ckI, pu_ckL, pu_lnI, pu_lnL, tk_rI, tk_rL, Option.bind_some, Option.map_some, rv_lt, tk_ix, z0, rc_189 hB2, r15, rn_192 hB2, w0])); first | rw [Option.bind_some] | rw [bp_s] | rw [if_true] | rw [if_false] | rw [rv_lt_eq] | rw [if_pos (by omega)] | rw [if_neg (by omega)])
      rw [if_neg (show ¬ nI (m 0) = 16 by rw [z16, n_eq (by omega) (by omega)]; omega), rc_189 hB2, Option.bind_some, e4, Option.bind_some, rc_189 hB4, Option.bind_some]
      rw [rc_189 hB4] at hX
      exact hX
    by_cases c : iw T2 22 = true
    · obtain ⟨c2, c3⟩ := iw_2 c
      have hl := hT2.2.2.2.2.2 c2
      have e7 := (h2.1.2.2.2.2.1.2.2.2.2 c2).1
      have e12 := h2.1.2.2.2.2.2.1.2.2.2.2.2 c2
      obtain ⟨-, d2, d3, d4, d5⟩ := id h2.2.2
      obtain ⟨hp, hc, hd⟩ := id d5.1
      rw [c] at kw mw
      have kf : fnX1_find n C2 88 _ = _ := k_find (n := n) (C := C2) (wd := wd) (by omega) hB3 hv.f (N := vW m) (N1 := vW m) (by omega) (Nat.le_refl _) h2.2.2.1.1.1 (fun w hw2 => by rw [if_pos hw2]; exact d2 w hw2) d5.2.2.2.2 hl
      have mf : fnX13_findIn n R2 196 (nI (m 0)) _ = _ := m_find (n := n) (R := R2) (wd := wd) (by omega) (row := 196) (N := vW m) (rn_196 hB4) (by omega) (by decide) (by omega) d4 d5.2.2.2.2 hl
      cases hx : fdF wd T2.2.2.2.2 (vW m) 0 with
      | some w =>
        obtain ⟨-, w2, -⟩ := fdF_lt _ _ _ hx
        have nM : ¬ nI w = -1 := fun z => by
          have := z_eqM (a := w) (by omega)
          rw [← this]
          exact z
        rw [hx] at kf mf
        have kf : fnX1_find n C2 88 _ = some (nI w) := kf
        have mf : fnX13_findIn n R2 196 (nI (m 0)) _ = some (nI w) := mf
        refine vt_bad (n := n) h2 (f := 3) (by decide) (Or.inr ⟨by omega, by omega⟩) fa2.v (fr2.mono rfl) (fun C' e => pre _ ?_) (fun R' e => ref _ ?_)
        · rw [kw, Option.bind_some, if_neg (show ¬ bI true = 0 by decide)]
          repeat (first | (conv => (lhs; arg 1; simp (disch := first | assumption | omega) only [tk_gI, tk_gL, tk_gR, tk_pI, tk_pL, rv_aI, rv_aL, rv_aR, rv_uI, rv_uL, rv_uB, rv_uZ, pu_ckI, pu_ckL, pu_lnI, pu_lnL, tk_rI, tk_rL, Option.bind_some, Option.map_some, rv_lt, tk_ix, ck2, q0, q1, c652, hVS2, e7, c882, kf])); first | rw [Option.bind_some] | rw [bp_s] | rw [if_true] | rw [if_false] | rw [rv_lt_eq] | rw [if_pos (by omega)] | rw [if_neg (by omega)])
          rw [z3, e, bp_s]
          rfl
        · rw [mw, Option.bind_some, if_neg (show ¬ bI true = 0 by decide)]
          repeat (first | (conv => (lhs; arg 1; simp (disch := first | assumption | omega) only [tk_gI, tk_gL, tk_gR, tk_pI, tk_pL, rv_aI, rv_aL, rv_aR, rv_uI, rv_uL, rv_uB, rv_uZ, pu_ckI, pu_ckL, pu_lnI, pu_lnL, tk_rI, tk_rL, Option.bind_some, Option.map_some, rv_lt, tk_ix, rc_189 hB4, r192, e12, mf])); first | rw [Option.bind_some] | rw [bp_s] | rw [if_true] | rw [if_false] | rw [rv_lt_eq] | rw [if_pos (by omega)] | rw [if_neg (by omega)])
          rw [z3, e, bp_s]
          rfl
      | none =>
        rw [hx] at kf mf
        have kf : fnX1_find n C2 88 _ = some (-1) := kf
        have mf : fnX13_findIn n R2 196 (nI (m 0)) _ = some (-1) := mf
        obtain ⟨C3, e8, f3, F3, n3⟩ := k_addC (n := n) (by omega) hB3 hv.f h2.2.2.1.1 hp (by omega) (u := 0) (by decide) (lN (c32 T2.2.2.2.2))
        have e8 : fnX1_add n C2 88 (lN (c32 T2.2.2.2.2)) (0 : Int32) = some (nI (vW m), C3) := e8
        have f3 : rvf [88, 89, 90, 91, 92, 94] C2 C3 := f3
        have n3 : ∀ j, C3.2.2.1 92 j = if j = vW m then lN (c32 T2.2.2.2.2) else C2.2.2.1 92 j := n3
        obtain ⟨R3, eR3⟩ : ∃ R3, R3 = rv_sI (rv_sL R2 196 (vW m) (lN (c27 T2.2.2.2.2))) 192 0 (nI (m 0 + 1)) := ⟨_, rfl⟩
        have fr3 : rvf [192, 196] R2 R3 := by
          rw [eR3]
          exact ((rvf.sLr R2 _ _ rfl).mono (D' := [192, 196]) rfl).w rfl rfl
        have cn : ∀ w, w < vW m + 1 → C3.2.2.1 92 w = lN (c32 (if w = vW m then T2.2.2.2.2 else wd w)) := fun w hw => by
          rw [n3]
          by_cases cw : w = vW m
          · rw [if_pos cw, if_pos cw]
          · rw [if_neg cw, if_neg cw]; exact d2 w (by omega)
        have rr : ∀ k, k < 420 → R3.2.1 192 k = nI (br m 0 k) := by
          rw [eR3]
          exact br_row d5 (R := rv_sL R2 196 (vW m) (lN (c27 T2.2.2.2.2))) (fun k hk => d3 k hk)
        have rn : ∀ w, w < vW m + 1 → R3.2.2.1 196 w = lN (c27 (if w = vW m then T2.2.2.2.2 else wd w)) := fun w hw => by
          rw [eR3]
          show (rv_sL R2 196 (vW m) _).2.2.1 196 w = _
          by_cases cw : w = vW m
          · rw [if_pos cw, cw, rv_sL_eq]
          · rw [if_neg cw, rv_sL_k _ _ cw]; exact d4 w (by omega)
        have D3 := br_DRF h2.2.2 c16 (u := 0) (by decide) hl f3 rfl F3 cn rr rn
        have h3 : VT C3 R3 a b L M T2 (br m 0) (fun w => if w = vW m then T2.2.2.2.2 else wd w) := ⟨(h2.1.fc f3 rfl).fr fr3 rfl, h2.2.1.f f3 rfl, D3⟩
        obtain ⟨C4, R4, T4, e9, e10, fa4, fr4, h4, nxh4⟩ := vt_next (n := n) hn h3
        have ck3 := h3.2.1.ck
        have q03 := h3.2.1.2.2.2.1
        have ck4 := h4.2.1.ck
        have q04 := h4.2.1.2.2.2.1
        have q14 := h4.2.1.2.2.2.2
        have hT4 := h4.1.2.2.2.2.2.2.1
        have k4 := h4.1.2.2.2.2.1.2.2.1
        have k7 := h4.1.2.2.2.2.2.1.2.2.1
        have h64 := hT4.2.2.1
        have hr4 := rkd_lt T4.2.2.1
        have pre2 : ∀ X, (if nI T4.2.2.1 = (3 : Int32) then ((rv_ck C4 9 a).bind fun u66_ => rv_bp (fnX10_takesNumber n C4 a (0 : Int32) (3 : Int32)) fun x69_ S70_ => if x69_ = 0 then some ((0 : Int32), S70_) else (rv_gR S70_ 9 a 1).bind fun a74_ => (rv_gR S70_ 8 a74_ 0).bind fun a76_ => (rv_gI S70_ 9 a 3).bind fun x78_ => (rv_ck S70_ 0 a76_).bind fun u80_ => (fnX1_settleIn n S70_ a76_ (nI (vW m)) x78_).bind fun S83_ => some ((1 : Int32), S83_)) else some ((1 : Int32), C4)) = X → fnX10_readWho n C a = X := fun X hX => pre X (by
          rw [kw, Option.bind_some, if_neg (show ¬ bI true = 0 by decide)]
          repeat (first | (conv => (lhs; arg 1; simp (disch := first | assumption | omega) only [tk_gI, tk_gL, tk_gR, tk_pI, tk_pL, rv_aI, rv_aL, rv_aR, rv_uI, rv_uL, rv_uB, rv_uZ, pu_ckI, pu_ckL, pu_lnI, pu_lnL, tk_rI, tk_rL, Option.bind_some, Option.map_some, rv_lt, tk_ix, ck2, q0, q1, c652, hVS2, e7, c882, kf])); first | rw [Option.bind_some] | rw [bp_s] | rw [if_true] | rw [if_false] | rw [rv_lt_eq] | rw [if_pos (by omega)] | rw [if_neg (by omega)])
          rw [show (87 + 1 : Nat) = 88 from rfl, e8, bp_s]
          repeat (first | (conv => (lhs; arg 1; simp (disch := first | assumption | omega) only [tk_gI, tk_gL, tk_gR, tk_pI, tk_pL, rv_aI, rv_aL, rv_aR, rv_uI, rv_uL, rv_uB, rv_uZ, pu_ckI, pu_ckL, pu_lnI, pu_lnL, tk_rI, tk_rL, Option.bind_some, Option.map_some, rv_lt, tk_ix, ck3, q03, rc_65 h3.1.1])); first | rw [Option.bind_some] | rw [bp_s] | rw [if_true] | rw [if_false] | rw [rv_lt_eq] | rw [if_pos (by omega)] | rw [if_neg (by omega)])
          rw [e9, Option.bind_some]
          repeat (first | (conv => (lhs; arg 1; simp (disch := first | assumption | omega) only [tk_gI, tk_gL, tk_gR, tk_pI, tk_pL, rv_aI, rv_aL, rv_aR, rv_uI, rv_uL, rv_uB, rv_uZ, pu_ckI, pu_ckL, pu_lnI, pu_lnL, tk_rI, tk_rL, Option.bind_some, Option.map_some, rv_lt, tk_ix, ck4, q04, rc_65 h4.1.1, k4])); first | rw [Option.bind_some] | rw [bp_s] | rw [if_true] | rw [if_false] | rw [rv_lt_eq] | rw [if_pos (by omega)] | rw [if_neg (by omega)])
          exact hX)
        have ref2 : ∀ X, (if nI (rkd T4.2.2.1) = (3 : Int32) then ((rv_ck R4 11 189).bind fun u47_ => rv_bp (fnX13_readNumber n R4 189 (0 : Int32) (3 : Int32)) fun x50_ S51_ => if x50_ = 0 then some ((0 : Int32), S51_) else (rv_gR S51_ 11 189 15).bind fun a55_ => (rv_gI S51_ 11 189 13).bind fun x57_ => (rv_uI S51_ a55_ (((8 : Int32) + ((5 : Int32) * nI (m 0))) + (0 : Int32)) x57_).bind fun S59_ => some ((1 : Int32), S59_)) else some ((1 : Int32), R4)) = X → fnX13_readWho n R 189 = X := fun X hX => ref X (by
          rw [mw, Option.bind_some, if_neg (show ¬ bI true = 0 by decide)]
          repeat (first | (conv => (lhs; arg 1; simp (disch := first | assumption | omega) only [tk_gI, tk_gL, tk_gR, tk_pI, tk_pL, rv_aI, rv_aL, rv_aR, rv_uI, rv_uL, rv_uB, rv_uZ, pu_ckI, pu_ckL, pu_lnI, pu_lnL, tk_rI, tk_rL, Option.bind_some, Option.map_some, rv_lt, tk_ix, rc_189 hB4, r192, e12, mf])); first | rw [Option.bind_some] | rw [bp_s] | rw [if_true] | rw [if_false] | rw [rv_lt_eq] | rw [if_pos (by omega)] | rw [if_neg (by omega)])
          have w02 := d3 0 (by decide)
          have w03 : (rv_sL R2 196 (m 0) (lN (c27 T2.2.2.2.2))).2.1 192 0 = nI (m 0) := w02
          repeat (first | (conv => (lhs; arg 1; simp (disch := first | assumption | omega) only [tk_gI, tk_gL, tk_gR, tk_pI, tk_pL, rv_aI, rv_aL, rv_aR, rv_uI, rv_uL, rv_uB, rv_uZ, pu_ckI, pu_ckL, pu_lnI, pu_lnL, tk_rI, tk_rL, Option.bind_some, Option.map_some, rv_lt, tk_ix, z0, z1, nI_add, rc_189 hB4, r192, r152, rn_192 hB4, rn_196 hB4, e12, w02, w03])); first | rw [Option.bind_some] | rw [bp_s] | rw [if_true] | rw [if_false] | rw [rv_lt_eq] | rw [if_pos (by omega)] | rw [if_neg (by omega)])
          rw [show rv_sI (rv_sL R2 196 (m 0) (lN (c27 T2.2.2.2.2))) 192 0 (nI (m 0 + 1)) = R3 from eR3.symm, e10, Option.bind_some]
          repeat (first | (conv => (lhs; arg 1; simp (disch := first | assumption | omega) only [tk_gI, tk_gL, tk_gR, tk_pI, tk_pL, rv_aI, rv_aL, rv_aR, rv_uI, rv_uL, rv_uB, rv_uZ, pu_ckI, pu_ckL, pu_lnI, pu_lnL, tk_rI, tk_rL, Option.bind_some, Option.map_some, rv_lt, tk_ix, rc_189 h4.1.2.1, k7])); first | rw [Option.bind_some] | rw [bp_s] | rw [if_true] | rw [if_false] | rw [rv_lt_eq] | rw [if_pos (by omega)] | rw [if_neg (by omega)])
          exact hX)
        have frB : rvf DRv R R4 := ((fr2.mono rfl).tr (fr3.mono rfl)).tr (fr4.mono rfl)
        have fcB : rvf (DVc ++ [a]) C C4 := (fa2.v.tr (rvfV f3 rfl)).tr fa4.v
        have flB : FLG C4 R4 a f0 f1 f2 := by
          have q := hf.f fa2 fr2 rfl rfl rfl rfl
          have q2 : FLG C3 R3 a f0 f1 f2 := ⟨(h2.2.1.rest f3 rfl 5).trans q.1, (h2.2.1.rest f3 rfl 6).trans q.2.1, (h2.2.1.rest f3 rfl 7).trans q.2.2.1, (fr3.at (a := 189) (k := 23) rfl).trans q.2.2.2⟩
          exact q2.f fa4 fr4 rfl rfl rfl rfl
        have lnB : C4.2.1 a 2 = C.2.1 a 2 := (fa4.2.2 2 rfl).trans ((h2.2.1.rest f3 rfl 2).trans (fa2.2.2 2 rfl))
        by_cases k3 : T4.2.2.1 = 3
        · have i3 : nI T4.2.2.1 = (3 : Int32) := by rw [k3]; rfl
          have i4 : nI (rkd T4.2.2.1) = (3 : Int32) := by rw [k3]; rfl
          obtain ⟨C5, R5, fa5, fr5, h5⟩ := vt_takes (n := n) hn h4 (lo := 0) (hi := 3) (by decide) (by decide)
          rcases h5 with ⟨e11, e12', g⟩ | ⟨v, T5, v0, v3, e11, e12', g3, g13, h6, nxh6⟩
          · have e11 : fnX10_takesNumber n C4 a (0 : Int32) (3 : Int32) = some (0, C5) := e11
            have e12' : fnX13_readNumber n R4 189 (0 : Int32) (3 : Int32) = some (0, R5) := e12'
            refine ⟨C5, R5, fcB.tr fa5.v, frB.tr (fr5.mono rfl), Or.inl ⟨pre2 _ ?_, ref2 _ ?_, g⟩⟩
            · rw [if_pos i3, ck4, Option.bind_some, e11, bp_s, if_pos rfl]
            · rw [if_pos i4, rc_189 h4.1.2.1, Option.bind_some, e12', bp_s, if_pos rfl]
          · have e11 : fnX10_takesNumber n C4 a (0 : Int32) (3 : Int32) = some (1, C5) := e11
            have e12' : fnX13_readNumber n R4 189 (0 : Int32) (3 : Int32) = some (1, R5) := e12'
            obtain ⟨C6, e13, f6, F6⟩ := k_settle (n := n) (by omega) h6.1.1 hv.f hp (by omega) h6.2.2.1.1 (v := v) (by omega)
            have e13 : fnX1_settleIn n C5 88 (nI (vW m)) (nI v) = some C6 := e13
            have f6 : rvf [89, 94] C5 C6 := f6
            obtain ⟨R6, eR6⟩ : ∃ R6, R6 = rv_sI R5 192 (8 + 5 * m 0) (nI v) := ⟨_, rfl⟩
            have fr6 : rvf [192] R5 R6 := by rw [eR6]; exact rvf.sIr _ _ _ rfl
            obtain ⟨-, p2, p3, p4, p5⟩ := id h6.2.2
            have hW0 := br_0 m 0
            -- from the draft of m itself
            have D6 : DRF C6 R6 (br m v) (fun w => if w = vW m then T2.2.2.2.2 else wd w) := by
              obtain ⟨⟨hF5, hP5, hD5⟩, -, -, -, -⟩ := id h6.2.2
              have e : ∀ k, k ≠ 8 + 5 * m 0 → br m v k = br m 0 k := fun k hk => by
                unfold br
                rw [if_neg hk, if_neg hk]
              have hc0 := p5.1.2.1
              refine ⟨⟨F6, (hP5.f' f6 (by decide)).c hc0.1 (e 1 (by omega)) (e 3 (by omega)) (fun k h1 h2 => e k (by omega)), (hD5.f' f6 (by
                intro i hi
                rcases hi with rfl | rfl | rfl | rfl <;> exact ⟨rfl, rfl⟩)).c2 (e 2 (by omega)) (e 4 (by omega)) (e 5 (by omega)) (fun k hk => e k (by omega))⟩, fun w hw => ?_, fun k hk => ?_, fun w hw => ?_, br_okv d5 c16 (by omega) hl⟩
              · rw [br_0] at hw
                rw [f6.rowL (a := 92) rfl rfl]
                exact p2 w (by rw [br_0]; exact hw)
              · rw [eR6]
                by_cases ck : k = 8 + 5 * m 0
                · rw [ck, rv_sI_eq]
                  have : br m v (8 + 5 * m 0) = v := (br_new m v).1
                  rw [this]
                · rw [rv_sI_k _ _ ck, e k ck]; exact p3 k hk
              · rw [br_0] at hw
                rw [fr6.rowL (a := 196) rfl rfl]
                exact p4 w (by rw [br_0]; exact hw)
            have ck6 := h6.2.1.ck
            have q16 := h6.2.1.2.2.2.2
            have hVS6 := VS_of h6.1.1 hv
            have c886 : rv_ck C5 0 88 = some () := rc_88 h6.1.1
            refine ⟨C6, R6, (fcB.tr fa5.v).tr (rvfV f6 rfl), (frB.tr (fr5.mono rfl)).tr (fr6.mono rfl), Or.inr ⟨pre2 _ ?_, ref2 _ ?_, T5, _, _, f0, f1, f2, ⟨(h6.1.fc f6 rfl).fr fr6 rfl, h6.2.1.f f6 rfl, D6⟩, ?_, ?_, _, Nat.le_trans nxh2.2.1 nxh4.2.1, nxh6.2.2, nxh6.1⟩⟩
            · rw [if_pos i3, ck4, Option.bind_some, e11, bp_s, if_neg (by decide)]
              repeat (first | (conv => (lhs; arg 1; simp (disch := first | assumption | omega) only [tk_gI, tk_gL, tk_gR, tk_pI, tk_pL, rv_aI, rv_aL, rv_aR, rv_uI, rv_uL, rv_uB, rv_uZ, pu_ckI, pu_ckL, pu_lnI, pu_lnL, tk_rI, tk_rL, Option.bind_some, Option.map_some, rv_lt, tk_ix, ck6, q16, hVS6, c886, g3])); first | rw [Option.bind_some] | rw [bp_s] | rw [if_true] | rw [if_false] | rw [rv_lt_eq] | rw [if_pos (by omega)] | rw [if_neg (by omega)])
              rw [e13]
              rfl
            · rw [if_pos i4, rc_189 h4.1.2.1, Option.bind_some, e12', bp_s, if_neg (by decide)]
              have zz : (8 : Int32) + (5 : Int32) * nI (m 0) + (0 : Int32) = nI (8 + 5 * m 0) := by rw [z8, z5, z0, z_mul, nI_add, nI_add, Nat.add_zero]
              repeat (first | (conv => (lhs; arg 1; simp (disch := first | assumption | omega) only [tk_gI, tk_gL, tk_gR, tk_pI, tk_pL, rv_aI, rv_aL, rv_aR, rv_uI, rv_uL, rv_uB, rv_uZ, pu_ckI, pu_ckL, pu_lnI, pu_lnL, tk_rI, tk_rL, Option.bind_some, Option.map_some, rv_lt, tk_ix, zz, rc_189 h6.1.2.1, rf_of h6.1.2.1 (show (189, 15, 192) ∈ rv_rf0 by decide), rn_192 h6.1.2.1, g13])); first | rw [Option.bind_some] | rw [bp_s] | rw [if_true] | rw [if_false] | rw [rv_lt_eq] | rw [if_pos (by omega)] | rw [if_neg (by omega)])
              rw [eR6]
            · have q := flB.f fa5 fr5 rfl rfl rfl rfl
              exact ⟨(h6.2.1.rest f6 rfl 5).trans q.1, (h6.2.1.rest f6 rfl 6).trans q.2.1, (h6.2.1.rest f6 rfl 7).trans q.2.2.1, (fr6.at (a := 189) (k := 23) rfl).trans q.2.2.2⟩
            · rw [h6.2.1.rest f6 rfl 2, fa5.2.2 2 rfl, lnB]
        · refine ⟨C4, R4, fcB, frB, Or.inr ⟨pre2 _ ?_, ref2 _ ?_, T4, _, _, f0, f1, f2, h4, flB, lnB, _, nxh2.2.1, nxh4.2.2, nxh4.1⟩⟩
          · rw [if_neg (by rw [z3, n_eq (by omega) (by omega)]; exact k3)]
          · rw [if_neg (by rw [z3, n_eq (by omega) (by omega), rkd_3e]; exact k3)]
    · have cf : iw T2 22 = false := by
        cases e : iw T2 22
        · rfl
        · exact absurd e c
      rw [cf] at kw mw
      refine vt_bad (n := n) h2 (f := 1) (by decide) (Or.inl rfl) fa2.v (fr2.mono rfl) (fun C' e => pre _ ?_) (fun R' e => ref _ ?_)
      · rw [kw, Option.bind_some, if_pos (show bI false = 0 from rfl)]
        repeat (first | (conv => (lhs; arg 1; simp (disch := first | assumption | omega) only [tk_gI, tk_gL, tk_gR, tk_pI, tk_pL, rv_aI, rv_aL, rv_aR, rv_uI, rv_uL, rv_uB, rv_uZ, pu_ckI, pu_ckL, pu_lnI, pu_lnL, tk_rI, tk_rL, Option.bind_some, Option.map_some, rv_lt, tk_ix, ck2, q0, c652])); first | rw [Option.bind_some] | rw [bp_s] | rw [if_true] | rw [if_false] | rw [rv_lt_eq] | rw [if_pos (by omega)] | rw [if_neg (by omega)])
        rw [z1, e, bp_s]
        rfl
      · rw [mw, Option.bind_some, if_pos (show bI false = 0 from rfl), rc_189 hB4, Option.bind_some, z1, e, bp_s]
        rfl
  · have e16 : m 0 = 16 := by have : vW m = m 0 := rfl; omega
    refine vt_bad (n := n) h (f := 4) (by decide) (Or.inr ⟨by omega, by omega⟩) (rvf.rf _ _) (rvf.rf _ _) (fun C' e => ?_) (fun R' e => ?_)
    · rw [fnX10_readWho]
      repeat (first | (conv => (lhs; arg 1; simp (disch := first | assumption | omega) only [tk_gI, tk_gL, tk_gR, tk_pI, tk_pL, rv_aI, rv_aL, rv_aR, rv_uI, rv_uL, rv_uB, rv_uZ, pu_ckI, pu_ckL, pu_lnI, pu_lnL, tk_rI, tk_rL, Option.bind_some, Option.map_some, rv_lt, tk_ix, ck, r1, hVS, c88, s0])); first | rw [Option.bind_some] | rw [bp_s] | rw [if_true] | rw [if_false] | rw [rv_lt_eq] | rw [if_pos (by omega)] | rw [if_neg (by omega)])
      rw [if_neg (by rw [z16, n_lt (by omega) (by omega)]; exact c16)]
      repeat (first | (conv => (lhs; arg 1; simp (disch := first | assumption | omega) only [tk_gI, tk_gL, tk_gR, tk_pI, tk_pL, rv_aI, rv_aL, rv_aR, rv_uI, rv_uL, rv_uB, rv_uZ, pu_ckI, pu_ckL, pu_lnI, pu_lnL, tk_rI, tk_rL, Option.bind_some, Option.map_some, rv_lt, tk_ix, ck, r0, c65])); first | rw [Option.bind_some] | rw [bp_s] | rw [if_true] | rw [if_false] | rw [rv_lt_eq] | rw [if_pos (by omega)] | rw [if_neg (by omega)])
      rw [z4, e, bp_s]
      rfl
    · rw [fnX13_readWho]
      repeat (first | (conv => (lhs; arg 1; simp (disch := first | assumption | omega) only [tk_gI, tk_gL, tk_gR, tk_pI, tk_pL, rv_aI, rv_aL, rv_aR, rv_uI, rv_uL, rv_uB, rv_uZ, pu_ckI, pu_ckL, pu_lnI, pu_lnL, tk_rI, tk_rL, Option.bind_some, Option.map_some, rv_lt, tk_ix, z0, rc_189 hB2, r15, rn_192 hB2, w0])); first | rw [Option.bind_some] | rw [bp_s] | rw [if_true] | rw [if_false] | rw [rv_lt_eq] | rw [if_pos (by omega)] | rw [if_neg (by omega)])
      rw [if_pos (show nI (m 0) = 16 by rw [e16, z16]), rc_189 hB2, Option.bind_some, z4, e, bp_s]
      rfl
end
