/-! ORDERS: the class's side -/
section
variable {n : Nat} {S : rvS} {m m' : Nat → Nat} {B : Nat → Bool} {b : Nat}
theorem rvf.wx {D : List Nat} {S S0 : rvS} {a k : Nat} {v : Int32} (h : rvf D S S0) (ha : rwb a = true) (hd : a ∈ D) : rvf D S (rv_sI S0 a k v) := h.w ha (List.elem_iff.mpr hd)
theorem k_moveAllp (hn : 1100 ≤ n) (hB : rv_B S) {p : Nat} (hpb : pb p) (hP : PR S p m) (hk : okm m) (hb : b < vW m) : ∃ S', fnX6_moveAll n S p (lN (bs B (vC m))) (nI b) = some S' ∧ rvf [p + 2, p + 3] S S' ∧ PR S' p (mvs m B b (vC m)) := by
  have h40 := hk.2.1.1
  have h24 := hk.1.1
  have b40 := bs_64 B h40
  have rw2 := (pb_r hpb 2 (by decide)).1
  have rw3 := (pb_r hpb 3 (by decide)).1
  rw [fnX6_moveAll]
  refine lp (F := fun q (x : rvS × Int32) => cX6_moveAll_3 n q x.1 p (lN (bs B (vC m))) (nI b) x.2) (fun i x => x.2 = nI i ∧ rvf [p + 2, p + 3] S x.1 ∧ PR x.1 p (mvs m B b i)) (fun o => ∃ S', o = some S' ∧ rvf [p + 2, p + 3] S S' ∧ PR S' p (mvs m B b (vC m))) (vC m) (fun i x q hi hx => Or.inr ?_) (fun x q hx => ?_) (i := 0) (x := (S, nI 0)) (q := n) (Nat.zero_le _) ⟨rfl, rvf.rf _ _, hP⟩ (by omega)
  · obtain ⟨S1, x2⟩ := x
    obtain ⟨rfl, f, g⟩ := hx
    have f : rvf [p + 2, p + 3] S S1 := f
    have g : PR S1 p (mvs m B b i) := g
    have hB1 := f.B hB
    have hPS := PS_of hB1 hpb
    have hk1 := mvs_ok (B := B) hk hb i (by omega)
    have ec : vC (mvs m B b i) = vC m := mvs_lo i 1 (by decide)
    have g0 : S1.2.1 p 0 = nI (vC m) := by rw [← ec]; exact g.1
    have hi2 : i < vC (mvs m B b i) := by omega
    cases c : B i
    · refine ⟨(S1, nI (i + 1)), ?_, rfl, f, by rw [mvs, c, if_neg nft]; exact g⟩
      show cX6_moveAll_3 n (q + 1) S1 p (lN (bs B (vC m))) (nI b) (nI i) = cX6_moveAll_3 n q S1 p (lN (bs B (vC m))) (nI b) (nI (i + 1))
      rw [cX6_moveAll_3]
      simp (disch := first | assumption | omega) only [tk_gI, tk_gL, tk_gR, tk_pI, tk_pL, rv_aI, rv_aL, rv_aR, rv_uI, rv_uL, rv_uB, rv_uZ, pu_ckI, pu_ckL, pu_lnI, pu_lnL, tk_rI, tk_rL, Option.bind_some, Option.map_some, rv_lt, tk_ix, z0, z1, z2, z3, z4, z5, z6, z7, z8, z9, z10, z11, z12, z13, z15, z16, z17, z18, z20, z21, z23, z24, z25, z31, z32, z39, z40, z41, z46, z48, z50, z57, z59, z60, z61, z62, z63, z64, z97, z98, z99, z100, z101, z102, z103, z104, z105, z106, z107, z108, z109, z110, z111, z112, z113, z114, z115, z116, z117, z118, z119, z120, z121, z122, z128, z132, z200, z240, z255, z372, z390625, z400, z420, z421, z422, z662, z900, z940, z999, z1000, z1024, z2000, z5860, z10000, z12345, z15625, z266240, z1048575, z1064960, z1103515245, z_m1, y0, y1, y27, y63, y96, y1099511627776, y69269232549888, n_le, n_lt, n_eq, n_bit0, n_bit1, n_sbit0, n_shl, z_ltM, z_Mlt, z_leM, z_Mle, z_eqM, z_Meq, bI0, bI1, bI_01, bI_01t, bI_10, bI_10f, if_true, if_false, eq_self, reduceCtorEq, if_pos, if_neg, hPS, g0, m_bit0, m_bit2, n_l, bs_bit, c, Bool.and_false, nI_add]
    · have km := k_move (n := n) hPS g hk1.1 hk1.2.1 hi2 (nI b)
      have f2 : rvf [p + 2, p + 3] S1 (rv_sI (rv_sI S1 (p + 3) i (nI (rb (ps (mvs m B b i) (ow (mvs m B b i) i) (rl (mvs m B b i) i))))) (p + 2) i (nI b)) := ((rvf.rf _ _).wx rw3 (by simp)).wx rw2 (by simp)
      have p2 := mv_PR (w := b) g hk1.2.1 hi2
      obtain ⟨S2, eS2⟩ : ∃ S2, S2 = rv_sI (rv_sI S1 (p + 3) i (nI (rb (ps (mvs m B b i) (ow (mvs m B b i) i) (rl (mvs m B b i) i))))) (p + 2) i (nI b) := ⟨_, rfl⟩
      rw [← eS2] at km f2 p2
      refine ⟨(S2, nI (i + 1)), ?_, rfl, f.tr f2, by rw [mvs, c, if_pos rfl]; exact p2⟩
      show cX6_moveAll_3 n (q + 1) S1 p (lN (bs B (vC m))) (nI b) (nI i) = cX6_moveAll_3 n q S2 p (lN (bs B (vC m))) (nI b) (nI (i + 1))
      rw [cX6_moveAll_3]
      simp (disch := first | assumption | omega) only [tk_gI, tk_gL, tk_gR, tk_pI, tk_pL, rv_aI, rv_aL, rv_aR, rv_uI, rv_uL, rv_uB, rv_uZ, pu_ckI, pu_ckL, pu_lnI, pu_lnL, tk_rI, tk_rL, Option.bind_some, Option.map_some, rv_lt, tk_ix, z0, z1, z2, z3, z4, z5, z6, z7, z8, z9, z10, z11, z12, z13, z15, z16, z17, z18, z20, z21, z23, z24, z25, z31, z32, z39, z40, z41, z46, z48, z50, z57, z59, z60, z61, z62, z63, z64, z97, z98, z99, z100, z101, z102, z103, z104, z105, z106, z107, z108, z109, z110, z111, z112, z113, z114, z115, z116, z117, z118, z119, z120, z121, z122, z128, z132, z200, z240, z255, z372, z390625, z400, z420, z421, z422, z662, z900, z940, z999, z1000, z1024, z2000, z5860, z10000, z12345, z15625, z266240, z1048575, z1064960, z1103515245, z_m1, y0, y1, y27, y63, y96, y1099511627776, y69269232549888, n_le, n_lt, n_eq, n_bit0, n_bit1, n_sbit0, n_shl, z_ltM, z_Mlt, z_leM, z_Mle, z_eqM, z_Meq, bI0, bI1, bI_01, bI_01t, bI_10, bI_10f, if_true, if_false, eq_self, reduceCtorEq, if_pos, if_neg, hPS, g0, m_bit0, m_bit2, n_l, bs_bit, c, Bool.and_true, decide_true, hi, nI_add, km, reduceCtorEq]
  · obtain ⟨S1, x2⟩ := x
    obtain ⟨rfl, f, g⟩ := hx
    have f : rvf [p + 2, p + 3] S S1 := f
    have g : PR S1 p (mvs m B b (vC m)) := g
    have hB1 := f.B hB
    have hPS := PS_of hB1 hpb
    have ec : vC (mvs m B b (vC m)) = vC m := mvs_lo (vC m) 1 (by decide)
    have g0 : S1.2.1 p 0 = nI (vC m) := g.1.trans (congrArg nI ec)
    refine ⟨S1, ?_, f, g⟩
    show cX6_moveAll_3 n (q + 1) S1 p (lN (bs B (vC m))) (nI b) (nI (vC m)) = _
    rw [cX6_moveAll_3]
    simp (disch := first | assumption | omega) only [tk_gI, tk_gL, tk_gR, tk_pI, tk_pL, rv_aI, rv_aL, rv_aR, rv_uI, rv_uL, rv_uB, rv_uZ, pu_ckI, pu_ckL, pu_lnI, pu_lnL, tk_rI, tk_rL, Option.bind_some, Option.map_some, rv_lt, tk_ix, z0, z1, z2, z3, z4, z5, z6, z7, z8, z9, z10, z11, z12, z13, z15, z16, z17, z18, z20, z21, z23, z24, z25, z31, z32, z39, z40, z41, z46, z48, z50, z57, z59, z60, z61, z62, z63, z64, z97, z98, z99, z100, z101, z102, z103, z104, z105, z106, z107, z108, z109, z110, z111, z112, z113, z114, z115, z116, z117, z118, z119, z120, z121, z122, z128, z132, z200, z240, z255, z372, z390625, z400, z420, z421, z422, z662, z900, z940, z999, z1000, z1024, z2000, z5860, z10000, z12345, z15625, z266240, z1048575, z1064960, z1103515245, z_m1, y0, y1, y27, y63, y96, y1099511627776, y69269232549888, n_le, n_lt, n_eq, n_bit0, n_bit1, n_sbit0, n_shl, z_ltM, z_Mlt, z_leM, z_Mle, z_eqM, z_Meq, bI0, bI1, bI_01, bI_01t, bI_10, bI_10f, if_true, if_false, eq_self, reduceCtorEq, if_pos, if_neg, hPS, g0]
theorem pb_no {p : Nat} (hpb : pb p) : ∀ a, a ∈ [67, 68, 69, 70, 71, 73, 74, 84, 85, 86] → a ≠ p + 2 ∧ a ≠ p + 3 := by
  intro a ha
  simp only [List.mem_cons, List.not_mem_nil, or_false] at ha
  unfold pb at hpb
  omega
theorem k_payDebtp (hn : 1100 ≤ n) (hB : rv_B S) {p : Nat} (hpb : pb p) (hF : FR S (67 + 1) m) (hD : DR S 67 m) (hP : PR S p m') (hk : okm m) (hS : SM m m') {k : Nat} (h : k < vD m) :
    (¬ pT m' k ≤ 40 ∧ ∃ S', fnX5_payDebt n S 108 67 p (nI k) = some (iM, S') ∧ rvf [108, 109] S S') ∨
    (pT m' k ≤ 40 ∧ ∃ S', fnX5_payDebt n S 108 67 p (nI k) = some (nI (pT m' k), S') ∧ rvf [108, 109, p + 2, p + 3] S S' ∧ PR S' p (pM m' k)) := by
  obtain ⟨hk', e132, edb⟩ := hS
  obtain ⟨hp', hc', hd'⟩ := id hk'
  obtain ⟨hp, hc, hd⟩ := id hk
  have h12 := hd.1
  have hv : vb 67 := Or.inl rfl
  have hVS := VS_of hB hv
  have hFS := FS_of hB hv.f
  have hF' := hF.c hp e132
  have eD : vD m' = vD m := e132 2 (by decide)
  have eW : vW m' = vW m := e132 0 (by decide)
  obtain ⟨q1, q2, q3, q4, q5, q6⟩ := hd'.2.2.2.2.2.2 k (by omega)
  have d0 : S.2.1 (67 + 17) k = nI (db m' k 0) := (hD.2.2.2.2.1 k h).trans (by rw [edb k 0 (by decide)])
  have d1 : S.2.1 (67 + 18) k = nI (db m' k 1) := (hD.2.2.2.2.2.1 k h).trans (by rw [edb k 1 (by decide)])
  have d2 : S.2.1 (67 + 19) k = nI (db m' k 2) := (hD.2.2.2.2.2.2 k h).trans (by rw [edb k 2 (by decide)])
  have d3 := hD.1
  rcases k_choose hn hB hFS hF' hpb hP hp' hc' q1 q2 q4 q5 with ⟨t1, S1, e1, f1⟩ | ⟨t1, S1, e1, f1, g1⟩
  · refine Or.inl ⟨by show ¬ pT m' k ≤ 40; have : 10000 ≤ pT m' k := t1; omega, S1, ?_, f1⟩
    simp (disch := first | assumption | omega) only [fnX5_payDebt, tk_gI, tk_gL, tk_gR, tk_pI, tk_pL, rv_aI, rv_aL, rv_aR, rv_uI, rv_uL, rv_uB, rv_uZ, pu_ckI, pu_ckL, pu_lnI, pu_lnL, tk_rI, tk_rL, Option.bind_some, Option.map_some, rv_lt, tk_ix, z0, z1, z2, z3, z4, z5, z6, z7, z8, z9, z10, z11, z12, z13, z15, z16, z17, z18, z20, z21, z23, z24, z25, z31, z32, z39, z40, z41, z46, z48, z50, z57, z59, z60, z61, z62, z63, z64, z97, z98, z99, z100, z101, z102, z103, z104, z105, z106, z107, z108, z109, z110, z111, z112, z113, z114, z115, z116, z117, z118, z119, z120, z121, z122, z128, z132, z200, z240, z255, z372, z390625, z400, z420, z421, z422, z662, z900, z940, z999, z1000, z1024, z2000, z5860, z10000, z12345, z15625, z266240, z1048575, z1064960, z1103515245, z_m1, n_le, n_lt, n_eq, n_bit0, n_bit1, n_sbit0, n_shl, z_ltM, z_Mlt, z_leM, z_Mle, z_eqM, z_Meq, bI0, bI1, bI_01, bI_01t, bI_10, bI_10f, if_true, if_false, eq_self, reduceCtorEq, if_pos, if_neg, hVS, d0, d1, d2, d3, rc_108 hB, e1, bp_s, show (iM < nI 0) = True from eq_true (by decide), Nat.not_lt_zero, h]
  · have hB1 := f1.B hB
    have hP1 := hP.x hpb f1
    obtain ⟨S2, e2, f2, p2⟩ := k_moveAllp (B := pB m' k) hn hB1 hpb hP1 hk' q2
    refine Or.inr ⟨t1, S2, ?_, (f1.mono (by simp)).tr (f2.mono (by simp)), p2⟩
    have hVS1 := VS_of hB1 hv
    have hPS1 := PS_of hB1 hpb
    have d1' : S1.2.1 (67 + 18) k = nI (db m' k 1) := (f1.row rfl rfl k).trans d1
    simp (disch := first | assumption | omega) only [fnX5_payDebt, tk_gI, tk_gL, tk_gR, tk_pI, tk_pL, rv_aI, rv_aL, rv_aR, rv_uI, rv_uL, rv_uB, rv_uZ, pu_ckI, pu_ckL, pu_lnI, pu_lnL, tk_rI, tk_rL, Option.bind_some, Option.map_some, rv_lt, tk_ix, z0, z1, z2, z3, z4, z5, z6, z7, z8, z9, z10, z11, z12, z13, z15, z16, z17, z18, z20, z21, z23, z24, z25, z31, z32, z39, z40, z41, z46, z48, z50, z57, z59, z60, z61, z62, z63, z64, z97, z98, z99, z100, z101, z102, z103, z104, z105, z106, z107, z108, z109, z110, z111, z112, z113, z114, z115, z116, z117, z118, z119, z120, z121, z122, z128, z132, z200, z240, z255, z372, z390625, z400, z420, z421, z422, z662, z900, z940, z999, z1000, z1024, z2000, z5860, z10000, z12345, z15625, z266240, z1048575, z1064960, z1103515245, z_m1, n_le, n_lt, n_eq, n_bit0, n_bit1, n_sbit0, n_shl, z_ltM, z_Mlt, z_leM, z_Mle, z_eqM, z_Meq, bI0, bI1, bI_01, bI_01t, bI_10, bI_10f, if_true, if_false, eq_self, reduceCtorEq, if_pos, if_neg, hVS, d0, d1, d2, d3, rc_108 hB, e1, bp_s, Nat.not_lt_zero, h, rc_108 hB1, g1, hVS1, d1', hPS1, e2]
/-! the search -/
def mI (x : Nat) : Int32 := nI x + iM
theorem mI_0 : mI 0 = iM := by decide
theorem mI_s (x : Nat) : mI (x + 1) = nI x := z_dec
theorem le_mI {a x : Nat} (ha : a < 2147483648) (hx : x < 2147483648) : (nI a ≤ mI x) = (a < x) := by
  cases x with
  | zero => rw [mI_0, z_leM ha]; simp
  | succ x => rw [mI_s, n_le ha (by omega)]; exact propext ⟨fun z => by omega, fun z => by omega⟩
theorem mI_lt {a x : Nat} (ha : a < 2147483648) (hx : x < 2147483648) : (mI x < nI a) = (x ≤ a) := by
  cases x with
  | zero => rw [mI_0, z_Mlt ha]; simp
  | succ x => rw [mI_s, n_lt (by omega) ha]; exact propext ⟨fun z => by omega, fun z => by omega⟩
/-- what the search may touch -/
def DO : List Nat := [108, 109, 118006, 121, 122, 123, 124, 125, 126, 127, 128, 129, 130, 131, 132, 133, 134, 135, 136, 137, 138, 139, 140, 141, 142, 143, 144, 145, 146]
def OF (d : Nat) (S S' : rvS) : Prop := rvf DO S S' ∧ (∀ a, 123 ≤ a → a < 127 + 4 * d → a < 147 → ∀ k, S'.2.1 a k = S.2.1 a k) ∧ ∀ j, j < d → S'.2.1 121 j = S.2.1 121 j
theorem OF.rf (d : Nat) (S : rvS) : OF d S S := ⟨rvf.rf _ _, fun _ _ _ _ _ => rfl, fun _ _ => rfl⟩
theorem OF.tr {d : Nat} {S S1 S2 : rvS} (h : OF d S S1) (k : OF d S1 S2) : OF d S S2 := ⟨h.1.tr k.1, fun a h1 h2 h3 j => (k.2.1 a h1 h2 h3 j).trans (h.2.1 a h1 h2 h3 j), fun j hj => (k.2.2 j hj).trans (h.2.2 j hj)⟩
theorem OF.le {d d' : Nat} {S S1 : rvS} (h : OF d S S1) (hd : d' ≤ d) : OF d' S S1 := ⟨h.1, fun a h1 h2 h3 j => h.2.1 a h1 (by omega) h3 j, fun j hj => h.2.2 j (by omega)⟩
theorem rwb_p {a : Nat} (h1 : 119 ≤ a) (h2 : a < 189) : rwb a = true := by
  unfold rwb
  rw [Bool.not_eq_true']
  simp only [Bool.or_eq_false_iff, beq_eq_false_iff_ne]
  omega
theorem OF.f {D : List Nat} {d : Nat} {S S1 : rvS} (f : rvf D S S1) (h1 : D.all (fun x => DO.elem x) = true) (h2 : ∀ a, 123 ≤ a → a < 147 → D.elem a = false) (h3 : D.elem 121 = false) : OF d S S1 := ⟨f.mono h1, fun a ha _ hb k => f.row (rwb_p (by omega) (by omega)) (h2 a ha hb) k, fun j _ => f.row rfl h3 j⟩
def obB (N : Nat) (pre : List Nat) : Nat := bs (fun i => pre.contains i) N
theorem obB_lt {N : Nat} (hN : N ≤ 5) (pre : List Nat) : obB N pre < 32 := Nat.lt_of_lt_of_le (bs_lt _ N) (show 2 ^ N ≤ 2 ^ 5 from Nat.pow_le_pow_right (by decide) hN)
theorem obB_add {N : Nat} {pre : List Nat} {i : Nat} (hi : i < N) : obB N pre ||| 2 ^ i = obB N (pre ++ [i]) := by
  refine Nat.eq_of_testBit_eq fun k => ?_
  rw [Nat.testBit_or, obB, obB, bs_bit, bs_bit, Nat.testBit_two_pow]
  by_cases c : i = k
  · subst c
    rw [decide_eq_true hi, decide_eq_true (rfl : i = i)]
    simp
  · rw [decide_eq_false c, Bool.or_false]
    congr 1
    rw [Bool.eq_iff_iff, List.contains_iff_mem, List.contains_iff_mem, List.mem_append, List.mem_singleton]
    constructor
    · exact Or.inl
    · rintro (h | h)
      · exact h
      · exact absurd h.symm c
theorem obB_bit {N : Nat} {pre : List Nat} {i : Nat} (hi : i < N) : (obB N pre).testBit i = pre.contains i := by rw [obB, bs_bit, decide_eq_true hi, Bool.true_and]
/-- the best that was found, as the class holds it -/
def ORB (S : rvS) (N : Nat) (ask : Nat → Nat) (b : OB) : Prop := b.1 ≤ 6 ∧ S.2.1 118 6 = mI b.1 ∧ (1 ≤ b.1 → ∀ j, j < N → S.2.1 122 j = nI (ask (b.2.getD j 0)))
/-- what the search rests on -/
def PLC (S : rvS) (m : Nat → Nat) (N : Nat) (ask : Nat → Nat) (pre : List Nat) : Prop := rv_B S ∧ FR S (67 + 1) m ∧ DR S 67 m ∧ S.2.1 118 4 = nI N ∧ (∀ i, i < N → S.2.1 120 i = nI (ask i)) ∧ PR S (123 + 4 * pre.length) (pyl m (pre.map ask)) ∧ (∀ j, j < pre.length → S.2.1 121 j = nI (ask (pre.getD j 0))) ∧ ∀ x ∈ pre, x < N
theorem PLC_f {S S' : rvS} {N : Nat} {ask : Nat → Nat} {pre : List Nat} (h : PLC S m N ask pre) (hl : pre.length ≤ 5) (f : OF pre.length S S') : PLC S' m N ask pre := by
  obtain ⟨hB, hF, hD, h4, h120, hP, h121, hx⟩ := h
  have g : ∀ a, a ∈ [67, 68, 69, 70, 71, 73, 74, 84, 85, 86] → ∀ k, S'.2.1 a k = S.2.1 a k := fun a ha k => by
    simp only [List.mem_cons, List.not_mem_nil, or_false] at ha
    rcases ha with rfl | rfl | rfl | rfl | rfl | rfl | rfl | rfl | rfl | rfl <;> exact f.1.row rfl rfl k
  obtain ⟨a1, a2, a3, a4, a5, a6, a7, a8⟩ := hF
  obtain ⟨c1, c2, c3, c4, c5, c6, c7⟩ := hD
  obtain ⟨b1, b2, b3, b4, b5⟩ := hP
  have p : ∀ i, i < 4 → ∀ k, S'.2.1 (123 + 4 * pre.length + i) k = S.2.1 (123 + 4 * pre.length + i) k := fun i hi k => f.2.1 _ (by omega) (by omega) (by omega) k
  refine ⟨f.1.B hB, ⟨(g 68 (by decide) _).trans a1, (g 68 (by decide) _).trans a2, (g 68 (by decide) _).trans a3, fun w h => (g 69 (by decide) w).trans (a4 w h), fun w h => (g 70 (by decide) w).trans (a5 w h), fun w h => (g 71 (by decide) w).trans (a6 w h), fun w h => (g 73 (by decide) w).trans (a7 w h), fun w h => (g 74 (by decide) w).trans (a8 w h)⟩, ⟨(g 67 (by decide) _).trans c1, (g 67 (by decide) _).trans c2, (g 67 (by decide) _).trans c3, (g 67 (by decide) _).trans c4, fun w h => (g 84 (by decide) w).trans (c5 w h), fun w h => (g 85 (by decide) w).trans (c6 w h), fun w h => (g 86 (by decide) w).trans (c7 w h)⟩, (f.1.at (a := 118) (k := 4) rfl).trans h4, fun i hi => (f.1.row rfl rfl i).trans (h120 i hi), ?_, fun j hj => (f.2.2 j hj).trans (h121 j hj), hx⟩
  exact ⟨(p 0 (by decide) 0).trans b1, (p 0 (by decide) 1).trans b2, fun w h => (p 1 (by decide) w).trans (b3 w h), fun w h => (p 2 (by decide) w).trans (b4 w h), fun w h => (p 3 (by decide) w).trans (b5 w h)⟩
theorem ORB_f {D : List Nat} {S S' : rvS} {N : Nat} {ask : Nat → Nat} {b : OB} (h : ORB S N ask b) (f : rvf D S S') (h1 : D.elem 118006 = false) (h2 : D.elem 122 = false) : ORB S' N ask b := ⟨h.1, (f.at (a := 118) (k := 6) h1).trans h.2.1, fun z j hj => (f.row rfl h2 j).trans (h.2.2 z j hj)⟩
theorem k_kb (hn : 1100 ≤ n) (hB : rv_B S) : ∃ S', cX4_keepBest_15 n n S 118 (nI 0) = some S' ∧ rvf [122] S S' ∧ ∀ j, j < 5 → S'.2.1 122 j = S.2.1 121 j := by
  refine lp (F := fun q (x : rvS × Int32) => cX4_keepBest_15 n q x.1 118 x.2) (fun i x => x.2 = nI i ∧ rvf [122] S x.1 ∧ ∀ j, j < i → x.1.2.1 122 j = S.2.1 121 j) (fun o => ∃ S', o = some S' ∧ rvf [122] S S' ∧ ∀ j, j < 5 → S'.2.1 122 j = S.2.1 121 j) 5 (fun i x q hi hx => Or.inr ?_) (fun x q hx => ?_) (i := 0) (x := (S, nI 0)) (q := n) (Nat.zero_le _) ⟨rfl, rvf.rf _ _, fun j h => absurd h (Nat.not_lt_zero j)⟩ (by omega)
  · obtain ⟨S1, x2⟩ := x
    obtain ⟨rfl, f, g⟩ := hx
    have f : rvf [122] S S1 := f
    have g : ∀ j, j < i → S1.2.1 122 j = S.2.1 121 j := g
    have hB1 := f.B hB
    have q1 : S1.2.1 121 i = S.2.1 121 i := f.row rfl rfl i
    refine ⟨(rv_sI S1 122 i (S.2.1 121 i), nI (i + 1)), ?_, rfl, f.w rfl rfl, fun j hj => ?_⟩
    · show cX4_keepBest_15 n (q + 1) S1 118 (nI i) = cX4_keepBest_15 n q _ 118 (nI (i + 1))
      rw [cX4_keepBest_15]
      simp (disch := first | assumption | omega) only [tk_gI, tk_gL, tk_gR, tk_pI, tk_pL, rv_aI, rv_aL, rv_aR, rv_uI, rv_uL, rv_uB, rv_uZ, pu_ckI, pu_ckL, pu_lnI, pu_lnL, tk_rI, tk_rL, Option.bind_some, Option.map_some, rv_lt, tk_ix, z0, z1, z2, z3, z4, z5, z6, z7, z8, z9, z10, z11, z12, z13, z15, z16, z17, z18, z20, z21, z23, z24, z25, z31, z32, z39, z40, z41, z46, z48, z50, z57, z59, z60, z61, z62, z63, z64, z97, z98, z99, z100, z101, z102, z103, z104, z105, z106, z107, z108, z109, z110, z111, z112, z113, z114, z115, z116, z117, z118, z119, z120, z121, z122, z128, z132, z200, z240, z255, z372, z390625, z400, z420, z421, z422, z662, z900, z940, z999, z1000, z1024, z2000, z5860, z10000, z12345, z15625, z266240, z1048575, z1064960, z1103515245, z_m1, n_le, n_lt, n_eq, n_bit0, n_bit1, n_sbit0, n_shl, z_ltM, z_Mlt, z_leM, z_Mle, z_eqM, z_Meq, bI0, bI1, bI_01, bI_01t, bI_10, bI_10f, if_true, if_false, eq_self, reduceCtorEq, if_pos, if_neg, rc_118 hB1, rf_of hB1 (show (118, 3, 122) ∈ rv_rf0 by decide), rf_of hB1 (show (118, 2, 121) ∈ rv_rf0 by decide), rn_121 hB1, rn_122 hB1, nI_add, q1]
    · show (rv_sI S1 122 i _).2.1 122 j = _
      by_cases c : j = i
      · subst c; exact rv_sI_eq _ _ _ _
      · rw [rv_sI_k _ _ c]; exact g j (by omega)
  · obtain ⟨S1, x2⟩ := x
    obtain ⟨rfl, f, g⟩ := hx
    refine ⟨S1, ?_, f, g⟩
    show cX4_keepBest_15 n (q + 1) S1 118 (nI 5) = _
    rw [cX4_keepBest_15]
    simp (disch := first | assumption | omega) only [z0, z1, z2, z3, z4, z5, z6, z7, z8, z9, z10, z11, z12, z13, z15, z16, z17, z18, z20, z21, z23, z24, z25, z31, z32, z39, z40, z41, z46, z48, z50, z57, z59, z60, z61, z62, z63, z64, z97, z98, z99, z100, z101, z102, z103, z104, z105, z106, z107, z108, z109, z110, z111, z112, z113, z114, z115, z116, z117, z118, z119, z120, z121, z122, z128, z132, z200, z240, z255, z372, z390625, z400, z420, z421, z422, z662, z900, z940, z999, z1000, z1024, z2000, z5860, z10000, z12345, z15625, z266240, z1048575, z1064960, z1103515245, z_m1, n_le, n_lt, n_eq, n_bit0, n_bit1, n_sbit0, n_shl, z_ltM, z_Mlt, z_leM, z_Mle, z_eqM, z_Meq, bI0, bI1, bI_01, bI_01t, bI_10, bI_10f, if_true, if_false, eq_self, reduceCtorEq, if_pos, if_neg]
theorem k_kbY (hn : 1100 ≤ n) (hB : rv_B S) {b v : Nat} (hb : b ≤ 6) (hv : v ≤ 5) (g6 : S.2.1 118 6 = mI b) (c : b ≤ v) : ∃ S', fnX4_keepBest n S 118 (nI v) = some S' ∧ rvf [118006, 122] S S' ∧ S'.2.1 118 6 = nI v ∧ ∀ j, j < 5 → S'.2.1 122 j = S.2.1 121 j := by
  obtain ⟨S0, eS0⟩ : ∃ S0, S0 = rv_sI S 118 6 (nI v) := ⟨_, rfl⟩
  have f0 : rvf [118006] S S0 := by rw [eS0]; exact rvf.sI S 118 6 _
  have g0 : S0.2.1 118 6 = nI v := by rw [eS0, rv_sI_eq]
  have hB0 := f0.B hB
  obtain ⟨S1, e1, f1, g1⟩ := k_kb hn hB0
  have no : ¬ nI v ≤ mI b := by rw [le_mI (by omega) (by omega)]; omega
  refine ⟨S1, ?_, (f0.mono rfl).tr (f1.mono rfl), (f1.at (a := 118) (k := 6) rfl).trans g0, fun j hj => (g1 j hj).trans (f0.row rfl rfl j)⟩
  rw [fnX4_keepBest, tk_gI, rc_118 hB, Option.map_some, Option.bind_some, g6, if_neg no, tk_pI, rc_118 hB, Option.map_some, Option.bind_some, ← eS0, z0]
  exact e1
theorem k_kbN (hB : rv_B S) {b v : Nat} (hb : b ≤ 6) (hv : v ≤ 5) (g6 : S.2.1 118 6 = mI b) (c : ¬ b ≤ v) : fnX4_keepBest n S 118 (nI v) = some S := by
  have yes : nI v ≤ mI b := by rw [le_mI (by omega) (by omega)]; omega
  rw [fnX4_keepBest, tk_gI, rc_118 hB, Option.map_some, Option.bind_some, g6, if_pos yes]
theorem k_best0 (hn : 1100 ≤ n) {N : Nat} (hN : N ≤ 5) {ask : Nat → Nat} {pre : List Nat} (hlen : pre.length = N) (hP : PLC S m N ask pre) {b : OB} (hb : ORB S N ask b) {v : Nat} (hv : v ≤ 5) : ∃ S', fnX4_keepBest n S 118 (nI v) = some S' ∧ OF pre.length S S' ∧ ORB S' N ask (obU b v pre) := by
  obtain ⟨hB, hF, hD, h4, h120, hPR, h121, hx⟩ := hP
  obtain ⟨hb6, g6, g122⟩ := hb
  rw [obU]
  by_cases c : b.1 ≤ v
  · rw [if_pos c]
    obtain ⟨S1, e1, f1, g1, g2⟩ := k_kbY hn hB hb6 hv g6 c
    refine ⟨S1, e1, ⟨f1.mono (by decide), fun a h1 h2 h3 k => f1.row (rwb_p (by omega) (by omega)) (by simp; omega) k, fun j _ => f1.row rfl rfl j⟩, ?_, ?_, fun _ j hj => ?_⟩
    · show v + 1 ≤ 6
      omega
    · rw [mI_s]; exact g1
    · rw [g2 j (by omega)]
      exact h121 j (by omega)
  · rw [if_neg c]
    exact ⟨S, k_kbN hB hb6 hv g6 c, OF.rf _ _, hb6, g6, g122⟩
theorem CO_le {N : Nat} {ev : List Nat → Nat} (hv : ∀ p, p.length = N → ev p ≤ 5) : ∀ r pre b, pre.length + r = N → b.1 ≤ 6 → (CO N ev r pre b).1 ≤ 6
  | 0, pre, b, h, hb => by
    rw [CO, obU]
    split
    · have := hv pre h
      show ev pre + 1 ≤ 6
      omega
    · exact hb
  | r + 1, pre, b, h, hb => by
    rw [CO]
    have key : ∀ i, (obC (fun c => decide (ev pre + (r + 1) < c.1)) (fun p c => CO N ev r p c) pre b i).1 ≤ 6 := fun i => by
      induction i with
      | zero => exact hb
      | succ i ih =>
        rw [obC]
        split
        · exact ih
        · split
          · exact ih
          · exact CO_le hv r (pre ++ [i]) _ (by rw [List.length_append, List.length_singleton]; omega) ih
    exact key N
end
