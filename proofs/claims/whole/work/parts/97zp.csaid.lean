/-! SAID: the class's pile of sets is, coin by coin, the pile of answers -/
section
variable {n : Nat} {S : rvS} {m : Nat → Nat} {wd : Nat → List Nat}
def bl (x : Int64) (c : Nat) : Bool := x.toBitVec.getLsbD c
theorem bl_not (x : Int64) {c : Nat} (h : c < 64) : bl (x ^^^ (-1 : Int64)) c = !bl x c := by
  have e : (-1 : Int64).toBitVec = BitVec.allOnes 64 := by decide
  unfold bl
  rw [Int64.toBitVec_xor, BitVec.getLsbD_xor, e, BitVec.getLsbD_allOnes, decide_eq_true h, Bool.xor_true]
theorem bl_and (x y : Int64) (c : Nat) : bl (x &&& y) c = (bl x c && bl y c) := by
  unfold bl
  rw [Int64.toBitVec_and, BitVec.getLsbD_and]
theorem bl_or (x y : Int64) (c : Nat) : bl (x ||| y) c = (bl x c || bl y c) := by
  unfold bl
  rw [Int64.toBitVec_or, BitVec.getLsbD_or]
theorem bl_l (x : Nat) {c : Nat} (h : c < 64) : bl (lN x) c = x.testBit c := by
  unfold bl
  rw [wb_tb, BitVec.getLsbD_ofNat, decide_eq_true h, Bool.true_and]
theorem bl_ext {x y : Int64} (h : ∀ c, c < 64 → bl x c = bl y c) : x = y := wb_inj (BitVec.eq_of_getLsbD_eq (fun i hi => h i hi))
theorem l_sub1 {k : Nat} (hk : k ≤ 40) : lN (2 ^ k) - lN 1 = lN (2 ^ k - 1) := by
  have h := Nat.two_pow_pos k
  have e : lN (2 ^ k) = lN (2 ^ k - 1) + lN 1 := by
    have e1 : 2 ^ k = (2 ^ k - 1) + 1 := by omega
    have e2 : lN ((2 ^ k - 1) + 1) = lN (2 ^ k - 1) + lN 1 := Int64.ofNat_add _ _
    rw [← e2, ← e1]
  rw [e, Int64.add_sub_cancel]
theorem bl_cut {x : Int64} {p : Nat → Bool} {k : Nat} (hk : k ≤ 40) (h : ∀ c, c < k → bl x c = p c) : x &&& (lN (2 ^ k) - lN 1) = lN (bs p k) := by
  rw [l_sub1 hk]
  apply bl_ext
  intro c hc
  rw [bl_and, bl_l _ hc, bl_l _ hc, bs_bit, Nat.testBit_two_pow_sub_one]
  by_cases c1 : c < k
  · rw [decide_eq_true c1, Bool.and_true, Bool.true_and, h c c1]
  · rw [decide_eq_false c1, Bool.and_false, Bool.false_and]
theorem Den_okS {q : Nat} {t : Nat → Int32} : ∀ {d k : Nat} {l : List SayT}, Den q t d k l → ∀ y ∈ l, okSy q y ∨ y.1 = 11 ∨ y.1 = 12 ∨ y.1 = 13 := by
  intro d
  induction d with
  | zero => intro k l h; exact absurd h id
  | succ d ih =>
    rintro k l ⟨-, ⟨w, s, a, e, -, h⟩ | ⟨x, l1, e, -, -, h⟩ | ⟨x, y, l1, l2, e, -, -, -, h1, h2⟩ | ⟨x, y, l1, l2, e, -, -, -, h1, h2⟩⟩ z hz
    · rw [e, List.mem_singleton] at hz
      subst hz
      left
      rcases h with ⟨a1, a2, a3, -⟩ | h | ⟨a1, a2, a3, a4, -⟩
      · exact Or.inl ⟨a1, a2, a3⟩
      · exact Or.inr (Or.inl h)
      · exact Or.inr (Or.inr ⟨a1, a2, a3, a4⟩)
    · rw [e, List.mem_append, List.mem_singleton] at hz
      rcases hz with hz | rfl
      · exact ih h z hz
      · exact Or.inr (Or.inr (Or.inr rfl))
    · rw [e, List.mem_append, List.mem_append, List.mem_singleton] at hz
      rcases hz with (hz | hz) | rfl
      · exact ih h1 z hz
      · exact ih h2 z hz
      · exact Or.inr (Or.inr (Or.inl rfl))
    · rw [e, List.mem_append, List.mem_append, List.mem_singleton] at hz
      rcases hz with (hz | hz) | rfl
      · exact ih h1 z hz
      · exact ih h2 z hz
      · exact Or.inr (Or.inl rfl)
theorem Den_one {q : Nat} {t : Nat → Int32} (b : SayT → Bool) : ∀ {d k : Nat} {l : List SayT}, Den q t d k l → ∃ v, ∀ pl, evc b l pl = v :: pl := by
  intro d
  induction d with
  | zero => intro k l h; exact absurd h id
  | succ d ih =>
    rintro k l ⟨-, ⟨w, s, a, e, -, h⟩ | ⟨x, l1, e, -, -, h⟩ | ⟨x, y, l1, l2, e, -, -, -, h1, h2⟩ | ⟨x, y, l1, l2, e, -, -, -, h1, h2⟩⟩
    · refine ⟨b (w, s, a), fun pl => ?_⟩
      have hw : 14 ≤ w := by
        rcases h with h | h | h
        · exact h.1
        · omega
        · omega
      rw [e, evc_one]
      unfold ev1
      rw [if_neg (show ¬ w = 13 by omega), if_neg (show ¬ w = 12 by omega), if_neg (show ¬ w = 11 by omega)]
    · obtain ⟨v, hv⟩ := ih h
      refine ⟨!v, fun pl => ?_⟩
      rw [e, evc_app, hv, evc_one]
      rfl
    · obtain ⟨v1, hv1⟩ := ih h1
      obtain ⟨v2, hv2⟩ := ih h2
      refine ⟨v1 && v2, fun pl => ?_⟩
      rw [e, evc_app, evc_app, hv1, hv2, evc_one]
      rfl
    · obtain ⟨v1, hv1⟩ := ih h1
      obtain ⟨v2, hv2⟩ := ih h2
      refine ⟨v1 || v2, fun pl => ?_⟩
      rw [e, evc_app, evc_app, hv1, hv2, evc_one]
      rfl
theorem k_coinsOfStep (hn : 50 ≤ n) (hB : rv_B S) (hR : CR S 67 m) (hk : okm m) {j w s a : Nat} (hj : j < 40) (hr : S.2.2.2 80 j = some w) (h1 : S.2.1 81 j = nI s) (h2 : S.2.1 82 j = nI a) (h : okSy (m 6) (w, s, a)) : fnX7_coinsOfStep n S 79 67 (nI j) = some (lN (bs (fun c => b1s m c (w, s, a)) (vC m))) := by
  have kt := fun c hcc => k_isTrue (n := n) hn hB hR hk (c := c) hcc hj hr h1 h2 h
  have hv : vb 67 := Or.inl rfl
  have hVS := VS_of hB hv; have hFS := FS_of hB hv.f; have hPS := PS_of hB hv.p; obtain ⟨hF, hP, hD⟩ := hR; obtain ⟨hp, hc, hd⟩ := hk
  have h40 := hc.1
  rw [fnX7_coinsOfStep]
  refine lpd (F := fun q (x : Int64 × Int32) => cX7_coinsOfStep_5 n S q 79 67 (nI j) x.1 x.2) (fun i => (lN (bs (fun c => b1s m c (w, s, a)) i), nI i)) _ (vC m) (fun i q hi => ?_) (fun q => ?_) (i := 0) (q := n) (Nat.zero_le _) (by omega)
  · show cX7_coinsOfStep_5 n S (q + 1) 79 67 (nI j) (lN (bs _ i)) (nI i) = cX7_coinsOfStep_5 n S q 79 67 (nI j) (lN (bs _ (i + 1))) (nI (i + 1))
    have k1 := kt i hi
    obtain ⟨b, eb⟩ : ∃ b, b = b1s m i (w, s, a) := ⟨_, rfl⟩
    rw [← eb] at k1
    rw [cX7_coinsOfStep_5, bs_s, ← eb]
    simp (disch := first | assumption | omega) only [tk_gI, tk_gL, tk_gR, tk_pI, tk_pL, rv_aI, rv_aL, rv_aR, rv_uI, rv_uL, rv_uB, rv_uZ, pu_ckI, pu_ckL, pu_lnI, pu_lnL, tk_rI, tk_rL, Option.bind_some, Option.map_some, rv_lt, tk_ix, z0, z1, z2, z3, z4, z5, z6, z7, z8, z9, z10, z11, z12, z13, z15, z16, z17, z18, z20, z21, z23, z24, z25, z31, z32, z39, z40, z41, z46, z48, z50, z57, z59, z60, z61, z62, z63, z64, z97, z98, z99, z100, z101, z102, z103, z104, z105, z106, z107, z108, z109, z110, z111, z112, z113, z114, z115, z116, z117, z118, z119, z120, z121, z122, z128, z132, z200, z240, z255, z372, z390625, z400, z420, z421, z422, z662, z900, z940, z999, z1000, z1024, z2000, z5860, z10000, z12345, z15625, z266240, z1048575, z1064960, z1103515245, z_m1, y0, y1, y27, y63, y96, y1099511627776, y69269232549888, n_le, n_lt, n_eq, n_bit0, n_bit1, n_sbit0, n_shl, z_ltM, z_Mlt, z_leM, z_Mle, z_eqM, z_Meq, bI0, bI1, bI_01, bI_01t, bI_10, bI_10f, if_true, if_false, eq_self, reduceCtorEq, if_pos, if_neg, hVS, hPS, hP, rc_79 hB, k1, n_l, m_shl, m_shl2, fb_orL, nI_add]
    cases b <;> simp
  · show cX7_coinsOfStep_5 n S (q + 1) 79 67 (nI j) (lN (bs _ (vC m))) (nI (vC m)) = _
    rw [cX7_coinsOfStep_5]
    simp (disch := first | assumption | omega) only [tk_gI, tk_gL, tk_gR, tk_pI, tk_pL, rv_aI, rv_aL, rv_aR, rv_uI, rv_uL, rv_uB, rv_uZ, pu_ckI, pu_ckL, pu_lnI, pu_lnL, tk_rI, tk_rL, Option.bind_some, Option.map_some, rv_lt, tk_ix, z0, z1, z2, z3, z4, z5, z6, z7, z8, z9, z10, z11, z12, z13, z15, z16, z17, z18, z20, z21, z23, z24, z25, z31, z32, z39, z40, z41, z46, z48, z50, z57, z59, z60, z61, z62, z63, z64, z97, z98, z99, z100, z101, z102, z103, z104, z105, z106, z107, z108, z109, z110, z111, z112, z113, z114, z115, z116, z117, z118, z119, z120, z121, z122, z128, z132, z200, z240, z255, z372, z390625, z400, z420, z421, z422, z662, z900, z940, z999, z1000, z1024, z2000, z5860, z10000, z12345, z15625, z266240, z1048575, z1064960, z1103515245, z_m1, y0, y1, y27, y63, y96, y1099511627776, y69269232549888, n_le, n_lt, n_eq, n_bit0, n_bit1, n_sbit0, n_shl, z_ltM, z_Mlt, z_leM, z_Mle, z_eqM, z_Meq, bI0, bI1, bI_01, bI_01t, bI_10, bI_10f, if_true, if_false, eq_self, reduceCtorEq, if_pos, if_neg, hVS, hPS, hP]
end
