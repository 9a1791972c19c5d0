/-! LOTS: what is drawn -/
section
variable {n : Nat} {S : rvS} {m m' : Nat → Nat} {wd : Nat → List Nat}
def sd (s : Int32) : Int32 := s * nI 1103515245 + nI 12345
def dr (s : Int32) (N : Nat) : Nat := (sd s).toBitVec.toNat / 256 % N
theorem i_of (x : Int32) : x = nI x.toBitVec.toNat := by
  apply Int32.toBitVec_inj.mp
  show x.toBitVec = BitVec.ofNat 32 x.toBitVec.toNat
  rw [BitVec.ofNat_toNat, BitVec.setWidth_eq]
theorem dr_lt (s : Int32) {N : Nat} (h : 0 < N) : dr s N < N := Nat.mod_lt _ h
theorem dr_u (s : Int32) : (sd s).toBitVec.toNat / 256 < 16777216 := by
  have := (sd s).toBitVec.isLt
  omega
theorem dr_sh (s : Int32) : ((sd s).toUInt32 >>> ((8 : Int32).toUInt32 &&& Int32.toUInt32 31)).toInt32 = nI ((sd s).toBitVec.toNat / 256) := by
  have h := z_ush (x := (sd s).toBitVec.toNat) (j := 8) (sd s).toBitVec.isLt (by decide)
  rw [← i_of] at h
  exact h
theorem dr_eq (s : Int32) {N : Nat} (h : 0 < N) (h2 : N < 2147483648) : nI ((sd s).toBitVec.toNat / 256) - nI ((sd s).toBitVec.toNat / 256) / nI N * nI N = nI (dr s N) := by
  have u := dr_u s
  have q := Nat.div_add_mod ((sd s).toBitVec.toNat / 256) N
  rw [pk_div (by omega) h h2, z_mul, z_sub (by rw [Nat.mul_comm]; omega)]
  refine congrArg nI ?_
  rw [dr, Nat.mul_comm]
  omega
theorem k_draw (hB : rv_B S) {s : Int32} (hs : S.2.1 147 0 = s) {N : Nat} (h : 0 < N) (h2 : N < 2147483648) : fnX3_draw n S 147 (nI N) = some (nI (dr s N), rv_sI S 147 0 (sd s)) := by
  have e0 : rv_gI S 2 147 0 = some s := by rw [tk_gI, rc_147 hB, ← hs]; rfl
  have e1 : rv_pI S 2 147 0 (sd s) = some (rv_sI S 147 0 (sd s)) := by rw [tk_pI, rc_147 hB]; rfl
  have hB1 : rv_B (rv_sI S 147 0 (sd s)) := (rvf.sI S 147 0 (sd s)).B hB
  have e2 : rv_gI (rv_sI S 147 0 (sd s)) 2 147 0 = some (sd s) := by rw [tk_gI, rc_147 hB1, Option.map_some, rv_sI_eq]
  have c : ¬ nI N ≤ (0 : Int32) := by rw [z0, n_le (by omega) (by decide)]; omega
  rw [fnX3_draw, e0, Option.bind_some, z1103515245, z12345, ← sd, e1, Option.bind_some, if_neg c, e2, Option.bind_some, nz_ok h h2, Option.bind_some, dr_sh, dr_eq s h h2]
theorem m_draw (hB : rv_B S) {s : Int32} (hs : S.2.1 189 49 = s) {N : Nat} (h : 0 < N) (h2 : N < 2147483648) : fnX13_draw n S 189 (nI N) = some (nI (dr s N), rv_sI S 189 49 (sd s)) := by
  have e0 : rv_gI S 11 189 49 = some s := by rw [tk_gI, rc_189 hB, ← hs]; rfl
  have e1 : rv_pI S 11 189 49 (sd s) = some (rv_sI S 189 49 (sd s)) := by rw [tk_pI, rc_189 hB]; rfl
  have hB1 : rv_B (rv_sI S 189 49 (sd s)) := (rvf.sI S 189 49 (sd s)).B hB
  have e2 : rv_gI (rv_sI S 189 49 (sd s)) 11 189 49 = some (sd s) := by rw [tk_gI, rc_189 hB1, Option.map_some, rv_sI_eq]
  rw [fnX13_draw, e0, Option.bind_some, z1103515245, z12345, ← sd, e1, Option.bind_some, e2, Option.bind_some, nz_ok h h2, Option.bind_some, dr_sh, dr_eq s h h2]
/-- the k-th of some, found -/
def kth (p : Nat → Bool) (k : Nat) : Nat → Nat → Nat → Nat
  | 0, _, _ => 0
  | r + 1, c, i => if p c = true then (if i = k then c else kth p k r (c + 1) (i + 1)) else kth p k r (c + 1) i
def kc (p : Nat → Bool) : Nat → Nat → Nat
  | 0, _ => 0
  | r + 1, c => (if p c = true then 1 else 0) + kc p r (c + 1)
theorem kc_ct (p : Nat → Bool) : ∀ r c, fb_ct (fun j => p (c + j)) r = kc p r c
  | 0, _ => rfl
  | r + 1, c => by
    rw [kc, show r + 1 = 1 + r by omega, fb_ct_split, fb_ct_cong (p := fun k => p (c + (1 + k))) (q := fun k => p (c + 1 + k)) (n := r) (fun k _ => by rw [Nat.add_assoc]), kc_ct p r (c + 1)]
    refine congrArg (· + kc p r (c + 1)) ?_
    show fb_ct (fun j => p (c + j)) (0 + 1) = _
    rw [ct_s, Nat.add_zero]
    cases p c <;> rfl
theorem kc_0 (p : Nat → Bool) (N : Nat) : kc p N 0 = fb_ct p N := by
  rw [← kc_ct]
  exact fb_ct_cong fun k _ => by rw [Nat.zero_add]
theorem kth_in {p : Nat → Bool} {k : Nat} : ∀ r c i, i ≤ k → k < i + kc p r c → c ≤ kth p k r c i ∧ kth p k r c i < c + r ∧ p (kth p k r c i) = true
  | 0, c, i, h1, h2 => absurd h2 (by rw [kc]; omega)
  | r + 1, c, i, h1, h2 => by
    rw [kc] at h2
    rw [kth]
    by_cases h : p c = true
    · rw [if_pos h] at h2 ⊢
      by_cases e : i = k
      · rw [if_pos e]; exact ⟨Nat.le_refl c, by omega, h⟩
      · rw [if_neg e]
        obtain ⟨a1, a2, a3⟩ := kth_in (p := p) (k := k) r (c + 1) (i + 1) (by omega) (by omega)
        exact ⟨by omega, by omega, a3⟩
    · rw [if_neg h] at h2 ⊢
      obtain ⟨a1, a2, a3⟩ := kth_in (p := p) (k := k) r (c + 1) i h1 (by omega)
      exact ⟨by omega, by omega, a3⟩
theorem kth_k {p : Nat → Bool} {k : Nat} (hk : k < 2147483648) : ∀ r c i, i + r < 2147483648 → i ≤ k → k < i + kc p r c → ktl p (nI k) r c i = nI (kth p k r c i)
  | 0, c, i, _, h1, h2 => absurd h2 (by rw [kc]; omega)
  | r + 1, c, i, h0, h1, h2 => by
    rw [kc] at h2
    rw [kth, ktl]
    by_cases h : p c = true
    · rw [if_pos h] at h2 ⊢
      rw [if_pos h]
      by_cases e : i = k
      · rw [if_pos e, if_pos (by rw [e])]
      · rw [if_neg e, if_neg (by rw [nI_eq (by omega) hk]; exact e)]
        exact kth_k hk r (c + 1) (i + 1) (by omega) (by omega) (by omega)
    · rw [if_neg h] at h2 ⊢
      rw [if_neg h]
      exact kth_k hk r (c + 1) i (by omega) h1 (by omega)
/-- as the reference counts them -/
def otl (p : Nat → Bool) (x : Int32) : Nat → Nat → Nat → Int32
  | 0, _, i => nI i
  | r + 1, c, i => if p c = true then (if nI i = x then nI c else otl p x r (c + 1) (i + 1)) else otl p x r (c + 1) i
theorem otl_k {p : Nat → Bool} {k : Nat} (hk : k < 2147483648) : ∀ r c i, i + r < 2147483648 → i ≤ k → k < i + kc p r c → otl p (nI k) r c i = nI (kth p k r c i)
  | 0, c, i, _, h1, h2 => absurd h2 (by rw [kc]; omega)
  | r + 1, c, i, h0, h1, h2 => by
    rw [kc] at h2
    rw [kth, otl]
    by_cases h : p c = true
    · rw [if_pos h] at h2 ⊢
      rw [if_pos h]
      by_cases e : i = k
      · rw [if_pos e, if_pos (by rw [e])]
      · rw [if_neg e, if_neg (by rw [nI_eq (by omega) hk]; exact e)]
        exact otl_k hk r (c + 1) (i + 1) (by omega) (by omega) (by omega)
    · rw [if_neg h] at h2 ⊢
      rw [if_neg h]
      exact otl_k hk r (c + 1) i (by omega) h1 (by omega)
theorem otl_M {p : Nat → Bool} : ∀ r c i, i + r < 2147483648 → otl p iM r c i = nI (i + kc p r c)
  | 0, c, i, _ => by rw [otl, kc, Nat.add_zero]
  | r + 1, c, i, h0 => by
    rw [otl, kc]
    by_cases h : p c = true
    · rw [if_pos h, if_pos h, if_neg (fun z => by rw [z_eqM (by omega)] at z; exact z), otl_M r (c + 1) (i + 1) (by omega)]
      exact congrArg nI (by omega)
    · rw [if_neg h, if_neg h, otl_M r (c + 1) i (by omega)]
      exact congrArg nI (by omega)
theorem m_owned1 (hB : rv_B S) (hM : MR S m) (hc : okc m) (h24 : vW m ≤ 24) {a : Nat} (ha : a < 2147483648) (x : Int32) : ∀ (r q c i : Nat), c + r = vC m → r < q → i ≤ c → cX13_ownedBy_5 n S q 189 (nI a) x (nI i) (nI c) = some (otl (fun c => decide (ow m c = a)) x r c i) := by
  have h40 := hc.1
  intro r
  induction r with
  | zero =>
    intro q c i hc hq hi
    obtain ⟨q, rfl⟩ : ∃ q', q = q' + 1 := ⟨q - 1, by omega⟩
    rw [cX13_ownedBy_5, otl]
    simp (disch := first | assumption | omega) only [tk_gI, tk_gL, tk_gR, tk_pI, tk_pL, rv_aI, rv_aL, rv_aR, rv_uI, rv_uL, rv_uB, rv_uZ, pu_ckI, pu_ckL, pu_lnI, pu_lnL, tk_rI, tk_rL, Option.bind_some, Option.map_some, rv_lt, tk_ix, z0, z1, z2, z3, z4, z5, z6, z7, z8, z9, z10, z11, z12, z13, z15, z16, z17, z18, z20, z21, z23, z24, z25, z31, z32, z39, z40, z41, z46, z48, z50, z57, z59, z60, z61, z62, z63, z64, z97, z98, z99, z100, z101, z102, z103, z104, z105, z106, z107, z108, z109, z110, z111, z112, z113, z114, z115, z116, z117, z118, z119, z120, z121, z122, z128, z132, z200, z240, z255, z372, z390625, z400, z420, z421, z422, z662, z900, z940, z999, z1000, z1024, z2000, z5860, z10000, z12345, z15625, z266240, z1048575, z1064960, z1103515245, z_m1, n_le, n_lt, n_eq, n_bit0, n_bit1, n_sbit0, n_shl, z_ltM, z_Mlt, z_leM, z_Mle, z_eqM, z_Meq, bI0, bI1, bI_01, bI_01t, bI_10, bI_10f, if_true, if_false, eq_self, reduceCtorEq, if_pos, if_neg, rc_189 hB, m_coins hB hM]
  | succ r ih =>
    intro q c i hcr hq hi
    obtain ⟨q, rfl⟩ : ∃ q', q = q' + 1 := ⟨q - 1, by omega⟩
    have i1 := ih q (c + 1) (i + 1) (by omega) (by omega) (by omega)
    have i2 := ih q (c + 1) i (by omega) (by omega) (by omega)
    have ho := (hc.2.2 c (by omega)).2.2.1
    rw [cX13_ownedBy_5, otl]
    simp (disch := first | assumption | omega) only [tk_gI, tk_gL, tk_gR, tk_pI, tk_pL, rv_aI, rv_aL, rv_aR, rv_uI, rv_uL, rv_uB, rv_uZ, pu_ckI, pu_ckL, pu_lnI, pu_lnL, tk_rI, tk_rL, Option.bind_some, Option.map_some, rv_lt, tk_ix, z0, z1, z2, z3, z4, z5, z6, z7, z8, z9, z10, z11, z12, z13, z15, z16, z17, z18, z20, z21, z23, z24, z25, z31, z32, z39, z40, z41, z46, z48, z50, z57, z59, z60, z61, z62, z63, z64, z97, z98, z99, z100, z101, z102, z103, z104, z105, z106, z107, z108, z109, z110, z111, z112, z113, z114, z115, z116, z117, z118, z119, z120, z121, z122, z128, z132, z200, z240, z255, z372, z390625, z400, z420, z421, z422, z662, z900, z940, z999, z1000, z1024, z2000, z5860, z10000, z12345, z15625, z266240, z1048575, z1064960, z1103515245, z_m1, n_le, n_lt, n_eq, n_bit0, n_bit1, n_sbit0, n_shl, z_ltM, z_Mlt, z_leM, z_Mle, z_eqM, z_Meq, bI0, bI1, bI_01, bI_01t, bI_10, bI_10f, if_true, if_false, eq_self, reduceCtorEq, if_pos, if_neg, rc_189 hB, m_coins hB hM, m_ow hB hM, nI_add, i1, i2, decide_eq_true_eq]
    by_cases c1 : ow m c = a
    · rw [if_pos c1, if_pos c1]
      by_cases c2 : nI i = x <;> simp [c2]
    · rw [if_neg c1, if_neg c1]
theorem m_owned (hn : 50 ≤ n) (hB : rv_B S) (hM : MR S m) (hc : okc m) (h24 : vW m ≤ 24) {a : Nat} (ha : a < 2147483648) :
    fnX13_ownedBy n S 189 (nI a) iM = some (nI (fb_ct (fun c => decide (ow m c = a)) (vC m))) ∧
    ∀ k, k < fb_ct (fun c => decide (ow m c = a)) (vC m) → fnX13_ownedBy n S 189 (nI a) (nI k) = some (nI (kth (fun c => decide (ow m c = a)) k (vC m) 0 0)) := by
  have h40 := hc.1
  constructor
  · rw [fnX13_ownedBy]
    have h := m_owned1 (n := n) hB hM hc h24 ha iM (vC m) n 0 0 (by omega) (by omega) (by omega)
    rw [otl_M _ _ _ (by omega), kc_0, Nat.zero_add] at h
    exact h
  · intro k hk
    have hle := fb_ct_le (fun c => decide (ow m c = a)) (vC m)
    rw [fnX13_ownedBy]
    have h := m_owned1 (n := n) hB hM hc h24 ha (nI k) (vC m) n 0 0 (by omega) (by omega) (by omega)
    rw [otl_k (by omega) _ _ _ (by omega) (by omega) (by rw [kc_0]; omega)] at h
    exact h
theorem k_kth (hn : 50 ≤ n) {p : Nat → Bool} {N k : Nat} (hN : N ≤ 40) (hk : k < fb_ct p N) : fnX12_countOrOne n S (lN (bs p N)) (nI k) = some (nI (kth p k N 0 0)) ∧ kth p k N 0 0 < N ∧ p (kth p k N 0 0) = true := by
  have hle := fb_ct_le p N
  have hk2 : k < 0 + kc p N 0 := by rw [kc_0]; omega
  obtain ⟨-, a2, a3⟩ := kth_in N 0 0 (Nat.zero_le k) hk2
  refine ⟨?_, by omega, a3⟩
  rw [k_one hn hN, cO, if_neg (fun z => by rw [z_eqM (by omega)] at z; exact z), kth_k (by omega) N 0 0 (by omega) (Nat.zero_le k) hk2]
end
