/-! THE SEARCH: the class's sets of states -/
section
variable {n : Nat} {S : rvS} {m : Nat → Nat}
theorem lN_I (x : Nat) : (lN x).toInt32 = nI x := by
  apply Int32.toBitVec_inj.mp
  apply BitVec.eq_of_toNat_eq
  show _ = _
  simp [lN, nI]
theorem n_and63 (x : Nat) : nI x &&& nI 63 = nI (x % 64) := fa_mask x 6
/-- the set of the numbers below M (bits of the row r) is b -/
def SN (S : rvS) (r M : Nat) (b : Nat → Bool) : Prop := ∀ k, k < M / 64 + 1 → S.2.2.1 r k = lN (bs (fun i => b (64 * k + i)) 64)
theorem SN.f {D : List Nat} {S' : rvS} {r M : Nat} {b : Nat → Bool} (h : SN S r M b) (f : rvf D S S') (h1 : rwb r = true) (h2 : D.elem r = false) : SN S' r M b := fun k hk => (f.rowL h1 h2 k).trans (h k hk)
theorem bs64 (p : Nat → Bool) : bs p 64 < 18446744073709551616 := bs_lt p 64
theorem k_isIn {r M : Nat} {b : Nat → Bool} (hr : rv_ln S 1 r = some 5860) (hM : M ≤ 375000) (h : SN S r M b) {x : Nat} (hx : x ≤ M) : fnX2_isIn n S r (nI x) = some (bI (b x)) := by
  have h1 : x / 64 < M / 64 + 1 := by omega
  have h2 := h (x / 64) h1
  have h3 : nI x >>> (nI 6 &&& 31) = nI (x / 64) := z_sshr (j := 6) (by omega) (by decide)
  have h4 : ¬ nI (x / 64) < nI 0 := nI_pos (by omega)
  have h5 : ¬ nI 5860 ≤ nI (x / 64) := by rw [n_le (by decide) (by omega)]; omega
  have bt : (bs (fun i => b (64 * (x / 64) + i)) 64).testBit (x % 64) = b x := by
    rw [bs_bit, decide_eq_true (Nat.mod_lt x (by decide)), Bool.true_and, Nat.div_add_mod]
  have mb := m_bit0 (bs64 (fun i => b (64 * (x / 64) + i))) (k := x % 64) (Nat.mod_lt x (by decide))
  rw [bt] at mb
  rw [fnX2_isIn, z6, h3, rv_lt, z0, if_neg h4, hr, Option.bind_some]
  rw [if_neg (show ¬ Int32.ofNat 5860 ≤ nI (x / 64) from h5), rv_aL, hr, Option.bind_some, tk_ix (by omega) (by decide), Option.bind_some, Option.bind_some, h2, z63, n_and63, y63]
  show (if lg_cmp (((lN (bs (fun i => b (64 * (x / 64) + i)) 64)).toUInt64 >>> ((nI (x % 64)).toInt64.toUInt64 &&& Int64.toUInt64 (lN 63))).toInt64 &&& lN 1) (lN 0) = nI 0 then some (nI 0) else some (1 : Int32)) = _
  cases hx' : b x
  · rw [if_pos (by rw [mb]; exact hx')]; rfl
  · rw [if_neg (by rw [mb, hx']; decide)]; rfl
theorem bs_set (p : Nat → Bool) {k : Nat} (hk : k < 64) : bs p 64 ||| 2 ^ k = bs (fun i => p i || decide (i = k)) 64 := by
  refine Nat.eq_of_testBit_eq fun i => ?_
  rw [Nat.testBit_or, bs_bit, bs_bit, Nat.testBit_two_pow]
  by_cases e : i = k
  · rw [e, decide_eq_true hk, decide_eq_true rfl]; simp
  · have e' : ¬ k = i := fun z => e z.symm
    rw [decide_eq_false (p := i = k) e, decide_eq_false e', Bool.or_false, Bool.or_false]
theorem k_put {r M : Nat} {b : Nat → Bool} (hrw : rwb r = true) (hr : rv_ln S 1 r = some 5860) (hM : M ≤ 375000) (h : SN S r M b) {x : Nat} (hx : x ≤ M) : ∃ S', fnX2_put n S r (nI x) (nI 1) = some S' ∧ rvf [r] S S' ∧ SN S' r M (fun y => b y || decide (y = x)) := by
  have h1 : x / 64 < M / 64 + 1 := by omega
  have h2 := h (x / 64) h1
  have h3 : nI x >>> (nI 6 &&& 31) = nI (x / 64) := z_sshr (j := 6) (by omega) (by decide)
  have h4 : ¬ nI (x / 64) < nI 0 := nI_pos (by omega)
  have h5 : ¬ nI 5860 ≤ nI (x / 64) := by rw [n_le (by decide) (by omega)]; omega
  have lt : x % 64 < 64 := Nat.mod_lt x (by decide)
  refine ⟨rv_sL S r (x / 64) (lN (bs (fun i => b (64 * (x / 64) + i)) 64 ||| 2 ^ (x % 64))), ?_, (rvf.rf _ _).wL hrw (by simp), fun k hk => ?_⟩
  · rw [fnX2_put, z6, h3, rv_lt, z0, if_neg h4, hr, Option.bind_some]
    rw [if_neg (show ¬ Int32.ofNat 5860 ≤ nI (x / 64) from h5), z63, n_and63, y63, y1, m_shl lt, rv_lt, if_neg (by decide), rv_aL, hr, Option.bind_some, tk_ix (by omega) (by decide), Option.bind_some, Option.bind_some, h2, fb_orL, rv_uL, hr, Option.bind_some, tk_ix (by omega) (by decide), Option.bind_some, Option.bind_some]
  · by_cases e : k = x / 64
    · rw [e, rv_sL_eq, bs_set _ lt]
      refine congrArg lN (bs_cong fun i hi => ?_)
      congr 1
      exact decide_eq_decide.mpr ⟨fun z => by rw [z, Nat.div_add_mod], fun z => by omega⟩
    · rw [rv_sL_k _ _ e, h k hk]
      refine congrArg lN (bs_cong fun i hi => ?_)
      show b (64 * k + i) = (b (64 * k + i) || decide (64 * k + i = x))
      rw [decide_eq_false (show ¬ 64 * k + i = x by omega), Bool.or_false]
end
