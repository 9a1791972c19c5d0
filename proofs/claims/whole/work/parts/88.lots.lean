/-! LOTS: what is drawn -/
section
variable {n : Nat} {S : rvS} {m m' : Nat → Nat} {wd : Nat → List Nat}
def sd (s : Int32) : Int32 := s * nI 1103515245 + nI 12345
def dr (s : Int32) (N : Nat) : Nat := (sd s).toBitVec.toNat / 256 % N
theorem i_of (x : Int32) : x = nI x.toBitVec.toNat := by
  apply Int32.toBitVec_inj.mp
  show x.toBitVec = BitVec.ofNat 32 x.toBitVec.toNat
  rw [BitVec.ofNat_toNat, BitVec.setWidth_eq]
theorem dr_lt (s : Int32) {N : Nat} (h : 0 < N) : dr s N < N := Nat.mod_lt _ h
theorem dr_u (s : Int32) : (sd s).toBitVec.toNat / 256 < 16777216 := by
  have := (sd s).toBitVec.isLt
  omega
theorem dr_sh (s : Int32) : ((sd s).toUInt32 >>> ((8 : Int32).toUInt32 &&& Int32.toUInt32 31)).toInt32 = nI ((sd s).toBitVec.toNat / 256) := by
  have h := z_ush (x := (sd s).toBitVec.toNat) (j := 8) (sd s).toBitVec.isLt (by decide)
  rw [← i_of] at h
  exact h
theorem dr_eq (s : Int32) {N : Nat} (h : 0 < N) (h2 : N < 2147483648) : nI ((sd s).toBitVec.toNat / 256) - nI ((sd s).toBitVec.toNat / 256) / nI N * nI N = nI (dr s N) := by
  have u := dr_u s
  have q := Nat.div_add_mod ((sd s).toBitVec.toNat / 256) N
  rw [pk_div (by omega) h h2, z_mul, z_sub (by rw [Nat.mul_comm]; omega)]
  refine congrArg nI ?_
  rw [dr, Nat.mul_comm]
  omega
theorem k_draw (hB : rv_B S) {s : Int32} (hs : S.2.1 147 0 = s) {N : Nat} (h : 0 < N) (h2 : N < 2147483648) : fnX3_draw n S 147 (nI N) = some (nI (dr s N), rv_sI S 147 0 (sd s)) := by
  have e0 : rv_gI S 2 147 0 = some s := by rw [tk_gI, rc_147 hB, ← hs]; rfl
  have e1 : rv_pI S 2 147 0 (sd s) = some (rv_sI S 147 0 (sd s)) := by rw [tk_pI, rc_147 hB]; rfl
  have hB1 : rv_B (rv_sI S 147 0 (sd s)) := (rvf.sI S 147 0 (sd s)).B hB
  have e2 : rv_gI (rv_sI S 147 0 (sd s)) 2 147 0 = some (sd s) := by rw [tk_gI, rc_147 hB1, Option.map_some, rv_sI_eq]
  have c : ¬ nI N ≤ (0 : Int32) := by rw [z0, n_le (by omega) (by decide)]; omega
  rw [fnX3_draw, e0, Option.bind_some, z1103515245, z12345, ← sd, e1, Option.bind_some, if_neg c, e2, Option.bind_some, nz_ok h h2, Option.bind_some, dr_sh, dr_eq s h h2]
theorem m_draw (hB : rv_B S) {s : Int32} (hs : S.2.1 189 49 = s) {N : Nat} (h : 0 < N) (h2 : N < 2147483648) : fnX13_draw n S 189 (nI N) = some (nI (dr s N), rv_sI S 189 49 (sd s)) := by
  have e0 : rv_gI S 11 189 49 = some s := by rw [tk_gI, rc_189 hB, ← hs]; rfl
  have e1 : rv_pI S 11 189 49 (sd s) = some (rv_sI S 189 49 (sd s)) := by rw [tk_pI, rc_189 hB]; rfl
  have hB1 : rv_B (rv_sI S 189 49 (sd s)) := (rvf.sI S 189 49 (sd s)).B hB
  have e2 : rv_gI (rv_sI S 189 49 (sd s)) 11 189 49 = some (sd s) := by rw [tk_gI, rc_189 hB1, Option.map_some, rv_sI_eq]
  rw [fnX13_draw, e0, Option.bind_some, z1103515245, z12345, ← sd, e1, Option.bind_some, e2, Option.bind_some, nz_ok h h2, Option.bind_some, dr_sh, dr_eq s h h2]
end
