/-! the JDK's bitCount -/
theorem pq_1 {p u v B : Nat} (h : u = p % 256 + 256 * v) (hp : p ≤ 8) (hv : v ≤ B) : u = p + 256 * v ∧ u / 256 = v ∧ u ≤ 8 + 256 * B := by omega
theorem pq_2 {p0 p1 p2 u0 u1 u2 u3 : Nat} (h0 : u0 = p0 + 256 * u1) (h1 : u1 = p1 + 256 * u2) (h2 : u2 = p2 + 256 * u3) (g0 : p0 ≤ 8) (g1 : p1 ≤ 8) (g2 : p2 ≤ 8) : (u0 + u1) / 65536 = u2 + u3 := by omega
theorem pq_3 {p0 p1 p2 p3 u0 u1 u2 u3 u4 : Nat} (h0 : u0 = p0 + 256 * u1) (h1 : u1 = p1 + 256 * u2) (h2 : u2 = p2 + 256 * u3) (h3 : u3 = p3 + 256 * u4) (g0 : p0 ≤ 8) (g1 : p1 ≤ 8) (g2 : p2 ≤ 8) (g3 : p3 ≤ 8) : ∃ l, u0 = l + 4294967296 * u4 ∧ l < 1073741824 := ⟨p0 + 256 * p1 + 65536 * p2 + 16777216 * p3, by omega, by omega⟩
theorem pq_4 {l0 l1 l2 l3 u0 u1 u2 u3 w0 w1 w2 w3 : Nat} (h0 : u0 = l0 + 4294967296 * w0) (h1 : u1 = l1 + 4294967296 * w1) (h2 : u2 = l2 + 4294967296 * w2) (h3 : u3 = l3 + 4294967296 * w3) (g0 : l0 < 1073741824) (g1 : l1 < 1073741824) (g2 : l2 < 1073741824) (g3 : l3 < 1073741824) : (u0 + u1 + (u2 + u3)) / 4294967296 = w0 + w1 + (w2 + w3) := by omega
theorem pq_5 {p0 p1 p2 p3 p4 p5 p6 p7 u0 u1 u2 u3 u4 u5 u6 u7 v0 v1 v2 v3 v4 v5 v6 v7 : Nat} (h0 : u0 = p0 + 256 * v0) (h1 : u1 = p1 + 256 * v1) (h2 : u2 = p2 + 256 * v2) (h3 : u3 = p3 + 256 * v3) (h4 : u4 = p4 + 256 * v4) (h5 : u5 = p5 + 256 * v5) (h6 : u6 = p6 + 256 * v6) (h7 : u7 = p7 + 256 * v7) (g : p0 + (p1 + (p2 + (p3 + (p4 + (p5 + (p6 + p7)))))) ≤ 64) : (u0 + u1 + (u2 + u3) + (u4 + u5 + (u6 + u7))) % 2 ^ 7 = p0 + (p1 + (p2 + (p3 + (p4 + (p5 + (p6 + p7)))))) := by
  have e : u0 + u1 + (u2 + u3) + (u4 + u5 + (u6 + u7)) = (p0 + (p1 + (p2 + (p3 + (p4 + (p5 + (p6 + p7))))))) + 128 * (2 * (v0 + v1 + v2 + v3 + v4 + v5 + v6 + v7)) := by
    rw [h0, h1, h2, h3, h4, h5, h6, h7]
    simp only [Nat.mul_add]
    omega
  rw [e]
  generalize p0 + (p1 + (p2 + (p3 + (p4 + (p5 + (p6 + p7)))))) = p at *
  generalize 2 * (v0 + v1 + v2 + v3 + v4 + v5 + v6 + v7) = v at *
  omega
theorem pc_32 (n : Nat) (S : rvS) {x : Nat} (hx : x < 4294967296) : fnJ6_bitCount_0f7a4 n S (nI x) = some (nI (fb_ct (fun i => x.testBit i) 32)) := by
  have m1 : (1431655765 : Int32) = nI (pc_M 85 4) := by decide +kernel
  have m2 : (858993459 : Int32) = nI (pc_M 51 4) := by decide +kernel
  have m3 : (252645135 : Int32) = nI (pc_M 15 4) := by decide +kernel
  have m4 : (63 : Int32) = nI (2 ^ 6 - 1) := rfl
  have l1 : (1 : Int32) = nI 1 := rfl
  have l2 : (2 : Int32) = nI 2 := rfl
  have l4 : (4 : Int32) = nI 4 := rfl
  have l8 : (8 : Int32) = nI 8 := rfl
  have l16 : (16 : Int32) = nI 16 := rfl
  have k2 : pc_M 51 4 = 858993459 := by decide +kernel
  have k3 : pc_M 15 4 = 252645135 := by decide +kernel
  obtain ⟨hw, -⟩ := pc_all 4 x hx
  have c1 : pc_a (pc_M 85 4) x < 4294967296 := Nat.lt_of_le_of_lt (Nat.sub_le _ _) hx
  have c2 : pc_b (pc_M 51 4) (pc_a (pc_M 85 4) x) < 4294967296 := by
    unfold pc_b
    have q1 := Nat.and_le_right (n := pc_a (pc_M 85 4) x) (m := pc_M 51 4)
    have q2 := Nat.and_le_right (n := pc_a (pc_M 85 4) x / 4) (m := pc_M 51 4)
    omega
  have e1 : nI x - (((nI x).toUInt32 >>> ((1 : Int32).toUInt32 &&& Int32.toUInt32 31)).toInt32 &&& (1431655765 : Int32)) = nI (pc_a (pc_M 85 4) x) := by
    rw [l1, z_ush hx (by decide), m1, fa_and, z_sub (pc_le x 4)]
    rfl
  have e2 : (nI (pc_a (pc_M 85 4) x) &&& (858993459 : Int32)) + (((nI (pc_a (pc_M 85 4) x)).toUInt32 >>> ((2 : Int32).toUInt32 &&& Int32.toUInt32 31)).toInt32 &&& (858993459 : Int32)) = nI (pc_b (pc_M 51 4) (pc_a (pc_M 85 4) x)) := by
    rw [l2, z_ush c1 (by decide), m2, fa_and, fa_and, nI_add]
    rfl
  have e3 : (nI (pc_b (pc_M 51 4) (pc_a (pc_M 85 4) x)) + ((nI (pc_b (pc_M 51 4) (pc_a (pc_M 85 4) x))).toUInt32 >>> ((4 : Int32).toUInt32 &&& Int32.toUInt32 31)).toInt32) &&& (252645135 : Int32) = nI (pc_w 4 x) := by
    rw [l4, z_ush c2 (by decide), m3, nI_add, fa_and, ← hw]
    rfl
  have b0 : ∀ y : Nat, fb_ct (fun i => y.testBit i) 8 ≤ 8 := fun y => fb_ct_le _ 8
  have w0 : ∀ k y, pc_w (k + 1) y = fb_ct (fun i => y.testBit i) 8 % 256 + 256 * pc_w k (y / 256) := fun _ _ => rfl
  have w1 : ∀ y, pc_w 0 y = 0 := fun _ => rfl
  have f0 : fb_ct (fun i => x.testBit i) 32 = fb_ct (fun i => x.testBit i) 8 + (fb_ct (fun i => (x / 256).testBit i) 8 + (fb_ct (fun i => (x / 256 / 256).testBit i) 8 + fb_ct (fun i => (x / 256 / 256 / 256).testBit i) 8)) := by
    rw [pc_ct x 24, pc_ct (x / 256) 16, pc_ct (x / 256 / 256) 8]
  have v0 := w0 3 x
  have v1 := w0 2 (x / 256)
  have v2 := w0 1 (x / 256 / 256)
  have v3 := w0 0 (x / 256 / 256 / 256)
  rw [w1] at v3
  have g0 := b0 x
  have g1 := b0 (x / 256)
  have g2 := b0 (x / 256 / 256)
  have g3 := b0 (x / 256 / 256 / 256)
  clear w0 w1 b0 c1 c2 hw
  generalize pc_w (3 + 1) x = u0 at *
  generalize pc_w (2 + 1) (x / 256) = u1 at *
  generalize pc_w (1 + 1) (x / 256 / 256) = u2 at *
  generalize pc_w (0 + 1) (x / 256 / 256 / 256) = u3 at *
  generalize fb_ct (fun i => x.testBit i) 8 = p0 at *
  generalize fb_ct (fun i => (x / 256).testBit i) 8 = p1 at *
  generalize fb_ct (fun i => (x / 256 / 256).testBit i) 8 = p2 at *
  generalize fb_ct (fun i => (x / 256 / 256 / 256).testBit i) 8 = p3 at *
  obtain ⟨r3, -, b3⟩ := pq_1 v3 g3 (Nat.le_refl 0)
  obtain ⟨r2, -, b2⟩ := pq_1 v2 g2 b3
  obtain ⟨r1, -, b1⟩ := pq_1 v1 g1 b2
  obtain ⟨r0, q1, b0⟩ := pq_1 v0 g0 b1
  have q2 := pq_2 r0 r1 r2 g0 g1 g2
  have q5 : (u0 + u1 + (u2 + u3)) % 2 ^ 6 = p0 + (p1 + (p2 + p3)) := by
    have e : u0 + u1 + (u2 + u3) = (p0 + (p1 + (p2 + p3))) + 64 * (4 * (u1 + u2 + u3)) := by omega
    rw [e]
    omega
  have d1 : u0 < 4294967296 := Nat.lt_of_le_of_lt b0 (by decide)
  have e4 : nI u0 + ((nI u0).toUInt32 >>> ((8 : Int32).toUInt32 &&& Int32.toUInt32 31)).toInt32 = nI (u0 + u1) := by
    rw [l8, z_ush d1 (by decide), nI_add, show u0 / 2 ^ 8 = u0 / 256 from rfl, q1]
  have d2 : u0 + u1 < 4294967296 := Nat.lt_of_le_of_lt (Nat.add_le_add b0 b1) (by decide)
  have e5 : nI (u0 + u1) + ((nI (u0 + u1)).toUInt32 >>> ((16 : Int32).toUInt32 &&& Int32.toUInt32 31)).toInt32 = nI (u0 + u1 + (u2 + u3)) := by
    rw [l16, z_ush d2 (by decide), nI_add, show (u0 + u1) / 2 ^ 16 = (u0 + u1) / 65536 from rfl, q2]
  unfold fnJ6_bitCount_0f7a4 rv_lt
  rw [e1]; dsimp only; rw [e2, e3, e4, e5]
  rw [m4, fa_mask, f0, q5]
theorem pc_64 (n : Nat) (S : rvS) {x : Nat} (hx : x < 18446744073709551616) : fnJ13_bitCount_95d88 n S (lN x) = some (nI (fb_ct (fun i => x.testBit i) 64)) := by
  have m1 : (6148914691236517205 : Int64) = lN (pc_M 85 8) := by decide +kernel
  have m2 : (3689348814741910323 : Int64) = lN (pc_M 51 8) := by decide +kernel
  have m3 : (1085102592571150095 : Int64) = lN (pc_M 15 8) := by decide +kernel
  have m4 : (127 : Int32) = nI (2 ^ 7 - 1) := rfl
  have k2 : pc_M 51 8 = 3689348814741910323 := by decide +kernel
  have k3 : pc_M 15 8 = 1085102592571150095 := by decide +kernel
  obtain ⟨hw, -⟩ := pc_all 8 x hx
  have c1 : pc_a (pc_M 85 8) x < 18446744073709551616 := Nat.lt_of_le_of_lt (Nat.sub_le _ _) hx
  have c2 : pc_b (pc_M 51 8) (pc_a (pc_M 85 8) x) < 18446744073709551616 := by
    unfold pc_b
    have q1 := Nat.and_le_right (n := pc_a (pc_M 85 8) x) (m := pc_M 51 8)
    have q2 := Nat.and_le_right (n := pc_a (pc_M 85 8) x / 4) (m := pc_M 51 8)
    omega
  have sh : ∀ {y : Nat} (k : Nat), y < 18446744073709551616 → k < 64 → ((lN y).toUInt64 >>> ((nI k).toInt64.toUInt64 &&& Int64.toUInt64 63)).toInt64 = lN (y / 2 ^ k) := fun k h1 h2 => wb_shr h1 h2
  have e1 : lN x - (((lN x).toUInt64 >>> ((1 : Int32).toInt64.toUInt64 &&& Int64.toUInt64 63)).toInt64 &&& (6148914691236517205 : Int64)) = lN (pc_a (pc_M 85 8) x) := by
    have := sh (y := x) 1 hx (by decide)
    rw [show (1 : Int32) = nI 1 from rfl, this, m1, fb_andL, lN_sub (pc_le x 8)]
    rfl
  have e2 : (lN (pc_a (pc_M 85 8) x) &&& (3689348814741910323 : Int64)) + (((lN (pc_a (pc_M 85 8) x)).toUInt64 >>> ((2 : Int32).toInt64.toUInt64 &&& Int64.toUInt64 63)).toInt64 &&& (3689348814741910323 : Int64)) = lN (pc_b (pc_M 51 8) (pc_a (pc_M 85 8) x)) := by
    rw [show (2 : Int32) = nI 2 from rfl, sh 2 c1 (by decide), m2, fb_andL, fb_andL, lN_add]
    rfl
  have e3 : (lN (pc_b (pc_M 51 8) (pc_a (pc_M 85 8) x)) + ((lN (pc_b (pc_M 51 8) (pc_a (pc_M 85 8) x))).toUInt64 >>> ((4 : Int32).toInt64.toUInt64 &&& Int64.toUInt64 63)).toInt64) &&& (1085102592571150095 : Int64) = lN (pc_w 8 x) := by
    rw [show (4 : Int32) = nI 4 from rfl, sh 4 c2 (by decide), m3, lN_add, fb_andL, ← hw]
    rfl
  have b0 : ∀ y : Nat, fb_ct (fun i => y.testBit i) 8 ≤ 8 := fun y => fb_ct_le _ 8
  have w0 : ∀ k y, pc_w (k + 1) y = fb_ct (fun i => y.testBit i) 8 % 256 + 256 * pc_w k (y / 256) := fun _ _ => rfl
  have w1 : ∀ y, pc_w 0 y = 0 := fun _ => rfl
  have f0 : fb_ct (fun i => x.testBit i) 64 = fb_ct (fun i => x.testBit i) 8 + (fb_ct (fun i => (x / 256).testBit i) 8 + (fb_ct (fun i => (x / 256 / 256).testBit i) 8 + (fb_ct (fun i => (x / 256 / 256 / 256).testBit i) 8 + (fb_ct (fun i => (x / 256 / 256 / 256 / 256).testBit i) 8 + (fb_ct (fun i => (x / 256 / 256 / 256 / 256 / 256).testBit i) 8 + (fb_ct (fun i => (x / 256 / 256 / 256 / 256 / 256 / 256).testBit i) 8 + fb_ct (fun i => (x / 256 / 256 / 256 / 256 / 256 / 256 / 256).testBit i) 8)))))) := by
    rw [pc_ct x 56, pc_ct _ 48, pc_ct _ 40, pc_ct _ 32, pc_ct _ 24, pc_ct _ 16, pc_ct _ 8]
  have v0 := w0 7 x
  have v1 := w0 6 (x / 256)
  have v2 := w0 5 (x / 256 / 256)
  have v3 := w0 4 (x / 256 / 256 / 256)
  have v4 := w0 3 (x / 256 / 256 / 256 / 256)
  have v5 := w0 2 (x / 256 / 256 / 256 / 256 / 256)
  have v6 := w0 1 (x / 256 / 256 / 256 / 256 / 256 / 256)
  have v7 := w0 0 (x / 256 / 256 / 256 / 256 / 256 / 256 / 256)
  rw [w1] at v7
  have g0 := b0 x
  have g1 := b0 (x / 256)
  have g2 := b0 (x / 256 / 256)
  have g3 := b0 (x / 256 / 256 / 256)
  have g4 := b0 (x / 256 / 256 / 256 / 256)
  have g5 := b0 (x / 256 / 256 / 256 / 256 / 256)
  have g6 := b0 (x / 256 / 256 / 256 / 256 / 256 / 256)
  have g7 := b0 (x / 256 / 256 / 256 / 256 / 256 / 256 / 256)
  clear w0 w1 b0 hw c1 c2
  generalize pc_w (7 + 1) x = u0 at *
  generalize pc_w (6 + 1) (x / 256) = u1 at *
  generalize pc_w (5 + 1) (x / 256 / 256) = u2 at *
  generalize pc_w (4 + 1) (x / 256 / 256 / 256) = u3 at *
  generalize pc_w (3 + 1) (x / 256 / 256 / 256 / 256) = u4 at *
  generalize pc_w (2 + 1) (x / 256 / 256 / 256 / 256 / 256) = u5 at *
  generalize pc_w (1 + 1) (x / 256 / 256 / 256 / 256 / 256 / 256) = u6 at *
  generalize pc_w (0 + 1) (x / 256 / 256 / 256 / 256 / 256 / 256 / 256) = u7 at *
  generalize fb_ct (fun i => x.testBit i) 8 = p0 at *
  generalize fb_ct (fun i => (x / 256).testBit i) 8 = p1 at *
  generalize fb_ct (fun i => (x / 256 / 256).testBit i) 8 = p2 at *
  generalize fb_ct (fun i => (x / 256 / 256 / 256).testBit i) 8 = p3 at *
  generalize fb_ct (fun i => (x / 256 / 256 / 256 / 256).testBit i) 8 = p4 at *
  generalize fb_ct (fun i => (x / 256 / 256 / 256 / 256 / 256).testBit i) 8 = p5 at *
  generalize fb_ct (fun i => (x / 256 / 256 / 256 / 256 / 256 / 256).testBit i) 8 = p6 at *
  generalize fb_ct (fun i => (x / 256 / 256 / 256 / 256 / 256 / 256 / 256).testBit i) 8 = p7 at *
  obtain ⟨r7, -, b7⟩ := pq_1 v7 g7 (Nat.le_refl 0)
  obtain ⟨r6, -, b6⟩ := pq_1 v6 g6 b7
  obtain ⟨r5, -, b5⟩ := pq_1 v5 g5 b6
  obtain ⟨r4, -, b4⟩ := pq_1 v4 g4 b5
  obtain ⟨r3, -, b3⟩ := pq_1 v3 g3 b4
  obtain ⟨r2, -, b2⟩ := pq_1 v2 g2 b3
  obtain ⟨r1, -, b1⟩ := pq_1 v1 g1 b2
  obtain ⟨r0, q1, b0⟩ := pq_1 v0 g0 b1
  clear v0 v1 v2 v3 v4 v5 v6 v7
  have q2 := pq_2 r0 r1 r2 g0 g1 g2
  obtain ⟨l0, t0, s0⟩ := pq_3 r0 r1 r2 r3 g0 g1 g2 g3
  obtain ⟨l1, t1, s1⟩ := pq_3 r1 r2 r3 r4 g1 g2 g3 g4
  obtain ⟨l2, t2, s2⟩ := pq_3 r2 r3 r4 r5 g2 g3 g4 g5
  obtain ⟨l3, t3, s3⟩ := pq_3 r3 r4 r5 r6 g3 g4 g5 g6
  have q3 := pq_4 t0 t1 t2 t3 s0 s1 s2 s3
  have q5 := pq_5 r0 r1 r2 r3 r4 r5 r6 r7 (by clear r0 r1 r2 r3 r4 r5 r6 r7 t0 t1 t2 t3 q1 q2 q3 b0 b1 b2 b3 b4 b5 b6 b7; omega)
  clear r0 r1 r2 r3 r4 r5 r6 r7 t0 t1 t2 t3 g0 g1 g2 g3 g4 g5 g6 g7
  have d1 : u0 < 18446744073709551616 := Nat.lt_of_le_of_lt b0 (by decide)
  have d2 : u0 + u1 < 18446744073709551616 := Nat.lt_of_le_of_lt (Nat.add_le_add b0 b1) (by decide)
  have d3 : u0 + u1 + (u2 + u3) < 18446744073709551616 := Nat.lt_of_le_of_lt (Nat.add_le_add (Nat.add_le_add b0 b1) (Nat.add_le_add b2 b3)) (by decide)
  have e4 : lN u0 + ((lN u0).toUInt64 >>> ((8 : Int32).toInt64.toUInt64 &&& Int64.toUInt64 63)).toInt64 = lN (u0 + u1) := by
    rw [show (8 : Int32) = nI 8 from rfl, sh 8 d1 (by decide), lN_add, show u0 / 2 ^ 8 = u0 / 256 from rfl, q1]
  have e5 : lN (u0 + u1) + ((lN (u0 + u1)).toUInt64 >>> ((16 : Int32).toInt64.toUInt64 &&& Int64.toUInt64 63)).toInt64 = lN (u0 + u1 + (u2 + u3)) := by
    rw [show (16 : Int32) = nI 16 from rfl, sh 16 d2 (by decide), lN_add, show (u0 + u1) / 2 ^ 16 = (u0 + u1) / 65536 from rfl, q2]
  have e6 : lN (u0 + u1 + (u2 + u3)) + ((lN (u0 + u1 + (u2 + u3))).toUInt64 >>> ((32 : Int32).toInt64.toUInt64 &&& Int64.toUInt64 63)).toInt64 = lN (u0 + u1 + (u2 + u3) + (u4 + u5 + (u6 + u7))) := by
    rw [show (32 : Int32) = nI 32 from rfl, sh 32 d3 (by decide), lN_add, show (u0 + u1 + (u2 + u3)) / 2 ^ 32 = (u0 + u1 + (u2 + u3)) / 4294967296 from rfl, q3]
  unfold fnJ13_bitCount_95d88 rv_lt
  rw [e1]; dsimp only; rw [e2, e3, e4, e5, e6]
  rw [lN_i, m4, fa_mask]
  rw [f0, q5]
