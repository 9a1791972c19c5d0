noncomputable def fbX13_readNot (n : Nat) (G0 : rvS → Nat → Option (Int32 × rvS)) (G1 : rvS → Nat → Option (Int32 × rvS)) (G2 : rvS → Nat → Option (Int32 × rvS)) (G3 : rvS → Nat → Option (Int32 × rvS)) (G4 : rvS → Nat → Option (Int32 × rvS)) (S : rvS) (a0 : Nat) : Option (Int32 × rvS) :=
  (rv_ck S 11 a0).bind fun u1_ =>
  rv_bp (G2 S a0) fun x4_ S5_ =>
  if x4_ = 0 then (
    some ((0 : Int32), S5_))
  else (
    (rv_gI S5_ 11 a0 59).bind fun x9_ =>
    (rv_ck S5_ 11 a0).bind fun u11_ =>
    rv_bp (fnX13_lays n S5_ a0 (1 : Int32) x9_ (0 : Int32) (0 : Int32)) fun x14_ S15_ =>
    (rv_pI S15_ 11 a0 59 x14_).bind fun S18_ =>
    some ((1 : Int32), S18_))
set_option maxRecDepth 20000 in
set_option maxHeartbeats 4000000 in
theorem eX13_readNot_in (n : Nat) (G0 : rvS → Nat → Option (Int32 × rvS)) (G1 : rvS → Nat → Option (Int32 × rvS)) (G2 : rvS → Nat → Option (Int32 × rvS)) (G3 : rvS → Nat → Option (Int32 × rvS)) (G4 : rvS → Nat → Option (Int32 × rvS)) (d : Nat) (hG0 : ∀ (S : rvS) (z0 : Nat) (r : Int32) (S' : rvS), G0 S z0 = some (r, S') → rv_Met yX13_readNot mX13_readNot (4 + d) [.ref z0] S (some (.int r)) S') (hG1 : ∀ (S : rvS) (z0 : Nat) (r : Int32) (S' : rvS), G1 S z0 = some (r, S') → rv_Met yX13_readBracket mX13_readBracket (4 + d) [.ref z0] S (some (.int r)) S') (hG2 : ∀ (S : rvS) (z0 : Nat) (r : Int32) (S' : rvS), G2 S z0 = some (r, S') → rv_Met yX13_readOne mX13_readOne (4 + d) [.ref z0] S (some (.int r)) S') (hG3 : ∀ (S : rvS) (z0 : Nat) (r : Int32) (S' : rvS), G3 S z0 = some (r, S') → rv_Met yX13_readAnd mX13_readAnd (4 + d) [.ref z0] S (some (.int r)) S') (hG4 : ∀ (S : rvS) (z0 : Nat) (r : Int32) (S' : rvS), G4 S z0 = some (r, S') → rv_Met yX13_readOr mX13_readOr (4 + d) [.ref z0] S (some (.int r)) S') (S : rvS) (a0 : Nat) (r : Int32) (S' : rvS) (h : fbX13_readNot n G0 G1 G2 G3 G4 S a0 = some (r, S')) : rv_Ev mX13_readNot (4 + d + 1) 0 [(0, .ref a0)] [] S (some (.int r)) S' := by
  unfold fbX13_readNot at h
  refine re_aloadn (pc := 0) 0 (by decide +kernel : decode cX13_readNot 0 = .ok (.aload_n 0, 1)) rfl ?_
  obtain ⟨u1_, g2_, h⟩ := rv_b_e h
  obtain ⟨x4_, S5_, g6_, h⟩ := rv_bp_e h
  have m3_ := hG2 S a0 _ _ g6_
  have z7_ : rv_same S S5_ := m3_.sh rfl
  refine re_cV (pc := 1) [] m3_ (rv_okl.k z7_) (rv_up.sh z7_) (by omega) (rv_ck_e g2_) ⟨by decide, rfl⟩ (Nat.le_of_ble_eq_true rfl) lVX13_477 rfl (by decide +kernel : decode cX13_readNot 1 = .ok (.invokevirtual 477, 3)) ?_
  rcases rv_if_e h with ⟨g8_, h⟩ | ⟨g8_, h⟩
  · refine re_if_ne_f (pc := 4) 9 (by decide +kernel : decode cX13_readNot 4 = .ok (.ifCond .ne 5, 3)) (by decide) g8_ ?_
    refine re_iconst (pc := 7) (0 : Int32) (by decide +kernel : decode cX13_readNot 7 = .ok (.iconst 0, 1)) (by decide) ?_
    cases h
    exact re_iret (fun ty hty => by cases hty; rfl) (by decide +kernel : decode cX13_readNot 8 = .ok (.ireturn, 1))
  · refine re_if_ne_t (pc := 4) 9 (by decide +kernel : decode cX13_readNot 4 = .ok (.ifCond .ne 5, 3)) (by decide) g8_ ?_
    refine re_aloadn (pc := 9) 0 (by decide +kernel : decode cX13_readNot 9 = .ok (.aload_n 0, 1)) rfl ?_
    refine re_aloadn (pc := 10) 0 (by decide +kernel : decode cX13_readNot 10 = .ok (.aload_n 0, 1)) rfl ?_
    refine re_iconst (pc := 11) (1 : Int32) (by decide +kernel : decode cX13_readNot 11 = .ok (.iconst 1, 1)) (by decide) ?_
    refine re_aloadn (pc := 12) 0 (by decide +kernel : decode cX13_readNot 12 = .ok (.aload_n 0, 1)) rfl ?_
    obtain ⟨x9_, g10_, h⟩ := rv_b_e h
    refine re_gI (pc := 13) g10_ lfX13_470 rfl (by decide +kernel : decode cX13_readNot 13 = .ok (.getfield 470, 3)) ?_
    refine re_iconst (pc := 16) (0 : Int32) (by decide +kernel : decode cX13_readNot 16 = .ok (.iconst 0, 1)) (by decide) ?_
    refine re_iconst (pc := 17) (0 : Int32) (by decide +kernel : decode cX13_readNot 17 = .ok (.iconst 0, 1)) (by decide) ?_
    obtain ⟨u11_, g12_, h⟩ := rv_b_e h
    obtain ⟨x14_, S15_, g16_, h⟩ := rv_bp_e h
    have m13_ := metX13_lays n S5_ a0 (1 : Int32) x9_ (0 : Int32) (0 : Int32) _ _ g16_
    have z17_ : rv_same S5_ S15_ := m13_.sh rfl
    refine re_cV (pc := 18) [.int (1 : Int32), .int x9_, .int (0 : Int32), .int (0 : Int32)] m13_ (rv_okl.k z17_) (rv_up.sh z17_) (by omega) (rv_ck_e g12_) ⟨by decide, rfl⟩ (Nat.le_of_ble_eq_true rfl) lVX13_473 rfl (by decide +kernel : decode cX13_readNot 18 = .ok (.invokevirtual 473, 3)) ?_
    obtain ⟨S18_, g19_, h⟩ := rv_b_e h
    refine re_pI (pc := 21) g19_ lfX13_470 rfl rfl rfl rfl (by decide +kernel : decode cX13_readNot 21 = .ok (.putfield 470, 3)) ?_
    refine re_iconst (pc := 24) (1 : Int32) (by decide +kernel : decode cX13_readNot 24 = .ok (.iconst 1, 1)) (by decide) ?_
    cases h
    exact re_iret (fun ty hty => by cases hty; rfl) (by decide +kernel : decode cX13_readNot 25 = .ok (.ireturn, 1))
noncomputable def fbX13_readBracket (n : Nat) (G0 : rvS → Nat → Option (Int32 × rvS)) (G1 : rvS → Nat → Option (Int32 × rvS)) (G2 : rvS → Nat → Option (Int32 × rvS)) (G3 : rvS → Nat → Option (Int32 × rvS)) (G4 : rvS → Nat → Option (Int32 × rvS)) (S : rvS) (a0 : Nat) : Option (Int32 × rvS) :=
  (rv_ck S 11 a0).bind fun u1_ =>
  rv_bp (G4 S a0) fun x4_ S5_ =>
  if x4_ = 0 then (
    some ((0 : Int32), S5_))
  else (
    (rv_ck S5_ 11 a0).bind fun u9_ =>
    (fnX13_isSign n S5_ a0 (41 : Int32)).bind fun x12_ =>
    if x12_ = 0 then (
      (rv_ck S5_ 11 a0).bind fun u21_ =>
      rv_bp (fnX13_bad n S5_ a0 (1 : Int32)) fun x24_ S25_ =>
      (rv_bo x24_).bind fun b_ =>
      some (b_, S25_))
    else (
      (rv_ck S5_ 11 a0).bind fun u15_ =>
      (fnX13_go n S5_ a0).bind fun S18_ =>
      some ((1 : Int32), S18_)))
set_option maxRecDepth 20000 in
set_option maxHeartbeats 4000000 in
theorem eX13_readBracket_in (n : Nat) (G0 : rvS → Nat → Option (Int32 × rvS)) (G1 : rvS → Nat → Option (Int32 × rvS)) (G2 : rvS → Nat → Option (Int32 × rvS)) (G3 : rvS → Nat → Option (Int32 × rvS)) (G4 : rvS → Nat → Option (Int32 × rvS)) (d : Nat) (hG0 : ∀ (S : rvS) (z0 : Nat) (r : Int32) (S' : rvS), G0 S z0 = some (r, S') → rv_Met yX13_readNot mX13_readNot (4 + d) [.ref z0] S (some (.int r)) S') (hG1 : ∀ (S : rvS) (z0 : Nat) (r : Int32) (S' : rvS), G1 S z0 = some (r, S') → rv_Met yX13_readBracket mX13_readBracket (4 + d) [.ref z0] S (some (.int r)) S') (hG2 : ∀ (S : rvS) (z0 : Nat) (r : Int32) (S' : rvS), G2 S z0 = some (r, S') → rv_Met yX13_readOne mX13_readOne (4 + d) [.ref z0] S (some (.int r)) S') (hG3 : ∀ (S : rvS) (z0 : Nat) (r : Int32) (S' : rvS), G3 S z0 = some (r, S') → rv_Met yX13_readAnd mX13_readAnd (4 + d) [.ref z0] S (some (.int r)) S') (hG4 : ∀ (S : rvS) (z0 : Nat) (r : Int32) (S' : rvS), G4 S z0 = some (r, S') → rv_Met yX13_readOr mX13_readOr (4 + d) [.ref z0] S (some (.int r)) S') (S : rvS) (a0 : Nat) (r : Int32) (S' : rvS) (h : fbX13_readBracket n G0 G1 G2 G3 G4 S a0 = some (r, S')) : rv_Ev mX13_readBracket (4 + d + 1) 0 [(0, .ref a0)] [] S (some (.int r)) S' := by
  unfold fbX13_readBracket at h
  refine re_aloadn (pc := 0) 0 (by decide +kernel : decode cX13_readBracket 0 = .ok (.aload_n 0, 1)) rfl ?_
  obtain ⟨u1_, g2_, h⟩ := rv_b_e h
  obtain ⟨x4_, S5_, g6_, h⟩ := rv_bp_e h
  have m3_ := hG4 S a0 _ _ g6_
  have z7_ : rv_same S S5_ := m3_.sh rfl
  refine re_cV (pc := 1) [] m3_ (rv_okl.k z7_) (rv_up.sh z7_) (by omega) (rv_ck_e g2_) ⟨by decide, rfl⟩ (Nat.le_of_ble_eq_true rfl) lVX13_498 rfl (by decide +kernel : decode cX13_readBracket 1 = .ok (.invokevirtual 498, 3)) ?_
  rcases rv_if_e h with ⟨g8_, h⟩ | ⟨g8_, h⟩
  · refine re_if_ne_f (pc := 4) 9 (by decide +kernel : decode cX13_readBracket 4 = .ok (.ifCond .ne 5, 3)) (by decide) g8_ ?_
    refine re_iconst (pc := 7) (0 : Int32) (by decide +kernel : decode cX13_readBracket 7 = .ok (.iconst 0, 1)) (by decide) ?_
    cases h
    exact re_iret (fun ty hty => by cases hty; rfl) (by decide +kernel : decode cX13_readBracket 8 = .ok (.ireturn, 1))
  · refine re_if_ne_t (pc := 4) 9 (by decide +kernel : decode cX13_readBracket 4 = .ok (.ifCond .ne 5, 3)) (by decide) g8_ ?_
    refine re_aloadn (pc := 9) 0 (by decide +kernel : decode cX13_readBracket 9 = .ok (.aload_n 0, 1)) rfl ?_
    refine re_bipush (pc := 10) (41 : Int32) (by decide +kernel : decode cX13_readBracket 10 = .ok (.bipush 41, 2)) (by decide) ?_
    obtain ⟨u9_, g10_, h⟩ := rv_b_e h
    obtain ⟨x12_, g13_, h⟩ := rv_b_e h
    have m11_ := metX13_isSign n S5_ a0 (41 : Int32) _ g13_
    refine re_cV (pc := 12) [.int (41 : Int32)] m11_ (rv_okl.k ⟨rfl, rfl⟩) (rv_up.rf _ _) (by omega) (rv_ck_e g10_) ⟨by decide, rfl⟩ (Nat.le_of_ble_eq_true rfl) lVX13_184 rfl (by decide +kernel : decode cX13_readBracket 12 = .ok (.invokevirtual 184, 3)) ?_
    rcases rv_if_e h with ⟨g14_, h⟩ | ⟨g14_, h⟩
    · refine re_if_ne_f (pc := 15) 24 (by decide +kernel : decode cX13_readBracket 15 = .ok (.ifCond .ne 9, 3)) (by decide) g14_ ?_
      refine re_aloadn (pc := 18) 0 (by decide +kernel : decode cX13_readBracket 18 = .ok (.aload_n 0, 1)) rfl ?_
      refine re_iconst (pc := 19) (1 : Int32) (by decide +kernel : decode cX13_readBracket 19 = .ok (.iconst 1, 1)) (by decide) ?_
      obtain ⟨u21_, g22_, h⟩ := rv_b_e h
      obtain ⟨x24_, S25_, g26_, h⟩ := rv_bp_e h
      have m23_ := metX13_bad n S5_ a0 (1 : Int32) _ _ g26_
      have z27_ : rv_same S5_ S25_ := m23_.sh rfl
      refine re_cV (pc := 20) [.int (1 : Int32)] m23_ (rv_okl.k z27_) (rv_up.sh z27_) (by omega) (rv_ck_e g22_) ⟨by decide, rfl⟩ (Nat.le_of_ble_eq_true rfl) lVX13_167 rfl (by decide +kernel : decode cX13_readBracket 20 = .ok (.invokevirtual 167, 3)) ?_
      obtain ⟨b_, gb_, h⟩ := rv_b_e h
      obtain ⟨gb1_, gb2_⟩ := rv_bo_e gb_
      refine re_nI (pc := 23) gb1_ ?_
      cases h
      exact re_iret (fun ty hty => by cases hty; exact gb2_) (by decide +kernel : decode cX13_readBracket 23 = .ok (.ireturn, 1))
    · refine re_if_ne_t (pc := 15) 24 (by decide +kernel : decode cX13_readBracket 15 = .ok (.ifCond .ne 9, 3)) (by decide) g14_ ?_
      refine re_aloadn (pc := 24) 0 (by decide +kernel : decode cX13_readBracket 24 = .ok (.aload_n 0, 1)) rfl ?_
      obtain ⟨u15_, g16_, h⟩ := rv_b_e h
      obtain ⟨S18_, g19_, h⟩ := rv_b_e h
      have m17_ := metX13_go n S5_ a0 _ g19_
      have z20_ : rv_same S5_ S18_ := m17_.sh rfl
      refine re_cV (pc := 25) [] m17_ (rv_okl.k z20_) (rv_up.sh z20_) (by omega) (rv_ck_e g16_) ⟨by decide, rfl⟩ (Nat.le_of_ble_eq_true rfl) lVX13_181 rfl (by decide +kernel : decode cX13_readBracket 25 = .ok (.invokevirtual 181, 3)) ?_
      refine re_iconst (pc := 28) (1 : Int32) (by decide +kernel : decode cX13_readBracket 28 = .ok (.iconst 1, 1)) (by decide) ?_
      cases h
      exact re_iret (fun ty hty => by cases hty; rfl) (by decide +kernel : decode cX13_readBracket 29 = .ok (.ireturn, 1))
noncomputable def cX13_readOne_64 (n : Nat) (G0 : rvS → Nat → Option (Int32 × rvS)) (G1 : rvS → Nat → Option (Int32 × rvS)) (G2 : rvS → Nat → Option (Int32 × rvS)) (G3 : rvS → Nat → Option (Int32 × rvS)) (G4 : rvS → Nat → Option (Int32 × rvS)) (S : rvS) (a0 : Nat) : Option (Int32 × rvS) :=
  (rv_ck S 11 a0).bind fun u1_ =>
  rv_bp (fnX13_bad n S a0 (4 : Int32)) fun x4_ S5_ =>
  (rv_bo x4_).bind fun b_ =>
  some (b_, S5_)
set_option maxRecDepth 20000 in
set_option maxHeartbeats 4000000 in
theorem eX13_readOne_64 (n : Nat) (G0 : rvS → Nat → Option (Int32 × rvS)) (G1 : rvS → Nat → Option (Int32 × rvS)) (G2 : rvS → Nat → Option (Int32 × rvS)) (G3 : rvS → Nat → Option (Int32 × rvS)) (G4 : rvS → Nat → Option (Int32 × rvS)) (d : Nat) (hG0 : ∀ (S : rvS) (z0 : Nat) (r : Int32) (S' : rvS), G0 S z0 = some (r, S') → rv_Met yX13_readNot mX13_readNot (4 + d) [.ref z0] S (some (.int r)) S') (hG1 : ∀ (S : rvS) (z0 : Nat) (r : Int32) (S' : rvS), G1 S z0 = some (r, S') → rv_Met yX13_readBracket mX13_readBracket (4 + d) [.ref z0] S (some (.int r)) S') (hG2 : ∀ (S : rvS) (z0 : Nat) (r : Int32) (S' : rvS), G2 S z0 = some (r, S') → rv_Met yX13_readOne mX13_readOne (4 + d) [.ref z0] S (some (.int r)) S') (hG3 : ∀ (S : rvS) (z0 : Nat) (r : Int32) (S' : rvS), G3 S z0 = some (r, S') → rv_Met yX13_readAnd mX13_readAnd (4 + d) [.ref z0] S (some (.int r)) S') (hG4 : ∀ (S : rvS) (z0 : Nat) (r : Int32) (S' : rvS), G4 S z0 = some (r, S') → rv_Met yX13_readOr mX13_readOr (4 + d) [.ref z0] S (some (.int r)) S') (S : rvS) (a0 : Nat) (r : Int32) (S' : rvS) (h : cX13_readOne_64 n G0 G1 G2 G3 G4 S a0 = some (r, S')) : rv_Ev mX13_readOne (4 + d + 1) 64 [(0, .ref a0)] [] S (some (.int r)) S' := by
  unfold cX13_readOne_64 at h
  refine re_aloadn (pc := 64) 0 (by decide +kernel : decode cX13_readOne 64 = .ok (.aload_n 0, 1)) rfl ?_
  refine re_iconst (pc := 65) (4 : Int32) (by decide +kernel : decode cX13_readOne 65 = .ok (.iconst 4, 1)) (by decide) ?_
  obtain ⟨u1_, g2_, h⟩ := rv_b_e h
  obtain ⟨x4_, S5_, g6_, h⟩ := rv_bp_e h
  have m3_ := metX13_bad n S a0 (4 : Int32) _ _ g6_
  have z7_ : rv_same S S5_ := m3_.sh rfl
  refine re_cV (pc := 66) [.int (4 : Int32)] m3_ (rv_okl.k z7_) (rv_up.sh z7_) (by omega) (rv_ck_e g2_) ⟨by decide, rfl⟩ (Nat.le_of_ble_eq_true rfl) lVX13_167 rfl (by decide +kernel : decode cX13_readOne 66 = .ok (.invokevirtual 167, 3)) ?_
  obtain ⟨b_, gb_, h⟩ := rv_b_e h
  obtain ⟨gb1_, gb2_⟩ := rv_bo_e gb_
  refine re_nI (pc := 69) gb1_ ?_
  cases h
  exact re_iret (fun ty hty => by cases hty; exact gb2_) (by decide +kernel : decode cX13_readOne 69 = .ok (.ireturn, 1))
noncomputable def cX13_readOne_172 (n : Nat) (G0 : rvS → Nat → Option (Int32 × rvS)) (G1 : rvS → Nat → Option (Int32 × rvS)) (G2 : rvS → Nat → Option (Int32 × rvS)) (G3 : rvS → Nat → Option (Int32 × rvS)) (G4 : rvS → Nat → Option (Int32 × rvS)) (S : rvS) (a0 : Nat) (x3 : Int32) : Option (Int32 × rvS) :=
  (rv_gI S 11 a0 58).bind fun x1_ =>
  (rv_pI S 11 a0 58 (x1_ - (1 : Int32))).bind fun S3_ =>
  (rv_bo x3).bind fun b_ =>
  some (b_, S3_)
set_option maxRecDepth 20000 in
set_option maxHeartbeats 4000000 in
theorem eX13_readOne_172 (n : Nat) (G0 : rvS → Nat → Option (Int32 × rvS)) (G1 : rvS → Nat → Option (Int32 × rvS)) (G2 : rvS → Nat → Option (Int32 × rvS)) (G3 : rvS → Nat → Option (Int32 × rvS)) (G4 : rvS → Nat → Option (Int32 × rvS)) (d : Nat) (hG0 : ∀ (S : rvS) (z0 : Nat) (r : Int32) (S' : rvS), G0 S z0 = some (r, S') → rv_Met yX13_readNot mX13_readNot (4 + d) [.ref z0] S (some (.int r)) S') (hG1 : ∀ (S : rvS) (z0 : Nat) (r : Int32) (S' : rvS), G1 S z0 = some (r, S') → rv_Met yX13_readBracket mX13_readBracket (4 + d) [.ref z0] S (some (.int r)) S') (hG2 : ∀ (S : rvS) (z0 : Nat) (r : Int32) (S' : rvS), G2 S z0 = some (r, S') → rv_Met yX13_readOne mX13_readOne (4 + d) [.ref z0] S (some (.int r)) S') (hG3 : ∀ (S : rvS) (z0 : Nat) (r : Int32) (S' : rvS), G3 S z0 = some (r, S') → rv_Met yX13_readAnd mX13_readAnd (4 + d) [.ref z0] S (some (.int r)) S') (hG4 : ∀ (S : rvS) (z0 : Nat) (r : Int32) (S' : rvS), G4 S z0 = some (r, S') → rv_Met yX13_readOr mX13_readOr (4 + d) [.ref z0] S (some (.int r)) S') (S : rvS) (a0 : Nat) (x3 : Int32) (r : Int32) (S' : rvS) (h : cX13_readOne_172 n G0 G1 G2 G3 G4 S a0 x3 = some (r, S')) : rv_Ev mX13_readOne (4 + d + 1) 172 [(0, .ref a0), (3, .int x3)] [] S (some (.int r)) S' := by
  unfold cX13_readOne_172 at h
  refine re_aloadn (pc := 172) 0 (by decide +kernel : decode cX13_readOne 172 = .ok (.aload_n 0, 1)) rfl ?_
  refine re_dup (pc := 173) (by decide +kernel : decode cX13_readOne 173 = .ok (.dup, 1)) rfl ?_
  obtain ⟨x1_, g2_, h⟩ := rv_b_e h
  refine re_gI (pc := 174) g2_ lfX13_483 rfl (by decide +kernel : decode cX13_readOne 174 = .ok (.getfield 483, 3)) ?_
  refine re_iconst (pc := 177) (1 : Int32) (by decide +kernel : decode cX13_readOne 177 = .ok (.iconst 1, 1)) (by decide) ?_
  refine re_isub (pc := 178) (by decide +kernel : decode cX13_readOne 178 = .ok (.isub, 1)) ?_
  obtain ⟨S3_, g4_, h⟩ := rv_b_e h
  refine re_pI (pc := 179) g4_ lfX13_483 rfl rfl rfl rfl (by decide +kernel : decode cX13_readOne 179 = .ok (.putfield 483, 3)) ?_
  refine re_iloadn (pc := 182) 1 (by decide +kernel : decode cX13_readOne 182 = .ok (.iload_n 3, 1)) rfl ?_
  obtain ⟨b_, gb_, h⟩ := rv_b_e h
  obtain ⟨gb1_, gb2_⟩ := rv_bo_e gb_
  refine re_nI (pc := 183) gb1_ ?_
  cases h
  exact re_iret (fun ty hty => by cases hty; exact gb2_) (by decide +kernel : decode cX13_readOne 183 = .ok (.ireturn, 1))
noncomputable def cX13_readOne_134 (n : Nat) (G0 : rvS → Nat → Option (Int32 × rvS)) (G1 : rvS → Nat → Option (Int32 × rvS)) (G2 : rvS → Nat → Option (Int32 × rvS)) (G3 : rvS → Nat → Option (Int32 × rvS)) (G4 : rvS → Nat → Option (Int32 × rvS)) (S : rvS) (a0 : Nat) (x2 : Int32) (x3 : Int32) : Option (Int32 × rvS) :=
  (rv_ck S 11 a0).bind fun u1_ =>
  rv_bp (fnX13_lays n S a0 ((50 : Int32) + x2) (0 : Int32) (0 : Int32) (0 : Int32)) fun x4_ S5_ =>
  (rv_pI S5_ 11 a0 59 x4_).bind fun S8_ =>
  cX13_readOne_172 n G0 G1 G2 G3 G4 S8_ a0 x3
set_option maxRecDepth 20000 in
set_option maxHeartbeats 4000000 in
theorem eX13_readOne_134 (n : Nat) (G0 : rvS → Nat → Option (Int32 × rvS)) (G1 : rvS → Nat → Option (Int32 × rvS)) (G2 : rvS → Nat → Option (Int32 × rvS)) (G3 : rvS → Nat → Option (Int32 × rvS)) (G4 : rvS → Nat → Option (Int32 × rvS)) (d : Nat) (hG0 : ∀ (S : rvS) (z0 : Nat) (r : Int32) (S' : rvS), G0 S z0 = some (r, S') → rv_Met yX13_readNot mX13_readNot (4 + d) [.ref z0] S (some (.int r)) S') (hG1 : ∀ (S : rvS) (z0 : Nat) (r : Int32) (S' : rvS), G1 S z0 = some (r, S') → rv_Met yX13_readBracket mX13_readBracket (4 + d) [.ref z0] S (some (.int r)) S') (hG2 : ∀ (S : rvS) (z0 : Nat) (r : Int32) (S' : rvS), G2 S z0 = some (r, S') → rv_Met yX13_readOne mX13_readOne (4 + d) [.ref z0] S (some (.int r)) S') (hG3 : ∀ (S : rvS) (z0 : Nat) (r : Int32) (S' : rvS), G3 S z0 = some (r, S') → rv_Met yX13_readAnd mX13_readAnd (4 + d) [.ref z0] S (some (.int r)) S') (hG4 : ∀ (S : rvS) (z0 : Nat) (r : Int32) (S' : rvS), G4 S z0 = some (r, S') → rv_Met yX13_readOr mX13_readOr (4 + d) [.ref z0] S (some (.int r)) S') (S : rvS) (a0 : Nat) (x2 : Int32) (x3 : Int32) (r : Int32) (S' : rvS) (h : cX13_readOne_134 n G0 G1 G2 G3 G4 S a0 x2 x3 = some (r, S')) : rv_Ev mX13_readOne (4 + d + 1) 134 [(0, .ref a0), (2, .int x2), (3, .int x3)] [] S (some (.int r)) S' := by
  unfold cX13_readOne_134 at h
  refine re_aloadn (pc := 134) 0 (by decide +kernel : decode cX13_readOne 134 = .ok (.aload_n 0, 1)) rfl ?_
  refine re_aloadn (pc := 135) 0 (by decide +kernel : decode cX13_readOne 135 = .ok (.aload_n 0, 1)) rfl ?_
  refine re_bipush (pc := 136) (50 : Int32) (by decide +kernel : decode cX13_readOne 136 = .ok (.bipush 50, 2)) (by decide) ?_
  refine re_iloadn (pc := 138) 1 (by decide +kernel : decode cX13_readOne 138 = .ok (.iload_n 2, 1)) rfl ?_
  refine re_iadd (pc := 139) (by decide +kernel : decode cX13_readOne 139 = .ok (.iadd, 1)) ?_
  refine re_iconst (pc := 140) (0 : Int32) (by decide +kernel : decode cX13_readOne 140 = .ok (.iconst 0, 1)) (by decide) ?_
  refine re_iconst (pc := 141) (0 : Int32) (by decide +kernel : decode cX13_readOne 141 = .ok (.iconst 0, 1)) (by decide) ?_
  refine re_iconst (pc := 142) (0 : Int32) (by decide +kernel : decode cX13_readOne 142 = .ok (.iconst 0, 1)) (by decide) ?_
  obtain ⟨u1_, g2_, h⟩ := rv_b_e h
  obtain ⟨x4_, S5_, g6_, h⟩ := rv_bp_e h
  have m3_ := metX13_lays n S a0 ((50 : Int32) + x2) (0 : Int32) (0 : Int32) (0 : Int32) _ _ g6_
  have z7_ : rv_same S S5_ := m3_.sh rfl
  refine re_cV (pc := 143) [.int ((50 : Int32) + x2), .int (0 : Int32), .int (0 : Int32), .int (0 : Int32)] m3_ (rv_okl.k z7_) (rv_up.sh z7_) (by omega) (rv_ck_e g2_) ⟨by decide, rfl⟩ (Nat.le_of_ble_eq_true rfl) lVX13_473 rfl (by decide +kernel : decode cX13_readOne 143 = .ok (.invokevirtual 473, 3)) ?_
  obtain ⟨S8_, g9_, h⟩ := rv_b_e h
  refine re_pI (pc := 146) g9_ lfX13_470 rfl rfl rfl rfl (by decide +kernel : decode cX13_readOne 146 = .ok (.putfield 470, 3)) ?_
  refine re_goto (pc := 149) 172 (by decide +kernel : decode cX13_readOne 149 = .ok (.goto 23, 3)) (by decide) ?_
  refine re_sub [0, 2] (lv1 := [(0, .ref a0), (3, .int x3)]) rfl ?_
  exact eX13_readOne_172 n G0 G1 G2 G3 G4 d hG0 hG1 hG2 hG3 hG4 S8_ a0 x3 _ _ h
noncomputable def cX13_readOne_171 (n : Nat) (G0 : rvS → Nat → Option (Int32 × rvS)) (G1 : rvS → Nat → Option (Int32 × rvS)) (G2 : rvS → Nat → Option (Int32 × rvS)) (G3 : rvS → Nat → Option (Int32 × rvS)) (G4 : rvS → Nat → Option (Int32 × rvS)) (S : rvS) (a0 : Nat) (t0 : Int32) : Option (Int32 × rvS) :=
  cX13_readOne_172 n G0 G1 G2 G3 G4 S a0 t0
set_option maxRecDepth 20000 in
set_option maxHeartbeats 4000000 in
theorem eX13_readOne_171 (n : Nat) (G0 : rvS → Nat → Option (Int32 × rvS)) (G1 : rvS → Nat → Option (Int32 × rvS)) (G2 : rvS → Nat → Option (Int32 × rvS)) (G3 : rvS → Nat → Option (Int32 × rvS)) (G4 : rvS → Nat → Option (Int32 × rvS)) (d : Nat) (hG0 : ∀ (S : rvS) (z0 : Nat) (r : Int32) (S' : rvS), G0 S z0 = some (r, S') → rv_Met yX13_readNot mX13_readNot (4 + d) [.ref z0] S (some (.int r)) S') (hG1 : ∀ (S : rvS) (z0 : Nat) (r : Int32) (S' : rvS), G1 S z0 = some (r, S') → rv_Met yX13_readBracket mX13_readBracket (4 + d) [.ref z0] S (some (.int r)) S') (hG2 : ∀ (S : rvS) (z0 : Nat) (r : Int32) (S' : rvS), G2 S z0 = some (r, S') → rv_Met yX13_readOne mX13_readOne (4 + d) [.ref z0] S (some (.int r)) S') (hG3 : ∀ (S : rvS) (z0 : Nat) (r : Int32) (S' : rvS), G3 S z0 = some (r, S') → rv_Met yX13_readAnd mX13_readAnd (4 + d) [.ref z0] S (some (.int r)) S') (hG4 : ∀ (S : rvS) (z0 : Nat) (r : Int32) (S' : rvS), G4 S z0 = some (r, S') → rv_Met yX13_readOr mX13_readOr (4 + d) [.ref z0] S (some (.int r)) S') (S : rvS) (a0 : Nat) (t0 : Int32) (r : Int32) (S' : rvS) (h : cX13_readOne_171 n G0 G1 G2 G3 G4 S a0 t0 = some (r, S')) : rv_Ev mX13_readOne (4 + d + 1) 171 [(0, .ref a0)] [.int t0] S (some (.int r)) S' := by
  unfold cX13_readOne_171 at h
  refine re_istoren (pc := 171) (lv1 := [(3, .int t0), (0, .ref a0)]) (by decide +kernel : decode cX13_readOne 171 = .ok (.istore_n 3, 1)) rfl (by decide) rfl ?_
  refine re_sub [1, 0] (lv1 := [(0, .ref a0), (3, .int t0)]) rfl ?_
  exact eX13_readOne_172 n G0 G1 G2 G3 G4 d hG0 hG1 hG2 hG3 hG4 S a0 t0 _ _ h
noncomputable def cX13_readOne_46 (n : Nat) (G0 : rvS → Nat → Option (Int32 × rvS)) (G1 : rvS → Nat → Option (Int32 × rvS)) (G2 : rvS → Nat → Option (Int32 × rvS)) (G3 : rvS → Nat → Option (Int32 × rvS)) (G4 : rvS → Nat → Option (Int32 × rvS)) (S : rvS) (a0 : Nat) (x1 : Int32) (x2 : Int32) : Option (Int32 × rvS) :=
  (rv_gI S 11 a0 57).bind fun x1_ =>
  if x1_ = (20 : Int32) then (
    cX13_readOne_64 n G0 G1 G2 G3 G4 S a0)
  else (
    (rv_gI S 11 a0 58).bind fun x4_ =>
    if x4_ = (8 : Int32) then (
      cX13_readOne_64 n G0 G1 G2 G3 G4 S a0)
    else (
      (rv_gI S 11 a0 57).bind fun x7_ =>
      (rv_pI S 11 a0 57 (x7_ + (1 : Int32))).bind fun S9_ =>
      (rv_gI S9_ 11 a0 58).bind fun x11_ =>
      (rv_pI S9_ 11 a0 58 (x11_ + (1 : Int32))).bind fun S13_ =>
      (rv_ck S13_ 11 a0).bind fun u15_ =>
      (fnX13_go n S13_ a0).bind fun S18_ =>
      if x1 = 0 then (
        if x2 = (13 : Int32) then (
          (rv_ck S18_ 11 a0).bind fun u40_ =>
          rv_bp (G0 S18_ a0) fun x43_ S44_ =>
          cX13_readOne_172 n G0 G1 G2 G3 G4 S44_ a0 x43_)
        else (
          if x2 = (17 : Int32) then (
            cX13_readOne_134 n G0 G1 G2 G3 G4 S18_ a0 x2 (1 : Int32))
          else (
            if x2 = (18 : Int32) then (
              cX13_readOne_134 n G0 G1 G2 G3 G4 S18_ a0 x2 (1 : Int32))
            else (
              if (17 : Int32) ≤ x2 then (
                (rv_ck S18_ 11 a0).bind fun u26_ =>
                rv_bp (fnX13_readCompare n S18_ a0 x2) fun x29_ S30_ =>
                cX13_readOne_171 n G0 G1 G2 G3 G4 S30_ a0 x29_)
              else (
                (rv_ck S18_ 11 a0).bind fun u33_ =>
                rv_bp (fnX13_readNamed n S18_ a0 x2) fun x36_ S37_ =>
                cX13_readOne_171 n G0 G1 G2 G3 G4 S37_ a0 x36_)))))
      else (
        (rv_ck S18_ 11 a0).bind fun u47_ =>
        rv_bp (G1 S18_ a0) fun x50_ S51_ =>
        cX13_readOne_172 n G0 G1 G2 G3 G4 S51_ a0 x50_)))
set_option maxRecDepth 20000 in
set_option maxHeartbeats 4000000 in
theorem eX13_readOne_46 (n : Nat) (G0 : rvS → Nat → Option (Int32 × rvS)) (G1 : rvS → Nat → Option (Int32 × rvS)) (G2 : rvS → Nat → Option (Int32 × rvS)) (G3 : rvS → Nat → Option (Int32 × rvS)) (G4 : rvS → Nat → Option (Int32 × rvS)) (d : Nat) (hG0 : ∀ (S : rvS) (z0 : Nat) (r : Int32) (S' : rvS), G0 S z0 = some (r, S') → rv_Met yX13_readNot mX13_readNot (4 + d) [.ref z0] S (some (.int r)) S') (hG1 : ∀ (S : rvS) (z0 : Nat) (r : Int32) (S' : rvS), G1 S z0 = some (r, S') → rv_Met yX13_readBracket mX13_readBracket (4 + d) [.ref z0] S (some (.int r)) S') (hG2 : ∀ (S : rvS) (z0 : Nat) (r : Int32) (S' : rvS), G2 S z0 = some (r, S') → rv_Met yX13_readOne mX13_readOne (4 + d) [.ref z0] S (some (.int r)) S') (hG3 : ∀ (S : rvS) (z0 : Nat) (r : Int32) (S' : rvS), G3 S z0 = some (r, S') → rv_Met yX13_readAnd mX13_readAnd (4 + d) [.ref z0] S (some (.int r)) S') (hG4 : ∀ (S : rvS) (z0 : Nat) (r : Int32) (S' : rvS), G4 S z0 = some (r, S') → rv_Met yX13_readOr mX13_readOr (4 + d) [.ref z0] S (some (.int r)) S') (S : rvS) (a0 : Nat) (x1 : Int32) (x2 : Int32) (r : Int32) (S' : rvS) (h : cX13_readOne_46 n G0 G1 G2 G3 G4 S a0 x1 x2 = some (r, S')) : rv_Ev mX13_readOne (4 + d + 1) 46 [(0, .ref a0), (1, .int x1), (2, .int x2)] [] S (some (.int r)) S' := by
  unfold cX13_readOne_46 at h
  refine re_aloadn (pc := 46) 0 (by decide +kernel : decode cX13_readOne 46 = .ok (.aload_n 0, 1)) rfl ?_
  obtain ⟨x1_, g2_, h⟩ := rv_b_e h
  refine re_gI (pc := 47) g2_ lfX13_480 rfl (by decide +kernel : decode cX13_readOne 47 = .ok (.getfield 480, 3)) ?_
  refine re_bipush (pc := 50) (20 : Int32) (by decide +kernel : decode cX13_readOne 50 = .ok (.bipush 20, 2)) (by decide) ?_
  rcases rv_if_e h with ⟨g3_, h⟩ | ⟨g3_, h⟩
  · refine re_icmp_eq_t (pc := 52) 64 (by decide +kernel : decode cX13_readOne 52 = .ok (.if_icmp .eq 12, 3)) (by decide) g3_ ?_
    refine re_sub [0] (lv1 := [(0, .ref a0)]) rfl ?_
    exact eX13_readOne_64 n G0 G1 G2 G3 G4 d hG0 hG1 hG2 hG3 hG4 S a0 _ _ h
  · refine re_icmp_eq_f (pc := 52) 64 (by decide +kernel : decode cX13_readOne 52 = .ok (.if_icmp .eq 12, 3)) (by decide) g3_ ?_
    refine re_aloadn (pc := 55) 0 (by decide +kernel : decode cX13_readOne 55 = .ok (.aload_n 0, 1)) rfl ?_
    obtain ⟨x4_, g5_, h⟩ := rv_b_e h
    refine re_gI (pc := 56) g5_ lfX13_483 rfl (by decide +kernel : decode cX13_readOne 56 = .ok (.getfield 483, 3)) ?_
    refine re_bipush (pc := 59) (8 : Int32) (by decide +kernel : decode cX13_readOne 59 = .ok (.bipush 8, 2)) (by decide) ?_
    rcases rv_if_e h with ⟨g6_, h⟩ | ⟨g6_, h⟩
    · refine re_icmp_ne_f (pc := 61) 70 (by decide +kernel : decode cX13_readOne 61 = .ok (.if_icmp .ne 9, 3)) (by decide) g6_ ?_
      refine re_sub [0] (lv1 := [(0, .ref a0)]) rfl ?_
      exact eX13_readOne_64 n G0 G1 G2 G3 G4 d hG0 hG1 hG2 hG3 hG4 S a0 _ _ h
    · refine re_icmp_ne_t (pc := 61) 70 (by decide +kernel : decode cX13_readOne 61 = .ok (.if_icmp .ne 9, 3)) (by decide) g6_ ?_
      refine re_aloadn (pc := 70) 0 (by decide +kernel : decode cX13_readOne 70 = .ok (.aload_n 0, 1)) rfl ?_
      refine re_dup (pc := 71) (by decide +kernel : decode cX13_readOne 71 = .ok (.dup, 1)) rfl ?_
      obtain ⟨x7_, g8_, h⟩ := rv_b_e h
      refine re_gI (pc := 72) g8_ lfX13_480 rfl (by decide +kernel : decode cX13_readOne 72 = .ok (.getfield 480, 3)) ?_
      refine re_iconst (pc := 75) (1 : Int32) (by decide +kernel : decode cX13_readOne 75 = .ok (.iconst 1, 1)) (by decide) ?_
      refine re_iadd (pc := 76) (by decide +kernel : decode cX13_readOne 76 = .ok (.iadd, 1)) ?_
      obtain ⟨S9_, g10_, h⟩ := rv_b_e h
      refine re_pI (pc := 77) g10_ lfX13_480 rfl rfl rfl rfl (by decide +kernel : decode cX13_readOne 77 = .ok (.putfield 480, 3)) ?_
      refine re_aloadn (pc := 80) 0 (by decide +kernel : decode cX13_readOne 80 = .ok (.aload_n 0, 1)) rfl ?_
      refine re_dup (pc := 81) (by decide +kernel : decode cX13_readOne 81 = .ok (.dup, 1)) rfl ?_
      obtain ⟨x11_, g12_, h⟩ := rv_b_e h
      refine re_gI (pc := 82) g12_ lfX13_483 rfl (by decide +kernel : decode cX13_readOne 82 = .ok (.getfield 483, 3)) ?_
      refine re_iconst (pc := 85) (1 : Int32) (by decide +kernel : decode cX13_readOne 85 = .ok (.iconst 1, 1)) (by decide) ?_
      refine re_iadd (pc := 86) (by decide +kernel : decode cX13_readOne 86 = .ok (.iadd, 1)) ?_
      obtain ⟨S13_, g14_, h⟩ := rv_b_e h
      refine re_pI (pc := 87) g14_ lfX13_483 rfl rfl rfl rfl (by decide +kernel : decode cX13_readOne 87 = .ok (.putfield 483, 3)) ?_
      refine re_aloadn (pc := 90) 0 (by decide +kernel : decode cX13_readOne 90 = .ok (.aload_n 0, 1)) rfl ?_
      obtain ⟨u15_, g16_, h⟩ := rv_b_e h
      obtain ⟨S18_, g19_, h⟩ := rv_b_e h
      have m17_ := metX13_go n S13_ a0 _ g19_
      have z20_ : rv_same S13_ S18_ := m17_.sh rfl
      refine re_cV (pc := 91) [] m17_ (rv_okl.k z20_) (rv_up.sh z20_) (by omega) (rv_ck_e g16_) ⟨by decide, rfl⟩ (Nat.le_of_ble_eq_true rfl) lVX13_181 rfl (by decide +kernel : decode cX13_readOne 91 = .ok (.invokevirtual 181, 3)) ?_
      refine re_iconst (pc := 94) (1 : Int32) (by decide +kernel : decode cX13_readOne 94 = .ok (.iconst 1, 1)) (by decide) ?_
      refine re_istoren (pc := 95) (lv1 := [(3, .int (1 : Int32)), (0, .ref a0), (1, .int x1), (2, .int x2)]) (by decide +kernel : decode cX13_readOne 95 = .ok (.istore_n 3, 1)) rfl (by decide) rfl ?_
      refine re_iloadn (pc := 96) 2 (by decide +kernel : decode cX13_readOne 96 = .ok (.iload_n 1, 1)) rfl ?_
      rcases rv_if_e h with ⟨g21_, h⟩ | ⟨g21_, h⟩
      · refine re_if_eq_t (pc := 97) 108 (by decide +kernel : decode cX13_readOne 97 = .ok (.ifCond .eq 11, 3)) (by decide) g21_ ?_
        refine re_iloadn (pc := 108) 3 (by decide +kernel : decode cX13_readOne 108 = .ok (.iload_n 2, 1)) rfl ?_
        refine re_bipush (pc := 109) (13 : Int32) (by decide +kernel : decode cX13_readOne 109 = .ok (.bipush 13, 2)) (by decide) ?_
        rcases rv_if_e h with ⟨g22_, h⟩ | ⟨g22_, h⟩
        · refine re_icmp_ne_f (pc := 111) 122 (by decide +kernel : decode cX13_readOne 111 = .ok (.if_icmp .ne 11, 3)) (by decide) g22_ ?_
          refine re_aloadn (pc := 114) 1 (by decide +kernel : decode cX13_readOne 114 = .ok (.aload_n 0, 1)) rfl ?_
          obtain ⟨u40_, g41_, h⟩ := rv_b_e h
          obtain ⟨x43_, S44_, g45_, h⟩ := rv_bp_e h
          have m42_ := hG0 S18_ a0 _ _ g45_
          have z46_ : rv_same S18_ S44_ := m42_.sh rfl
          refine re_cV (pc := 115) [] m42_ (rv_okl.k z46_) (rv_up.sh z46_) (by omega) (rv_ck_e g41_) ⟨by decide, rfl⟩ (Nat.le_of_ble_eq_true rfl) lVX13_489 rfl (by decide +kernel : decode cX13_readOne 115 = .ok (.invokevirtual 489, 3)) ?_
          refine re_istoren (pc := 118) (lv1 := [(3, .int x43_), (0, .ref a0), (1, .int x1), (2, .int x2)]) (by decide +kernel : decode cX13_readOne 118 = .ok (.istore_n 3, 1)) rfl (by decide) rfl ?_
          refine re_goto (pc := 119) 172 (by decide +kernel : decode cX13_readOne 119 = .ok (.goto 53, 3)) (by decide) ?_
          refine re_sub [1, 0] (lv1 := [(0, .ref a0), (3, .int x43_)]) rfl ?_
          exact eX13_readOne_172 n G0 G1 G2 G3 G4 d hG0 hG1 hG2 hG3 hG4 S44_ a0 x43_ _ _ h
        · refine re_icmp_ne_t (pc := 111) 122 (by decide +kernel : decode cX13_readOne 111 = .ok (.if_icmp .ne 11, 3)) (by decide) g22_ ?_
          refine re_iloadn (pc := 122) 3 (by decide +kernel : decode cX13_readOne 122 = .ok (.iload_n 2, 1)) rfl ?_
          refine re_bipush (pc := 123) (17 : Int32) (by decide +kernel : decode cX13_readOne 123 = .ok (.bipush 17, 2)) (by decide) ?_
          rcases rv_if_e h with ⟨g23_, h⟩ | ⟨g23_, h⟩
          · refine re_icmp_eq_t (pc := 125) 134 (by decide +kernel : decode cX13_readOne 125 = .ok (.if_icmp .eq 9, 3)) (by decide) g23_ ?_
            refine re_sub [1, 3, 0] (lv1 := [(0, .ref a0), (2, .int x2), (3, .int (1 : Int32))]) rfl ?_
            exact eX13_readOne_134 n G0 G1 G2 G3 G4 d hG0 hG1 hG2 hG3 hG4 S18_ a0 x2 (1 : Int32) _ _ h
          · refine re_icmp_eq_f (pc := 125) 134 (by decide +kernel : decode cX13_readOne 125 = .ok (.if_icmp .eq 9, 3)) (by decide) g23_ ?_
            refine re_iloadn (pc := 128) 3 (by decide +kernel : decode cX13_readOne 128 = .ok (.iload_n 2, 1)) rfl ?_
            refine re_bipush (pc := 129) (18 : Int32) (by decide +kernel : decode cX13_readOne 129 = .ok (.bipush 18, 2)) (by decide) ?_
            rcases rv_if_e h with ⟨g24_, h⟩ | ⟨g24_, h⟩
            · refine re_icmp_ne_f (pc := 131) 152 (by decide +kernel : decode cX13_readOne 131 = .ok (.if_icmp .ne 21, 3)) (by decide) g24_ ?_
              refine re_sub [1, 3, 0] (lv1 := [(0, .ref a0), (2, .int x2), (3, .int (1 : Int32))]) rfl ?_
              exact eX13_readOne_134 n G0 G1 G2 G3 G4 d hG0 hG1 hG2 hG3 hG4 S18_ a0 x2 (1 : Int32) _ _ h
            · refine re_icmp_ne_t (pc := 131) 152 (by decide +kernel : decode cX13_readOne 131 = .ok (.if_icmp .ne 21, 3)) (by decide) g24_ ?_
              refine re_iloadn (pc := 152) 3 (by decide +kernel : decode cX13_readOne 152 = .ok (.iload_n 2, 1)) rfl ?_
              refine re_bipush (pc := 153) (17 : Int32) (by decide +kernel : decode cX13_readOne 153 = .ok (.bipush 17, 2)) (by decide) ?_
              rcases rv_if_e h with ⟨g25_, h⟩ | ⟨g25_, h⟩
              · refine re_icmp_ge_t (pc := 155) 166 (by decide +kernel : decode cX13_readOne 155 = .ok (.if_icmp .ge 11, 3)) (by decide) g25_ ?_
                refine re_aloadn (pc := 166) 1 (by decide +kernel : decode cX13_readOne 166 = .ok (.aload_n 0, 1)) rfl ?_
                refine re_iloadn (pc := 167) 3 (by decide +kernel : decode cX13_readOne 167 = .ok (.iload_n 2, 1)) rfl ?_
                obtain ⟨u26_, g27_, h⟩ := rv_b_e h
                obtain ⟨x29_, S30_, g31_, h⟩ := rv_bp_e h
                have m28_ := metX13_readCompare n S18_ a0 x2 _ _ g31_
                have z32_ : rv_same S18_ S30_ := m28_.sh rfl
                refine re_cV (pc := 168) [.int x2] m28_ (rv_okl.k z32_) (rv_up.sh z32_) (by omega) (rv_ck_e g27_) ⟨by decide, rfl⟩ (Nat.le_of_ble_eq_true rfl) lVX13_495 rfl (by decide +kernel : decode cX13_readOne 168 = .ok (.invokevirtual 495, 3)) ?_
                refine re_sub [1] (lv1 := [(0, .ref a0)]) rfl ?_
                exact eX13_readOne_171 n G0 G1 G2 G3 G4 d hG0 hG1 hG2 hG3 hG4 S30_ a0 x29_ _ _ h
              · refine re_icmp_ge_f (pc := 155) 166 (by decide +kernel : decode cX13_readOne 155 = .ok (.if_icmp .ge 11, 3)) (by decide) g25_ ?_
                refine re_aloadn (pc := 158) 1 (by decide +kernel : decode cX13_readOne 158 = .ok (.aload_n 0, 1)) rfl ?_
                refine re_iloadn (pc := 159) 3 (by decide +kernel : decode cX13_readOne 159 = .ok (.iload_n 2, 1)) rfl ?_
                obtain ⟨u33_, g34_, h⟩ := rv_b_e h
                obtain ⟨x36_, S37_, g38_, h⟩ := rv_bp_e h
                have m35_ := metX13_readNamed n S18_ a0 x2 _ _ g38_
                have z39_ : rv_same S18_ S37_ := m35_.sh rfl
                refine re_cV (pc := 160) [.int x2] m35_ (rv_okl.k z39_) (rv_up.sh z39_) (by omega) (rv_ck_e g34_) ⟨by decide, rfl⟩ (Nat.le_of_ble_eq_true rfl) lVX13_492 rfl (by decide +kernel : decode cX13_readOne 160 = .ok (.invokevirtual 492, 3)) ?_
                refine re_goto (pc := 163) 171 (by decide +kernel : decode cX13_readOne 163 = .ok (.goto 8, 3)) (by decide) ?_
                refine re_sub [1] (lv1 := [(0, .ref a0)]) rfl ?_
                exact eX13_readOne_171 n G0 G1 G2 G3 G4 d hG0 hG1 hG2 hG3 hG4 S37_ a0 x36_ _ _ h
      · refine re_if_eq_f (pc := 97) 108 (by decide +kernel : decode cX13_readOne 97 = .ok (.ifCond .eq 11, 3)) (by decide) g21_ ?_
        refine re_aloadn (pc := 100) 1 (by decide +kernel : decode cX13_readOne 100 = .ok (.aload_n 0, 1)) rfl ?_
        obtain ⟨u47_, g48_, h⟩ := rv_b_e h
        obtain ⟨x50_, S51_, g52_, h⟩ := rv_bp_e h
        have m49_ := hG1 S18_ a0 _ _ g52_
        have z53_ : rv_same S18_ S51_ := m49_.sh rfl
        refine re_cV (pc := 101) [] m49_ (rv_okl.k z53_) (rv_up.sh z53_) (by omega) (rv_ck_e g48_) ⟨by decide, rfl⟩ (Nat.le_of_ble_eq_true rfl) lVX13_486 rfl (by decide +kernel : decode cX13_readOne 101 = .ok (.invokevirtual 486, 3)) ?_
        refine re_istoren (pc := 104) (lv1 := [(3, .int x50_), (0, .ref a0), (1, .int x1), (2, .int x2)]) (by decide +kernel : decode cX13_readOne 104 = .ok (.istore_n 3, 1)) rfl (by decide) rfl ?_
        refine re_goto (pc := 105) 172 (by decide +kernel : decode cX13_readOne 105 = .ok (.goto 67, 3)) (by decide) ?_
        refine re_sub [1, 0] (lv1 := [(0, .ref a0), (3, .int x50_)]) rfl ?_
        exact eX13_readOne_172 n G0 G1 G2 G3 G4 d hG0 hG1 hG2 hG3 hG4 S51_ a0 x50_ _ _ h
noncomputable def cX13_readOne_30 (n : Nat) (G0 : rvS → Nat → Option (Int32 × rvS)) (G1 : rvS → Nat → Option (Int32 × rvS)) (G2 : rvS → Nat → Option (Int32 × rvS)) (G3 : rvS → Nat → Option (Int32 × rvS)) (G4 : rvS → Nat → Option (Int32 × rvS)) (S : rvS) (a0 : Nat) (x1 : Int32) (x2 : Int32) : Option (Int32 × rvS) :=
  if x1 = 0 then (
    if x2 ≤ (21 : Int32) then (
      cX13_readOne_46 n G0 G1 G2 G3 G4 S a0 x1 x2)
    else (
      (rv_ck S 11 a0).bind fun u3_ =>
      rv_bp (fnX13_bad n S a0 (1 : Int32)) fun x6_ S7_ =>
      (rv_bo x6_).bind fun b_ =>
      some (b_, S7_)))
  else (
    cX13_readOne_46 n G0 G1 G2 G3 G4 S a0 x1 x2)
set_option maxRecDepth 20000 in
set_option maxHeartbeats 4000000 in
theorem eX13_readOne_30 (n : Nat) (G0 : rvS → Nat → Option (Int32 × rvS)) (G1 : rvS → Nat → Option (Int32 × rvS)) (G2 : rvS → Nat → Option (Int32 × rvS)) (G3 : rvS → Nat → Option (Int32 × rvS)) (G4 : rvS → Nat → Option (Int32 × rvS)) (d : Nat) (hG0 : ∀ (S : rvS) (z0 : Nat) (r : Int32) (S' : rvS), G0 S z0 = some (r, S') → rv_Met yX13_readNot mX13_readNot (4 + d) [.ref z0] S (some (.int r)) S') (hG1 : ∀ (S : rvS) (z0 : Nat) (r : Int32) (S' : rvS), G1 S z0 = some (r, S') → rv_Met yX13_readBracket mX13_readBracket (4 + d) [.ref z0] S (some (.int r)) S') (hG2 : ∀ (S : rvS) (z0 : Nat) (r : Int32) (S' : rvS), G2 S z0 = some (r, S') → rv_Met yX13_readOne mX13_readOne (4 + d) [.ref z0] S (some (.int r)) S') (hG3 : ∀ (S : rvS) (z0 : Nat) (r : Int32) (S' : rvS), G3 S z0 = some (r, S') → rv_Met yX13_readAnd mX13_readAnd (4 + d) [.ref z0] S (some (.int r)) S') (hG4 : ∀ (S : rvS) (z0 : Nat) (r : Int32) (S' : rvS), G4 S z0 = some (r, S') → rv_Met yX13_readOr mX13_readOr (4 + d) [.ref z0] S (some (.int r)) S') (S : rvS) (a0 : Nat) (x1 : Int32) (x2 : Int32) (r : Int32) (S' : rvS) (h : cX13_readOne_30 n G0 G1 G2 G3 G4 S a0 x1 x2 = some (r, S')) : rv_Ev mX13_readOne (4 + d + 1) 30 [(0, .ref a0), (1, .int x1), (2, .int x2)] [] S (some (.int r)) S' := by
  unfold cX13_readOne_30 at h
  refine re_iloadn (pc := 30) 1 (by decide +kernel : decode cX13_readOne 30 = .ok (.iload_n 1, 1)) rfl ?_
  rcases rv_if_e h with ⟨g1_, h⟩ | ⟨g1_, h⟩
  · refine re_if_ne_f (pc := 31) 46 (by decide +kernel : decode cX13_readOne 31 = .ok (.ifCond .ne 15, 3)) (by decide) g1_ ?_
    refine re_iloadn (pc := 34) 2 (by decide +kernel : decode cX13_readOne 34 = .ok (.iload_n 2, 1)) rfl ?_
    refine re_bipush (pc := 35) (21 : Int32) (by decide +kernel : decode cX13_readOne 35 = .ok (.bipush 21, 2)) (by decide) ?_
    rcases rv_if_e h with ⟨g2_, h⟩ | ⟨g2_, h⟩
    · refine re_icmp_le_t (pc := 37) 46 (by decide +kernel : decode cX13_readOne 37 = .ok (.if_icmp .le 9, 3)) (by decide) g2_ ?_
      exact eX13_readOne_46 n G0 G1 G2 G3 G4 d hG0 hG1 hG2 hG3 hG4 S a0 x1 x2 _ _ h
    · refine re_icmp_le_f (pc := 37) 46 (by decide +kernel : decode cX13_readOne 37 = .ok (.if_icmp .le 9, 3)) (by decide) g2_ ?_
      refine re_aloadn (pc := 40) 0 (by decide +kernel : decode cX13_readOne 40 = .ok (.aload_n 0, 1)) rfl ?_
      refine re_iconst (pc := 41) (1 : Int32) (by decide +kernel : decode cX13_readOne 41 = .ok (.iconst 1, 1)) (by decide) ?_
      obtain ⟨u3_, g4_, h⟩ := rv_b_e h
      obtain ⟨x6_, S7_, g8_, h⟩ := rv_bp_e h
      have m5_ := metX13_bad n S a0 (1 : Int32) _ _ g8_
      have z9_ : rv_same S S7_ := m5_.sh rfl
      refine re_cV (pc := 42) [.int (1 : Int32)] m5_ (rv_okl.k z9_) (rv_up.sh z9_) (by omega) (rv_ck_e g4_) ⟨by decide, rfl⟩ (Nat.le_of_ble_eq_true rfl) lVX13_167 rfl (by decide +kernel : decode cX13_readOne 42 = .ok (.invokevirtual 167, 3)) ?_
      obtain ⟨b_, gb_, h⟩ := rv_b_e h
      obtain ⟨gb1_, gb2_⟩ := rv_bo_e gb_
      refine re_nI (pc := 45) gb1_ ?_
      cases h
      exact re_iret (fun ty hty => by cases hty; exact gb2_) (by decide +kernel : decode cX13_readOne 45 = .ok (.ireturn, 1))
  · refine re_if_ne_t (pc := 31) 46 (by decide +kernel : decode cX13_readOne 31 = .ok (.ifCond .ne 15, 3)) (by decide) g1_ ?_
    exact eX13_readOne_46 n G0 G1 G2 G3 G4 d hG0 hG1 hG2 hG3 hG4 S a0 x1 x2 _ _ h
noncomputable def cX13_readOne_10 (n : Nat) (G0 : rvS → Nat → Option (Int32 × rvS)) (G1 : rvS → Nat → Option (Int32 × rvS)) (G2 : rvS → Nat → Option (Int32 × rvS)) (G3 : rvS → Nat → Option (Int32 × rvS)) (G4 : rvS → Nat → Option (Int32 × rvS)) : Nat → rvS → Nat → Int32 → Int32 → Option (Int32 × rvS)
  | 0, _, _, _, _ => none
  | k + 1, S, a0, x1, x2 =>
    if (21 : Int32) < x2 then (
      cX13_readOne_30 n G0 G1 G2 G3 G4 S a0 x1 x2)
    else (
      (rv_ck S 11 a0).bind fun u2_ =>
      (fnX13_isWord n S a0 x2).bind fun x5_ =>
      if x5_ = 0 then (
        rv_lt (x2 + (1)) fun x8_ =>
        cX13_readOne_10 n G0 G1 G2 G3 G4 k S a0 x1 x8_)
      else (
        cX13_readOne_30 n G0 G1 G2 G3 G4 S a0 x1 x2))
set_option maxRecDepth 20000 in
set_option maxHeartbeats 4000000 in
theorem eX13_readOne_10 (n : Nat) (G0 : rvS → Nat → Option (Int32 × rvS)) (G1 : rvS → Nat → Option (Int32 × rvS)) (G2 : rvS → Nat → Option (Int32 × rvS)) (G3 : rvS → Nat → Option (Int32 × rvS)) (G4 : rvS → Nat → Option (Int32 × rvS)) (d : Nat) (hG0 : ∀ (S : rvS) (z0 : Nat) (r : Int32) (S' : rvS), G0 S z0 = some (r, S') → rv_Met yX13_readNot mX13_readNot (4 + d) [.ref z0] S (some (.int r)) S') (hG1 : ∀ (S : rvS) (z0 : Nat) (r : Int32) (S' : rvS), G1 S z0 = some (r, S') → rv_Met yX13_readBracket mX13_readBracket (4 + d) [.ref z0] S (some (.int r)) S') (hG2 : ∀ (S : rvS) (z0 : Nat) (r : Int32) (S' : rvS), G2 S z0 = some (r, S') → rv_Met yX13_readOne mX13_readOne (4 + d) [.ref z0] S (some (.int r)) S') (hG3 : ∀ (S : rvS) (z0 : Nat) (r : Int32) (S' : rvS), G3 S z0 = some (r, S') → rv_Met yX13_readAnd mX13_readAnd (4 + d) [.ref z0] S (some (.int r)) S') (hG4 : ∀ (S : rvS) (z0 : Nat) (r : Int32) (S' : rvS), G4 S z0 = some (r, S') → rv_Met yX13_readOr mX13_readOr (4 + d) [.ref z0] S (some (.int r)) S') : ∀ (k : Nat) (S : rvS) (a0 : Nat) (x1 : Int32) (x2 : Int32) (r : Int32) (S' : rvS), cX13_readOne_10 n G0 G1 G2 G3 G4 k S a0 x1 x2 = some (r, S') → rv_Ev mX13_readOne (4 + d + 1) 10 [(0, .ref a0), (1, .int x1), (2, .int x2)] [] S (some (.int r)) S' := by
  intro k
  induction k with
  | zero => intro S a0 x1 x2 r S' h; exact absurd h (by simp [cX13_readOne_10])
  | succ k ih =>
    intro S a0 x1 x2 r S' h
    unfold cX13_readOne_10 at h
    refine re_iloadn (pc := 10) 2 (by decide +kernel : decode cX13_readOne 10 = .ok (.iload_n 2, 1)) rfl ?_
    refine re_bipush (pc := 11) (21 : Int32) (by decide +kernel : decode cX13_readOne 11 = .ok (.bipush 21, 2)) (by decide) ?_
    rcases rv_if_e h with ⟨g1_, h⟩ | ⟨g1_, h⟩
    · refine re_icmp_gt_t (pc := 13) 30 (by decide +kernel : decode cX13_readOne 13 = .ok (.if_icmp .gt 17, 3)) (by decide) g1_ ?_
      exact eX13_readOne_30 n G0 G1 G2 G3 G4 d hG0 hG1 hG2 hG3 hG4 S a0 x1 x2 _ _ h
    · refine re_icmp_gt_f (pc := 13) 30 (by decide +kernel : decode cX13_readOne 13 = .ok (.if_icmp .gt 17, 3)) (by decide) g1_ ?_
      refine re_aloadn (pc := 16) 0 (by decide +kernel : decode cX13_readOne 16 = .ok (.aload_n 0, 1)) rfl ?_
      refine re_iloadn (pc := 17) 2 (by decide +kernel : decode cX13_readOne 17 = .ok (.iload_n 2, 1)) rfl ?_
      obtain ⟨u2_, g3_, h⟩ := rv_b_e h
      obtain ⟨x5_, g6_, h⟩ := rv_b_e h
      have m4_ := metX13_isWord n S a0 x2 _ g6_
      refine re_cV (pc := 18) [.int x2] m4_ (rv_okl.k ⟨rfl, rfl⟩) (rv_up.rf _ _) (by omega) (rv_ck_e g3_) ⟨by decide, rfl⟩ (Nat.le_of_ble_eq_true rfl) lVX13_225 rfl (by decide +kernel : decode cX13_readOne 18 = .ok (.invokevirtual 225, 3)) ?_
      rcases rv_if_e h with ⟨g7_, h⟩ | ⟨g7_, h⟩
      · refine re_if_ne_f (pc := 21) 30 (by decide +kernel : decode cX13_readOne 21 = .ok (.ifCond .ne 9, 3)) (by decide) g7_ ?_
        obtain ⟨x8_, g9_, h⟩ := rv_lt_e h
        refine re_iinc (pc := 24) 2 x8_ (lv1 := [(2, .int x8_), (0, .ref a0), (1, .int x1)]) (by decide +kernel : decode cX13_readOne 24 = .ok (.iinc 2 1, 3)) rfl g9_ (by decide) rfl ?_
        refine re_goto (pc := 27) 10 (by decide +kernel : decode cX13_readOne 27 = .ok (.goto (-17), 3)) (by decide) ?_
        refine re_sub [1, 2, 0] (lv1 := [(0, .ref a0), (1, .int x1), (2, .int x8_)]) rfl ?_
        exact ih S a0 x1 x8_ _ _ h
      · refine re_if_ne_t (pc := 21) 30 (by decide +kernel : decode cX13_readOne 21 = .ok (.ifCond .ne 9, 3)) (by decide) g7_ ?_
        exact eX13_readOne_30 n G0 G1 G2 G3 G4 d hG0 hG1 hG2 hG3 hG4 S a0 x1 x2 _ _ h
noncomputable def fbX13_readOne (n : Nat) (G0 : rvS → Nat → Option (Int32 × rvS)) (G1 : rvS → Nat → Option (Int32 × rvS)) (G2 : rvS → Nat → Option (Int32 × rvS)) (G3 : rvS → Nat → Option (Int32 × rvS)) (G4 : rvS → Nat → Option (Int32 × rvS)) (S : rvS) (a0 : Nat) : Option (Int32 × rvS) :=
  (rv_ck S 11 a0).bind fun u1_ =>
  (fnX13_isSign n S a0 (40 : Int32)).bind fun x4_ =>
  cX13_readOne_10 n G0 G1 G2 G3 G4 n S a0 x4_ (13 : Int32)
set_option maxRecDepth 20000 in
set_option maxHeartbeats 4000000 in
theorem eX13_readOne_in (n : Nat) (G0 : rvS → Nat → Option (Int32 × rvS)) (G1 : rvS → Nat → Option (Int32 × rvS)) (G2 : rvS → Nat → Option (Int32 × rvS)) (G3 : rvS → Nat → Option (Int32 × rvS)) (G4 : rvS → Nat → Option (Int32 × rvS)) (d : Nat) (hG0 : ∀ (S : rvS) (z0 : Nat) (r : Int32) (S' : rvS), G0 S z0 = some (r, S') → rv_Met yX13_readNot mX13_readNot (4 + d) [.ref z0] S (some (.int r)) S') (hG1 : ∀ (S : rvS) (z0 : Nat) (r : Int32) (S' : rvS), G1 S z0 = some (r, S') → rv_Met yX13_readBracket mX13_readBracket (4 + d) [.ref z0] S (some (.int r)) S') (hG2 : ∀ (S : rvS) (z0 : Nat) (r : Int32) (S' : rvS), G2 S z0 = some (r, S') → rv_Met yX13_readOne mX13_readOne (4 + d) [.ref z0] S (some (.int r)) S') (hG3 : ∀ (S : rvS) (z0 : Nat) (r : Int32) (S' : rvS), G3 S z0 = some (r, S') → rv_Met yX13_readAnd mX13_readAnd (4 + d) [.ref z0] S (some (.int r)) S') (hG4 : ∀ (S : rvS) (z0 : Nat) (r : Int32) (S' : rvS), G4 S z0 = some (r, S') → rv_Met yX13_readOr mX13_readOr (4 + d) [.ref z0] S (some (.int r)) S') (S : rvS) (a0 : Nat) (r : Int32) (S' : rvS) (h : fbX13_readOne n G0 G1 G2 G3 G4 S a0 = some (r, S')) : rv_Ev mX13_readOne (4 + d + 1) 0 [(0, .ref a0)] [] S (some (.int r)) S' := by
  unfold fbX13_readOne at h
  refine re_aloadn (pc := 0) 0 (by decide +kernel : decode cX13_readOne 0 = .ok (.aload_n 0, 1)) rfl ?_
  refine re_bipush (pc := 1) (40 : Int32) (by decide +kernel : decode cX13_readOne 1 = .ok (.bipush 40, 2)) (by decide) ?_
  obtain ⟨u1_, g2_, h⟩ := rv_b_e h
  obtain ⟨x4_, g5_, h⟩ := rv_b_e h
  have m3_ := metX13_isSign n S a0 (40 : Int32) _ g5_
  refine re_cV (pc := 3) [.int (40 : Int32)] m3_ (rv_okl.k ⟨rfl, rfl⟩) (rv_up.rf _ _) (by omega) (rv_ck_e g2_) ⟨by decide, rfl⟩ (Nat.le_of_ble_eq_true rfl) lVX13_184 rfl (by decide +kernel : decode cX13_readOne 3 = .ok (.invokevirtual 184, 3)) ?_
  refine re_istoren (pc := 6) (lv1 := [(1, .int x4_), (0, .ref a0)]) (by decide +kernel : decode cX13_readOne 6 = .ok (.istore_n 1, 1)) rfl (by decide) rfl ?_
  refine re_bipush (pc := 7) (13 : Int32) (by decide +kernel : decode cX13_readOne 7 = .ok (.bipush 13, 2)) (by decide) ?_
  refine re_istoren (pc := 9) (lv1 := [(2, .int (13 : Int32)), (1, .int x4_), (0, .ref a0)]) (by decide +kernel : decode cX13_readOne 9 = .ok (.istore_n 2, 1)) rfl (by decide) rfl ?_
  refine re_sub [2, 1, 0] (lv1 := [(0, .ref a0), (1, .int x4_), (2, .int (13 : Int32))]) rfl ?_
  exact eX13_readOne_10 n G0 G1 G2 G3 G4 d hG0 hG1 hG2 hG3 hG4 n S a0 x4_ (13 : Int32) _ _ h
noncomputable def cX13_readAnd_14 (n : Nat) (G0 : rvS → Nat → Option (Int32 × rvS)) (G1 : rvS → Nat → Option (Int32 × rvS)) (G2 : rvS → Nat → Option (Int32 × rvS)) (G3 : rvS → Nat → Option (Int32 × rvS)) (G4 : rvS → Nat → Option (Int32 × rvS)) : Nat → rvS → Nat → Int32 → Option (Int32 × rvS)
  | 0, _, _, _ => none
  | k + 1, S, a0, x1 =>
    (rv_ck S 11 a0).bind fun u1_ =>
    (fnX13_isWord n S a0 (12 : Int32)).bind fun x4_ =>
    if x4_ = 0 then (
      (rv_pI S 11 a0 59 x1).bind fun S7_ =>
      some ((1 : Int32), S7_))
    else (
      (rv_ck S 11 a0).bind fun u9_ =>
      (fnX13_go n S a0).bind fun S12_ =>
      (rv_ck S12_ 11 a0).bind fun u15_ =>
      rv_bp (G2 S12_ a0) fun x18_ S19_ =>
      if x18_ = 0 then (
        some ((0 : Int32), S19_))
      else (
        (rv_gI S19_ 11 a0 59).bind fun x23_ =>
        (rv_ck S19_ 11 a0).bind fun u25_ =>
        rv_bp (fnX13_lays n S19_ a0 (2 : Int32) x1 x23_ (0 : Int32)) fun x28_ S29_ =>
        cX13_readAnd_14 n G0 G1 G2 G3 G4 k S29_ a0 x28_))
set_option maxRecDepth 20000 in
set_option maxHeartbeats 4000000 in
theorem eX13_readAnd_14 (n : Nat) (G0 : rvS → Nat → Option (Int32 × rvS)) (G1 : rvS → Nat → Option (Int32 × rvS)) (G2 : rvS → Nat → Option (Int32 × rvS)) (G3 : rvS → Nat → Option (Int32 × rvS)) (G4 : rvS → Nat → Option (Int32 × rvS)) (d : Nat) (hG0 : ∀ (S : rvS) (z0 : Nat) (r : Int32) (S' : rvS), G0 S z0 = some (r, S') → rv_Met yX13_readNot mX13_readNot (4 + d) [.ref z0] S (some (.int r)) S') (hG1 : ∀ (S : rvS) (z0 : Nat) (r : Int32) (S' : rvS), G1 S z0 = some (r, S') → rv_Met yX13_readBracket mX13_readBracket (4 + d) [.ref z0] S (some (.int r)) S') (hG2 : ∀ (S : rvS) (z0 : Nat) (r : Int32) (S' : rvS), G2 S z0 = some (r, S') → rv_Met yX13_readOne mX13_readOne (4 + d) [.ref z0] S (some (.int r)) S') (hG3 : ∀ (S : rvS) (z0 : Nat) (r : Int32) (S' : rvS), G3 S z0 = some (r, S') → rv_Met yX13_readAnd mX13_readAnd (4 + d) [.ref z0] S (some (.int r)) S') (hG4 : ∀ (S : rvS) (z0 : Nat) (r : Int32) (S' : rvS), G4 S z0 = some (r, S') → rv_Met yX13_readOr mX13_readOr (4 + d) [.ref z0] S (some (.int r)) S') : ∀ (k : Nat) (S : rvS) (a0 : Nat) (x1 : Int32) (r : Int32) (S' : rvS), cX13_readAnd_14 n G0 G1 G2 G3 G4 k S a0 x1 = some (r, S') → rv_Ev mX13_readAnd (4 + d + 1) 14 [(0, .ref a0), (1, .int x1)] [] S (some (.int r)) S' := by
  intro k
  induction k with
  | zero => intro S a0 x1 r S' h; exact absurd h (by simp [cX13_readAnd_14])
  | succ k ih =>
    intro S a0 x1 r S' h
    unfold cX13_readAnd_14 at h
    refine re_aloadn (pc := 14) 0 (by decide +kernel : decode cX13_readAnd 14 = .ok (.aload_n 0, 1)) rfl ?_
    refine re_bipush (pc := 15) (12 : Int32) (by decide +kernel : decode cX13_readAnd 15 = .ok (.bipush 12, 2)) (by decide) ?_
    obtain ⟨u1_, g2_, h⟩ := rv_b_e h
    obtain ⟨x4_, g5_, h⟩ := rv_b_e h
    have m3_ := metX13_isWord n S a0 (12 : Int32) _ g5_
    refine re_cV (pc := 17) [.int (12 : Int32)] m3_ (rv_okl.k ⟨rfl, rfl⟩) (rv_up.rf _ _) (by omega) (rv_ck_e g2_) ⟨by decide, rfl⟩ (Nat.le_of_ble_eq_true rfl) lVX13_225 rfl (by decide +kernel : decode cX13_readAnd 17 = .ok (.invokevirtual 225, 3)) ?_
    rcases rv_if_e h with ⟨g6_, h⟩ | ⟨g6_, h⟩
    · refine re_if_eq_t (pc := 20) 51 (by decide +kernel : decode cX13_readAnd 20 = .ok (.ifCond .eq 31, 3)) (by decide) g6_ ?_
      refine re_aloadn (pc := 51) 0 (by decide +kernel : decode cX13_readAnd 51 = .ok (.aload_n 0, 1)) rfl ?_
      refine re_iloadn (pc := 52) 1 (by decide +kernel : decode cX13_readAnd 52 = .ok (.iload_n 1, 1)) rfl ?_
      obtain ⟨S7_, g8_, h⟩ := rv_b_e h
      refine re_pI (pc := 53) g8_ lfX13_470 rfl rfl rfl rfl (by decide +kernel : decode cX13_readAnd 53 = .ok (.putfield 470, 3)) ?_
      refine re_iconst (pc := 56) (1 : Int32) (by decide +kernel : decode cX13_readAnd 56 = .ok (.iconst 1, 1)) (by decide) ?_
      cases h
      exact re_iret (fun ty hty => by cases hty; rfl) (by decide +kernel : decode cX13_readAnd 57 = .ok (.ireturn, 1))
    · refine re_if_eq_f (pc := 20) 51 (by decide +kernel : decode cX13_readAnd 20 = .ok (.ifCond .eq 31, 3)) (by decide) g6_ ?_
      refine re_aloadn (pc := 23) 0 (by decide +kernel : decode cX13_readAnd 23 = .ok (.aload_n 0, 1)) rfl ?_
      obtain ⟨u9_, g10_, h⟩ := rv_b_e h
      obtain ⟨S12_, g13_, h⟩ := rv_b_e h
      have m11_ := metX13_go n S a0 _ g13_
      have z14_ : rv_same S S12_ := m11_.sh rfl
      refine re_cV (pc := 24) [] m11_ (rv_okl.k z14_) (rv_up.sh z14_) (by omega) (rv_ck_e g10_) ⟨by decide, rfl⟩ (Nat.le_of_ble_eq_true rfl) lVX13_181 rfl (by decide +kernel : decode cX13_readAnd 24 = .ok (.invokevirtual 181, 3)) ?_
      refine re_aloadn (pc := 27) 0 (by decide +kernel : decode cX13_readAnd 27 = .ok (.aload_n 0, 1)) rfl ?_
      obtain ⟨u15_, g16_, h⟩ := rv_b_e h
      obtain ⟨x18_, S19_, g20_, h⟩ := rv_bp_e h
      have m17_ := hG2 S12_ a0 _ _ g20_
      have z21_ : rv_same S12_ S19_ := m17_.sh rfl
      refine re_cV (pc := 28) [] m17_ (rv_okl.k z21_) (rv_up.sh z21_) (by omega) (rv_ck_e g16_) ⟨by decide, rfl⟩ (Nat.le_of_ble_eq_true rfl) lVX13_477 rfl (by decide +kernel : decode cX13_readAnd 28 = .ok (.invokevirtual 477, 3)) ?_
      rcases rv_if_e h with ⟨g22_, h⟩ | ⟨g22_, h⟩
      · refine re_if_ne_f (pc := 31) 36 (by decide +kernel : decode cX13_readAnd 31 = .ok (.ifCond .ne 5, 3)) (by decide) g22_ ?_
        refine re_iconst (pc := 34) (0 : Int32) (by decide +kernel : decode cX13_readAnd 34 = .ok (.iconst 0, 1)) (by decide) ?_
        cases h
        exact re_iret (fun ty hty => by cases hty; rfl) (by decide +kernel : decode cX13_readAnd 35 = .ok (.ireturn, 1))
      · refine re_if_ne_t (pc := 31) 36 (by decide +kernel : decode cX13_readAnd 31 = .ok (.ifCond .ne 5, 3)) (by decide) g22_ ?_
        refine re_aloadn (pc := 36) 0 (by decide +kernel : decode cX13_readAnd 36 = .ok (.aload_n 0, 1)) rfl ?_
        refine re_iconst (pc := 37) (2 : Int32) (by decide +kernel : decode cX13_readAnd 37 = .ok (.iconst 2, 1)) (by decide) ?_
        refine re_iloadn (pc := 38) 1 (by decide +kernel : decode cX13_readAnd 38 = .ok (.iload_n 1, 1)) rfl ?_
        refine re_aloadn (pc := 39) 0 (by decide +kernel : decode cX13_readAnd 39 = .ok (.aload_n 0, 1)) rfl ?_
        obtain ⟨x23_, g24_, h⟩ := rv_b_e h
        refine re_gI (pc := 40) g24_ lfX13_470 rfl (by decide +kernel : decode cX13_readAnd 40 = .ok (.getfield 470, 3)) ?_
        refine re_iconst (pc := 43) (0 : Int32) (by decide +kernel : decode cX13_readAnd 43 = .ok (.iconst 0, 1)) (by decide) ?_
        obtain ⟨u25_, g26_, h⟩ := rv_b_e h
        obtain ⟨x28_, S29_, g30_, h⟩ := rv_bp_e h
        have m27_ := metX13_lays n S19_ a0 (2 : Int32) x1 x23_ (0 : Int32) _ _ g30_
        have z31_ : rv_same S19_ S29_ := m27_.sh rfl
        refine re_cV (pc := 44) [.int (2 : Int32), .int x1, .int x23_, .int (0 : Int32)] m27_ (rv_okl.k z31_) (rv_up.sh z31_) (by omega) (rv_ck_e g26_) ⟨by decide, rfl⟩ (Nat.le_of_ble_eq_true rfl) lVX13_473 rfl (by decide +kernel : decode cX13_readAnd 44 = .ok (.invokevirtual 473, 3)) ?_
        refine re_istoren (pc := 47) (lv1 := [(1, .int x28_), (0, .ref a0)]) (by decide +kernel : decode cX13_readAnd 47 = .ok (.istore_n 1, 1)) rfl (by decide) rfl ?_
        refine re_goto (pc := 48) 14 (by decide +kernel : decode cX13_readAnd 48 = .ok (.goto (-34), 3)) (by decide) ?_
        refine re_sub [1, 0] (lv1 := [(0, .ref a0), (1, .int x28_)]) rfl ?_
        exact ih S29_ a0 x28_ _ _ h
noncomputable def fbX13_readAnd (n : Nat) (G0 : rvS → Nat → Option (Int32 × rvS)) (G1 : rvS → Nat → Option (Int32 × rvS)) (G2 : rvS → Nat → Option (Int32 × rvS)) (G3 : rvS → Nat → Option (Int32 × rvS)) (G4 : rvS → Nat → Option (Int32 × rvS)) (S : rvS) (a0 : Nat) : Option (Int32 × rvS) :=
  (rv_ck S 11 a0).bind fun u1_ =>
  rv_bp (G2 S a0) fun x4_ S5_ =>
  if x4_ = 0 then (
    some ((0 : Int32), S5_))
  else (
    (rv_gI S5_ 11 a0 59).bind fun x9_ =>
    cX13_readAnd_14 n G0 G1 G2 G3 G4 n S5_ a0 x9_)
set_option maxRecDepth 20000 in
set_option maxHeartbeats 4000000 in
theorem eX13_readAnd_in (n : Nat) (G0 : rvS → Nat → Option (Int32 × rvS)) (G1 : rvS → Nat → Option (Int32 × rvS)) (G2 : rvS → Nat → Option (Int32 × rvS)) (G3 : rvS → Nat → Option (Int32 × rvS)) (G4 : rvS → Nat → Option (Int32 × rvS)) (d : Nat) (hG0 : ∀ (S : rvS) (z0 : Nat) (r : Int32) (S' : rvS), G0 S z0 = some (r, S') → rv_Met yX13_readNot mX13_readNot (4 + d) [.ref z0] S (some (.int r)) S') (hG1 : ∀ (S : rvS) (z0 : Nat) (r : Int32) (S' : rvS), G1 S z0 = some (r, S') → rv_Met yX13_readBracket mX13_readBracket (4 + d) [.ref z0] S (some (.int r)) S') (hG2 : ∀ (S : rvS) (z0 : Nat) (r : Int32) (S' : rvS), G2 S z0 = some (r, S') → rv_Met yX13_readOne mX13_readOne (4 + d) [.ref z0] S (some (.int r)) S') (hG3 : ∀ (S : rvS) (z0 : Nat) (r : Int32) (S' : rvS), G3 S z0 = some (r, S') → rv_Met yX13_readAnd mX13_readAnd (4 + d) [.ref z0] S (some (.int r)) S') (hG4 : ∀ (S : rvS) (z0 : Nat) (r : Int32) (S' : rvS), G4 S z0 = some (r, S') → rv_Met yX13_readOr mX13_readOr (4 + d) [.ref z0] S (some (.int r)) S') (S : rvS) (a0 : Nat) (r : Int32) (S' : rvS) (h : fbX13_readAnd n G0 G1 G2 G3 G4 S a0 = some (r, S')) : rv_Ev mX13_readAnd (4 + d + 1) 0 [(0, .ref a0)] [] S (some (.int r)) S' := by
  unfold fbX13_readAnd at h
  refine re_aloadn (pc := 0) 0 (by decide +kernel : decode cX13_readAnd 0 = .ok (.aload_n 0, 1)) rfl ?_
  obtain ⟨u1_, g2_, h⟩ := rv_b_e h
  obtain ⟨x4_, S5_, g6_, h⟩ := rv_bp_e h
  have m3_ := hG2 S a0 _ _ g6_
  have z7_ : rv_same S S5_ := m3_.sh rfl
  refine re_cV (pc := 1) [] m3_ (rv_okl.k z7_) (rv_up.sh z7_) (by omega) (rv_ck_e g2_) ⟨by decide, rfl⟩ (Nat.le_of_ble_eq_true rfl) lVX13_477 rfl (by decide +kernel : decode cX13_readAnd 1 = .ok (.invokevirtual 477, 3)) ?_
  rcases rv_if_e h with ⟨g8_, h⟩ | ⟨g8_, h⟩
  · refine re_if_ne_f (pc := 4) 9 (by decide +kernel : decode cX13_readAnd 4 = .ok (.ifCond .ne 5, 3)) (by decide) g8_ ?_
    refine re_iconst (pc := 7) (0 : Int32) (by decide +kernel : decode cX13_readAnd 7 = .ok (.iconst 0, 1)) (by decide) ?_
    cases h
    exact re_iret (fun ty hty => by cases hty; rfl) (by decide +kernel : decode cX13_readAnd 8 = .ok (.ireturn, 1))
  · refine re_if_ne_t (pc := 4) 9 (by decide +kernel : decode cX13_readAnd 4 = .ok (.ifCond .ne 5, 3)) (by decide) g8_ ?_
    refine re_aloadn (pc := 9) 0 (by decide +kernel : decode cX13_readAnd 9 = .ok (.aload_n 0, 1)) rfl ?_
    obtain ⟨x9_, g10_, h⟩ := rv_b_e h
    refine re_gI (pc := 10) g10_ lfX13_470 rfl (by decide +kernel : decode cX13_readAnd 10 = .ok (.getfield 470, 3)) ?_
    refine re_istoren (pc := 13) (lv1 := [(1, .int x9_), (0, .ref a0)]) (by decide +kernel : decode cX13_readAnd 13 = .ok (.istore_n 1, 1)) rfl (by decide) rfl ?_
    refine re_sub [1, 0] (lv1 := [(0, .ref a0), (1, .int x9_)]) rfl ?_
    exact eX13_readAnd_14 n G0 G1 G2 G3 G4 d hG0 hG1 hG2 hG3 hG4 n S5_ a0 x9_ _ _ h
noncomputable def cX13_readOr_14 (n : Nat) (G0 : rvS → Nat → Option (Int32 × rvS)) (G1 : rvS → Nat → Option (Int32 × rvS)) (G2 : rvS → Nat → Option (Int32 × rvS)) (G3 : rvS → Nat → Option (Int32 × rvS)) (G4 : rvS → Nat → Option (Int32 × rvS)) : Nat → rvS → Nat → Int32 → Option (Int32 × rvS)
  | 0, _, _, _ => none
  | k + 1, S, a0, x1 =>
    (rv_ck S 11 a0).bind fun u1_ =>
    (fnX13_isWord n S a0 (11 : Int32)).bind fun x4_ =>
    if x4_ = 0 then (
      (rv_pI S 11 a0 59 x1).bind fun S7_ =>
      some ((1 : Int32), S7_))
    else (
      (rv_ck S 11 a0).bind fun u9_ =>
      (fnX13_go n S a0).bind fun S12_ =>
      (rv_ck S12_ 11 a0).bind fun u15_ =>
      rv_bp (G3 S12_ a0) fun x18_ S19_ =>
      if x18_ = 0 then (
        some ((0 : Int32), S19_))
      else (
        (rv_gI S19_ 11 a0 59).bind fun x23_ =>
        (rv_ck S19_ 11 a0).bind fun u25_ =>
        rv_bp (fnX13_lays n S19_ a0 (3 : Int32) x1 x23_ (0 : Int32)) fun x28_ S29_ =>
        cX13_readOr_14 n G0 G1 G2 G3 G4 k S29_ a0 x28_))
set_option maxRecDepth 20000 in
set_option maxHeartbeats 4000000 in
theorem eX13_readOr_14 (n : Nat) (G0 : rvS → Nat → Option (Int32 × rvS)) (G1 : rvS → Nat → Option (Int32 × rvS)) (G2 : rvS → Nat → Option (Int32 × rvS)) (G3 : rvS → Nat → Option (Int32 × rvS)) (G4 : rvS → Nat → Option (Int32 × rvS)) (d : Nat) (hG0 : ∀ (S : rvS) (z0 : Nat) (r : Int32) (S' : rvS), G0 S z0 = some (r, S') → rv_Met yX13_readNot mX13_readNot (4 + d) [.ref z0] S (some (.int r)) S') (hG1 : ∀ (S : rvS) (z0 : Nat) (r : Int32) (S' : rvS), G1 S z0 = some (r, S') → rv_Met yX13_readBracket mX13_readBracket (4 + d) [.ref z0] S (some (.int r)) S') (hG2 : ∀ (S : rvS) (z0 : Nat) (r : Int32) (S' : rvS), G2 S z0 = some (r, S') → rv_Met yX13_readOne mX13_readOne (4 + d) [.ref z0] S (some (.int r)) S') (hG3 : ∀ (S : rvS) (z0 : Nat) (r : Int32) (S' : rvS), G3 S z0 = some (r, S') → rv_Met yX13_readAnd mX13_readAnd (4 + d) [.ref z0] S (some (.int r)) S') (hG4 : ∀ (S : rvS) (z0 : Nat) (r : Int32) (S' : rvS), G4 S z0 = some (r, S') → rv_Met yX13_readOr mX13_readOr (4 + d) [.ref z0] S (some (.int r)) S') : ∀ (k : Nat) (S : rvS) (a0 : Nat) (x1 : Int32) (r : Int32) (S' : rvS), cX13_readOr_14 n G0 G1 G2 G3 G4 k S a0 x1 = some (r, S') → rv_Ev mX13_readOr (4 + d + 1) 14 [(0, .ref a0), (1, .int x1)] [] S (some (.int r)) S' := by
  intro k
  induction k with
  | zero => intro S a0 x1 r S' h; exact absurd h (by simp [cX13_readOr_14])
  | succ k ih =>
    intro S a0 x1 r S' h
    unfold cX13_readOr_14 at h
    refine re_aloadn (pc := 14) 0 (by decide +kernel : decode cX13_readOr 14 = .ok (.aload_n 0, 1)) rfl ?_
    refine re_bipush (pc := 15) (11 : Int32) (by decide +kernel : decode cX13_readOr 15 = .ok (.bipush 11, 2)) (by decide) ?_
    obtain ⟨u1_, g2_, h⟩ := rv_b_e h
    obtain ⟨x4_, g5_, h⟩ := rv_b_e h
    have m3_ := metX13_isWord n S a0 (11 : Int32) _ g5_
    refine re_cV (pc := 17) [.int (11 : Int32)] m3_ (rv_okl.k ⟨rfl, rfl⟩) (rv_up.rf _ _) (by omega) (rv_ck_e g2_) ⟨by decide, rfl⟩ (Nat.le_of_ble_eq_true rfl) lVX13_225 rfl (by decide +kernel : decode cX13_readOr 17 = .ok (.invokevirtual 225, 3)) ?_
    rcases rv_if_e h with ⟨g6_, h⟩ | ⟨g6_, h⟩
    · refine re_if_eq_t (pc := 20) 51 (by decide +kernel : decode cX13_readOr 20 = .ok (.ifCond .eq 31, 3)) (by decide) g6_ ?_
      refine re_aloadn (pc := 51) 0 (by decide +kernel : decode cX13_readOr 51 = .ok (.aload_n 0, 1)) rfl ?_
      refine re_iloadn (pc := 52) 1 (by decide +kernel : decode cX13_readOr 52 = .ok (.iload_n 1, 1)) rfl ?_
      obtain ⟨S7_, g8_, h⟩ := rv_b_e h
      refine re_pI (pc := 53) g8_ lfX13_470 rfl rfl rfl rfl (by decide +kernel : decode cX13_readOr 53 = .ok (.putfield 470, 3)) ?_
      refine re_iconst (pc := 56) (1 : Int32) (by decide +kernel : decode cX13_readOr 56 = .ok (.iconst 1, 1)) (by decide) ?_
      cases h
      exact re_iret (fun ty hty => by cases hty; rfl) (by decide +kernel : decode cX13_readOr 57 = .ok (.ireturn, 1))
    · refine re_if_eq_f (pc := 20) 51 (by decide +kernel : decode cX13_readOr 20 = .ok (.ifCond .eq 31, 3)) (by decide) g6_ ?_
      refine re_aloadn (pc := 23) 0 (by decide +kernel : decode cX13_readOr 23 = .ok (.aload_n 0, 1)) rfl ?_
      obtain ⟨u9_, g10_, h⟩ := rv_b_e h
      obtain ⟨S12_, g13_, h⟩ := rv_b_e h
      have m11_ := metX13_go n S a0 _ g13_
      have z14_ : rv_same S S12_ := m11_.sh rfl
      refine re_cV (pc := 24) [] m11_ (rv_okl.k z14_) (rv_up.sh z14_) (by omega) (rv_ck_e g10_) ⟨by decide, rfl⟩ (Nat.le_of_ble_eq_true rfl) lVX13_181 rfl (by decide +kernel : decode cX13_readOr 24 = .ok (.invokevirtual 181, 3)) ?_
      refine re_aloadn (pc := 27) 0 (by decide +kernel : decode cX13_readOr 27 = .ok (.aload_n 0, 1)) rfl ?_
      obtain ⟨u15_, g16_, h⟩ := rv_b_e h
      obtain ⟨x18_, S19_, g20_, h⟩ := rv_bp_e h
      have m17_ := hG3 S12_ a0 _ _ g20_
      have z21_ : rv_same S12_ S19_ := m17_.sh rfl
      refine re_cV (pc := 28) [] m17_ (rv_okl.k z21_) (rv_up.sh z21_) (by omega) (rv_ck_e g16_) ⟨by decide, rfl⟩ (Nat.le_of_ble_eq_true rfl) lVX13_467 rfl (by decide +kernel : decode cX13_readOr 28 = .ok (.invokevirtual 467, 3)) ?_
      rcases rv_if_e h with ⟨g22_, h⟩ | ⟨g22_, h⟩
      · refine re_if_ne_f (pc := 31) 36 (by decide +kernel : decode cX13_readOr 31 = .ok (.ifCond .ne 5, 3)) (by decide) g22_ ?_
        refine re_iconst (pc := 34) (0 : Int32) (by decide +kernel : decode cX13_readOr 34 = .ok (.iconst 0, 1)) (by decide) ?_
        cases h
        exact re_iret (fun ty hty => by cases hty; rfl) (by decide +kernel : decode cX13_readOr 35 = .ok (.ireturn, 1))
      · refine re_if_ne_t (pc := 31) 36 (by decide +kernel : decode cX13_readOr 31 = .ok (.ifCond .ne 5, 3)) (by decide) g22_ ?_
        refine re_aloadn (pc := 36) 0 (by decide +kernel : decode cX13_readOr 36 = .ok (.aload_n 0, 1)) rfl ?_
        refine re_iconst (pc := 37) (3 : Int32) (by decide +kernel : decode cX13_readOr 37 = .ok (.iconst 3, 1)) (by decide) ?_
        refine re_iloadn (pc := 38) 1 (by decide +kernel : decode cX13_readOr 38 = .ok (.iload_n 1, 1)) rfl ?_
        refine re_aloadn (pc := 39) 0 (by decide +kernel : decode cX13_readOr 39 = .ok (.aload_n 0, 1)) rfl ?_
        obtain ⟨x23_, g24_, h⟩ := rv_b_e h
        refine re_gI (pc := 40) g24_ lfX13_470 rfl (by decide +kernel : decode cX13_readOr 40 = .ok (.getfield 470, 3)) ?_
        refine re_iconst (pc := 43) (0 : Int32) (by decide +kernel : decode cX13_readOr 43 = .ok (.iconst 0, 1)) (by decide) ?_
        obtain ⟨u25_, g26_, h⟩ := rv_b_e h
        obtain ⟨x28_, S29_, g30_, h⟩ := rv_bp_e h
        have m27_ := metX13_lays n S19_ a0 (3 : Int32) x1 x23_ (0 : Int32) _ _ g30_
        have z31_ : rv_same S19_ S29_ := m27_.sh rfl
        refine re_cV (pc := 44) [.int (3 : Int32), .int x1, .int x23_, .int (0 : Int32)] m27_ (rv_okl.k z31_) (rv_up.sh z31_) (by omega) (rv_ck_e g26_) ⟨by decide, rfl⟩ (Nat.le_of_ble_eq_true rfl) lVX13_473 rfl (by decide +kernel : decode cX13_readOr 44 = .ok (.invokevirtual 473, 3)) ?_
        refine re_istoren (pc := 47) (lv1 := [(1, .int x28_), (0, .ref a0)]) (by decide +kernel : decode cX13_readOr 47 = .ok (.istore_n 1, 1)) rfl (by decide) rfl ?_
        refine re_goto (pc := 48) 14 (by decide +kernel : decode cX13_readOr 48 = .ok (.goto (-34), 3)) (by decide) ?_
        refine re_sub [1, 0] (lv1 := [(0, .ref a0), (1, .int x28_)]) rfl ?_
        exact ih S29_ a0 x28_ _ _ h
noncomputable def fbX13_readOr (n : Nat) (G0 : rvS → Nat → Option (Int32 × rvS)) (G1 : rvS → Nat → Option (Int32 × rvS)) (G2 : rvS → Nat → Option (Int32 × rvS)) (G3 : rvS → Nat → Option (Int32 × rvS)) (G4 : rvS → Nat → Option (Int32 × rvS)) (S : rvS) (a0 : Nat) : Option (Int32 × rvS) :=
  (rv_ck S 11 a0).bind fun u1_ =>
  rv_bp (G3 S a0) fun x4_ S5_ =>
  if x4_ = 0 then (
    some ((0 : Int32), S5_))
  else (
    (rv_gI S5_ 11 a0 59).bind fun x9_ =>
    cX13_readOr_14 n G0 G1 G2 G3 G4 n S5_ a0 x9_)
set_option maxRecDepth 20000 in
set_option maxHeartbeats 4000000 in
theorem eX13_readOr_in (n : Nat) (G0 : rvS → Nat → Option (Int32 × rvS)) (G1 : rvS → Nat → Option (Int32 × rvS)) (G2 : rvS → Nat → Option (Int32 × rvS)) (G3 : rvS → Nat → Option (Int32 × rvS)) (G4 : rvS → Nat → Option (Int32 × rvS)) (d : Nat) (hG0 : ∀ (S : rvS) (z0 : Nat) (r : Int32) (S' : rvS), G0 S z0 = some (r, S') → rv_Met yX13_readNot mX13_readNot (4 + d) [.ref z0] S (some (.int r)) S') (hG1 : ∀ (S : rvS) (z0 : Nat) (r : Int32) (S' : rvS), G1 S z0 = some (r, S') → rv_Met yX13_readBracket mX13_readBracket (4 + d) [.ref z0] S (some (.int r)) S') (hG2 : ∀ (S : rvS) (z0 : Nat) (r : Int32) (S' : rvS), G2 S z0 = some (r, S') → rv_Met yX13_readOne mX13_readOne (4 + d) [.ref z0] S (some (.int r)) S') (hG3 : ∀ (S : rvS) (z0 : Nat) (r : Int32) (S' : rvS), G3 S z0 = some (r, S') → rv_Met yX13_readAnd mX13_readAnd (4 + d) [.ref z0] S (some (.int r)) S') (hG4 : ∀ (S : rvS) (z0 : Nat) (r : Int32) (S' : rvS), G4 S z0 = some (r, S') → rv_Met yX13_readOr mX13_readOr (4 + d) [.ref z0] S (some (.int r)) S') (S : rvS) (a0 : Nat) (r : Int32) (S' : rvS) (h : fbX13_readOr n G0 G1 G2 G3 G4 S a0 = some (r, S')) : rv_Ev mX13_readOr (4 + d + 1) 0 [(0, .ref a0)] [] S (some (.int r)) S' := by
  unfold fbX13_readOr at h
  refine re_aloadn (pc := 0) 0 (by decide +kernel : decode cX13_readOr 0 = .ok (.aload_n 0, 1)) rfl ?_
  obtain ⟨u1_, g2_, h⟩ := rv_b_e h
  obtain ⟨x4_, S5_, g6_, h⟩ := rv_bp_e h
  have m3_ := hG3 S a0 _ _ g6_
  have z7_ : rv_same S S5_ := m3_.sh rfl
  refine re_cV (pc := 1) [] m3_ (rv_okl.k z7_) (rv_up.sh z7_) (by omega) (rv_ck_e g2_) ⟨by decide, rfl⟩ (Nat.le_of_ble_eq_true rfl) lVX13_467 rfl (by decide +kernel : decode cX13_readOr 1 = .ok (.invokevirtual 467, 3)) ?_
  rcases rv_if_e h with ⟨g8_, h⟩ | ⟨g8_, h⟩
  · refine re_if_ne_f (pc := 4) 9 (by decide +kernel : decode cX13_readOr 4 = .ok (.ifCond .ne 5, 3)) (by decide) g8_ ?_
    refine re_iconst (pc := 7) (0 : Int32) (by decide +kernel : decode cX13_readOr 7 = .ok (.iconst 0, 1)) (by decide) ?_
    cases h
    exact re_iret (fun ty hty => by cases hty; rfl) (by decide +kernel : decode cX13_readOr 8 = .ok (.ireturn, 1))
  · refine re_if_ne_t (pc := 4) 9 (by decide +kernel : decode cX13_readOr 4 = .ok (.ifCond .ne 5, 3)) (by decide) g8_ ?_
    refine re_aloadn (pc := 9) 0 (by decide +kernel : decode cX13_readOr 9 = .ok (.aload_n 0, 1)) rfl ?_
    obtain ⟨x9_, g10_, h⟩ := rv_b_e h
    refine re_gI (pc := 10) g10_ lfX13_470 rfl (by decide +kernel : decode cX13_readOr 10 = .ok (.getfield 470, 3)) ?_
    refine re_istoren (pc := 13) (lv1 := [(1, .int x9_), (0, .ref a0)]) (by decide +kernel : decode cX13_readOr 13 = .ok (.istore_n 1, 1)) rfl (by decide) rfl ?_
    refine re_sub [1, 0] (lv1 := [(0, .ref a0), (1, .int x9_)]) rfl ?_
    exact eX13_readOr_14 n G0 G1 G2 G3 G4 d hG0 hG1 hG2 hG3 hG4 n S5_ a0 x9_ _ _ h
noncomputable def fGX13_readNot (n : Nat) : Nat → (rvS → Nat → Option (Int32 × rvS)) × (rvS → Nat → Option (Int32 × rvS)) × (rvS → Nat → Option (Int32 × rvS)) × (rvS → Nat → Option (Int32 × rvS)) × (rvS → Nat → Option (Int32 × rvS))
  | 0 => (fun _ _ => none, fun _ _ => none, fun _ _ => none, fun _ _ => none, fun _ _ => none)
  | d + 1 => (fbX13_readNot n ((fGX13_readNot n d).1) ((fGX13_readNot n d).2.1) ((fGX13_readNot n d).2.2.1) ((fGX13_readNot n d).2.2.2.1) ((fGX13_readNot n d).2.2.2.2), fbX13_readBracket n ((fGX13_readNot n d).1) ((fGX13_readNot n d).2.1) ((fGX13_readNot n d).2.2.1) ((fGX13_readNot n d).2.2.2.1) ((fGX13_readNot n d).2.2.2.2), fbX13_readOne n ((fGX13_readNot n d).1) ((fGX13_readNot n d).2.1) ((fGX13_readNot n d).2.2.1) ((fGX13_readNot n d).2.2.2.1) ((fGX13_readNot n d).2.2.2.2), fbX13_readAnd n ((fGX13_readNot n d).1) ((fGX13_readNot n d).2.1) ((fGX13_readNot n d).2.2.1) ((fGX13_readNot n d).2.2.2.1) ((fGX13_readNot n d).2.2.2.2), fbX13_readOr n ((fGX13_readNot n d).1) ((fGX13_readNot n d).2.1) ((fGX13_readNot n d).2.2.1) ((fGX13_readNot n d).2.2.2.1) ((fGX13_readNot n d).2.2.2.2))
theorem fGX13_readNot_ok (n : Nat) : ∀ d : Nat, (∀ (S : rvS) (z0 : Nat) (r : Int32) (S' : rvS), ((fGX13_readNot n d).1) S z0 = some (r, S') → rv_Met yX13_readNot mX13_readNot (4 + d) [.ref z0] S (some (.int r)) S') ∧ (∀ (S : rvS) (z0 : Nat) (r : Int32) (S' : rvS), ((fGX13_readNot n d).2.1) S z0 = some (r, S') → rv_Met yX13_readBracket mX13_readBracket (4 + d) [.ref z0] S (some (.int r)) S') ∧ (∀ (S : rvS) (z0 : Nat) (r : Int32) (S' : rvS), ((fGX13_readNot n d).2.2.1) S z0 = some (r, S') → rv_Met yX13_readOne mX13_readOne (4 + d) [.ref z0] S (some (.int r)) S') ∧ (∀ (S : rvS) (z0 : Nat) (r : Int32) (S' : rvS), ((fGX13_readNot n d).2.2.2.1) S z0 = some (r, S') → rv_Met yX13_readAnd mX13_readAnd (4 + d) [.ref z0] S (some (.int r)) S') ∧ (∀ (S : rvS) (z0 : Nat) (r : Int32) (S' : rvS), ((fGX13_readNot n d).2.2.2.2) S z0 = some (r, S') → rv_Met yX13_readOr mX13_readOr (4 + d) [.ref z0] S (some (.int r)) S') := by
  intro d
  induction d with
  | zero => exact ⟨(by intros; rename_i h; exact absurd h (by simp [fGX13_readNot])), (by intros; rename_i h; exact absurd h (by simp [fGX13_readNot])), (by intros; rename_i h; exact absurd h (by simp [fGX13_readNot])), (by intros; rename_i h; exact absurd h (by simp [fGX13_readNot])), (by intros; rename_i h; exact absurd h (by simp [fGX13_readNot]))⟩
  | succ d ih =>
    obtain ⟨i0, i1, i2, i3, i4⟩ := ih
    exact ⟨(fun S z0 r S' h => rv_Met.of ⟨by decide +kernel, rfl, (fun z => by first | rfl | cases z), rfl⟩ (Nat.le_of_ble_eq_true rfl) rfl (eX13_readNot_in n ((fGX13_readNot n d).1) ((fGX13_readNot n d).2.1) ((fGX13_readNot n d).2.2.1) ((fGX13_readNot n d).2.2.2.1) ((fGX13_readNot n d).2.2.2.2) d i0 i1 i2 i3 i4 S z0 r S' h)), (fun S z0 r S' h => rv_Met.of ⟨by decide +kernel, rfl, (fun z => by first | rfl | cases z), rfl⟩ (Nat.le_of_ble_eq_true rfl) rfl (eX13_readBracket_in n ((fGX13_readNot n d).1) ((fGX13_readNot n d).2.1) ((fGX13_readNot n d).2.2.1) ((fGX13_readNot n d).2.2.2.1) ((fGX13_readNot n d).2.2.2.2) d i0 i1 i2 i3 i4 S z0 r S' h)), (fun S z0 r S' h => rv_Met.of ⟨by decide +kernel, rfl, (fun z => by first | rfl | cases z), rfl⟩ (Nat.le_of_ble_eq_true rfl) rfl (eX13_readOne_in n ((fGX13_readNot n d).1) ((fGX13_readNot n d).2.1) ((fGX13_readNot n d).2.2.1) ((fGX13_readNot n d).2.2.2.1) ((fGX13_readNot n d).2.2.2.2) d i0 i1 i2 i3 i4 S z0 r S' h)), (fun S z0 r S' h => rv_Met.of ⟨by decide +kernel, rfl, (fun z => by first | rfl | cases z), rfl⟩ (Nat.le_of_ble_eq_true rfl) rfl (eX13_readAnd_in n ((fGX13_readNot n d).1) ((fGX13_readNot n d).2.1) ((fGX13_readNot n d).2.2.1) ((fGX13_readNot n d).2.2.2.1) ((fGX13_readNot n d).2.2.2.2) d i0 i1 i2 i3 i4 S z0 r S' h)), (fun S z0 r S' h => rv_Met.of ⟨by decide +kernel, rfl, (fun z => by first | rfl | cases z), rfl⟩ (Nat.le_of_ble_eq_true rfl) rfl (eX13_readOr_in n ((fGX13_readNot n d).1) ((fGX13_readNot n d).2.1) ((fGX13_readNot n d).2.2.1) ((fGX13_readNot n d).2.2.2.1) ((fGX13_readNot n d).2.2.2.2) d i0 i1 i2 i3 i4 S z0 r S' h))⟩
noncomputable def fnX13_readNot (n d : Nat) : rvS → Nat → Option (Int32 × rvS) := (fGX13_readNot n d).1
theorem metX13_readNot (n d : Nat) (S : rvS) (z0 : Nat) (r : Int32) (S' : rvS) (h : fnX13_readNot n d S z0 = some (r, S')) : rv_Met yX13_readNot mX13_readNot (4 + d) [.ref z0] S (some (.int r)) S' := (fGX13_readNot_ok n d).1 S z0 r S' h
noncomputable def fnX13_readBracket (n d : Nat) : rvS → Nat → Option (Int32 × rvS) := (fGX13_readNot n d).2.1
theorem metX13_readBracket (n d : Nat) (S : rvS) (z0 : Nat) (r : Int32) (S' : rvS) (h : fnX13_readBracket n d S z0 = some (r, S')) : rv_Met yX13_readBracket mX13_readBracket (4 + d) [.ref z0] S (some (.int r)) S' := (fGX13_readNot_ok n d).2.1 S z0 r S' h
noncomputable def fnX13_readOne (n d : Nat) : rvS → Nat → Option (Int32 × rvS) := (fGX13_readNot n d).2.2.1
theorem metX13_readOne (n d : Nat) (S : rvS) (z0 : Nat) (r : Int32) (S' : rvS) (h : fnX13_readOne n d S z0 = some (r, S')) : rv_Met yX13_readOne mX13_readOne (4 + d) [.ref z0] S (some (.int r)) S' := (fGX13_readNot_ok n d).2.2.1 S z0 r S' h
noncomputable def fnX13_readAnd (n d : Nat) : rvS → Nat → Option (Int32 × rvS) := (fGX13_readNot n d).2.2.2.1
theorem metX13_readAnd (n d : Nat) (S : rvS) (z0 : Nat) (r : Int32) (S' : rvS) (h : fnX13_readAnd n d S z0 = some (r, S')) : rv_Met yX13_readAnd mX13_readAnd (4 + d) [.ref z0] S (some (.int r)) S' := (fGX13_readNot_ok n d).2.2.2.1 S z0 r S' h
noncomputable def fnX13_readOr (n d : Nat) : rvS → Nat → Option (Int32 × rvS) := (fGX13_readNot n d).2.2.2.2
theorem metX13_readOr (n d : Nat) (S : rvS) (z0 : Nat) (r : Int32) (S' : rvS) (h : fnX13_readOr n d S z0 = some (r, S')) : rv_Met yX13_readOr mX13_readOr (4 + d) [.ref z0] S (some (.int r)) S' := (fGX13_readNot_ok n d).2.2.2.2 S z0 r S' h
noncomputable def cX13_sentence_79 (n : Nat) : Nat → rvS → Nat → Int32 → Option (Int32 × rvS)
  | 0, _, _, _ => none
  | k + 1, S, a0, x1 =>
    if (240 : Int32) ≤ x1 then (
      (rv_gI S 11 a0 57).bind fun x2_ =>
      some (x2_, S))
    else (
      (rv_gR S 11 a0 14).bind fun a4_ =>
      (rv_gR S 11 a0 55).bind fun a6_ =>
      (rv_aI S 0 a6_ x1).bind fun x8_ =>
      (rv_uI S a4_ ((422 : Int32) + x1) x8_).bind fun S10_ =>
      rv_lt (x1 + (1)) fun x12_ =>
      cX13_sentence_79 n k S10_ a0 x12_)
set_option maxRecDepth 20000 in
set_option maxHeartbeats 4000000 in
theorem eX13_sentence_79 (n : Nat) : ∀ (k : Nat) (S : rvS) (a0 : Nat) (x1 : Int32) (r : Int32) (S' : rvS), cX13_sentence_79 n k S a0 x1 = some (r, S') → rv_Ev mX13_sentence 69 79 [(0, .ref a0), (1, .int x1)] [] S (some (.int r)) S' := by
  intro k
  induction k with
  | zero => intro S a0 x1 r S' h; exact absurd h (by simp [cX13_sentence_79])
  | succ k ih =>
    intro S a0 x1 r S' h
    unfold cX13_sentence_79 at h
    refine re_iloadn (pc := 79) 1 (by decide +kernel : decode cX13_sentence 79 = .ok (.iload_n 1, 1)) rfl ?_
    refine re_sipush (pc := 80) (240 : Int32) (by decide +kernel : decode cX13_sentence 80 = .ok (.sipush 240, 3)) (by decide) ?_
    rcases rv_if_e h with ⟨g1_, h⟩ | ⟨g1_, h⟩
    · refine re_icmp_ge_t (pc := 83) 108 (by decide +kernel : decode cX13_sentence 83 = .ok (.if_icmp .ge 25, 3)) (by decide) g1_ ?_
      refine re_aloadn (pc := 108) 0 (by decide +kernel : decode cX13_sentence 108 = .ok (.aload_n 0, 1)) rfl ?_
      obtain ⟨x2_, g3_, h⟩ := rv_b_e h
      refine re_gI (pc := 109) g3_ lfX13_480 rfl (by decide +kernel : decode cX13_sentence 109 = .ok (.getfield 480, 3)) ?_
      cases h
      exact re_iret (fun ty hty => by cases hty; rfl) (by decide +kernel : decode cX13_sentence 112 = .ok (.ireturn, 1))
    · refine re_icmp_ge_f (pc := 83) 108 (by decide +kernel : decode cX13_sentence 83 = .ok (.if_icmp .ge 25, 3)) (by decide) g1_ ?_
      refine re_aloadn (pc := 86) 0 (by decide +kernel : decode cX13_sentence 86 = .ok (.aload_n 0, 1)) rfl ?_
      obtain ⟨a4_, g5_, h⟩ := rv_b_e h
      refine re_gR (pc := 87) g5_ lfX13_13 rfl (by decide +kernel : decode cX13_sentence 87 = .ok (.getfield 13, 3)) ?_
      refine re_sipush (pc := 90) (422 : Int32) (by decide +kernel : decode cX13_sentence 90 = .ok (.sipush 422, 3)) (by decide) ?_
      refine re_iloadn (pc := 93) 1 (by decide +kernel : decode cX13_sentence 93 = .ok (.iload_n 1, 1)) rfl ?_
      refine re_iadd (pc := 94) (by decide +kernel : decode cX13_sentence 94 = .ok (.iadd, 1)) ?_
      refine re_aloadn (pc := 95) 0 (by decide +kernel : decode cX13_sentence 95 = .ok (.aload_n 0, 1)) rfl ?_
      obtain ⟨a6_, g7_, h⟩ := rv_b_e h
      refine re_gR (pc := 96) g7_ lfX13_96 rfl (by decide +kernel : decode cX13_sentence 96 = .ok (.getfield 96, 3)) ?_
      refine re_iloadn (pc := 99) 1 (by decide +kernel : decode cX13_sentence 99 = .ok (.iload_n 1, 1)) rfl ?_
      obtain ⟨x8_, g9_, h⟩ := rv_b_e h
      refine re_aI (pc := 100) g9_ (by decide +kernel : decode cX13_sentence 100 = .ok (.iaload, 1)) ?_
      obtain ⟨S10_, g11_, h⟩ := rv_b_e h
      refine re_uI (pc := 101) g11_ (by decide +kernel : decode cX13_sentence 101 = .ok (.iastore, 1)) ?_
      obtain ⟨x12_, g13_, h⟩ := rv_lt_e h
      refine re_iinc (pc := 102) 1 x12_ (lv1 := [(1, .int x12_), (0, .ref a0)]) (by decide +kernel : decode cX13_sentence 102 = .ok (.iinc 1 1, 3)) rfl g13_ (by decide) rfl ?_
      refine re_goto (pc := 105) 79 (by decide +kernel : decode cX13_sentence 105 = .ok (.goto (-26), 3)) (by decide) ?_
      refine re_sub [1, 0] (lv1 := [(0, .ref a0), (1, .int x12_)]) rfl ?_
      exact ih S10_ a0 x12_ _ _ h
noncomputable def fnX13_sentence (n : Nat) (S : rvS) (a0 : Nat) : Option (Int32 × rvS) :=
  (rv_ck S 11 a0).bind fun u1_ =>
  (fnX13_begin n S a0 (200 : Int32)).bind fun S4_ =>
  (rv_pI S4_ 11 a0 56 (0 : Int32)).bind fun S7_ =>
  (rv_pI S7_ 11 a0 57 (0 : Int32)).bind fun S9_ =>
  (rv_pI S9_ 11 a0 58 (0 : Int32)).bind fun S11_ =>
  (rv_ck S11_ 11 a0).bind fun u13_ =>
  rv_bp (fnX13_readOr n 64 S11_ a0) fun x16_ S17_ =>
  if x16_ = 0 then (
    (rv_gI S17_ 11 a0 11).bind fun x43_ =>
    some ((-1 : Int32) - x43_, S17_))
  else (
    (rv_gI S17_ 11 a0 7).bind fun x21_ =>
    if x21_ = 0 then (
      (rv_gR S17_ 11 a0 14).bind fun a24_ =>
      (rv_uI S17_ a24_ (420 : Int32) (1 : Int32)).bind fun S26_ =>
      (rv_gR S26_ 11 a0 14).bind fun a28_ =>
      (rv_gI S26_ 11 a0 59).bind fun x30_ =>
      (rv_uI S26_ a28_ (421 : Int32) x30_).bind fun S32_ =>
      cX13_sentence_79 n n S32_ a0 (0 : Int32))
    else (
      (rv_ck S17_ 11 a0).bind fun u34_ =>
      rv_bp (fnX13_bad n S17_ a0 (1 : Int32)) fun x37_ S38_ =>
      (rv_gI S38_ 11 a0 11).bind fun x41_ =>
      some ((-1 : Int32) - x41_, S38_)))
set_option maxRecDepth 20000 in
set_option maxHeartbeats 4000000 in
theorem eX13_sentence_in (n : Nat) (S : rvS) (a0 : Nat) (r : Int32) (S' : rvS) (h : fnX13_sentence n S a0 = some (r, S')) : rv_Ev mX13_sentence 69 0 [(0, .ref a0)] [] S (some (.int r)) S' := by
  unfold fnX13_sentence at h
  refine re_aloadn (pc := 0) 0 (by decide +kernel : decode cX13_sentence 0 = .ok (.aload_n 0, 1)) rfl ?_
  refine re_sipush (pc := 1) (200 : Int32) (by decide +kernel : decode cX13_sentence 1 = .ok (.sipush 200, 3)) (by decide) ?_
  obtain ⟨u1_, g2_, h⟩ := rv_b_e h
  obtain ⟨S4_, g5_, h⟩ := rv_b_e h
  have m3_ := metX13_begin n S a0 (200 : Int32) _ g5_
  have z6_ : rv_same S S4_ := m3_.sh rfl
  refine re_cV (pc := 4) [.int (200 : Int32)] m3_ (rv_okl.k z6_) (rv_up.sh z6_) (by decide) (rv_ck_e g2_) ⟨by decide, rfl⟩ (Nat.le_of_ble_eq_true rfl) lVX13_249 rfl (by decide +kernel : decode cX13_sentence 4 = .ok (.invokevirtual 249, 3)) ?_
  refine re_aloadn (pc := 7) 0 (by decide +kernel : decode cX13_sentence 7 = .ok (.aload_n 0, 1)) rfl ?_
  refine re_iconst (pc := 8) (0 : Int32) (by decide +kernel : decode cX13_sentence 8 = .ok (.iconst 0, 1)) (by decide) ?_
  obtain ⟨S7_, g8_, h⟩ := rv_b_e h
  refine re_pI (pc := 9) g8_ lfX13_464 rfl rfl rfl rfl (by decide +kernel : decode cX13_sentence 9 = .ok (.putfield 464, 3)) ?_
  refine re_aloadn (pc := 12) 0 (by decide +kernel : decode cX13_sentence 12 = .ok (.aload_n 0, 1)) rfl ?_
  refine re_iconst (pc := 13) (0 : Int32) (by decide +kernel : decode cX13_sentence 13 = .ok (.iconst 0, 1)) (by decide) ?_
  obtain ⟨S9_, g10_, h⟩ := rv_b_e h
  refine re_pI (pc := 14) g10_ lfX13_480 rfl rfl rfl rfl (by decide +kernel : decode cX13_sentence 14 = .ok (.putfield 480, 3)) ?_
  refine re_aloadn (pc := 17) 0 (by decide +kernel : decode cX13_sentence 17 = .ok (.aload_n 0, 1)) rfl ?_
  refine re_iconst (pc := 18) (0 : Int32) (by decide +kernel : decode cX13_sentence 18 = .ok (.iconst 0, 1)) (by decide) ?_
  obtain ⟨S11_, g12_, h⟩ := rv_b_e h
  refine re_pI (pc := 19) g12_ lfX13_483 rfl rfl rfl rfl (by decide +kernel : decode cX13_sentence 19 = .ok (.putfield 483, 3)) ?_
  refine re_aloadn (pc := 22) 0 (by decide +kernel : decode cX13_sentence 22 = .ok (.aload_n 0, 1)) rfl ?_
  obtain ⟨u13_, g14_, h⟩ := rv_b_e h
  obtain ⟨x16_, S17_, g18_, h⟩ := rv_bp_e h
  have m15_ := metX13_readOr n 64 S11_ a0 _ _ g18_
  have z19_ : rv_same S11_ S17_ := m15_.sh rfl
  refine re_cV (pc := 23) [] m15_ (rv_okl.k z19_) (rv_up.sh z19_) (by decide) (rv_ck_e g14_) ⟨by decide, rfl⟩ (Nat.le_of_ble_eq_true rfl) lVX13_498 rfl (by decide +kernel : decode cX13_sentence 23 = .ok (.invokevirtual 498, 3)) ?_
  rcases rv_if_e h with ⟨g20_, h⟩ | ⟨g20_, h⟩
  · refine re_if_ne_f (pc := 26) 36 (by decide +kernel : decode cX13_sentence 26 = .ok (.ifCond .ne 10, 3)) (by decide) g20_ ?_
    refine re_iconst (pc := 29) (-1 : Int32) (by decide +kernel : decode cX13_sentence 29 = .ok (.iconst (-1), 1)) (by decide) ?_
    refine re_aloadn (pc := 30) 0 (by decide +kernel : decode cX13_sentence 30 = .ok (.aload_n 0, 1)) rfl ?_
    obtain ⟨x43_, g44_, h⟩ := rv_b_e h
    refine re_gI (pc := 31) g44_ lfX13_164 rfl (by decide +kernel : decode cX13_sentence 31 = .ok (.getfield 164, 3)) ?_
    refine re_isub (pc := 34) (by decide +kernel : decode cX13_sentence 34 = .ok (.isub, 1)) ?_
    obtain ⟨h1_, h2_⟩ := Prod.mk.inj (Option.some.inj h); subst h1_; subst h2_
    exact re_iret (fun ty hty => by cases hty; rfl) (by decide +kernel : decode cX13_sentence 35 = .ok (.ireturn, 1))
  · refine re_if_ne_t (pc := 26) 36 (by decide +kernel : decode cX13_sentence 26 = .ok (.ifCond .ne 10, 3)) (by decide) g20_ ?_
    refine re_aloadn (pc := 36) 0 (by decide +kernel : decode cX13_sentence 36 = .ok (.aload_n 0, 1)) rfl ?_
    obtain ⟨x21_, g22_, h⟩ := rv_b_e h
    refine re_gI (pc := 37) g22_ lfX13_121 rfl (by decide +kernel : decode cX13_sentence 37 = .ok (.getfield 121, 3)) ?_
    rcases rv_if_e h with ⟨g23_, h⟩ | ⟨g23_, h⟩
    · refine re_if_eq_t (pc := 40) 56 (by decide +kernel : decode cX13_sentence 40 = .ok (.ifCond .eq 16, 3)) (by decide) g23_ ?_
      refine re_aloadn (pc := 56) 0 (by decide +kernel : decode cX13_sentence 56 = .ok (.aload_n 0, 1)) rfl ?_
      obtain ⟨a24_, g25_, h⟩ := rv_b_e h
      refine re_gR (pc := 57) g25_ lfX13_13 rfl (by decide +kernel : decode cX13_sentence 57 = .ok (.getfield 13, 3)) ?_
      refine re_sipush (pc := 60) (420 : Int32) (by decide +kernel : decode cX13_sentence 60 = .ok (.sipush 420, 3)) (by decide) ?_
      refine re_iconst (pc := 63) (1 : Int32) (by decide +kernel : decode cX13_sentence 63 = .ok (.iconst 1, 1)) (by decide) ?_
      obtain ⟨S26_, g27_, h⟩ := rv_b_e h
      refine re_uI (pc := 64) g27_ (by decide +kernel : decode cX13_sentence 64 = .ok (.iastore, 1)) ?_
      refine re_aloadn (pc := 65) 0 (by decide +kernel : decode cX13_sentence 65 = .ok (.aload_n 0, 1)) rfl ?_
      obtain ⟨a28_, g29_, h⟩ := rv_b_e h
      refine re_gR (pc := 66) g29_ lfX13_13 rfl (by decide +kernel : decode cX13_sentence 66 = .ok (.getfield 13, 3)) ?_
      refine re_sipush (pc := 69) (421 : Int32) (by decide +kernel : decode cX13_sentence 69 = .ok (.sipush 421, 3)) (by decide) ?_
      refine re_aloadn (pc := 72) 0 (by decide +kernel : decode cX13_sentence 72 = .ok (.aload_n 0, 1)) rfl ?_
      obtain ⟨x30_, g31_, h⟩ := rv_b_e h
      refine re_gI (pc := 73) g31_ lfX13_470 rfl (by decide +kernel : decode cX13_sentence 73 = .ok (.getfield 470, 3)) ?_
      obtain ⟨S32_, g33_, h⟩ := rv_b_e h
      refine re_uI (pc := 76) g33_ (by decide +kernel : decode cX13_sentence 76 = .ok (.iastore, 1)) ?_
      refine re_iconst (pc := 77) (0 : Int32) (by decide +kernel : decode cX13_sentence 77 = .ok (.iconst 0, 1)) (by decide) ?_
      refine re_istoren (pc := 78) (lv1 := [(1, .int (0 : Int32)), (0, .ref a0)]) (by decide +kernel : decode cX13_sentence 78 = .ok (.istore_n 1, 1)) rfl (by decide) rfl ?_
      refine re_sub [1, 0] (lv1 := [(0, .ref a0), (1, .int (0 : Int32))]) rfl ?_
      exact eX13_sentence_79 n n S32_ a0 (0 : Int32) _ _ h
    · refine re_if_eq_f (pc := 40) 56 (by decide +kernel : decode cX13_sentence 40 = .ok (.ifCond .eq 16, 3)) (by decide) g23_ ?_
      refine re_aloadn (pc := 43) 0 (by decide +kernel : decode cX13_sentence 43 = .ok (.aload_n 0, 1)) rfl ?_
      refine re_iconst (pc := 44) (1 : Int32) (by decide +kernel : decode cX13_sentence 44 = .ok (.iconst 1, 1)) (by decide) ?_
      obtain ⟨u34_, g35_, h⟩ := rv_b_e h
      obtain ⟨x37_, S38_, g39_, h⟩ := rv_bp_e h
      have m36_ := metX13_bad n S17_ a0 (1 : Int32) _ _ g39_
      have z40_ : rv_same S17_ S38_ := m36_.sh rfl
      refine re_cV (pc := 45) [.int (1 : Int32)] m36_ (rv_okl.k z40_) (rv_up.sh z40_) (by decide) (rv_ck_e g35_) ⟨by decide, rfl⟩ (Nat.le_of_ble_eq_true rfl) lVX13_167 rfl (by decide +kernel : decode cX13_sentence 45 = .ok (.invokevirtual 167, 3)) ?_
      refine re_pop (pc := 48) (by decide +kernel : decode cX13_sentence 48 = .ok (.pop, 1)) rfl ?_
      refine re_iconst (pc := 49) (-1 : Int32) (by decide +kernel : decode cX13_sentence 49 = .ok (.iconst (-1), 1)) (by decide) ?_
      refine re_aloadn (pc := 50) 0 (by decide +kernel : decode cX13_sentence 50 = .ok (.aload_n 0, 1)) rfl ?_
      obtain ⟨x41_, g42_, h⟩ := rv_b_e h
      refine re_gI (pc := 51) g42_ lfX13_164 rfl (by decide +kernel : decode cX13_sentence 51 = .ok (.getfield 164, 3)) ?_
      refine re_isub (pc := 54) (by decide +kernel : decode cX13_sentence 54 = .ok (.isub, 1)) ?_
      obtain ⟨h1_, h2_⟩ := Prod.mk.inj (Option.some.inj h); subst h1_; subst h2_
      exact re_iret (fun ty hty => by cases hty; rfl) (by decide +kernel : decode cX13_sentence 55 = .ok (.ireturn, 1))
theorem metX13_sentence (n : Nat) (S : rvS) (a0 : Nat) (r : Int32) (S' : rvS) (h : fnX13_sentence n S a0 = some (r, S')) : rv_Met yX13_sentence mX13_sentence 69 [.ref a0] S (some (.int r)) S' := rv_Met.of ⟨by decide +kernel, rfl, (fun z => by first | rfl | cases z), rfl⟩ (Nat.le_of_ble_eq_true rfl) rfl (eX13_sentence_in n S a0 r S' h)
noncomputable def cX13_bears_2 (n : Nat) (S : rvS) : Nat → Nat → Int32 → Int32 → Int32 → Option Int32
  | 0, _, _, _, _ => none
  | k + 1, a0, x1, x2, x3 =>
    (rv_ck S 11 a0).bind fun u1_ =>
    (fnX13_ofCoin n S a0 x1 (2 : Int32)).bind fun x4_ =>
    if x4_ ≤ x3 then (
      some (0 : Int32))
    else (
      (rv_ck S 11 a0).bind fun u7_ =>
      (fnX13_ofCoin n S a0 x1 ((3 : Int32) + x3)).bind fun x10_ =>
      if x10_ = x2 then (
        some (1 : Int32))
      else (
        rv_lt (x3 + (1)) fun x13_ =>
        cX13_bears_2 n S k a0 x1 x2 x13_))
set_option maxRecDepth 20000 in
set_option maxHeartbeats 4000000 in
theorem eX13_bears_2 (n : Nat) (S : rvS) : ∀ (k : Nat) (a0 : Nat) (x1 : Int32) (x2 : Int32) (x3 : Int32) (r : Int32), cX13_bears_2 n S k a0 x1 x2 x3 = some r → rv_Ev mX13_bears 1 2 [(0, .ref a0), (1, .int x1), (2, .int x2), (3, .int x3)] [] S (some (.int r)) S := by
  intro k
  induction k with
  | zero => intro a0 x1 x2 x3 r h; exact absurd h (by simp [cX13_bears_2])
  | succ k ih =>
    intro a0 x1 x2 x3 r h
    unfold cX13_bears_2 at h
    refine re_iloadn (pc := 2) 3 (by decide +kernel : decode cX13_bears 2 = .ok (.iload_n 3, 1)) rfl ?_
    refine re_aloadn (pc := 3) 0 (by decide +kernel : decode cX13_bears 3 = .ok (.aload_n 0, 1)) rfl ?_
    refine re_iloadn (pc := 4) 1 (by decide +kernel : decode cX13_bears 4 = .ok (.iload_n 1, 1)) rfl ?_
    refine re_iconst (pc := 5) (2 : Int32) (by decide +kernel : decode cX13_bears 5 = .ok (.iconst 2, 1)) (by decide) ?_
    obtain ⟨u1_, g2_, h⟩ := rv_b_e h
    obtain ⟨x4_, g5_, h⟩ := rv_b_e h
    have m3_ := metX13_ofCoin n S a0 x1 (2 : Int32) _ g5_
    refine re_cV (pc := 6) [.int x1, .int (2 : Int32)] m3_ (rv_okl.k ⟨rfl, rfl⟩) (rv_up.rf _ _) (by decide) (rv_ck_e g2_) ⟨by decide, rfl⟩ (Nat.le_of_ble_eq_true rfl) lVX13_271 rfl (by decide +kernel : decode cX13_bears 6 = .ok (.invokevirtual 271, 3)) ?_
    rcases rv_if_e h with ⟨g6_, h⟩ | ⟨g6_, h⟩
    · refine re_icmp_ge_t (pc := 9) 32 (by decide +kernel : decode cX13_bears 9 = .ok (.if_icmp .ge 23, 3)) (by decide) g6_ ?_
      refine re_iconst (pc := 32) (0 : Int32) (by decide +kernel : decode cX13_bears 32 = .ok (.iconst 0, 1)) (by decide) ?_
      cases h
      exact re_iret (fun ty hty => by cases hty; rfl) (by decide +kernel : decode cX13_bears 33 = .ok (.ireturn, 1))
    · refine re_icmp_ge_f (pc := 9) 32 (by decide +kernel : decode cX13_bears 9 = .ok (.if_icmp .ge 23, 3)) (by decide) g6_ ?_
      refine re_aloadn (pc := 12) 0 (by decide +kernel : decode cX13_bears 12 = .ok (.aload_n 0, 1)) rfl ?_
      refine re_iloadn (pc := 13) 1 (by decide +kernel : decode cX13_bears 13 = .ok (.iload_n 1, 1)) rfl ?_
      refine re_iconst (pc := 14) (3 : Int32) (by decide +kernel : decode cX13_bears 14 = .ok (.iconst 3, 1)) (by decide) ?_
      refine re_iloadn (pc := 15) 3 (by decide +kernel : decode cX13_bears 15 = .ok (.iload_n 3, 1)) rfl ?_
      refine re_iadd (pc := 16) (by decide +kernel : decode cX13_bears 16 = .ok (.iadd, 1)) ?_
      obtain ⟨u7_, g8_, h⟩ := rv_b_e h
      obtain ⟨x10_, g11_, h⟩ := rv_b_e h
      have m9_ := metX13_ofCoin n S a0 x1 ((3 : Int32) + x3) _ g11_
      refine re_cV (pc := 17) [.int x1, .int ((3 : Int32) + x3)] m9_ (rv_okl.k ⟨rfl, rfl⟩) (rv_up.rf _ _) (by decide) (rv_ck_e g8_) ⟨by decide, rfl⟩ (Nat.le_of_ble_eq_true rfl) lVX13_271 rfl (by decide +kernel : decode cX13_bears 17 = .ok (.invokevirtual 271, 3)) ?_
      refine re_iloadn (pc := 20) 2 (by decide +kernel : decode cX13_bears 20 = .ok (.iload_n 2, 1)) rfl ?_
      rcases rv_if_e h with ⟨g12_, h⟩ | ⟨g12_, h⟩
      · refine re_icmp_ne_f (pc := 21) 26 (by decide +kernel : decode cX13_bears 21 = .ok (.if_icmp .ne 5, 3)) (by decide) g12_ ?_
        refine re_iconst (pc := 24) (1 : Int32) (by decide +kernel : decode cX13_bears 24 = .ok (.iconst 1, 1)) (by decide) ?_
        cases h
        exact re_iret (fun ty hty => by cases hty; rfl) (by decide +kernel : decode cX13_bears 25 = .ok (.ireturn, 1))
      · refine re_icmp_ne_t (pc := 21) 26 (by decide +kernel : decode cX13_bears 21 = .ok (.if_icmp .ne 5, 3)) (by decide) g12_ ?_
        obtain ⟨x13_, g14_, h⟩ := rv_lt_e h
        refine re_iinc (pc := 26) 3 x13_ (lv1 := [(3, .int x13_), (0, .ref a0), (1, .int x1), (2, .int x2)]) (by decide +kernel : decode cX13_bears 26 = .ok (.iinc 3 1, 3)) rfl g14_ (by decide) rfl ?_
        refine re_goto (pc := 29) 2 (by decide +kernel : decode cX13_bears 29 = .ok (.goto (-27), 3)) (by decide) ?_
        refine re_sub [1, 2, 3, 0] (lv1 := [(0, .ref a0), (1, .int x1), (2, .int x2), (3, .int x13_)]) rfl ?_
        exact ih a0 x1 x2 x13_ _ h
noncomputable def fnX13_bears (n : Nat) (S : rvS) (a0 : Nat) (x1 : Int32) (x2 : Int32) : Option Int32 :=
  cX13_bears_2 n S n a0 x1 x2 (0 : Int32)
set_option maxRecDepth 20000 in
set_option maxHeartbeats 4000000 in
theorem eX13_bears_in (n : Nat) (S : rvS) (a0 : Nat) (x1 : Int32) (x2 : Int32) (r : Int32) (h : fnX13_bears n S a0 x1 x2 = some r) : rv_Ev mX13_bears 1 0 [(0, .ref a0), (1, .int x1), (2, .int x2)] [] S (some (.int r)) S := by
  unfold fnX13_bears at h
  refine re_iconst (pc := 0) (0 : Int32) (by decide +kernel : decode cX13_bears 0 = .ok (.iconst 0, 1)) (by decide) ?_
  refine re_istoren (pc := 1) (lv1 := [(3, .int (0 : Int32)), (0, .ref a0), (1, .int x1), (2, .int x2)]) (by decide +kernel : decode cX13_bears 1 = .ok (.istore_n 3, 1)) rfl (by decide) rfl ?_
  refine re_sub [1, 2, 3, 0] (lv1 := [(0, .ref a0), (1, .int x1), (2, .int x2), (3, .int (0 : Int32))]) rfl ?_
  exact eX13_bears_2 n S n a0 x1 x2 (0 : Int32) _ h
theorem metX13_bears (n : Nat) (S : rvS) (a0 : Nat) (x1 : Int32) (x2 : Int32) (r : Int32) (h : fnX13_bears n S a0 x1 x2 = some r) : rv_Met yX13_bears mX13_bears 1 [.ref a0, .int x1, .int x2] S (some (.int r)) S := rv_Met.of ⟨by decide +kernel, rfl, (fun z => by first | rfl | cases z), rfl⟩ (Nat.le_of_ble_eq_true rfl) rfl (eX13_bears_in n S a0 x1 x2 r h)
noncomputable def cX13_holds_291 (n : Nat) (G0 : rvS → Nat → Int32 → Int32 → Option (Int32 × rvS)) (S : rvS) (a0 : Nat) (x3 : Int32) (x5 : Int32) (t0 : Int32) : Option (Int32 × rvS) :=
  (rv_gR S 11 a0 14).bind fun a1_ =>
  (rv_aI S 0 a1_ (x3 + (3 : Int32))).bind fun x3_ =>
  if x3_ = (60 : Int32) then (
    if x5 ≤ t0 then (
      some ((0 : Int32), S))
    else (
      some ((1 : Int32), S)))
  else (
    (rv_gR S 11 a0 14).bind fun a6_ =>
    (rv_aI S 0 a6_ (x3 + (3 : Int32))).bind fun x8_ =>
    if x8_ = (61 : Int32) then (
      if t0 = x5 then (
        some ((1 : Int32), S))
      else (
        some ((0 : Int32), S)))
    else (
      if t0 ≤ x5 then (
        some ((0 : Int32), S))
      else (
        some ((1 : Int32), S))))
set_option maxRecDepth 20000 in
set_option maxHeartbeats 4000000 in
theorem eX13_holds_291 (n : Nat) (G0 : rvS → Nat → Int32 → Int32 → Option (Int32 × rvS)) (d : Nat) (hG0 : ∀ (S : rvS) (z0 : Nat) (z1 : Int32) (z2 : Int32) (r : Int32) (S' : rvS), G0 S z0 z1 z2 = some (r, S') → rv_Met yX13_holds mX13_holds (6 + d) [.ref z0, .int z1, .int z2] S (some (.int r)) S') (S : rvS) (a0 : Nat) (x3 : Int32) (x5 : Int32) (t0 : Int32) (r : Int32) (S' : rvS) (h : cX13_holds_291 n G0 S a0 x3 x5 t0 = some (r, S')) : rv_Ev mX13_holds (6 + d + 1) 291 [(0, .ref a0), (3, .int x3), (5, .int x5)] [.int t0] S (some (.int r)) S' := by
  unfold cX13_holds_291 at h
  refine re_istore (pc := 291) (lv1 := [(7, .int t0), (0, .ref a0), (3, .int x3), (5, .int x5)]) (by decide +kernel : decode cX13_holds 291 = .ok (.istore 7, 2)) (by decide) rfl ?_
  refine re_aloadn (pc := 293) 1 (by decide +kernel : decode cX13_holds 293 = .ok (.aload_n 0, 1)) rfl ?_
  obtain ⟨a1_, g2_, h⟩ := rv_b_e h
  refine re_gR (pc := 294) g2_ lfX13_13 rfl (by decide +kernel : decode cX13_holds 294 = .ok (.getfield 13, 3)) ?_
  refine re_iloadn (pc := 297) 2 (by decide +kernel : decode cX13_holds 297 = .ok (.iload_n 3, 1)) rfl ?_
  refine re_iconst (pc := 298) (3 : Int32) (by decide +kernel : decode cX13_holds 298 = .ok (.iconst 3, 1)) (by decide) ?_
  refine re_iadd (pc := 299) (by decide +kernel : decode cX13_holds 299 = .ok (.iadd, 1)) ?_
  obtain ⟨x3_, g4_, h⟩ := rv_b_e h
  refine re_aI (pc := 300) g4_ (by decide +kernel : decode cX13_holds 300 = .ok (.iaload, 1)) ?_
  refine re_bipush (pc := 301) (60 : Int32) (by decide +kernel : decode cX13_holds 301 = .ok (.bipush 60, 2)) (by decide) ?_
  rcases rv_if_e h with ⟨g5_, h⟩ | ⟨g5_, h⟩
  · refine re_icmp_ne_f (pc := 303) 321 (by decide +kernel : decode cX13_holds 303 = .ok (.if_icmp .ne 18, 3)) (by decide) g5_ ?_
    refine re_iload (pc := 306) 0 (by decide +kernel : decode cX13_holds 306 = .ok (.iload 7, 2)) rfl ?_
    refine re_iload (pc := 308) 3 (by decide +kernel : decode cX13_holds 308 = .ok (.iload 5, 2)) rfl ?_
    rcases rv_if_e h with ⟨g13_, h⟩ | ⟨g13_, h⟩
    · refine re_icmp_ge_t (pc := 310) 317 (by decide +kernel : decode cX13_holds 310 = .ok (.if_icmp .ge 7, 3)) (by decide) g13_ ?_
      refine re_iconst (pc := 317) (0 : Int32) (by decide +kernel : decode cX13_holds 317 = .ok (.iconst 0, 1)) (by decide) ?_
      refine re_goto (pc := 318) 361 (by decide +kernel : decode cX13_holds 318 = .ok (.goto 43, 3)) (by decide) ?_
      cases h
      exact re_iret (fun ty hty => by cases hty; rfl) (by decide +kernel : decode cX13_holds 361 = .ok (.ireturn, 1))
    · refine re_icmp_ge_f (pc := 310) 317 (by decide +kernel : decode cX13_holds 310 = .ok (.if_icmp .ge 7, 3)) (by decide) g13_ ?_
      refine re_iconst (pc := 313) (1 : Int32) (by decide +kernel : decode cX13_holds 313 = .ok (.iconst 1, 1)) (by decide) ?_
      refine re_goto (pc := 314) 361 (by decide +kernel : decode cX13_holds 314 = .ok (.goto 47, 3)) (by decide) ?_
      cases h
      exact re_iret (fun ty hty => by cases hty; rfl) (by decide +kernel : decode cX13_holds 361 = .ok (.ireturn, 1))
  · refine re_icmp_ne_t (pc := 303) 321 (by decide +kernel : decode cX13_holds 303 = .ok (.if_icmp .ne 18, 3)) (by decide) g5_ ?_
    refine re_aloadn (pc := 321) 1 (by decide +kernel : decode cX13_holds 321 = .ok (.aload_n 0, 1)) rfl ?_
    obtain ⟨a6_, g7_, h⟩ := rv_b_e h
    refine re_gR (pc := 322) g7_ lfX13_13 rfl (by decide +kernel : decode cX13_holds 322 = .ok (.getfield 13, 3)) ?_
    refine re_iloadn (pc := 325) 2 (by decide +kernel : decode cX13_holds 325 = .ok (.iload_n 3, 1)) rfl ?_
    refine re_iconst (pc := 326) (3 : Int32) (by decide +kernel : decode cX13_holds 326 = .ok (.iconst 3, 1)) (by decide) ?_
    refine re_iadd (pc := 327) (by decide +kernel : decode cX13_holds 327 = .ok (.iadd, 1)) ?_
    obtain ⟨x8_, g9_, h⟩ := rv_b_e h
    refine re_aI (pc := 328) g9_ (by decide +kernel : decode cX13_holds 328 = .ok (.iaload, 1)) ?_
    refine re_bipush (pc := 329) (61 : Int32) (by decide +kernel : decode cX13_holds 329 = .ok (.bipush 61, 2)) (by decide) ?_
    rcases rv_if_e h with ⟨g10_, h⟩ | ⟨g10_, h⟩
    · refine re_icmp_ne_f (pc := 331) 349 (by decide +kernel : decode cX13_holds 331 = .ok (.if_icmp .ne 18, 3)) (by decide) g10_ ?_
      refine re_iload (pc := 334) 0 (by decide +kernel : decode cX13_holds 334 = .ok (.iload 7, 2)) rfl ?_
      refine re_iload (pc := 336) 3 (by decide +kernel : decode cX13_holds 336 = .ok (.iload 5, 2)) rfl ?_
      rcases rv_if_e h with ⟨g12_, h⟩ | ⟨g12_, h⟩
      · refine re_icmp_ne_f (pc := 338) 345 (by decide +kernel : decode cX13_holds 338 = .ok (.if_icmp .ne 7, 3)) (by decide) g12_ ?_
        refine re_iconst (pc := 341) (1 : Int32) (by decide +kernel : decode cX13_holds 341 = .ok (.iconst 1, 1)) (by decide) ?_
        refine re_goto (pc := 342) 361 (by decide +kernel : decode cX13_holds 342 = .ok (.goto 19, 3)) (by decide) ?_
        cases h
        exact re_iret (fun ty hty => by cases hty; rfl) (by decide +kernel : decode cX13_holds 361 = .ok (.ireturn, 1))
      · refine re_icmp_ne_t (pc := 338) 345 (by decide +kernel : decode cX13_holds 338 = .ok (.if_icmp .ne 7, 3)) (by decide) g12_ ?_
        refine re_iconst (pc := 345) (0 : Int32) (by decide +kernel : decode cX13_holds 345 = .ok (.iconst 0, 1)) (by decide) ?_
        refine re_goto (pc := 346) 361 (by decide +kernel : decode cX13_holds 346 = .ok (.goto 15, 3)) (by decide) ?_
        cases h
        exact re_iret (fun ty hty => by cases hty; rfl) (by decide +kernel : decode cX13_holds 361 = .ok (.ireturn, 1))
    · refine re_icmp_ne_t (pc := 331) 349 (by decide +kernel : decode cX13_holds 331 = .ok (.if_icmp .ne 18, 3)) (by decide) g10_ ?_
      refine re_iload (pc := 349) 0 (by decide +kernel : decode cX13_holds 349 = .ok (.iload 7, 2)) rfl ?_
      refine re_iload (pc := 351) 3 (by decide +kernel : decode cX13_holds 351 = .ok (.iload 5, 2)) rfl ?_
      rcases rv_if_e h with ⟨g11_, h⟩ | ⟨g11_, h⟩
      · refine re_icmp_le_t (pc := 353) 360 (by decide +kernel : decode cX13_holds 353 = .ok (.if_icmp .le 7, 3)) (by decide) g11_ ?_
        refine re_iconst (pc := 360) (0 : Int32) (by decide +kernel : decode cX13_holds 360 = .ok (.iconst 0, 1)) (by decide) ?_
        cases h
        exact re_iret (fun ty hty => by cases hty; rfl) (by decide +kernel : decode cX13_holds 361 = .ok (.ireturn, 1))
      · refine re_icmp_le_f (pc := 353) 360 (by decide +kernel : decode cX13_holds 353 = .ok (.if_icmp .le 7, 3)) (by decide) g11_ ?_
        refine re_iconst (pc := 356) (1 : Int32) (by decide +kernel : decode cX13_holds 356 = .ok (.iconst 1, 1)) (by decide) ?_
        refine re_goto (pc := 357) 361 (by decide +kernel : decode cX13_holds 357 = .ok (.goto 4, 3)) (by decide) ?_
        cases h
        exact re_iret (fun ty hty => by cases hty; rfl) (by decide +kernel : decode cX13_holds 361 = .ok (.ireturn, 1))
noncomputable def fbX13_holds (n : Nat) (G0 : rvS → Nat → Int32 → Int32 → Option (Int32 × rvS)) (S : rvS) (a0 : Nat) (x1 : Int32) (x2 : Int32) : Option (Int32 × rvS) :=
  rv_lt ((422 : Int32) + ((4 : Int32) * x1)) fun x1_ =>
  (rv_gR S 11 a0 14).bind fun a3_ =>
  (rv_aI S 0 a3_ (x1_ + (1 : Int32))).bind fun x5_ =>
  (rv_gR S 11 a0 14).bind fun a7_ =>
  (rv_aI S 0 a7_ (x1_ + (2 : Int32))).bind fun x9_ =>
  (rv_gR S 11 a0 14).bind fun a11_ =>
  (rv_aI S 0 a11_ x1_).bind fun x13_ =>
  if x13_ = 1 then (
    (rv_ck S 11 a0).bind fun u16_ =>
    rv_bp (G0 S a0 x5_ x2) fun x19_ S20_ =>
    if x19_ = 0 then (
      some ((1 : Int32), S20_))
    else (
      some ((0 : Int32), S20_)))
  else (
    if x13_ = 2 then (
      (rv_ck S 11 a0).bind fun u25_ =>
      rv_bp (G0 S a0 x5_ x2) fun x28_ S29_ =>
      if x28_ = 0 then (
        some ((0 : Int32), S29_))
      else (
        (rv_ck S29_ 11 a0).bind fun u33_ =>
        rv_bp (G0 S29_ a0 x9_ x2) fun x36_ S37_ =>
        if x36_ = 0 then (
          some ((0 : Int32), S37_))
        else (
          some ((1 : Int32), S37_))))
    else (
      if x13_ = 3 then (
        (rv_ck S 11 a0).bind fun u42_ =>
        rv_bp (G0 S a0 x5_ x2) fun x45_ S46_ =>
        if x45_ = 0 then (
          (rv_ck S46_ 11 a0).bind fun u50_ =>
          rv_bp (G0 S46_ a0 x9_ x2) fun x53_ S54_ =>
          if x53_ = 0 then (
            some ((0 : Int32), S54_))
          else (
            some ((1 : Int32), S54_)))
        else (
          some ((1 : Int32), S46_)))
      else (
        if x13_ = 64 then (
          (rv_ck S 11 a0).bind fun u59_ =>
          (fnX13_ofCoin n S a0 x2 (1 : Int32)).bind fun x62_ =>
          if x62_ = x5_ then (
            some ((1 : Int32), S))
          else (
            some ((0 : Int32), S)))
        else (
          if x13_ = 65 then (
            (rv_ck S 11 a0).bind fun u66_ =>
            (fnX13_bears n S a0 x2 x5_).bind fun x69_ =>
            (rv_bo x69_).bind fun b_ =>
            some (b_, S))
          else (
            if x13_ = 66 then (
              (rv_ck S 11 a0).bind fun u72_ =>
              rv_bp (fnX13_whyNot_ n S a0 x2 x5_) fun x75_ S76_ =>
              if x75_ = 0 then (
                some ((1 : Int32), S76_))
              else (
                some ((0 : Int32), S76_)))
            else (
              if x13_ = 67 then (
                (rv_ck S 11 a0).bind fun u81_ =>
                rv_bp (fnX13_isStuck n S a0 x2) fun x84_ S85_ =>
                (rv_bo x84_).bind fun b_ =>
                some (b_, S85_))
              else (
                if x13_ = 68 then (
                  (rv_ck S 11 a0).bind fun u89_ =>
                  (fnX13_forgedOf n S a0 x2).bind fun x92_ =>
                  if x92_ ≤ 0 then (
                    some ((0 : Int32), S))
                  else (
                    some ((1 : Int32), S)))
                else (
                  (rv_gR S 11 a0 14).bind fun a95_ =>
                  (rv_aI S 0 a95_ x1_).bind fun x97_ =>
                  rv_lt (x97_ - (50 : Int32)) fun x99_ =>
                  if x99_ = (19 : Int32) then (
                    (rv_ck S 11 a0).bind fun u118_ =>
                    (fnX13_ofCoin n S a0 x2 (0 : Int32)).bind fun x121_ =>
                    cX13_holds_291 n G0 S a0 x1_ x9_ x121_)
                  else (
                    if x99_ = (20 : Int32) then (
                      (rv_ck S 11 a0).bind fun u113_ =>
                      (fnX13_ofCoin n S a0 x2 (2 : Int32)).bind fun x116_ =>
                      cX13_holds_291 n G0 S a0 x1_ x9_ x116_)
                    else (
                      (rv_ck S 11 a0).bind fun u103_ =>
                      (fnX13_ofCoin n S a0 x2 (1 : Int32)).bind fun x106_ =>
                      (rv_ck S 11 a0).bind fun u108_ =>
                      (fnX13_ofWho n S a0 x106_ (0 : Int32)).bind fun x111_ =>
                      cX13_holds_291 n G0 S a0 x1_ x9_ x111_))))))))))
set_option maxRecDepth 20000 in
set_option maxHeartbeats 4000000 in
theorem eX13_holds_in (n : Nat) (G0 : rvS → Nat → Int32 → Int32 → Option (Int32 × rvS)) (d : Nat) (hG0 : ∀ (S : rvS) (z0 : Nat) (z1 : Int32) (z2 : Int32) (r : Int32) (S' : rvS), G0 S z0 z1 z2 = some (r, S') → rv_Met yX13_holds mX13_holds (6 + d) [.ref z0, .int z1, .int z2] S (some (.int r)) S') (S : rvS) (a0 : Nat) (x1 : Int32) (x2 : Int32) (r : Int32) (S' : rvS) (h : fbX13_holds n G0 S a0 x1 x2 = some (r, S')) : rv_Ev mX13_holds (6 + d + 1) 0 [(0, .ref a0), (1, .int x1), (2, .int x2)] [] S (some (.int r)) S' := by
  unfold fbX13_holds at h
  refine re_sipush (pc := 0) (422 : Int32) (by decide +kernel : decode cX13_holds 0 = .ok (.sipush 422, 3)) (by decide) ?_
  refine re_iconst (pc := 3) (4 : Int32) (by decide +kernel : decode cX13_holds 3 = .ok (.iconst 4, 1)) (by decide) ?_
  refine re_iloadn (pc := 4) 1 (by decide +kernel : decode cX13_holds 4 = .ok (.iload_n 1, 1)) rfl ?_
  refine re_imul (pc := 5) (by decide +kernel : decode cX13_holds 5 = .ok (.imul, 1)) ?_
  refine re_iadd (pc := 6) (by decide +kernel : decode cX13_holds 6 = .ok (.iadd, 1)) ?_
  obtain ⟨x1_, g2_, h⟩ := rv_lt_e h
  refine re_nI (pc := 7) g2_ ?_
  refine re_istoren (pc := 7) (lv1 := [(3, .int x1_), (0, .ref a0), (1, .int x1), (2, .int x2)]) (by decide +kernel : decode cX13_holds 7 = .ok (.istore_n 3, 1)) rfl (by decide) rfl ?_
  refine re_aloadn (pc := 8) 1 (by decide +kernel : decode cX13_holds 8 = .ok (.aload_n 0, 1)) rfl ?_
  obtain ⟨a3_, g4_, h⟩ := rv_b_e h
  refine re_gR (pc := 9) g4_ lfX13_13 rfl (by decide +kernel : decode cX13_holds 9 = .ok (.getfield 13, 3)) ?_
  refine re_iloadn (pc := 12) 0 (by decide +kernel : decode cX13_holds 12 = .ok (.iload_n 3, 1)) rfl ?_
  refine re_iconst (pc := 13) (1 : Int32) (by decide +kernel : decode cX13_holds 13 = .ok (.iconst 1, 1)) (by decide) ?_
  refine re_iadd (pc := 14) (by decide +kernel : decode cX13_holds 14 = .ok (.iadd, 1)) ?_
  obtain ⟨x5_, g6_, h⟩ := rv_b_e h
  refine re_aI (pc := 15) g6_ (by decide +kernel : decode cX13_holds 15 = .ok (.iaload, 1)) ?_
  refine re_istore (pc := 16) (lv1 := [(4, .int x5_), (3, .int x1_), (0, .ref a0), (1, .int x1), (2, .int x2)]) (by decide +kernel : decode cX13_holds 16 = .ok (.istore 4, 2)) (by decide) rfl ?_
  refine re_aloadn (pc := 18) 2 (by decide +kernel : decode cX13_holds 18 = .ok (.aload_n 0, 1)) rfl ?_
  obtain ⟨a7_, g8_, h⟩ := rv_b_e h
  refine re_gR (pc := 19) g8_ lfX13_13 rfl (by decide +kernel : decode cX13_holds 19 = .ok (.getfield 13, 3)) ?_
  refine re_iloadn (pc := 22) 1 (by decide +kernel : decode cX13_holds 22 = .ok (.iload_n 3, 1)) rfl ?_
  refine re_iconst (pc := 23) (2 : Int32) (by decide +kernel : decode cX13_holds 23 = .ok (.iconst 2, 1)) (by decide) ?_
  refine re_iadd (pc := 24) (by decide +kernel : decode cX13_holds 24 = .ok (.iadd, 1)) ?_
  obtain ⟨x9_, g10_, h⟩ := rv_b_e h
  refine re_aI (pc := 25) g10_ (by decide +kernel : decode cX13_holds 25 = .ok (.iaload, 1)) ?_
  refine re_istore (pc := 26) (lv1 := [(5, .int x9_), (4, .int x5_), (3, .int x1_), (0, .ref a0), (1, .int x1), (2, .int x2)]) (by decide +kernel : decode cX13_holds 26 = .ok (.istore 5, 2)) (by decide) rfl ?_
  refine re_aloadn (pc := 28) 3 (by decide +kernel : decode cX13_holds 28 = .ok (.aload_n 0, 1)) rfl ?_
  obtain ⟨a11_, g12_, h⟩ := rv_b_e h
  refine re_gR (pc := 29) g12_ lfX13_13 rfl (by decide +kernel : decode cX13_holds 29 = .ok (.getfield 13, 3)) ?_
  refine re_iloadn (pc := 32) 2 (by decide +kernel : decode cX13_holds 32 = .ok (.iload_n 3, 1)) rfl ?_
  obtain ⟨x13_, g14_, h⟩ := rv_b_e h
  refine re_aI (pc := 33) g14_ (by decide +kernel : decode cX13_holds 33 = .ok (.iaload, 1)) ?_
  rcases rv_if_e h with ⟨g15_, h⟩ | ⟨g15_, h⟩
  · refine re_lookE (pc := 34) (off := 74) 108 (by decide +kernel : decode cX13_holds 34 = .ok (.lookupswitch 203 #[(1, 74), (2, 90), (3, 116), (64, 142), (65, 159), (66, 167), (67, 183), (68, 189)], 74)) g15_ (by decide) (by decide) (by decide) ?_
    refine re_aloadn (pc := 108) 3 (by decide +kernel : decode cX13_holds 108 = .ok (.aload_n 0, 1)) rfl ?_
    refine re_iload (pc := 109) 1 (by decide +kernel : decode cX13_holds 109 = .ok (.iload 4, 2)) rfl ?_
    refine re_iloadn (pc := 111) 5 (by decide +kernel : decode cX13_holds 111 = .ok (.iload_n 2, 1)) rfl ?_
    obtain ⟨u16_, g17_, h⟩ := rv_b_e h
    obtain ⟨x19_, S20_, g21_, h⟩ := rv_bp_e h
    have m18_ := hG0 S a0 x5_ x2 _ _ g21_
    have z22_ : rv_same S S20_ := m18_.sh rfl
    refine re_cV (pc := 112) [.int x5_, .int x2] m18_ (rv_okl.k z22_) (rv_up.sh z22_) (by omega) (rv_ck_e g17_) ⟨by decide, rfl⟩ (Nat.le_of_ble_eq_true rfl) lVX13_501 rfl (by decide +kernel : decode cX13_holds 112 = .ok (.invokevirtual 501, 3)) ?_
    rcases rv_if_e h with ⟨g23_, h⟩ | ⟨g23_, h⟩
    · refine re_if_ne_f (pc := 115) 122 (by decide +kernel : decode cX13_holds 115 = .ok (.ifCond .ne 7, 3)) (by decide) g23_ ?_
      refine re_iconst (pc := 118) (1 : Int32) (by decide +kernel : decode cX13_holds 118 = .ok (.iconst 1, 1)) (by decide) ?_
      refine re_goto (pc := 119) 123 (by decide +kernel : decode cX13_holds 119 = .ok (.goto 4, 3)) (by decide) ?_
      cases h
      exact re_iret (fun ty hty => by cases hty; rfl) (by decide +kernel : decode cX13_holds 123 = .ok (.ireturn, 1))
    · refine re_if_ne_t (pc := 115) 122 (by decide +kernel : decode cX13_holds 115 = .ok (.ifCond .ne 7, 3)) (by decide) g23_ ?_
      refine re_iconst (pc := 122) (0 : Int32) (by decide +kernel : decode cX13_holds 122 = .ok (.iconst 0, 1)) (by decide) ?_
      cases h
      exact re_iret (fun ty hty => by cases hty; rfl) (by decide +kernel : decode cX13_holds 123 = .ok (.ireturn, 1))
  · skip
    rcases rv_if_e h with ⟨g24_, h⟩ | ⟨g24_, h⟩
    · refine re_lookE (pc := 34) (off := 90) 124 (by decide +kernel : decode cX13_holds 34 = .ok (.lookupswitch 203 #[(1, 74), (2, 90), (3, 116), (64, 142), (65, 159), (66, 167), (67, 183), (68, 189)], 74)) g24_ (by decide) (by decide) (by decide) ?_
      refine re_aloadn (pc := 124) 3 (by decide +kernel : decode cX13_holds 124 = .ok (.aload_n 0, 1)) rfl ?_
      refine re_iload (pc := 125) 1 (by decide +kernel : decode cX13_holds 125 = .ok (.iload 4, 2)) rfl ?_
      refine re_iloadn (pc := 127) 5 (by decide +kernel : decode cX13_holds 127 = .ok (.iload_n 2, 1)) rfl ?_
      obtain ⟨u25_, g26_, h⟩ := rv_b_e h
      obtain ⟨x28_, S29_, g30_, h⟩ := rv_bp_e h
      have m27_ := hG0 S a0 x5_ x2 _ _ g30_
      have z31_ : rv_same S S29_ := m27_.sh rfl
      refine re_cV (pc := 128) [.int x5_, .int x2] m27_ (rv_okl.k z31_) (rv_up.sh z31_) (by omega) (rv_ck_e g26_) ⟨by decide, rfl⟩ (Nat.le_of_ble_eq_true rfl) lVX13_501 rfl (by decide +kernel : decode cX13_holds 128 = .ok (.invokevirtual 501, 3)) ?_
      rcases rv_if_e h with ⟨g32_, h⟩ | ⟨g32_, h⟩
      · refine re_if_eq_t (pc := 131) 148 (by decide +kernel : decode cX13_holds 131 = .ok (.ifCond .eq 17, 3)) (by decide) g32_ ?_
        refine re_iconst (pc := 148) (0 : Int32) (by decide +kernel : decode cX13_holds 148 = .ok (.iconst 0, 1)) (by decide) ?_
        cases h
        exact re_iret (fun ty hty => by cases hty; rfl) (by decide +kernel : decode cX13_holds 149 = .ok (.ireturn, 1))
      · refine re_if_eq_f (pc := 131) 148 (by decide +kernel : decode cX13_holds 131 = .ok (.ifCond .eq 17, 3)) (by decide) g32_ ?_
        refine re_aloadn (pc := 134) 3 (by decide +kernel : decode cX13_holds 134 = .ok (.aload_n 0, 1)) rfl ?_
        refine re_iload (pc := 135) 0 (by decide +kernel : decode cX13_holds 135 = .ok (.iload 5, 2)) rfl ?_
        refine re_iloadn (pc := 137) 5 (by decide +kernel : decode cX13_holds 137 = .ok (.iload_n 2, 1)) rfl ?_
        obtain ⟨u33_, g34_, h⟩ := rv_b_e h
        obtain ⟨x36_, S37_, g38_, h⟩ := rv_bp_e h
        have m35_ := hG0 S29_ a0 x9_ x2 _ _ g38_
        have z39_ : rv_same S29_ S37_ := m35_.sh rfl
        refine re_cV (pc := 138) [.int x9_, .int x2] m35_ (rv_okl.k z39_) (rv_up.sh z39_) (by omega) (rv_ck_e g34_) ⟨by decide, rfl⟩ (Nat.le_of_ble_eq_true rfl) lVX13_501 rfl (by decide +kernel : decode cX13_holds 138 = .ok (.invokevirtual 501, 3)) ?_
        rcases rv_if_e h with ⟨g40_, h⟩ | ⟨g40_, h⟩
        · refine re_if_eq_t (pc := 141) 148 (by decide +kernel : decode cX13_holds 141 = .ok (.ifCond .eq 7, 3)) (by decide) g40_ ?_
          refine re_iconst (pc := 148) (0 : Int32) (by decide +kernel : decode cX13_holds 148 = .ok (.iconst 0, 1)) (by decide) ?_
          cases h
          exact re_iret (fun ty hty => by cases hty; rfl) (by decide +kernel : decode cX13_holds 149 = .ok (.ireturn, 1))
        · refine re_if_eq_f (pc := 141) 148 (by decide +kernel : decode cX13_holds 141 = .ok (.ifCond .eq 7, 3)) (by decide) g40_ ?_
          refine re_iconst (pc := 144) (1 : Int32) (by decide +kernel : decode cX13_holds 144 = .ok (.iconst 1, 1)) (by decide) ?_
          refine re_goto (pc := 145) 149 (by decide +kernel : decode cX13_holds 145 = .ok (.goto 4, 3)) (by decide) ?_
          cases h
          exact re_iret (fun ty hty => by cases hty; rfl) (by decide +kernel : decode cX13_holds 149 = .ok (.ireturn, 1))
    · skip
      rcases rv_if_e h with ⟨g41_, h⟩ | ⟨g41_, h⟩
      · refine re_lookE (pc := 34) (off := 116) 150 (by decide +kernel : decode cX13_holds 34 = .ok (.lookupswitch 203 #[(1, 74), (2, 90), (3, 116), (64, 142), (65, 159), (66, 167), (67, 183), (68, 189)], 74)) g41_ (by decide) (by decide) (by decide) ?_
        refine re_aloadn (pc := 150) 3 (by decide +kernel : decode cX13_holds 150 = .ok (.aload_n 0, 1)) rfl ?_
        refine re_iload (pc := 151) 1 (by decide +kernel : decode cX13_holds 151 = .ok (.iload 4, 2)) rfl ?_
        refine re_iloadn (pc := 153) 5 (by decide +kernel : decode cX13_holds 153 = .ok (.iload_n 2, 1)) rfl ?_
        obtain ⟨u42_, g43_, h⟩ := rv_b_e h
        obtain ⟨x45_, S46_, g47_, h⟩ := rv_bp_e h
        have m44_ := hG0 S a0 x5_ x2 _ _ g47_
        have z48_ : rv_same S S46_ := m44_.sh rfl
        refine re_cV (pc := 154) [.int x5_, .int x2] m44_ (rv_okl.k z48_) (rv_up.sh z48_) (by omega) (rv_ck_e g43_) ⟨by decide, rfl⟩ (Nat.le_of_ble_eq_true rfl) lVX13_501 rfl (by decide +kernel : decode cX13_holds 154 = .ok (.invokevirtual 501, 3)) ?_
        rcases rv_if_e h with ⟨g49_, h⟩ | ⟨g49_, h⟩
        · refine re_if_ne_f (pc := 157) 170 (by decide +kernel : decode cX13_holds 157 = .ok (.ifCond .ne 13, 3)) (by decide) g49_ ?_
          refine re_aloadn (pc := 160) 3 (by decide +kernel : decode cX13_holds 160 = .ok (.aload_n 0, 1)) rfl ?_
          refine re_iload (pc := 161) 0 (by decide +kernel : decode cX13_holds 161 = .ok (.iload 5, 2)) rfl ?_
          refine re_iloadn (pc := 163) 5 (by decide +kernel : decode cX13_holds 163 = .ok (.iload_n 2, 1)) rfl ?_
          obtain ⟨u50_, g51_, h⟩ := rv_b_e h
          obtain ⟨x53_, S54_, g55_, h⟩ := rv_bp_e h
          have m52_ := hG0 S46_ a0 x9_ x2 _ _ g55_
          have z56_ : rv_same S46_ S54_ := m52_.sh rfl
          refine re_cV (pc := 164) [.int x9_, .int x2] m52_ (rv_okl.k z56_) (rv_up.sh z56_) (by omega) (rv_ck_e g51_) ⟨by decide, rfl⟩ (Nat.le_of_ble_eq_true rfl) lVX13_501 rfl (by decide +kernel : decode cX13_holds 164 = .ok (.invokevirtual 501, 3)) ?_
          rcases rv_if_e h with ⟨g57_, h⟩ | ⟨g57_, h⟩
          · refine re_if_eq_t (pc := 167) 174 (by decide +kernel : decode cX13_holds 167 = .ok (.ifCond .eq 7, 3)) (by decide) g57_ ?_
            refine re_iconst (pc := 174) (0 : Int32) (by decide +kernel : decode cX13_holds 174 = .ok (.iconst 0, 1)) (by decide) ?_
            cases h
            exact re_iret (fun ty hty => by cases hty; rfl) (by decide +kernel : decode cX13_holds 175 = .ok (.ireturn, 1))
          · refine re_if_eq_f (pc := 167) 174 (by decide +kernel : decode cX13_holds 167 = .ok (.ifCond .eq 7, 3)) (by decide) g57_ ?_
            refine re_iconst (pc := 170) (1 : Int32) (by decide +kernel : decode cX13_holds 170 = .ok (.iconst 1, 1)) (by decide) ?_
            refine re_goto (pc := 171) 175 (by decide +kernel : decode cX13_holds 171 = .ok (.goto 4, 3)) (by decide) ?_
            cases h
            exact re_iret (fun ty hty => by cases hty; rfl) (by decide +kernel : decode cX13_holds 175 = .ok (.ireturn, 1))
        · refine re_if_ne_t (pc := 157) 170 (by decide +kernel : decode cX13_holds 157 = .ok (.ifCond .ne 13, 3)) (by decide) g49_ ?_
          refine re_iconst (pc := 170) (1 : Int32) (by decide +kernel : decode cX13_holds 170 = .ok (.iconst 1, 1)) (by decide) ?_
          refine re_goto (pc := 171) 175 (by decide +kernel : decode cX13_holds 171 = .ok (.goto 4, 3)) (by decide) ?_
          cases h
          exact re_iret (fun ty hty => by cases hty; rfl) (by decide +kernel : decode cX13_holds 175 = .ok (.ireturn, 1))
      · skip
        rcases rv_if_e h with ⟨g58_, h⟩ | ⟨g58_, h⟩
        · refine re_lookE (pc := 34) (off := 142) 176 (by decide +kernel : decode cX13_holds 34 = .ok (.lookupswitch 203 #[(1, 74), (2, 90), (3, 116), (64, 142), (65, 159), (66, 167), (67, 183), (68, 189)], 74)) g58_ (by decide) (by decide) (by decide) ?_
          refine re_aloadn (pc := 176) 3 (by decide +kernel : decode cX13_holds 176 = .ok (.aload_n 0, 1)) rfl ?_
          refine re_iloadn (pc := 177) 5 (by decide +kernel : decode cX13_holds 177 = .ok (.iload_n 2, 1)) rfl ?_
          refine re_iconst (pc := 178) (1 : Int32) (by decide +kernel : decode cX13_holds 178 = .ok (.iconst 1, 1)) (by decide) ?_
          obtain ⟨u59_, g60_, h⟩ := rv_b_e h
          obtain ⟨x62_, g63_, h⟩ := rv_b_e h
          have m61_ := metX13_ofCoin n S a0 x2 (1 : Int32) _ g63_
          refine re_cV (pc := 179) [.int x2, .int (1 : Int32)] m61_ (rv_okl.k ⟨rfl, rfl⟩) (rv_up.rf _ _) (by omega) (rv_ck_e g60_) ⟨by decide, rfl⟩ (Nat.le_of_ble_eq_true rfl) lVX13_271 rfl (by decide +kernel : decode cX13_holds 179 = .ok (.invokevirtual 271, 3)) ?_
          refine re_iload (pc := 182) 1 (by decide +kernel : decode cX13_holds 182 = .ok (.iload 4, 2)) rfl ?_
          rcases rv_if_e h with ⟨g64_, h⟩ | ⟨g64_, h⟩
          · refine re_icmp_ne_f (pc := 184) 191 (by decide +kernel : decode cX13_holds 184 = .ok (.if_icmp .ne 7, 3)) (by decide) g64_ ?_
            refine re_iconst (pc := 187) (1 : Int32) (by decide +kernel : decode cX13_holds 187 = .ok (.iconst 1, 1)) (by decide) ?_
            refine re_goto (pc := 188) 192 (by decide +kernel : decode cX13_holds 188 = .ok (.goto 4, 3)) (by decide) ?_
            cases h
            exact re_iret (fun ty hty => by cases hty; rfl) (by decide +kernel : decode cX13_holds 192 = .ok (.ireturn, 1))
          · refine re_icmp_ne_t (pc := 184) 191 (by decide +kernel : decode cX13_holds 184 = .ok (.if_icmp .ne 7, 3)) (by decide) g64_ ?_
            refine re_iconst (pc := 191) (0 : Int32) (by decide +kernel : decode cX13_holds 191 = .ok (.iconst 0, 1)) (by decide) ?_
            cases h
            exact re_iret (fun ty hty => by cases hty; rfl) (by decide +kernel : decode cX13_holds 192 = .ok (.ireturn, 1))
        · skip
          rcases rv_if_e h with ⟨g65_, h⟩ | ⟨g65_, h⟩
          · refine re_lookE (pc := 34) (off := 159) 193 (by decide +kernel : decode cX13_holds 34 = .ok (.lookupswitch 203 #[(1, 74), (2, 90), (3, 116), (64, 142), (65, 159), (66, 167), (67, 183), (68, 189)], 74)) g65_ (by decide) (by decide) (by decide) ?_
            refine re_aloadn (pc := 193) 3 (by decide +kernel : decode cX13_holds 193 = .ok (.aload_n 0, 1)) rfl ?_
            refine re_iloadn (pc := 194) 5 (by decide +kernel : decode cX13_holds 194 = .ok (.iload_n 2, 1)) rfl ?_
            refine re_iload (pc := 195) 1 (by decide +kernel : decode cX13_holds 195 = .ok (.iload 4, 2)) rfl ?_
            obtain ⟨u66_, g67_, h⟩ := rv_b_e h
            obtain ⟨x69_, g70_, h⟩ := rv_b_e h
            have m68_ := metX13_bears n S a0 x2 x5_ _ g70_
            refine re_cV (pc := 197) [.int x2, .int x5_] m68_ (rv_okl.k ⟨rfl, rfl⟩) (rv_up.rf _ _) (by omega) (rv_ck_e g67_) ⟨by decide, rfl⟩ (Nat.le_of_ble_eq_true rfl) lVX13_504 rfl (by decide +kernel : decode cX13_holds 197 = .ok (.invokevirtual 504, 3)) ?_
            obtain ⟨b_, gb_, h⟩ := rv_b_e h
            obtain ⟨gb1_, gb2_⟩ := rv_bo_e gb_
            refine re_nI (pc := 200) gb1_ ?_
            cases h
            exact re_iret (fun ty hty => by cases hty; exact gb2_) (by decide +kernel : decode cX13_holds 200 = .ok (.ireturn, 1))
          · skip
            rcases rv_if_e h with ⟨g71_, h⟩ | ⟨g71_, h⟩
            · refine re_lookE (pc := 34) (off := 167) 201 (by decide +kernel : decode cX13_holds 34 = .ok (.lookupswitch 203 #[(1, 74), (2, 90), (3, 116), (64, 142), (65, 159), (66, 167), (67, 183), (68, 189)], 74)) g71_ (by decide) (by decide) (by decide) ?_
              refine re_aloadn (pc := 201) 3 (by decide +kernel : decode cX13_holds 201 = .ok (.aload_n 0, 1)) rfl ?_
              refine re_iloadn (pc := 202) 5 (by decide +kernel : decode cX13_holds 202 = .ok (.iload_n 2, 1)) rfl ?_
              refine re_iload (pc := 203) 1 (by decide +kernel : decode cX13_holds 203 = .ok (.iload 4, 2)) rfl ?_
              obtain ⟨u72_, g73_, h⟩ := rv_b_e h
              obtain ⟨x75_, S76_, g77_, h⟩ := rv_bp_e h
              have m74_ := metX13_whyNot_ n S a0 x2 x5_ _ _ g77_
              have z78_ : rv_same S S76_ := m74_.sh rfl
              refine re_cV (pc := 205) [.int x2, .int x5_] m74_ (rv_okl.k z78_) (rv_up.sh z78_) (by omega) (rv_ck_e g73_) ⟨by decide, rfl⟩ (Nat.le_of_ble_eq_true rfl) lVX13_307 rfl (by decide +kernel : decode cX13_holds 205 = .ok (.invokevirtual 307, 3)) ?_
              rcases rv_if_e h with ⟨g79_, h⟩ | ⟨g79_, h⟩
              · refine re_if_ne_f (pc := 208) 215 (by decide +kernel : decode cX13_holds 208 = .ok (.ifCond .ne 7, 3)) (by decide) g79_ ?_
                refine re_iconst (pc := 211) (1 : Int32) (by decide +kernel : decode cX13_holds 211 = .ok (.iconst 1, 1)) (by decide) ?_
                refine re_goto (pc := 212) 216 (by decide +kernel : decode cX13_holds 212 = .ok (.goto 4, 3)) (by decide) ?_
                cases h
                exact re_iret (fun ty hty => by cases hty; rfl) (by decide +kernel : decode cX13_holds 216 = .ok (.ireturn, 1))
              · refine re_if_ne_t (pc := 208) 215 (by decide +kernel : decode cX13_holds 208 = .ok (.ifCond .ne 7, 3)) (by decide) g79_ ?_
                refine re_iconst (pc := 215) (0 : Int32) (by decide +kernel : decode cX13_holds 215 = .ok (.iconst 0, 1)) (by decide) ?_
                cases h
                exact re_iret (fun ty hty => by cases hty; rfl) (by decide +kernel : decode cX13_holds 216 = .ok (.ireturn, 1))
            · skip
              rcases rv_if_e h with ⟨g80_, h⟩ | ⟨g80_, h⟩
              · refine re_lookE (pc := 34) (off := 183) 217 (by decide +kernel : decode cX13_holds 34 = .ok (.lookupswitch 203 #[(1, 74), (2, 90), (3, 116), (64, 142), (65, 159), (66, 167), (67, 183), (68, 189)], 74)) g80_ (by decide) (by decide) (by decide) ?_
                refine re_aloadn (pc := 217) 3 (by decide +kernel : decode cX13_holds 217 = .ok (.aload_n 0, 1)) rfl ?_
                refine re_iloadn (pc := 218) 5 (by decide +kernel : decode cX13_holds 218 = .ok (.iload_n 2, 1)) rfl ?_
                obtain ⟨u81_, g82_, h⟩ := rv_b_e h
                obtain ⟨x84_, S85_, g86_, h⟩ := rv_bp_e h
                have m83_ := metX13_isStuck n S a0 x2 _ _ g86_
                have z87_ : rv_same S S85_ := m83_.sh rfl
                refine re_cV (pc := 219) [.int x2] m83_ (rv_okl.k z87_) (rv_up.sh z87_) (by omega) (rv_ck_e g82_) ⟨by decide, rfl⟩ (Nat.le_of_ble_eq_true rfl) lVX13_360 rfl (by decide +kernel : decode cX13_holds 219 = .ok (.invokevirtual 360, 3)) ?_
                obtain ⟨b_, gb_, h⟩ := rv_b_e h
                obtain ⟨gb1_, gb2_⟩ := rv_bo_e gb_
                refine re_nI (pc := 222) gb1_ ?_
                cases h
                exact re_iret (fun ty hty => by cases hty; exact gb2_) (by decide +kernel : decode cX13_holds 222 = .ok (.ireturn, 1))
              · skip
                rcases rv_if_e h with ⟨g88_, h⟩ | ⟨g88_, h⟩
                · refine re_lookE (pc := 34) (off := 189) 223 (by decide +kernel : decode cX13_holds 34 = .ok (.lookupswitch 203 #[(1, 74), (2, 90), (3, 116), (64, 142), (65, 159), (66, 167), (67, 183), (68, 189)], 74)) g88_ (by decide) (by decide) (by decide) ?_
                  refine re_aloadn (pc := 223) 3 (by decide +kernel : decode cX13_holds 223 = .ok (.aload_n 0, 1)) rfl ?_
                  refine re_iloadn (pc := 224) 5 (by decide +kernel : decode cX13_holds 224 = .ok (.iload_n 2, 1)) rfl ?_
                  obtain ⟨u89_, g90_, h⟩ := rv_b_e h
                  obtain ⟨x92_, g93_, h⟩ := rv_b_e h
                  have m91_ := metX13_forgedOf n S a0 x2 _ g93_
                  refine re_cV (pc := 225) [.int x2] m91_ (rv_okl.k ⟨rfl, rfl⟩) (rv_up.rf _ _) (by omega) (rv_ck_e g90_) ⟨by decide, rfl⟩ (Nat.le_of_ble_eq_true rfl) lVX13_286 rfl (by decide +kernel : decode cX13_holds 225 = .ok (.invokevirtual 286, 3)) ?_
                  rcases rv_if_e h with ⟨g94_, h⟩ | ⟨g94_, h⟩
                  · refine re_if_le_t (pc := 228) 235 (by decide +kernel : decode cX13_holds 228 = .ok (.ifCond .le 7, 3)) (by decide) g94_ ?_
                    refine re_iconst (pc := 235) (0 : Int32) (by decide +kernel : decode cX13_holds 235 = .ok (.iconst 0, 1)) (by decide) ?_
                    cases h
                    exact re_iret (fun ty hty => by cases hty; rfl) (by decide +kernel : decode cX13_holds 236 = .ok (.ireturn, 1))
                  · refine re_if_le_f (pc := 228) 235 (by decide +kernel : decode cX13_holds 228 = .ok (.ifCond .le 7, 3)) (by decide) g94_ ?_
                    refine re_iconst (pc := 231) (1 : Int32) (by decide +kernel : decode cX13_holds 231 = .ok (.iconst 1, 1)) (by decide) ?_
                    refine re_goto (pc := 232) 236 (by decide +kernel : decode cX13_holds 232 = .ok (.goto 4, 3)) (by decide) ?_
                    cases h
                    exact re_iret (fun ty hty => by cases hty; rfl) (by decide +kernel : decode cX13_holds 236 = .ok (.ireturn, 1))
                · skip
                  refine re_lookup (pc := 34) (off := 203) 237 (by decide +kernel : decode cX13_holds 34 = .ok (.lookupswitch 203 #[(1, 74), (2, 90), (3, 116), (64, 142), (65, 159), (66, 167), (67, 183), (68, 189)], 74)) (by decide) (by show Op.lookupswitch.offset [(1, 74), (2, 90), (3, 116), (64, 142), (65, 159), (66, 167), (67, 183), (68, 189)] (203) _ = _; rw [lv_osw g15_ (by decide)]; rw [lv_osw g24_ (by decide)]; rw [lv_osw g41_ (by decide)]; rw [lv_osw g58_ (by decide)]; rw [lv_osw g65_ (by decide)]; rw [lv_osw g71_ (by decide)]; rw [lv_osw g80_ (by decide)]; rw [lv_osw g88_ (by decide)]; rfl) (by decide) ?_
                  refine re_aloadn (pc := 237) 3 (by decide +kernel : decode cX13_holds 237 = .ok (.aload_n 0, 1)) rfl ?_
                  obtain ⟨a95_, g96_, h⟩ := rv_b_e h
                  refine re_gR (pc := 238) g96_ lfX13_13 rfl (by decide +kernel : decode cX13_holds 238 = .ok (.getfield 13, 3)) ?_
                  refine re_iloadn (pc := 241) 2 (by decide +kernel : decode cX13_holds 241 = .ok (.iload_n 3, 1)) rfl ?_
                  obtain ⟨x97_, g98_, h⟩ := rv_b_e h
                  refine re_aI (pc := 242) g98_ (by decide +kernel : decode cX13_holds 242 = .ok (.iaload, 1)) ?_
                  refine re_bipush (pc := 243) (50 : Int32) (by decide +kernel : decode cX13_holds 243 = .ok (.bipush 50, 2)) (by decide) ?_
                  refine re_isub (pc := 245) (by decide +kernel : decode cX13_holds 245 = .ok (.isub, 1)) ?_
                  obtain ⟨x99_, g100_, h⟩ := rv_lt_e h
                  refine re_nI (pc := 246) g100_ ?_
                  refine re_istore (pc := 246) (lv1 := [(6, .int x99_), (5, .int x9_), (4, .int x5_), (3, .int x1_), (0, .ref a0), (1, .int x1), (2, .int x2)]) (by decide +kernel : decode cX13_holds 246 = .ok (.istore 6, 2)) (by decide) rfl ?_
                  refine re_iload (pc := 248) 0 (by decide +kernel : decode cX13_holds 248 = .ok (.iload 6, 2)) rfl ?_
                  refine re_bipush (pc := 250) (19 : Int32) (by decide +kernel : decode cX13_holds 250 = .ok (.bipush 19, 2)) (by decide) ?_
                  rcases rv_if_e h with ⟨g101_, h⟩ | ⟨g101_, h⟩
                  · refine re_icmp_ne_f (pc := 252) 264 (by decide +kernel : decode cX13_holds 252 = .ok (.if_icmp .ne 12, 3)) (by decide) g101_ ?_
                    refine re_aloadn (pc := 255) 4 (by decide +kernel : decode cX13_holds 255 = .ok (.aload_n 0, 1)) rfl ?_
                    refine re_iloadn (pc := 256) 6 (by decide +kernel : decode cX13_holds 256 = .ok (.iload_n 2, 1)) rfl ?_
                    refine re_iconst (pc := 257) (0 : Int32) (by decide +kernel : decode cX13_holds 257 = .ok (.iconst 0, 1)) (by decide) ?_
                    obtain ⟨u118_, g119_, h⟩ := rv_b_e h
                    obtain ⟨x121_, g122_, h⟩ := rv_b_e h
                    have m120_ := metX13_ofCoin n S a0 x2 (0 : Int32) _ g122_
                    refine re_cV (pc := 258) [.int x2, .int (0 : Int32)] m120_ (rv_okl.k ⟨rfl, rfl⟩) (rv_up.rf _ _) (by omega) (rv_ck_e g119_) ⟨by decide, rfl⟩ (Nat.le_of_ble_eq_true rfl) lVX13_271 rfl (by decide +kernel : decode cX13_holds 258 = .ok (.invokevirtual 271, 3)) ?_
                    refine re_goto (pc := 261) 291 (by decide +kernel : decode cX13_holds 261 = .ok (.goto 30, 3)) (by decide) ?_
                    refine re_sub [4, 3, 1] (lv1 := [(0, .ref a0), (3, .int x1_), (5, .int x9_)]) rfl ?_
                    exact eX13_holds_291 n G0 d hG0 S a0 x1_ x9_ x121_ _ _ h
                  · refine re_icmp_ne_t (pc := 252) 264 (by decide +kernel : decode cX13_holds 252 = .ok (.if_icmp .ne 12, 3)) (by decide) g101_ ?_
                    refine re_iload (pc := 264) 0 (by decide +kernel : decode cX13_holds 264 = .ok (.iload 6, 2)) rfl ?_
                    refine re_bipush (pc := 266) (20 : Int32) (by decide +kernel : decode cX13_holds 266 = .ok (.bipush 20, 2)) (by decide) ?_
                    rcases rv_if_e h with ⟨g102_, h⟩ | ⟨g102_, h⟩
                    · refine re_icmp_ne_f (pc := 268) 280 (by decide +kernel : decode cX13_holds 268 = .ok (.if_icmp .ne 12, 3)) (by decide) g102_ ?_
                      refine re_aloadn (pc := 271) 4 (by decide +kernel : decode cX13_holds 271 = .ok (.aload_n 0, 1)) rfl ?_
                      refine re_iloadn (pc := 272) 6 (by decide +kernel : decode cX13_holds 272 = .ok (.iload_n 2, 1)) rfl ?_
                      refine re_iconst (pc := 273) (2 : Int32) (by decide +kernel : decode cX13_holds 273 = .ok (.iconst 2, 1)) (by decide) ?_
                      obtain ⟨u113_, g114_, h⟩ := rv_b_e h
                      obtain ⟨x116_, g117_, h⟩ := rv_b_e h
                      have m115_ := metX13_ofCoin n S a0 x2 (2 : Int32) _ g117_
                      refine re_cV (pc := 274) [.int x2, .int (2 : Int32)] m115_ (rv_okl.k ⟨rfl, rfl⟩) (rv_up.rf _ _) (by omega) (rv_ck_e g114_) ⟨by decide, rfl⟩ (Nat.le_of_ble_eq_true rfl) lVX13_271 rfl (by decide +kernel : decode cX13_holds 274 = .ok (.invokevirtual 271, 3)) ?_
                      refine re_goto (pc := 277) 291 (by decide +kernel : decode cX13_holds 277 = .ok (.goto 14, 3)) (by decide) ?_
                      refine re_sub [4, 3, 1] (lv1 := [(0, .ref a0), (3, .int x1_), (5, .int x9_)]) rfl ?_
                      exact eX13_holds_291 n G0 d hG0 S a0 x1_ x9_ x116_ _ _ h
                    · refine re_icmp_ne_t (pc := 268) 280 (by decide +kernel : decode cX13_holds 268 = .ok (.if_icmp .ne 12, 3)) (by decide) g102_ ?_
                      refine re_aloadn (pc := 280) 4 (by decide +kernel : decode cX13_holds 280 = .ok (.aload_n 0, 1)) rfl ?_
                      refine re_aloadn (pc := 281) 4 (by decide +kernel : decode cX13_holds 281 = .ok (.aload_n 0, 1)) rfl ?_
                      refine re_iloadn (pc := 282) 6 (by decide +kernel : decode cX13_holds 282 = .ok (.iload_n 2, 1)) rfl ?_
                      refine re_iconst (pc := 283) (1 : Int32) (by decide +kernel : decode cX13_holds 283 = .ok (.iconst 1, 1)) (by decide) ?_
                      obtain ⟨u103_, g104_, h⟩ := rv_b_e h
                      obtain ⟨x106_, g107_, h⟩ := rv_b_e h
                      have m105_ := metX13_ofCoin n S a0 x2 (1 : Int32) _ g107_
                      refine re_cV (pc := 284) [.int x2, .int (1 : Int32)] m105_ (rv_okl.k ⟨rfl, rfl⟩) (rv_up.rf _ _) (by omega) (rv_ck_e g104_) ⟨by decide, rfl⟩ (Nat.le_of_ble_eq_true rfl) lVX13_271 rfl (by decide +kernel : decode cX13_holds 284 = .ok (.invokevirtual 271, 3)) ?_
                      refine re_iconst (pc := 287) (0 : Int32) (by decide +kernel : decode cX13_holds 287 = .ok (.iconst 0, 1)) (by decide) ?_
                      obtain ⟨u108_, g109_, h⟩ := rv_b_e h
                      obtain ⟨x111_, g112_, h⟩ := rv_b_e h
                      have m110_ := metX13_ofWho n S a0 x106_ (0 : Int32) _ g112_
                      refine re_cV (pc := 288) [.int x106_, .int (0 : Int32)] m110_ (rv_okl.k ⟨rfl, rfl⟩) (rv_up.rf _ _) (by omega) (rv_ck_e g109_) ⟨by decide, rfl⟩ (Nat.le_of_ble_eq_true rfl) lVX13_261 rfl (by decide +kernel : decode cX13_holds 288 = .ok (.invokevirtual 261, 3)) ?_
                      refine re_sub [4, 3, 1] (lv1 := [(0, .ref a0), (3, .int x1_), (5, .int x9_)]) rfl ?_
                      exact eX13_holds_291 n G0 d hG0 S a0 x1_ x9_ x111_ _ _ h
noncomputable def fGX13_holds (n : Nat) : Nat → (rvS → Nat → Int32 → Int32 → Option (Int32 × rvS))
  | 0 => (fun _ _ _ _ => none)
  | d + 1 => (fbX13_holds n ((fGX13_holds n d)))
theorem fGX13_holds_ok (n : Nat) : ∀ d : Nat, (∀ (S : rvS) (z0 : Nat) (z1 : Int32) (z2 : Int32) (r : Int32) (S' : rvS), ((fGX13_holds n d)) S z0 z1 z2 = some (r, S') → rv_Met yX13_holds mX13_holds (6 + d) [.ref z0, .int z1, .int z2] S (some (.int r)) S') := by
  intro d
  induction d with
  | zero => exact (by intros; rename_i h; exact absurd h (by simp [fGX13_holds]))
  | succ d ih =>
    have i0 := ih
    exact (fun S z0 z1 z2 r S' h => rv_Met.of ⟨by decide +kernel, rfl, (fun z => by first | rfl | cases z), rfl⟩ (Nat.le_of_ble_eq_true rfl) rfl (eX13_holds_in n ((fGX13_holds n d)) d i0 S z0 z1 z2 r S' h))
noncomputable def fnX13_holds (n d : Nat) : rvS → Nat → Int32 → Int32 → Option (Int32 × rvS) := (fGX13_holds n d)
theorem metX13_holds (n d : Nat) (S : rvS) (z0 : Nat) (z1 : Int32) (z2 : Int32) (r : Int32) (S' : rvS) (h : fnX13_holds n d S z0 z1 z2 = some (r, S')) : rv_Met yX13_holds mX13_holds (6 + d) [.ref z0, .int z1, .int z2] S (some (.int r)) S' := (fGX13_holds_ok n d) S z0 z1 z2 r S' h
noncomputable def cX13_said_69 (n : Nat) (S : rvS) (x1 : Int32) (x2 : Int32) : Option (Int32 × rvS) :=
  if x1 = (-1 : Int32) then (
    some (x2, S))
  else (
    some ((-1 : Int32), S))
set_option maxRecDepth 20000 in
set_option maxHeartbeats 4000000 in
theorem eX13_said_69 (n : Nat) (S : rvS) (x1 : Int32) (x2 : Int32) (r : Int32) (S' : rvS) (h : cX13_said_69 n S x1 x2 = some (r, S')) : rv_Ev mX13_said 135 69 [(1, .int x1), (2, .int x2)] [] S (some (.int r)) S' := by
  unfold cX13_said_69 at h
  refine re_iloadn (pc := 69) 0 (by decide +kernel : decode cX13_said 69 = .ok (.iload_n 1, 1)) rfl ?_
  refine re_iconst (pc := 70) (-1 : Int32) (by decide +kernel : decode cX13_said 70 = .ok (.iconst (-1), 1)) (by decide) ?_
  rcases rv_if_e h with ⟨g1_, h⟩ | ⟨g1_, h⟩
  · refine re_icmp_ne_f (pc := 71) 78 (by decide +kernel : decode cX13_said 71 = .ok (.if_icmp .ne 7, 3)) (by decide) g1_ ?_
    refine re_iloadn (pc := 74) 1 (by decide +kernel : decode cX13_said 74 = .ok (.iload_n 2, 1)) rfl ?_
    refine re_goto (pc := 75) 79 (by decide +kernel : decode cX13_said 75 = .ok (.goto 4, 3)) (by decide) ?_
    cases h
    exact re_iret (fun ty hty => by cases hty; rfl) (by decide +kernel : decode cX13_said 79 = .ok (.ireturn, 1))
  · refine re_icmp_ne_t (pc := 71) 78 (by decide +kernel : decode cX13_said 71 = .ok (.if_icmp .ne 7, 3)) (by decide) g1_ ?_
    refine re_iconst (pc := 78) (-1 : Int32) (by decide +kernel : decode cX13_said 78 = .ok (.iconst (-1), 1)) (by decide) ?_
    cases h
    exact re_iret (fun ty hty => by cases hty; rfl) (by decide +kernel : decode cX13_said 79 = .ok (.ireturn, 1))
noncomputable def cX13_said_26 (n : Nat) : Nat → rvS → Nat → Int32 → Int32 → Int32 → Option (Int32 × rvS)
  | 0, _, _, _, _, _ => none
  | k + 1, S, a0, x1, x2, x3 =>
    (rv_ck S 11 a0).bind fun u1_ =>
    (fnX13_coins n S a0).bind fun x4_ =>
    if x4_ ≤ x3 then (
      cX13_said_69 n S x1 x2)
    else (
      (rv_gR S 11 a0 14).bind fun a7_ =>
      (rv_aI S 0 a7_ (421 : Int32)).bind fun x9_ =>
      (rv_ck S 11 a0).bind fun u11_ =>
      rv_bp (fnX13_holds n 128 S a0 x9_ x3) fun x14_ S15_ =>
      if x14_ = 0 then (
        rv_lt (x3 + (1)) fun x24_ =>
        cX13_said_26 n k S15_ a0 x1 x2 x24_)
      else (
        if x2 = x1 then (
          some (x3, S15_))
        else (
          rv_lt (x2 + (1)) fun x20_ =>
          rv_lt (x3 + (1)) fun x22_ =>
          cX13_said_26 n k S15_ a0 x1 x20_ x22_)))
set_option maxRecDepth 20000 in
set_option maxHeartbeats 4000000 in
theorem eX13_said_26 (n : Nat) : ∀ (k : Nat) (S : rvS) (a0 : Nat) (x1 : Int32) (x2 : Int32) (x3 : Int32) (r : Int32) (S' : rvS), cX13_said_26 n k S a0 x1 x2 x3 = some (r, S') → rv_Ev mX13_said 135 26 [(0, .ref a0), (1, .int x1), (2, .int x2), (3, .int x3)] [] S (some (.int r)) S' := by
  intro k
  induction k with
  | zero => intro S a0 x1 x2 x3 r S' h; exact absurd h (by simp [cX13_said_26])
  | succ k ih =>
    intro S a0 x1 x2 x3 r S' h
    unfold cX13_said_26 at h
    refine re_iloadn (pc := 26) 3 (by decide +kernel : decode cX13_said 26 = .ok (.iload_n 3, 1)) rfl ?_
    refine re_aloadn (pc := 27) 0 (by decide +kernel : decode cX13_said 27 = .ok (.aload_n 0, 1)) rfl ?_
    obtain ⟨u1_, g2_, h⟩ := rv_b_e h
    obtain ⟨x4_, g5_, h⟩ := rv_b_e h
    have m3_ := metX13_coins n S a0 _ g5_
    refine re_cV (pc := 28) [] m3_ (rv_okl.k ⟨rfl, rfl⟩) (rv_up.rf _ _) (by decide) (rv_ck_e g2_) ⟨by decide, rfl⟩ (Nat.le_of_ble_eq_true rfl) lVX13_258 rfl (by decide +kernel : decode cX13_said 28 = .ok (.invokevirtual 258, 3)) ?_
    rcases rv_if_e h with ⟨g6_, h⟩ | ⟨g6_, h⟩
    · refine re_icmp_ge_t (pc := 31) 69 (by decide +kernel : decode cX13_said 31 = .ok (.if_icmp .ge 38, 3)) (by decide) g6_ ?_
      refine re_sub [1, 2] (lv1 := [(1, .int x1), (2, .int x2)]) rfl ?_
      exact eX13_said_69 n S x1 x2 _ _ h
    · refine re_icmp_ge_f (pc := 31) 69 (by decide +kernel : decode cX13_said 31 = .ok (.if_icmp .ge 38, 3)) (by decide) g6_ ?_
      refine re_aloadn (pc := 34) 0 (by decide +kernel : decode cX13_said 34 = .ok (.aload_n 0, 1)) rfl ?_
      refine re_aloadn (pc := 35) 0 (by decide +kernel : decode cX13_said 35 = .ok (.aload_n 0, 1)) rfl ?_
      obtain ⟨a7_, g8_, h⟩ := rv_b_e h
      refine re_gR (pc := 36) g8_ lfX13_13 rfl (by decide +kernel : decode cX13_said 36 = .ok (.getfield 13, 3)) ?_
      refine re_sipush (pc := 39) (421 : Int32) (by decide +kernel : decode cX13_said 39 = .ok (.sipush 421, 3)) (by decide) ?_
      obtain ⟨x9_, g10_, h⟩ := rv_b_e h
      refine re_aI (pc := 42) g10_ (by decide +kernel : decode cX13_said 42 = .ok (.iaload, 1)) ?_
      refine re_iloadn (pc := 43) 3 (by decide +kernel : decode cX13_said 43 = .ok (.iload_n 3, 1)) rfl ?_
      obtain ⟨u11_, g12_, h⟩ := rv_b_e h
      obtain ⟨x14_, S15_, g16_, h⟩ := rv_bp_e h
      have m13_ := metX13_holds n 128 S a0 x9_ x3 _ _ g16_
      have z17_ : rv_same S S15_ := m13_.sh rfl
      refine re_cV (pc := 44) [.int x9_, .int x3] m13_ (rv_okl.k z17_) (rv_up.sh z17_) (by decide) (rv_ck_e g12_) ⟨by decide, rfl⟩ (Nat.le_of_ble_eq_true rfl) lVX13_501 rfl (by decide +kernel : decode cX13_said 44 = .ok (.invokevirtual 501, 3)) ?_
      rcases rv_if_e h with ⟨g18_, h⟩ | ⟨g18_, h⟩
      · refine re_if_ne_f (pc := 47) 53 (by decide +kernel : decode cX13_said 47 = .ok (.ifCond .ne 6, 3)) (by decide) g18_ ?_
        refine re_goto (pc := 50) 63 (by decide +kernel : decode cX13_said 50 = .ok (.goto 13, 3)) (by decide) ?_
        obtain ⟨x24_, g25_, h⟩ := rv_lt_e h
        refine re_iinc (pc := 63) 3 x24_ (lv1 := [(3, .int x24_), (0, .ref a0), (1, .int x1), (2, .int x2)]) (by decide +kernel : decode cX13_said 63 = .ok (.iinc 3 1, 3)) rfl g25_ (by decide) rfl ?_
        refine re_goto (pc := 66) 26 (by decide +kernel : decode cX13_said 66 = .ok (.goto (-40), 3)) (by decide) ?_
        refine re_sub [1, 2, 3, 0] (lv1 := [(0, .ref a0), (1, .int x1), (2, .int x2), (3, .int x24_)]) rfl ?_
        exact ih S15_ a0 x1 x2 x24_ _ _ h
      · refine re_if_ne_t (pc := 47) 53 (by decide +kernel : decode cX13_said 47 = .ok (.ifCond .ne 6, 3)) (by decide) g18_ ?_
        refine re_iloadn (pc := 53) 2 (by decide +kernel : decode cX13_said 53 = .ok (.iload_n 2, 1)) rfl ?_
        refine re_iloadn (pc := 54) 1 (by decide +kernel : decode cX13_said 54 = .ok (.iload_n 1, 1)) rfl ?_
        rcases rv_if_e h with ⟨g19_, h⟩ | ⟨g19_, h⟩
        · refine re_icmp_ne_f (pc := 55) 60 (by decide +kernel : decode cX13_said 55 = .ok (.if_icmp .ne 5, 3)) (by decide) g19_ ?_
          refine re_iloadn (pc := 58) 3 (by decide +kernel : decode cX13_said 58 = .ok (.iload_n 3, 1)) rfl ?_
          cases h
          exact re_iret (fun ty hty => by cases hty; rfl) (by decide +kernel : decode cX13_said 59 = .ok (.ireturn, 1))
        · refine re_icmp_ne_t (pc := 55) 60 (by decide +kernel : decode cX13_said 55 = .ok (.if_icmp .ne 5, 3)) (by decide) g19_ ?_
          obtain ⟨x20_, g21_, h⟩ := rv_lt_e h
          refine re_iinc (pc := 60) 2 x20_ (lv1 := [(2, .int x20_), (0, .ref a0), (1, .int x1), (3, .int x3)]) (by decide +kernel : decode cX13_said 60 = .ok (.iinc 2 1, 3)) rfl g21_ (by decide) rfl ?_
          obtain ⟨x22_, g23_, h⟩ := rv_lt_e h
          refine re_iinc (pc := 63) 3 x22_ (lv1 := [(3, .int x22_), (2, .int x20_), (0, .ref a0), (1, .int x1)]) (by decide +kernel : decode cX13_said 63 = .ok (.iinc 3 1, 3)) rfl g23_ (by decide) rfl ?_
          refine re_goto (pc := 66) 26 (by decide +kernel : decode cX13_said 66 = .ok (.goto (-40), 3)) (by decide) ?_
          refine re_sub [2, 3, 1, 0] (lv1 := [(0, .ref a0), (1, .int x1), (2, .int x20_), (3, .int x22_)]) rfl ?_
          exact ih S15_ a0 x1 x20_ x22_ _ _ h
noncomputable def fnX13_said (n : Nat) (S : rvS) (a0 : Nat) (x1 : Int32) : Option (Int32 × rvS) :=
  (rv_pI S 11 a0 0 (0 : Int32)).bind fun S1_ =>
  (rv_ck S1_ 11 a0).bind fun u3_ =>
  (fnX13_lay n S1_ a0).bind fun S6_ =>
  (rv_gR S6_ 11 a0 14).bind fun a9_ =>
  (rv_aI S6_ 0 a9_ (420 : Int32)).bind fun x11_ =>
  if x11_ = 0 then (
    some ((-1 : Int32), S6_))
  else (
    cX13_said_26 n n S6_ a0 x1 (0 : Int32) (0 : Int32))
set_option maxRecDepth 20000 in
set_option maxHeartbeats 4000000 in
theorem eX13_said_in (n : Nat) (S : rvS) (a0 : Nat) (x1 : Int32) (r : Int32) (S' : rvS) (h : fnX13_said n S a0 x1 = some (r, S')) : rv_Ev mX13_said 135 0 [(0, .ref a0), (1, .int x1)] [] S (some (.int r)) S' := by
  unfold fnX13_said at h
  refine re_aloadn (pc := 0) 0 (by decide +kernel : decode cX13_said 0 = .ok (.aload_n 0, 1)) rfl ?_
  refine re_iconst (pc := 1) (0 : Int32) (by decide +kernel : decode cX13_said 1 = .ok (.iconst 0, 1)) (by decide) ?_
  obtain ⟨S1_, g2_, h⟩ := rv_b_e h
  refine re_pI (pc := 2) g2_ lfX13_99 rfl rfl rfl rfl (by decide +kernel : decode cX13_said 2 = .ok (.putfield 99, 3)) ?_
  refine re_aloadn (pc := 5) 0 (by decide +kernel : decode cX13_said 5 = .ok (.aload_n 0, 1)) rfl ?_
  obtain ⟨u3_, g4_, h⟩ := rv_b_e h
  obtain ⟨S6_, g7_, h⟩ := rv_b_e h
  have m5_ := metX13_lay n S1_ a0 _ g7_
  have z8_ : rv_same S1_ S6_ := m5_.sh rfl
  refine re_cV (pc := 6) [] m5_ (rv_okl.k z8_) (rv_up.sh z8_) (by decide) (rv_ck_e g4_) ⟨by decide, rfl⟩ (Nat.le_of_ble_eq_true rfl) lVX13_187 rfl (by decide +kernel : decode cX13_said 6 = .ok (.invokevirtual 187, 3)) ?_
  refine re_aloadn (pc := 9) 0 (by decide +kernel : decode cX13_said 9 = .ok (.aload_n 0, 1)) rfl ?_
  obtain ⟨a9_, g10_, h⟩ := rv_b_e h
  refine re_gR (pc := 10) g10_ lfX13_13 rfl (by decide +kernel : decode cX13_said 10 = .ok (.getfield 13, 3)) ?_
  refine re_sipush (pc := 13) (420 : Int32) (by decide +kernel : decode cX13_said 13 = .ok (.sipush 420, 3)) (by decide) ?_
  obtain ⟨x11_, g12_, h⟩ := rv_b_e h
  refine re_aI (pc := 16) g12_ (by decide +kernel : decode cX13_said 16 = .ok (.iaload, 1)) ?_
  rcases rv_if_e h with ⟨g13_, h⟩ | ⟨g13_, h⟩
  · refine re_if_ne_f (pc := 17) 22 (by decide +kernel : decode cX13_said 17 = .ok (.ifCond .ne 5, 3)) (by decide) g13_ ?_
    refine re_iconst (pc := 20) (-1 : Int32) (by decide +kernel : decode cX13_said 20 = .ok (.iconst (-1), 1)) (by decide) ?_
    cases h
    exact re_iret (fun ty hty => by cases hty; rfl) (by decide +kernel : decode cX13_said 21 = .ok (.ireturn, 1))
  · refine re_if_ne_t (pc := 17) 22 (by decide +kernel : decode cX13_said 17 = .ok (.ifCond .ne 5, 3)) (by decide) g13_ ?_
    refine re_iconst (pc := 22) (0 : Int32) (by decide +kernel : decode cX13_said 22 = .ok (.iconst 0, 1)) (by decide) ?_
    refine re_istoren (pc := 23) (lv1 := [(2, .int (0 : Int32)), (0, .ref a0), (1, .int x1)]) (by decide +kernel : decode cX13_said 23 = .ok (.istore_n 2, 1)) rfl (by decide) rfl ?_
    refine re_iconst (pc := 24) (0 : Int32) (by decide +kernel : decode cX13_said 24 = .ok (.iconst 0, 1)) (by decide) ?_
    refine re_istoren (pc := 25) (lv1 := [(3, .int (0 : Int32)), (2, .int (0 : Int32)), (0, .ref a0), (1, .int x1)]) (by decide +kernel : decode cX13_said 25 = .ok (.istore_n 3, 1)) rfl (by decide) rfl ?_
    refine re_sub [2, 3, 1, 0] (lv1 := [(0, .ref a0), (1, .int x1), (2, .int (0 : Int32)), (3, .int (0 : Int32))]) rfl ?_
    exact eX13_said_26 n n S6_ a0 x1 (0 : Int32) (0 : Int32) _ _ h
theorem metX13_said (n : Nat) (S : rvS) (a0 : Nat) (x1 : Int32) (r : Int32) (S' : rvS) (h : fnX13_said n S a0 x1 = some (r, S')) : rv_Met yX13_said mX13_said 135 [.ref a0, .int x1] S (some (.int r)) S' := rv_Met.of ⟨by decide +kernel, rfl, (fun z => by first | rfl | cases z), rfl⟩ (Nat.le_of_ble_eq_true rfl) rfl (eX13_said_in n S a0 x1 r S' h)
noncomputable def cX13_image_84 (n : Nat) (S : rvS) (a0 : Nat) (x1 : Int32) : Option (Int32 × rvS) :=
  (rv_gR S 11 a0 21).bind fun a1_ =>
  (rv_uZ S a1_ x1 (1 : Int32)).bind fun S3_ =>
  some ((1 : Int32), S3_)
set_option maxRecDepth 20000 in
set_option maxHeartbeats 4000000 in
theorem eX13_image_84 (n : Nat) (S : rvS) (a0 : Nat) (x1 : Int32) (r : Int32) (S' : rvS) (h : cX13_image_84 n S a0 x1 = some (r, S')) : rv_Ev mX13_image 2 84 [(0, .ref a0), (1, .int x1)] [] S (some (.int r)) S' := by
  unfold cX13_image_84 at h
  refine re_aloadn (pc := 84) 0 (by decide +kernel : decode cX13_image 84 = .ok (.aload_n 0, 1)) rfl ?_
  obtain ⟨a1_, g2_, h⟩ := rv_b_e h
  refine re_gR (pc := 85) g2_ lfX13_35 rfl (by decide +kernel : decode cX13_image 85 = .ok (.getfield 35, 3)) ?_
  refine re_iloadn (pc := 88) 1 (by decide +kernel : decode cX13_image 88 = .ok (.iload_n 1, 1)) rfl ?_
  refine re_iconst (pc := 89) (1 : Int32) (by decide +kernel : decode cX13_image 89 = .ok (.iconst 1, 1)) (by decide) ?_
  obtain ⟨S3_, g4_, h⟩ := rv_b_e h
  refine re_uZ (pc := 90) g4_ (by decide +kernel : decode cX13_image 90 = .ok (.bastore, 1)) ?_
  refine re_iconst (pc := 91) (1 : Int32) (by decide +kernel : decode cX13_image 91 = .ok (.iconst 1, 1)) (by decide) ?_
  cases h
  exact re_iret (fun ty hty => by cases hty; rfl) (by decide +kernel : decode cX13_image 92 = .ok (.ireturn, 1))
noncomputable def cX13_image_55 (n : Nat) : Nat → rvS → Nat → Int32 → Int32 → Option (Int32 × rvS)
  | 0, _, _, _, _ => none
  | k + 1, S, a0, x1, x2 =>
    if (16 : Int32) ≤ x2 then (
      cX13_image_84 n S a0 x1)
    else (
      (rv_gR S 11 a0 20).bind fun a2_ =>
      (rv_gR S 11 a0 18).bind fun a4_ =>
      (rv_aL S a4_ x2).bind fun x6_ =>
      (rv_uL S a2_ (((16 : Int32) * x1) + x2) x6_).bind fun S8_ =>
      rv_lt (x2 + (1)) fun x10_ =>
      cX13_image_55 n k S8_ a0 x1 x10_)
set_option maxRecDepth 20000 in
set_option maxHeartbeats 4000000 in
theorem eX13_image_55 (n : Nat) : ∀ (k : Nat) (S : rvS) (a0 : Nat) (x1 : Int32) (x2 : Int32) (r : Int32) (S' : rvS), cX13_image_55 n k S a0 x1 x2 = some (r, S') → rv_Ev mX13_image 2 55 [(0, .ref a0), (1, .int x1), (2, .int x2)] [] S (some (.int r)) S' := by
  intro k
  induction k with
  | zero => intro S a0 x1 x2 r S' h; exact absurd h (by simp [cX13_image_55])
  | succ k ih =>
    intro S a0 x1 x2 r S' h
    unfold cX13_image_55 at h
    refine re_iloadn (pc := 55) 2 (by decide +kernel : decode cX13_image 55 = .ok (.iload_n 2, 1)) rfl ?_
    refine re_bipush (pc := 56) (16 : Int32) (by decide +kernel : decode cX13_image 56 = .ok (.bipush 16, 2)) (by decide) ?_
    rcases rv_if_e h with ⟨g1_, h⟩ | ⟨g1_, h⟩
    · refine re_icmp_ge_t (pc := 58) 84 (by decide +kernel : decode cX13_image 58 = .ok (.if_icmp .ge 26, 3)) (by decide) g1_ ?_
      refine re_sub [0, 1] (lv1 := [(0, .ref a0), (1, .int x1)]) rfl ?_
      exact eX13_image_84 n S a0 x1 _ _ h
    · refine re_icmp_ge_f (pc := 58) 84 (by decide +kernel : decode cX13_image 58 = .ok (.if_icmp .ge 26, 3)) (by decide) g1_ ?_
      refine re_aloadn (pc := 61) 0 (by decide +kernel : decode cX13_image 61 = .ok (.aload_n 0, 1)) rfl ?_
      obtain ⟨a2_, g3_, h⟩ := rv_b_e h
      refine re_gR (pc := 62) g3_ lfX13_32 rfl (by decide +kernel : decode cX13_image 62 = .ok (.getfield 32, 3)) ?_
      refine re_bipush (pc := 65) (16 : Int32) (by decide +kernel : decode cX13_image 65 = .ok (.bipush 16, 2)) (by decide) ?_
      refine re_iloadn (pc := 67) 1 (by decide +kernel : decode cX13_image 67 = .ok (.iload_n 1, 1)) rfl ?_
      refine re_imul (pc := 68) (by decide +kernel : decode cX13_image 68 = .ok (.imul, 1)) ?_
      refine re_iloadn (pc := 69) 2 (by decide +kernel : decode cX13_image 69 = .ok (.iload_n 2, 1)) rfl ?_
      refine re_iadd (pc := 70) (by decide +kernel : decode cX13_image 70 = .ok (.iadd, 1)) ?_
      refine re_aloadn (pc := 71) 0 (by decide +kernel : decode cX13_image 71 = .ok (.aload_n 0, 1)) rfl ?_
      obtain ⟨a4_, g5_, h⟩ := rv_b_e h
      refine re_gR (pc := 72) g5_ lfX13_25 rfl (by decide +kernel : decode cX13_image 72 = .ok (.getfield 25, 3)) ?_
      refine re_iloadn (pc := 75) 2 (by decide +kernel : decode cX13_image 75 = .ok (.iload_n 2, 1)) rfl ?_
      obtain ⟨x6_, g7_, h⟩ := rv_b_e h
      refine re_aL (pc := 76) g7_ (by decide +kernel : decode cX13_image 76 = .ok (.laload, 1)) ?_
      obtain ⟨S8_, g9_, h⟩ := rv_b_e h
      refine re_uL (pc := 77) g9_ (by decide +kernel : decode cX13_image 77 = .ok (.lastore, 1)) ?_
      obtain ⟨x10_, g11_, h⟩ := rv_lt_e h
      refine re_iinc (pc := 78) 2 x10_ (lv1 := [(2, .int x10_), (0, .ref a0), (1, .int x1)]) (by decide +kernel : decode cX13_image 78 = .ok (.iinc 2 1, 3)) rfl g11_ (by decide) rfl ?_
      refine re_goto (pc := 81) 55 (by decide +kernel : decode cX13_image 81 = .ok (.goto (-26), 3)) (by decide) ?_
      refine re_sub [1, 2, 0] (lv1 := [(0, .ref a0), (1, .int x1), (2, .int x10_)]) rfl ?_
      exact ih S8_ a0 x1 x10_ _ _ h
noncomputable def cX13_image_22 (n : Nat) : Nat → rvS → Nat → Int32 → Int32 → Option (Int32 × rvS)
  | 0, _, _, _, _ => none
  | k + 1, S, a0, x1, x2 =>
    if (662 : Int32) ≤ x2 then (
      cX13_image_55 n n S a0 x1 (0 : Int32))
    else (
      (rv_gR S 11 a0 16).bind fun a2_ =>
      (rv_gR S 11 a0 14).bind fun a4_ =>
      (rv_aI S 0 a4_ x2).bind fun x6_ =>
      (rv_uI S a2_ (((662 : Int32) * x1) + x2) x6_).bind fun S8_ =>
      rv_lt (x2 + (1)) fun x10_ =>
      cX13_image_22 n k S8_ a0 x1 x10_)
set_option maxRecDepth 20000 in
set_option maxHeartbeats 4000000 in
theorem eX13_image_22 (n : Nat) : ∀ (k : Nat) (S : rvS) (a0 : Nat) (x1 : Int32) (x2 : Int32) (r : Int32) (S' : rvS), cX13_image_22 n k S a0 x1 x2 = some (r, S') → rv_Ev mX13_image 2 22 [(0, .ref a0), (1, .int x1), (2, .int x2)] [] S (some (.int r)) S' := by
  intro k
  induction k with
  | zero => intro S a0 x1 x2 r S' h; exact absurd h (by simp [cX13_image_22])
  | succ k ih =>
    intro S a0 x1 x2 r S' h
    unfold cX13_image_22 at h
    refine re_iloadn (pc := 22) 2 (by decide +kernel : decode cX13_image 22 = .ok (.iload_n 2, 1)) rfl ?_
    refine re_sipush (pc := 23) (662 : Int32) (by decide +kernel : decode cX13_image 23 = .ok (.sipush 662, 3)) (by decide) ?_
    rcases rv_if_e h with ⟨g1_, h⟩ | ⟨g1_, h⟩
    · refine re_icmp_ge_t (pc := 26) 53 (by decide +kernel : decode cX13_image 26 = .ok (.if_icmp .ge 27, 3)) (by decide) g1_ ?_
      refine re_iconst (pc := 53) (0 : Int32) (by decide +kernel : decode cX13_image 53 = .ok (.iconst 0, 1)) (by decide) ?_
      refine re_istoren (pc := 54) (lv1 := [(2, .int (0 : Int32)), (0, .ref a0), (1, .int x1)]) (by decide +kernel : decode cX13_image 54 = .ok (.istore_n 2, 1)) rfl (by decide) rfl ?_
      refine re_sub [1, 2, 0] (lv1 := [(0, .ref a0), (1, .int x1), (2, .int (0 : Int32))]) rfl ?_
      exact eX13_image_55 n n S a0 x1 (0 : Int32) _ _ h
    · refine re_icmp_ge_f (pc := 26) 53 (by decide +kernel : decode cX13_image 26 = .ok (.if_icmp .ge 27, 3)) (by decide) g1_ ?_
      refine re_aloadn (pc := 29) 0 (by decide +kernel : decode cX13_image 29 = .ok (.aload_n 0, 1)) rfl ?_
      obtain ⟨a2_, g3_, h⟩ := rv_b_e h
      refine re_gR (pc := 30) g3_ lfX13_19 rfl (by decide +kernel : decode cX13_image 30 = .ok (.getfield 19, 3)) ?_
      refine re_sipush (pc := 33) (662 : Int32) (by decide +kernel : decode cX13_image 33 = .ok (.sipush 662, 3)) (by decide) ?_
      refine re_iloadn (pc := 36) 1 (by decide +kernel : decode cX13_image 36 = .ok (.iload_n 1, 1)) rfl ?_
      refine re_imul (pc := 37) (by decide +kernel : decode cX13_image 37 = .ok (.imul, 1)) ?_
      refine re_iloadn (pc := 38) 2 (by decide +kernel : decode cX13_image 38 = .ok (.iload_n 2, 1)) rfl ?_
      refine re_iadd (pc := 39) (by decide +kernel : decode cX13_image 39 = .ok (.iadd, 1)) ?_
      refine re_aloadn (pc := 40) 0 (by decide +kernel : decode cX13_image 40 = .ok (.aload_n 0, 1)) rfl ?_
      obtain ⟨a4_, g5_, h⟩ := rv_b_e h
      refine re_gR (pc := 41) g5_ lfX13_13 rfl (by decide +kernel : decode cX13_image 41 = .ok (.getfield 13, 3)) ?_
      refine re_iloadn (pc := 44) 2 (by decide +kernel : decode cX13_image 44 = .ok (.iload_n 2, 1)) rfl ?_
      obtain ⟨x6_, g7_, h⟩ := rv_b_e h
      refine re_aI (pc := 45) g7_ (by decide +kernel : decode cX13_image 45 = .ok (.iaload, 1)) ?_
      obtain ⟨S8_, g9_, h⟩ := rv_b_e h
      refine re_uI (pc := 46) g9_ (by decide +kernel : decode cX13_image 46 = .ok (.iastore, 1)) ?_
      obtain ⟨x10_, g11_, h⟩ := rv_lt_e h
      refine re_iinc (pc := 47) 2 x10_ (lv1 := [(2, .int x10_), (0, .ref a0), (1, .int x1)]) (by decide +kernel : decode cX13_image 47 = .ok (.iinc 2 1, 3)) rfl g11_ (by decide) rfl ?_
      refine re_goto (pc := 50) 22 (by decide +kernel : decode cX13_image 50 = .ok (.goto (-28), 3)) (by decide) ?_
      refine re_sub [1, 2, 0] (lv1 := [(0, .ref a0), (1, .int x1), (2, .int x10_)]) rfl ?_
      exact ih S8_ a0 x1 x10_ _ _ h
noncomputable def fnX13_image (n : Nat) (S : rvS) (a0 : Nat) (x1 : Int32) : Option (Int32 × rvS) :=
  (rv_pI S 11 a0 0 (0 : Int32)).bind fun S1_ =>
  (rv_ck S1_ 11 a0).bind fun u3_ =>
  (fnX13_lay n S1_ a0).bind fun S6_ =>
  (fnX13_isIn n S6_ x1 (0 : Int32) (1 : Int32)).bind fun x10_ =>
  if x10_ = 0 then (
    some ((0 : Int32), S6_))
  else (
    cX13_image_22 n n S6_ a0 x1 (0 : Int32))
set_option maxRecDepth 20000 in
set_option maxHeartbeats 4000000 in
theorem eX13_image_in (n : Nat) (S : rvS) (a0 : Nat) (x1 : Int32) (r : Int32) (S' : rvS) (h : fnX13_image n S a0 x1 = some (r, S')) : rv_Ev mX13_image 2 0 [(0, .ref a0), (1, .int x1)] [] S (some (.int r)) S' := by
  unfold fnX13_image at h
  refine re_aloadn (pc := 0) 0 (by decide +kernel : decode cX13_image 0 = .ok (.aload_n 0, 1)) rfl ?_
  refine re_iconst (pc := 1) (0 : Int32) (by decide +kernel : decode cX13_image 1 = .ok (.iconst 0, 1)) (by decide) ?_
  obtain ⟨S1_, g2_, h⟩ := rv_b_e h
  refine re_pI (pc := 2) g2_ lfX13_99 rfl rfl rfl rfl (by decide +kernel : decode cX13_image 2 = .ok (.putfield 99, 3)) ?_
  refine re_aloadn (pc := 5) 0 (by decide +kernel : decode cX13_image 5 = .ok (.aload_n 0, 1)) rfl ?_
  obtain ⟨u3_, g4_, h⟩ := rv_b_e h
  obtain ⟨S6_, g7_, h⟩ := rv_b_e h
  have m5_ := metX13_lay n S1_ a0 _ g7_
  have z8_ : rv_same S1_ S6_ := m5_.sh rfl
  refine re_cV (pc := 6) [] m5_ (rv_okl.k z8_) (rv_up.sh z8_) (by decide) (rv_ck_e g4_) ⟨by decide, rfl⟩ (Nat.le_of_ble_eq_true rfl) lVX13_187 rfl (by decide +kernel : decode cX13_image 6 = .ok (.invokevirtual 187, 3)) ?_
  refine re_iloadn (pc := 9) 1 (by decide +kernel : decode cX13_image 9 = .ok (.iload_n 1, 1)) rfl ?_
  refine re_iconst (pc := 10) (0 : Int32) (by decide +kernel : decode cX13_image 10 = .ok (.iconst 0, 1)) (by decide) ?_
  refine re_iconst (pc := 11) (1 : Int32) (by decide +kernel : decode cX13_image 11 = .ok (.iconst 1, 1)) (by decide) ?_
  obtain ⟨x10_, g11_, h⟩ := rv_b_e h
  have m9_ := metX13_isIn n S6_ x1 (0 : Int32) (1 : Int32) _ g11_
  refine re_cS (pc := 12) [.int x1, .int (0 : Int32), .int (1 : Int32)] m9_ (rv_okl.k ⟨rfl, rfl⟩) (rv_up.rf _ _) (by decide) (Nat.le_of_ble_eq_true rfl) lSX13_170 rfl (by decide +kernel : decode cX13_image 12 = .ok (.invokestatic 170, 3)) ?_
  rcases rv_if_e h with ⟨g12_, h⟩ | ⟨g12_, h⟩
  · refine re_if_ne_f (pc := 15) 20 (by decide +kernel : decode cX13_image 15 = .ok (.ifCond .ne 5, 3)) (by decide) g12_ ?_
    refine re_iconst (pc := 18) (0 : Int32) (by decide +kernel : decode cX13_image 18 = .ok (.iconst 0, 1)) (by decide) ?_
    cases h
    exact re_iret (fun ty hty => by cases hty; rfl) (by decide +kernel : decode cX13_image 19 = .ok (.ireturn, 1))
  · refine re_if_ne_t (pc := 15) 20 (by decide +kernel : decode cX13_image 15 = .ok (.ifCond .ne 5, 3)) (by decide) g12_ ?_
    refine re_iconst (pc := 20) (0 : Int32) (by decide +kernel : decode cX13_image 20 = .ok (.iconst 0, 1)) (by decide) ?_
    refine re_istoren (pc := 21) (lv1 := [(2, .int (0 : Int32)), (0, .ref a0), (1, .int x1)]) (by decide +kernel : decode cX13_image 21 = .ok (.istore_n 2, 1)) rfl (by decide) rfl ?_
    refine re_sub [1, 2, 0] (lv1 := [(0, .ref a0), (1, .int x1), (2, .int (0 : Int32))]) rfl ?_
    exact eX13_image_22 n n S6_ a0 x1 (0 : Int32) _ _ h
theorem metX13_image (n : Nat) (S : rvS) (a0 : Nat) (x1 : Int32) (r : Int32) (S' : rvS) (h : fnX13_image n S a0 x1 = some (r, S')) : rv_Met yX13_image mX13_image 2 [.ref a0, .int x1] S (some (.int r)) S' := rv_Met.of ⟨by decide +kernel, rfl, (fun z => by first | rfl | cases z), rfl⟩ (Nat.le_of_ble_eq_true rfl) rfl (eX13_image_in n S a0 x1 r S' h)
noncomputable def cX13_restore_64 (n : Nat) : Nat → rvS → Nat → Int32 → Int32 → Option (Int32 × rvS)
  | 0, _, _, _, _ => none
  | k + 1, S, a0, x1, x2 =>
    if (16 : Int32) ≤ x2 then (
      some ((1 : Int32), S))
    else (
      (rv_gR S 11 a0 18).bind fun a2_ =>
      (rv_gR S 11 a0 20).bind fun a4_ =>
      (rv_aL S a4_ (((16 : Int32) * x1) + x2)).bind fun x6_ =>
      (rv_uL S a2_ x2 x6_).bind fun S8_ =>
      rv_lt (x2 + (1)) fun x10_ =>
      cX13_restore_64 n k S8_ a0 x1 x10_)
set_option maxRecDepth 20000 in
set_option maxHeartbeats 4000000 in
theorem eX13_restore_64 (n : Nat) : ∀ (k : Nat) (S : rvS) (a0 : Nat) (x1 : Int32) (x2 : Int32) (r : Int32) (S' : rvS), cX13_restore_64 n k S a0 x1 x2 = some (r, S') → rv_Ev mX13_restore 2 64 [(0, .ref a0), (1, .int x1), (2, .int x2)] [] S (some (.int r)) S' := by
  intro k
  induction k with
  | zero => intro S a0 x1 x2 r S' h; exact absurd h (by simp [cX13_restore_64])
  | succ k ih =>
    intro S a0 x1 x2 r S' h
    unfold cX13_restore_64 at h
    refine re_iloadn (pc := 64) 2 (by decide +kernel : decode cX13_restore 64 = .ok (.iload_n 2, 1)) rfl ?_
    refine re_bipush (pc := 65) (16 : Int32) (by decide +kernel : decode cX13_restore 65 = .ok (.bipush 16, 2)) (by decide) ?_
    rcases rv_if_e h with ⟨g1_, h⟩ | ⟨g1_, h⟩
    · refine re_icmp_ge_t (pc := 67) 93 (by decide +kernel : decode cX13_restore 67 = .ok (.if_icmp .ge 26, 3)) (by decide) g1_ ?_
      refine re_iconst (pc := 93) (1 : Int32) (by decide +kernel : decode cX13_restore 93 = .ok (.iconst 1, 1)) (by decide) ?_
      cases h
      exact re_iret (fun ty hty => by cases hty; rfl) (by decide +kernel : decode cX13_restore 94 = .ok (.ireturn, 1))
    · refine re_icmp_ge_f (pc := 67) 93 (by decide +kernel : decode cX13_restore 67 = .ok (.if_icmp .ge 26, 3)) (by decide) g1_ ?_
      refine re_aloadn (pc := 70) 0 (by decide +kernel : decode cX13_restore 70 = .ok (.aload_n 0, 1)) rfl ?_
      obtain ⟨a2_, g3_, h⟩ := rv_b_e h
      refine re_gR (pc := 71) g3_ lfX13_25 rfl (by decide +kernel : decode cX13_restore 71 = .ok (.getfield 25, 3)) ?_
      refine re_iloadn (pc := 74) 2 (by decide +kernel : decode cX13_restore 74 = .ok (.iload_n 2, 1)) rfl ?_
      refine re_aloadn (pc := 75) 0 (by decide +kernel : decode cX13_restore 75 = .ok (.aload_n 0, 1)) rfl ?_
      obtain ⟨a4_, g5_, h⟩ := rv_b_e h
      refine re_gR (pc := 76) g5_ lfX13_32 rfl (by decide +kernel : decode cX13_restore 76 = .ok (.getfield 32, 3)) ?_
      refine re_bipush (pc := 79) (16 : Int32) (by decide +kernel : decode cX13_restore 79 = .ok (.bipush 16, 2)) (by decide) ?_
      refine re_iloadn (pc := 81) 1 (by decide +kernel : decode cX13_restore 81 = .ok (.iload_n 1, 1)) rfl ?_
      refine re_imul (pc := 82) (by decide +kernel : decode cX13_restore 82 = .ok (.imul, 1)) ?_
      refine re_iloadn (pc := 83) 2 (by decide +kernel : decode cX13_restore 83 = .ok (.iload_n 2, 1)) rfl ?_
      refine re_iadd (pc := 84) (by decide +kernel : decode cX13_restore 84 = .ok (.iadd, 1)) ?_
      obtain ⟨x6_, g7_, h⟩ := rv_b_e h
      refine re_aL (pc := 85) g7_ (by decide +kernel : decode cX13_restore 85 = .ok (.laload, 1)) ?_
      obtain ⟨S8_, g9_, h⟩ := rv_b_e h
      refine re_uL (pc := 86) g9_ (by decide +kernel : decode cX13_restore 86 = .ok (.lastore, 1)) ?_
      obtain ⟨x10_, g11_, h⟩ := rv_lt_e h
      refine re_iinc (pc := 87) 2 x10_ (lv1 := [(2, .int x10_), (0, .ref a0), (1, .int x1)]) (by decide +kernel : decode cX13_restore 87 = .ok (.iinc 2 1, 3)) rfl g11_ (by decide) rfl ?_
      refine re_goto (pc := 90) 64 (by decide +kernel : decode cX13_restore 90 = .ok (.goto (-26), 3)) (by decide) ?_
      refine re_sub [1, 2, 0] (lv1 := [(0, .ref a0), (1, .int x1), (2, .int x10_)]) rfl ?_
      exact ih S8_ a0 x1 x10_ _ _ h
noncomputable def cX13_restore_31 (n : Nat) : Nat → rvS → Nat → Int32 → Int32 → Option (Int32 × rvS)
  | 0, _, _, _, _ => none
  | k + 1, S, a0, x1, x2 =>
    if (662 : Int32) ≤ x2 then (
      cX13_restore_64 n n S a0 x1 (0 : Int32))
    else (
      (rv_gR S 11 a0 14).bind fun a2_ =>
      (rv_gR S 11 a0 16).bind fun a4_ =>
      (rv_aI S 0 a4_ (((662 : Int32) * x1) + x2)).bind fun x6_ =>
      (rv_uI S a2_ x2 x6_).bind fun S8_ =>
      rv_lt (x2 + (1)) fun x10_ =>
      cX13_restore_31 n k S8_ a0 x1 x10_)
set_option maxRecDepth 20000 in
set_option maxHeartbeats 4000000 in
theorem eX13_restore_31 (n : Nat) : ∀ (k : Nat) (S : rvS) (a0 : Nat) (x1 : Int32) (x2 : Int32) (r : Int32) (S' : rvS), cX13_restore_31 n k S a0 x1 x2 = some (r, S') → rv_Ev mX13_restore 2 31 [(0, .ref a0), (1, .int x1), (2, .int x2)] [] S (some (.int r)) S' := by
  intro k
  induction k with
  | zero => intro S a0 x1 x2 r S' h; exact absurd h (by simp [cX13_restore_31])
  | succ k ih =>
    intro S a0 x1 x2 r S' h
    unfold cX13_restore_31 at h
    refine re_iloadn (pc := 31) 2 (by decide +kernel : decode cX13_restore 31 = .ok (.iload_n 2, 1)) rfl ?_
    refine re_sipush (pc := 32) (662 : Int32) (by decide +kernel : decode cX13_restore 32 = .ok (.sipush 662, 3)) (by decide) ?_
    rcases rv_if_e h with ⟨g1_, h⟩ | ⟨g1_, h⟩
    · refine re_icmp_ge_t (pc := 35) 62 (by decide +kernel : decode cX13_restore 35 = .ok (.if_icmp .ge 27, 3)) (by decide) g1_ ?_
      refine re_iconst (pc := 62) (0 : Int32) (by decide +kernel : decode cX13_restore 62 = .ok (.iconst 0, 1)) (by decide) ?_
      refine re_istoren (pc := 63) (lv1 := [(2, .int (0 : Int32)), (0, .ref a0), (1, .int x1)]) (by decide +kernel : decode cX13_restore 63 = .ok (.istore_n 2, 1)) rfl (by decide) rfl ?_
      refine re_sub [1, 2, 0] (lv1 := [(0, .ref a0), (1, .int x1), (2, .int (0 : Int32))]) rfl ?_
      exact eX13_restore_64 n n S a0 x1 (0 : Int32) _ _ h
    · refine re_icmp_ge_f (pc := 35) 62 (by decide +kernel : decode cX13_restore 35 = .ok (.if_icmp .ge 27, 3)) (by decide) g1_ ?_
      refine re_aloadn (pc := 38) 0 (by decide +kernel : decode cX13_restore 38 = .ok (.aload_n 0, 1)) rfl ?_
      obtain ⟨a2_, g3_, h⟩ := rv_b_e h
      refine re_gR (pc := 39) g3_ lfX13_13 rfl (by decide +kernel : decode cX13_restore 39 = .ok (.getfield 13, 3)) ?_
      refine re_iloadn (pc := 42) 2 (by decide +kernel : decode cX13_restore 42 = .ok (.iload_n 2, 1)) rfl ?_
      refine re_aloadn (pc := 43) 0 (by decide +kernel : decode cX13_restore 43 = .ok (.aload_n 0, 1)) rfl ?_
      obtain ⟨a4_, g5_, h⟩ := rv_b_e h
      refine re_gR (pc := 44) g5_ lfX13_19 rfl (by decide +kernel : decode cX13_restore 44 = .ok (.getfield 19, 3)) ?_
      refine re_sipush (pc := 47) (662 : Int32) (by decide +kernel : decode cX13_restore 47 = .ok (.sipush 662, 3)) (by decide) ?_
      refine re_iloadn (pc := 50) 1 (by decide +kernel : decode cX13_restore 50 = .ok (.iload_n 1, 1)) rfl ?_
      refine re_imul (pc := 51) (by decide +kernel : decode cX13_restore 51 = .ok (.imul, 1)) ?_
      refine re_iloadn (pc := 52) 2 (by decide +kernel : decode cX13_restore 52 = .ok (.iload_n 2, 1)) rfl ?_
      refine re_iadd (pc := 53) (by decide +kernel : decode cX13_restore 53 = .ok (.iadd, 1)) ?_
      obtain ⟨x6_, g7_, h⟩ := rv_b_e h
      refine re_aI (pc := 54) g7_ (by decide +kernel : decode cX13_restore 54 = .ok (.iaload, 1)) ?_
      obtain ⟨S8_, g9_, h⟩ := rv_b_e h
      refine re_uI (pc := 55) g9_ (by decide +kernel : decode cX13_restore 55 = .ok (.iastore, 1)) ?_
      obtain ⟨x10_, g11_, h⟩ := rv_lt_e h
      refine re_iinc (pc := 56) 2 x10_ (lv1 := [(2, .int x10_), (0, .ref a0), (1, .int x1)]) (by decide +kernel : decode cX13_restore 56 = .ok (.iinc 2 1, 3)) rfl g11_ (by decide) rfl ?_
      refine re_goto (pc := 59) 31 (by decide +kernel : decode cX13_restore 59 = .ok (.goto (-28), 3)) (by decide) ?_
      refine re_sub [1, 2, 0] (lv1 := [(0, .ref a0), (1, .int x1), (2, .int x10_)]) rfl ?_
      exact ih S8_ a0 x1 x10_ _ _ h
noncomputable def fnX13_restore (n : Nat) (S : rvS) (a0 : Nat) (x1 : Int32) : Option (Int32 × rvS) :=
  (rv_pI S 11 a0 0 (0 : Int32)).bind fun S1_ =>
  (rv_ck S1_ 11 a0).bind fun u3_ =>
  (fnX13_lay n S1_ a0).bind fun S6_ =>
  (fnX13_isIn n S6_ x1 (0 : Int32) (1 : Int32)).bind fun x10_ =>
  if x10_ = 0 then (
    some ((0 : Int32), S6_))
  else (
    (rv_gR S6_ 11 a0 21).bind fun a13_ =>
    (rv_aI S6_ 3 a13_ x1).bind fun x15_ =>
    if x15_ = 0 then (
      some ((0 : Int32), S6_))
    else (
      cX13_restore_31 n n S6_ a0 x1 (0 : Int32)))
set_option maxRecDepth 20000 in
set_option maxHeartbeats 4000000 in
theorem eX13_restore_in (n : Nat) (S : rvS) (a0 : Nat) (x1 : Int32) (r : Int32) (S' : rvS) (h : fnX13_restore n S a0 x1 = some (r, S')) : rv_Ev mX13_restore 2 0 [(0, .ref a0), (1, .int x1)] [] S (some (.int r)) S' := by
  unfold fnX13_restore at h
  refine re_aloadn (pc := 0) 0 (by decide +kernel : decode cX13_restore 0 = .ok (.aload_n 0, 1)) rfl ?_
  refine re_iconst (pc := 1) (0 : Int32) (by decide +kernel : decode cX13_restore 1 = .ok (.iconst 0, 1)) (by decide) ?_
  obtain ⟨S1_, g2_, h⟩ := rv_b_e h
  refine re_pI (pc := 2) g2_ lfX13_99 rfl rfl rfl rfl (by decide +kernel : decode cX13_restore 2 = .ok (.putfield 99, 3)) ?_
  refine re_aloadn (pc := 5) 0 (by decide +kernel : decode cX13_restore 5 = .ok (.aload_n 0, 1)) rfl ?_
  obtain ⟨u3_, g4_, h⟩ := rv_b_e h
  obtain ⟨S6_, g7_, h⟩ := rv_b_e h
  have m5_ := metX13_lay n S1_ a0 _ g7_
  have z8_ : rv_same S1_ S6_ := m5_.sh rfl
  refine re_cV (pc := 6) [] m5_ (rv_okl.k z8_) (rv_up.sh z8_) (by decide) (rv_ck_e g4_) ⟨by decide, rfl⟩ (Nat.le_of_ble_eq_true rfl) lVX13_187 rfl (by decide +kernel : decode cX13_restore 6 = .ok (.invokevirtual 187, 3)) ?_
  refine re_iloadn (pc := 9) 1 (by decide +kernel : decode cX13_restore 9 = .ok (.iload_n 1, 1)) rfl ?_
  refine re_iconst (pc := 10) (0 : Int32) (by decide +kernel : decode cX13_restore 10 = .ok (.iconst 0, 1)) (by decide) ?_
  refine re_iconst (pc := 11) (1 : Int32) (by decide +kernel : decode cX13_restore 11 = .ok (.iconst 1, 1)) (by decide) ?_
  obtain ⟨x10_, g11_, h⟩ := rv_b_e h
  have m9_ := metX13_isIn n S6_ x1 (0 : Int32) (1 : Int32) _ g11_
  refine re_cS (pc := 12) [.int x1, .int (0 : Int32), .int (1 : Int32)] m9_ (rv_okl.k ⟨rfl, rfl⟩) (rv_up.rf _ _) (by decide) (Nat.le_of_ble_eq_true rfl) lSX13_170 rfl (by decide +kernel : decode cX13_restore 12 = .ok (.invokestatic 170, 3)) ?_
  rcases rv_if_e h with ⟨g12_, h⟩ | ⟨g12_, h⟩
  · refine re_if_eq_t (pc := 15) 27 (by decide +kernel : decode cX13_restore 15 = .ok (.ifCond .eq 12, 3)) (by decide) g12_ ?_
    refine re_iconst (pc := 27) (0 : Int32) (by decide +kernel : decode cX13_restore 27 = .ok (.iconst 0, 1)) (by decide) ?_
    cases h
    exact re_iret (fun ty hty => by cases hty; rfl) (by decide +kernel : decode cX13_restore 28 = .ok (.ireturn, 1))
  · refine re_if_eq_f (pc := 15) 27 (by decide +kernel : decode cX13_restore 15 = .ok (.ifCond .eq 12, 3)) (by decide) g12_ ?_
    refine re_aloadn (pc := 18) 0 (by decide +kernel : decode cX13_restore 18 = .ok (.aload_n 0, 1)) rfl ?_
    obtain ⟨a13_, g14_, h⟩ := rv_b_e h
    refine re_gR (pc := 19) g14_ lfX13_35 rfl (by decide +kernel : decode cX13_restore 19 = .ok (.getfield 35, 3)) ?_
    refine re_iloadn (pc := 22) 1 (by decide +kernel : decode cX13_restore 22 = .ok (.iload_n 1, 1)) rfl ?_
    obtain ⟨x15_, g16_, h⟩ := rv_b_e h
    refine re_aZ (pc := 23) g16_ (by decide +kernel : decode cX13_restore 23 = .ok (.baload, 1)) ?_
    rcases rv_if_e h with ⟨g17_, h⟩ | ⟨g17_, h⟩
    · refine re_if_ne_f (pc := 24) 29 (by decide +kernel : decode cX13_restore 24 = .ok (.ifCond .ne 5, 3)) (by decide) g17_ ?_
      refine re_iconst (pc := 27) (0 : Int32) (by decide +kernel : decode cX13_restore 27 = .ok (.iconst 0, 1)) (by decide) ?_
      cases h
      exact re_iret (fun ty hty => by cases hty; rfl) (by decide +kernel : decode cX13_restore 28 = .ok (.ireturn, 1))
    · refine re_if_ne_t (pc := 24) 29 (by decide +kernel : decode cX13_restore 24 = .ok (.ifCond .ne 5, 3)) (by decide) g17_ ?_
      refine re_iconst (pc := 29) (0 : Int32) (by decide +kernel : decode cX13_restore 29 = .ok (.iconst 0, 1)) (by decide) ?_
      refine re_istoren (pc := 30) (lv1 := [(2, .int (0 : Int32)), (0, .ref a0), (1, .int x1)]) (by decide +kernel : decode cX13_restore 30 = .ok (.istore_n 2, 1)) rfl (by decide) rfl ?_
      refine re_sub [1, 2, 0] (lv1 := [(0, .ref a0), (1, .int x1), (2, .int (0 : Int32))]) rfl ?_
      exact eX13_restore_31 n n S6_ a0 x1 (0 : Int32) _ _ h
theorem metX13_restore (n : Nat) (S : rvS) (a0 : Nat) (x1 : Int32) (r : Int32) (S' : rvS) (h : fnX13_restore n S a0 x1 = some (r, S')) : rv_Met yX13_restore mX13_restore 2 [.ref a0, .int x1] S (some (.int r)) S' := rv_Met.of ⟨by decide +kernel, rfl, (fun z => by first | rfl | cases z), rfl⟩ (Nat.le_of_ble_eq_true rfl) rfl (eX13_restore_in n S a0 x1 r S' h)
noncomputable def cX13_count_102 (n : Nat) : Nat → rvS → Nat → Int32 → Int32 → Option (Int32 × rvS)
  | 0, _, _, _, _ => none
  | k + 1, S, a0, x2, x3 =>
    if (4 : Int32) ≤ x3 then (
      (rv_nz (2 : Int32)).bind fun u2_ =>
      some (x2 / (2 : Int32), S))
    else (
      (rv_gR S 11 a0 14).bind fun a4_ =>
      (rv_aI S 0 a4_ ((128 : Int32) + x3)).bind fun x6_ =>
      (fnX13_bits n S x6_).bind fun x9_ =>
      rv_lt (x2 + (x9_ - (1 : Int32))) fun x11_ =>
      rv_lt (x3 + (1)) fun x13_ =>
      cX13_count_102 n k S a0 x11_ x13_)
set_option maxRecDepth 20000 in
set_option maxHeartbeats 4000000 in
theorem eX13_count_102 (n : Nat) : ∀ (k : Nat) (S : rvS) (a0 : Nat) (x2 : Int32) (x3 : Int32) (r : Int32) (S' : rvS), cX13_count_102 n k S a0 x2 x3 = some (r, S') → rv_Ev mX13_count 2 102 [(0, .ref a0), (2, .int x2), (3, .int x3)] [] S (some (.int r)) S' := by
  intro k
  induction k with
  | zero => intro S a0 x2 x3 r S' h; exact absurd h (by simp [cX13_count_102])
  | succ k ih =>
    intro S a0 x2 x3 r S' h
    unfold cX13_count_102 at h
    refine re_iloadn (pc := 102) 2 (by decide +kernel : decode cX13_count 102 = .ok (.iload_n 3, 1)) rfl ?_
    refine re_iconst (pc := 103) (4 : Int32) (by decide +kernel : decode cX13_count 103 = .ok (.iconst 4, 1)) (by decide) ?_
    rcases rv_if_e h with ⟨g1_, h⟩ | ⟨g1_, h⟩
    · refine re_icmp_ge_t (pc := 104) 131 (by decide +kernel : decode cX13_count 104 = .ok (.if_icmp .ge 27, 3)) (by decide) g1_ ?_
      refine re_iloadn (pc := 131) 1 (by decide +kernel : decode cX13_count 131 = .ok (.iload_n 2, 1)) rfl ?_
      refine re_iconst (pc := 132) (2 : Int32) (by decide +kernel : decode cX13_count 132 = .ok (.iconst 2, 1)) (by decide) ?_
      obtain ⟨u2_, g3_, h⟩ := rv_b_e h
      refine re_idiv (pc := 133) (by decide +kernel : decode cX13_count 133 = .ok (.idiv, 1)) (rv_nz_e g3_) ?_
      cases h
      exact re_iret (fun ty hty => by cases hty; rfl) (by decide +kernel : decode cX13_count 134 = .ok (.ireturn, 1))
    · refine re_icmp_ge_f (pc := 104) 131 (by decide +kernel : decode cX13_count 104 = .ok (.if_icmp .ge 27, 3)) (by decide) g1_ ?_
      refine re_iloadn (pc := 107) 1 (by decide +kernel : decode cX13_count 107 = .ok (.iload_n 2, 1)) rfl ?_
      refine re_aloadn (pc := 108) 0 (by decide +kernel : decode cX13_count 108 = .ok (.aload_n 0, 1)) rfl ?_
      obtain ⟨a4_, g5_, h⟩ := rv_b_e h
      refine re_gR (pc := 109) g5_ lfX13_13 rfl (by decide +kernel : decode cX13_count 109 = .ok (.getfield 13, 3)) ?_
      refine re_sipush (pc := 112) (128 : Int32) (by decide +kernel : decode cX13_count 112 = .ok (.sipush 128, 3)) (by decide) ?_
      refine re_iloadn (pc := 115) 2 (by decide +kernel : decode cX13_count 115 = .ok (.iload_n 3, 1)) rfl ?_
      refine re_iadd (pc := 116) (by decide +kernel : decode cX13_count 116 = .ok (.iadd, 1)) ?_
      obtain ⟨x6_, g7_, h⟩ := rv_b_e h
      refine re_aI (pc := 117) g7_ (by decide +kernel : decode cX13_count 117 = .ok (.iaload, 1)) ?_
      obtain ⟨x9_, g10_, h⟩ := rv_b_e h
      have m8_ := metX13_bits n S x6_ _ g10_
      refine re_cS (pc := 118) [.int x6_] m8_ (rv_okl.k ⟨rfl, rfl⟩) (rv_up.rf _ _) (by decide) (Nat.le_of_ble_eq_true rfl) lSX13_283 rfl (by decide +kernel : decode cX13_count 118 = .ok (.invokestatic 283, 3)) ?_
      refine re_iconst (pc := 121) (1 : Int32) (by decide +kernel : decode cX13_count 121 = .ok (.iconst 1, 1)) (by decide) ?_
      refine re_isub (pc := 122) (by decide +kernel : decode cX13_count 122 = .ok (.isub, 1)) ?_
      refine re_iadd (pc := 123) (by decide +kernel : decode cX13_count 123 = .ok (.iadd, 1)) ?_
      obtain ⟨x11_, g12_, h⟩ := rv_lt_e h
      refine re_nI (pc := 124) g12_ ?_
      refine re_istoren (pc := 124) (lv1 := [(2, .int x11_), (0, .ref a0), (3, .int x3)]) (by decide +kernel : decode cX13_count 124 = .ok (.istore_n 2, 1)) rfl (by decide) rfl ?_
      obtain ⟨x13_, g14_, h⟩ := rv_lt_e h
      refine re_iinc (pc := 125) 2 x13_ (lv1 := [(3, .int x13_), (2, .int x11_), (0, .ref a0)]) (by decide +kernel : decode cX13_count 125 = .ok (.iinc 3 1, 3)) rfl g14_ (by decide) rfl ?_
      refine re_goto (pc := 128) 102 (by decide +kernel : decode cX13_count 128 = .ok (.goto (-26), 3)) (by decide) ?_
      refine re_sub [2, 1, 0] (lv1 := [(0, .ref a0), (2, .int x11_), (3, .int x13_)]) rfl ?_
      exact ih S a0 x11_ x13_ _ _ h
noncomputable def cX13_count_139 (n : Nat) : Nat → rvS → Nat → Int32 → Int32 → Option (Int32 × rvS)
  | 0, _, _, _, _ => none
  | k + 1, S, a0, x2, x3 =>
    (rv_ck S 11 a0).bind fun u1_ =>
    (fnX13_whos n S a0).bind fun x4_ =>
    if x4_ ≤ x3 then (
      some (x2, S))
    else (
      (rv_ck S 11 a0).bind fun u7_ =>
      (fnX13_ofWho n S a0 x3 (3 : Int32)).bind fun x10_ =>
      rv_lt (x2 + x10_) fun x12_ =>
      rv_lt (x3 + (1)) fun x14_ =>
      cX13_count_139 n k S a0 x12_ x14_)
set_option maxRecDepth 20000 in
set_option maxHeartbeats 4000000 in
theorem eX13_count_139 (n : Nat) : ∀ (k : Nat) (S : rvS) (a0 : Nat) (x2 : Int32) (x3 : Int32) (r : Int32) (S' : rvS), cX13_count_139 n k S a0 x2 x3 = some (r, S') → rv_Ev mX13_count 2 139 [(0, .ref a0), (2, .int x2), (3, .int x3)] [] S (some (.int r)) S' := by
  intro k
  induction k with
  | zero => intro S a0 x2 x3 r S' h; exact absurd h (by simp [cX13_count_139])
  | succ k ih =>
    intro S a0 x2 x3 r S' h
    unfold cX13_count_139 at h
    refine re_iloadn (pc := 139) 2 (by decide +kernel : decode cX13_count 139 = .ok (.iload_n 3, 1)) rfl ?_
    refine re_aloadn (pc := 140) 0 (by decide +kernel : decode cX13_count 140 = .ok (.aload_n 0, 1)) rfl ?_
    obtain ⟨u1_, g2_, h⟩ := rv_b_e h
    obtain ⟨x4_, g5_, h⟩ := rv_b_e h
    have m3_ := metX13_whos n S a0 _ g5_
    refine re_cV (pc := 141) [] m3_ (rv_okl.k ⟨rfl, rfl⟩) (rv_up.rf _ _) (by decide) (rv_ck_e g2_) ⟨by decide, rfl⟩ (Nat.le_of_ble_eq_true rfl) lVX13_255 rfl (by decide +kernel : decode cX13_count 141 = .ok (.invokevirtual 255, 3)) ?_
    rcases rv_if_e h with ⟨g6_, h⟩ | ⟨g6_, h⟩
    · refine re_icmp_ge_t (pc := 144) 162 (by decide +kernel : decode cX13_count 144 = .ok (.if_icmp .ge 18, 3)) (by decide) g6_ ?_
      refine re_iloadn (pc := 162) 1 (by decide +kernel : decode cX13_count 162 = .ok (.iload_n 2, 1)) rfl ?_
      cases h
      exact re_iret (fun ty hty => by cases hty; rfl) (by decide +kernel : decode cX13_count 163 = .ok (.ireturn, 1))
    · refine re_icmp_ge_f (pc := 144) 162 (by decide +kernel : decode cX13_count 144 = .ok (.if_icmp .ge 18, 3)) (by decide) g6_ ?_
      refine re_iloadn (pc := 147) 1 (by decide +kernel : decode cX13_count 147 = .ok (.iload_n 2, 1)) rfl ?_
      refine re_aloadn (pc := 148) 0 (by decide +kernel : decode cX13_count 148 = .ok (.aload_n 0, 1)) rfl ?_
      refine re_iloadn (pc := 149) 2 (by decide +kernel : decode cX13_count 149 = .ok (.iload_n 3, 1)) rfl ?_
      refine re_iconst (pc := 150) (3 : Int32) (by decide +kernel : decode cX13_count 150 = .ok (.iconst 3, 1)) (by decide) ?_
      obtain ⟨u7_, g8_, h⟩ := rv_b_e h
      obtain ⟨x10_, g11_, h⟩ := rv_b_e h
      have m9_ := metX13_ofWho n S a0 x3 (3 : Int32) _ g11_
      refine re_cV (pc := 151) [.int x3, .int (3 : Int32)] m9_ (rv_okl.k ⟨rfl, rfl⟩) (rv_up.rf _ _) (by decide) (rv_ck_e g8_) ⟨by decide, rfl⟩ (Nat.le_of_ble_eq_true rfl) lVX13_261 rfl (by decide +kernel : decode cX13_count 151 = .ok (.invokevirtual 261, 3)) ?_
      refine re_iadd (pc := 154) (by decide +kernel : decode cX13_count 154 = .ok (.iadd, 1)) ?_
      obtain ⟨x12_, g13_, h⟩ := rv_lt_e h
      refine re_nI (pc := 155) g13_ ?_
      refine re_istoren (pc := 155) (lv1 := [(2, .int x12_), (0, .ref a0), (3, .int x3)]) (by decide +kernel : decode cX13_count 155 = .ok (.istore_n 2, 1)) rfl (by decide) rfl ?_
      obtain ⟨x14_, g15_, h⟩ := rv_lt_e h
      refine re_iinc (pc := 156) 2 x14_ (lv1 := [(3, .int x14_), (2, .int x12_), (0, .ref a0)]) (by decide +kernel : decode cX13_count 156 = .ok (.iinc 3 1, 3)) rfl g15_ (by decide) rfl ?_
      refine re_goto (pc := 159) 139 (by decide +kernel : decode cX13_count 159 = .ok (.goto (-20), 3)) (by decide) ?_
      refine re_sub [2, 1, 0] (lv1 := [(0, .ref a0), (2, .int x12_), (3, .int x14_)]) rfl ?_
      exact ih S a0 x12_ x14_ _ _ h
noncomputable def fnX13_count (n : Nat) (S : rvS) (a0 : Nat) (x1 : Int32) : Option (Int32 × rvS) :=
  (rv_pI S 11 a0 0 (0 : Int32)).bind fun S1_ =>
  (rv_ck S1_ 11 a0).bind fun u3_ =>
  (fnX13_lay n S1_ a0).bind fun S6_ =>
  if x1 = 0 then (
    (rv_ck S6_ 11 a0).bind fun u10_ =>
    (fnX13_whos n S6_ a0).bind fun x13_ =>
    some (x13_, S6_))
  else (
    if x1 = 1 then (
      (rv_ck S6_ 11 a0).bind fun u16_ =>
      (fnX13_coins n S6_ a0).bind fun x19_ =>
      some (x19_, S6_))
    else (
      if x1 = 2 then (
        (rv_gR S6_ 11 a0 14).bind fun a22_ =>
        (rv_aI S6_ 0 a22_ (2 : Int32)).bind fun x24_ =>
        some (x24_, S6_))
      else (
        if x1 = 3 then (
          (rv_gR S6_ 11 a0 14).bind fun a27_ =>
          (rv_aI S6_ 0 a27_ (3 : Int32)).bind fun x29_ =>
          some (x29_, S6_))
        else (
          if x1 = 4 then (
            (rv_gR S6_ 11 a0 14).bind fun a32_ =>
            (rv_aI S6_ 0 a32_ (4 : Int32)).bind fun x34_ =>
            some (x34_, S6_))
          else (
            if x1 = 5 then (
              (rv_gR S6_ 11 a0 14).bind fun a37_ =>
              (rv_aI S6_ 0 a37_ (5 : Int32)).bind fun x39_ =>
              some (x39_, S6_))
            else (
              if x1 = 6 then (
                cX13_count_102 n n S6_ a0 (0 : Int32) (0 : Int32))
              else (
                if x1 = 7 then (
                  cX13_count_139 n n S6_ a0 (0 : Int32) (0 : Int32))
                else (
                  if x1 = 8 then (
                    (rv_gI S6_ 11 a0 2).bind fun x44_ =>
                    some (x44_, S6_))
                  else (
                    some ((-1 : Int32), S6_))))))))))
set_option maxRecDepth 20000 in
set_option maxHeartbeats 4000000 in
theorem eX13_count_in (n : Nat) (S : rvS) (a0 : Nat) (x1 : Int32) (r : Int32) (S' : rvS) (h : fnX13_count n S a0 x1 = some (r, S')) : rv_Ev mX13_count 2 0 [(0, .ref a0), (1, .int x1)] [] S (some (.int r)) S' := by
  unfold fnX13_count at h
  refine re_aloadn (pc := 0) 0 (by decide +kernel : decode cX13_count 0 = .ok (.aload_n 0, 1)) rfl ?_
  refine re_iconst (pc := 1) (0 : Int32) (by decide +kernel : decode cX13_count 1 = .ok (.iconst 0, 1)) (by decide) ?_
  obtain ⟨S1_, g2_, h⟩ := rv_b_e h
  refine re_pI (pc := 2) g2_ lfX13_99 rfl rfl rfl rfl (by decide +kernel : decode cX13_count 2 = .ok (.putfield 99, 3)) ?_
  refine re_aloadn (pc := 5) 0 (by decide +kernel : decode cX13_count 5 = .ok (.aload_n 0, 1)) rfl ?_
  obtain ⟨u3_, g4_, h⟩ := rv_b_e h
  obtain ⟨S6_, g7_, h⟩ := rv_b_e h
  have m5_ := metX13_lay n S1_ a0 _ g7_
  have z8_ : rv_same S1_ S6_ := m5_.sh rfl
  refine re_cV (pc := 6) [] m5_ (rv_okl.k z8_) (rv_up.sh z8_) (by decide) (rv_ck_e g4_) ⟨by decide, rfl⟩ (Nat.le_of_ble_eq_true rfl) lVX13_187 rfl (by decide +kernel : decode cX13_count 6 = .ok (.invokevirtual 187, 3)) ?_
  refine re_iloadn (pc := 9) 1 (by decide +kernel : decode cX13_count 9 = .ok (.iload_n 1, 1)) rfl ?_
  rcases rv_if_e h with ⟨g9_, h⟩ | ⟨g9_, h⟩
  · refine re_tabInE (pc := 10) (off := 50) 60 (by decide +kernel : decode cX13_count 10 = .ok (.tableswitch 159 0 8 #[50, 55, 60, 67, 74, 81, 88, 125, 154], 50)) g9_ (by decide) (by decide) (by decide) (by decide) ?_
    refine re_aloadn (pc := 60) 0 (by decide +kernel : decode cX13_count 60 = .ok (.aload_n 0, 1)) rfl ?_
    obtain ⟨u10_, g11_, h⟩ := rv_b_e h
    obtain ⟨x13_, g14_, h⟩ := rv_b_e h
    have m12_ := metX13_whos n S6_ a0 _ g14_
    refine re_cV (pc := 61) [] m12_ (rv_okl.k ⟨rfl, rfl⟩) (rv_up.rf _ _) (by decide) (rv_ck_e g11_) ⟨by decide, rfl⟩ (Nat.le_of_ble_eq_true rfl) lVX13_255 rfl (by decide +kernel : decode cX13_count 61 = .ok (.invokevirtual 255, 3)) ?_
    cases h
    exact re_iret (fun ty hty => by cases hty; rfl) (by decide +kernel : decode cX13_count 64 = .ok (.ireturn, 1))
  · skip
    rcases rv_if_e h with ⟨g15_, h⟩ | ⟨g15_, h⟩
    · refine re_tabInE (pc := 10) (off := 55) 65 (by decide +kernel : decode cX13_count 10 = .ok (.tableswitch 159 0 8 #[50, 55, 60, 67, 74, 81, 88, 125, 154], 50)) g15_ (by decide) (by decide) (by decide) (by decide) ?_
      refine re_aloadn (pc := 65) 0 (by decide +kernel : decode cX13_count 65 = .ok (.aload_n 0, 1)) rfl ?_
      obtain ⟨u16_, g17_, h⟩ := rv_b_e h
      obtain ⟨x19_, g20_, h⟩ := rv_b_e h
      have m18_ := metX13_coins n S6_ a0 _ g20_
      refine re_cV (pc := 66) [] m18_ (rv_okl.k ⟨rfl, rfl⟩) (rv_up.rf _ _) (by decide) (rv_ck_e g17_) ⟨by decide, rfl⟩ (Nat.le_of_ble_eq_true rfl) lVX13_258 rfl (by decide +kernel : decode cX13_count 66 = .ok (.invokevirtual 258, 3)) ?_
      cases h
      exact re_iret (fun ty hty => by cases hty; rfl) (by decide +kernel : decode cX13_count 69 = .ok (.ireturn, 1))
    · skip
      rcases rv_if_e h with ⟨g21_, h⟩ | ⟨g21_, h⟩
      · refine re_tabInE (pc := 10) (off := 60) 70 (by decide +kernel : decode cX13_count 10 = .ok (.tableswitch 159 0 8 #[50, 55, 60, 67, 74, 81, 88, 125, 154], 50)) g21_ (by decide) (by decide) (by decide) (by decide) ?_
        refine re_aloadn (pc := 70) 0 (by decide +kernel : decode cX13_count 70 = .ok (.aload_n 0, 1)) rfl ?_
        obtain ⟨a22_, g23_, h⟩ := rv_b_e h
        refine re_gR (pc := 71) g23_ lfX13_13 rfl (by decide +kernel : decode cX13_count 71 = .ok (.getfield 13, 3)) ?_
        refine re_iconst (pc := 74) (2 : Int32) (by decide +kernel : decode cX13_count 74 = .ok (.iconst 2, 1)) (by decide) ?_
        obtain ⟨x24_, g25_, h⟩ := rv_b_e h
        refine re_aI (pc := 75) g25_ (by decide +kernel : decode cX13_count 75 = .ok (.iaload, 1)) ?_
        cases h
        exact re_iret (fun ty hty => by cases hty; rfl) (by decide +kernel : decode cX13_count 76 = .ok (.ireturn, 1))
      · skip
        rcases rv_if_e h with ⟨g26_, h⟩ | ⟨g26_, h⟩
        · refine re_tabInE (pc := 10) (off := 67) 77 (by decide +kernel : decode cX13_count 10 = .ok (.tableswitch 159 0 8 #[50, 55, 60, 67, 74, 81, 88, 125, 154], 50)) g26_ (by decide) (by decide) (by decide) (by decide) ?_
          refine re_aloadn (pc := 77) 0 (by decide +kernel : decode cX13_count 77 = .ok (.aload_n 0, 1)) rfl ?_
          obtain ⟨a27_, g28_, h⟩ := rv_b_e h
          refine re_gR (pc := 78) g28_ lfX13_13 rfl (by decide +kernel : decode cX13_count 78 = .ok (.getfield 13, 3)) ?_
          refine re_iconst (pc := 81) (3 : Int32) (by decide +kernel : decode cX13_count 81 = .ok (.iconst 3, 1)) (by decide) ?_
          obtain ⟨x29_, g30_, h⟩ := rv_b_e h
          refine re_aI (pc := 82) g30_ (by decide +kernel : decode cX13_count 82 = .ok (.iaload, 1)) ?_
          cases h
          exact re_iret (fun ty hty => by cases hty; rfl) (by decide +kernel : decode cX13_count 83 = .ok (.ireturn, 1))
        · skip
          rcases rv_if_e h with ⟨g31_, h⟩ | ⟨g31_, h⟩
          · refine re_tabInE (pc := 10) (off := 74) 84 (by decide +kernel : decode cX13_count 10 = .ok (.tableswitch 159 0 8 #[50, 55, 60, 67, 74, 81, 88, 125, 154], 50)) g31_ (by decide) (by decide) (by decide) (by decide) ?_
            refine re_aloadn (pc := 84) 0 (by decide +kernel : decode cX13_count 84 = .ok (.aload_n 0, 1)) rfl ?_
            obtain ⟨a32_, g33_, h⟩ := rv_b_e h
            refine re_gR (pc := 85) g33_ lfX13_13 rfl (by decide +kernel : decode cX13_count 85 = .ok (.getfield 13, 3)) ?_
            refine re_iconst (pc := 88) (4 : Int32) (by decide +kernel : decode cX13_count 88 = .ok (.iconst 4, 1)) (by decide) ?_
            obtain ⟨x34_, g35_, h⟩ := rv_b_e h
            refine re_aI (pc := 89) g35_ (by decide +kernel : decode cX13_count 89 = .ok (.iaload, 1)) ?_
            cases h
            exact re_iret (fun ty hty => by cases hty; rfl) (by decide +kernel : decode cX13_count 90 = .ok (.ireturn, 1))
          · skip
            rcases rv_if_e h with ⟨g36_, h⟩ | ⟨g36_, h⟩
            · refine re_tabInE (pc := 10) (off := 81) 91 (by decide +kernel : decode cX13_count 10 = .ok (.tableswitch 159 0 8 #[50, 55, 60, 67, 74, 81, 88, 125, 154], 50)) g36_ (by decide) (by decide) (by decide) (by decide) ?_
              refine re_aloadn (pc := 91) 0 (by decide +kernel : decode cX13_count 91 = .ok (.aload_n 0, 1)) rfl ?_
              obtain ⟨a37_, g38_, h⟩ := rv_b_e h
              refine re_gR (pc := 92) g38_ lfX13_13 rfl (by decide +kernel : decode cX13_count 92 = .ok (.getfield 13, 3)) ?_
              refine re_iconst (pc := 95) (5 : Int32) (by decide +kernel : decode cX13_count 95 = .ok (.iconst 5, 1)) (by decide) ?_
              obtain ⟨x39_, g40_, h⟩ := rv_b_e h
              refine re_aI (pc := 96) g40_ (by decide +kernel : decode cX13_count 96 = .ok (.iaload, 1)) ?_
              cases h
              exact re_iret (fun ty hty => by cases hty; rfl) (by decide +kernel : decode cX13_count 97 = .ok (.ireturn, 1))
            · skip
              rcases rv_if_e h with ⟨g41_, h⟩ | ⟨g41_, h⟩
              · refine re_tabInE (pc := 10) (off := 88) 98 (by decide +kernel : decode cX13_count 10 = .ok (.tableswitch 159 0 8 #[50, 55, 60, 67, 74, 81, 88, 125, 154], 50)) g41_ (by decide) (by decide) (by decide) (by decide) ?_
                refine re_iconst (pc := 98) (0 : Int32) (by decide +kernel : decode cX13_count 98 = .ok (.iconst 0, 1)) (by decide) ?_
                refine re_istoren (pc := 99) (lv1 := [(2, .int (0 : Int32)), (0, .ref a0), (1, .int x1)]) (by decide +kernel : decode cX13_count 99 = .ok (.istore_n 2, 1)) rfl (by decide) rfl ?_
                refine re_iconst (pc := 100) (0 : Int32) (by decide +kernel : decode cX13_count 100 = .ok (.iconst 0, 1)) (by decide) ?_
                refine re_istoren (pc := 101) (lv1 := [(3, .int (0 : Int32)), (2, .int (0 : Int32)), (0, .ref a0), (1, .int x1)]) (by decide +kernel : decode cX13_count 101 = .ok (.istore_n 3, 1)) rfl (by decide) rfl ?_
                refine re_sub [2, 1, 0] (lv1 := [(0, .ref a0), (2, .int (0 : Int32)), (3, .int (0 : Int32))]) rfl ?_
                exact eX13_count_102 n n S6_ a0 (0 : Int32) (0 : Int32) _ _ h
              · skip
                rcases rv_if_e h with ⟨g42_, h⟩ | ⟨g42_, h⟩
                · refine re_tabInE (pc := 10) (off := 125) 135 (by decide +kernel : decode cX13_count 10 = .ok (.tableswitch 159 0 8 #[50, 55, 60, 67, 74, 81, 88, 125, 154], 50)) g42_ (by decide) (by decide) (by decide) (by decide) ?_
                  refine re_iconst (pc := 135) (0 : Int32) (by decide +kernel : decode cX13_count 135 = .ok (.iconst 0, 1)) (by decide) ?_
                  refine re_istoren (pc := 136) (lv1 := [(2, .int (0 : Int32)), (0, .ref a0), (1, .int x1)]) (by decide +kernel : decode cX13_count 136 = .ok (.istore_n 2, 1)) rfl (by decide) rfl ?_
                  refine re_iconst (pc := 137) (0 : Int32) (by decide +kernel : decode cX13_count 137 = .ok (.iconst 0, 1)) (by decide) ?_
                  refine re_istoren (pc := 138) (lv1 := [(3, .int (0 : Int32)), (2, .int (0 : Int32)), (0, .ref a0), (1, .int x1)]) (by decide +kernel : decode cX13_count 138 = .ok (.istore_n 3, 1)) rfl (by decide) rfl ?_
                  refine re_sub [2, 1, 0] (lv1 := [(0, .ref a0), (2, .int (0 : Int32)), (3, .int (0 : Int32))]) rfl ?_
                  exact eX13_count_139 n n S6_ a0 (0 : Int32) (0 : Int32) _ _ h
                · skip
                  rcases rv_if_e h with ⟨g43_, h⟩ | ⟨g43_, h⟩
                  · refine re_tabInE (pc := 10) (off := 154) 164 (by decide +kernel : decode cX13_count 10 = .ok (.tableswitch 159 0 8 #[50, 55, 60, 67, 74, 81, 88, 125, 154], 50)) g43_ (by decide) (by decide) (by decide) (by decide) ?_
                    refine re_aloadn (pc := 164) 0 (by decide +kernel : decode cX13_count 164 = .ok (.aload_n 0, 1)) rfl ?_
                    obtain ⟨x44_, g45_, h⟩ := rv_b_e h
                    refine re_gI (pc := 165) g45_ lfX13_102 rfl (by decide +kernel : decode cX13_count 165 = .ok (.getfield 102, 3)) ?_
                    cases h
                    exact re_iret (fun ty hty => by cases hty; rfl) (by decide +kernel : decode cX13_count 168 = .ok (.ireturn, 1))
                  · skip
                    refine re_tabOut (pc := 10) (dflt := 159) 169 (by decide +kernel : decode cX13_count 10 = .ok (.tableswitch 159 0 8 #[50, 55, 60, 67, 74, 81, 88, 125, 154], 50)) (by have z0_ := lv_neT g9_ (a := 0) (by decide); have z1_ := lv_neT g15_ (a := 1) (by decide); have z2_ := lv_neT g21_ (a := 2) (by decide); have z3_ := lv_neT g26_ (a := 3) (by decide); have z4_ := lv_neT g31_ (a := 4) (by decide); have z5_ := lv_neT g36_ (a := 5) (by decide); have z6_ := lv_neT g41_ (a := 6) (by decide); have z7_ := lv_neT g42_ (a := 7) (by decide); have z8_ := lv_neT g43_ (a := 8) (by decide); omega) (by decide) ?_
                    refine re_iconst (pc := 169) (-1 : Int32) (by decide +kernel : decode cX13_count 169 = .ok (.iconst (-1), 1)) (by decide) ?_
                    cases h
                    exact re_iret (fun ty hty => by cases hty; rfl) (by decide +kernel : decode cX13_count 170 = .ok (.ireturn, 1))
theorem metX13_count (n : Nat) (S : rvS) (a0 : Nat) (x1 : Int32) (r : Int32) (S' : rvS) (h : fnX13_count n S a0 x1 = some (r, S')) : rv_Met yX13_count mX13_count 2 [.ref a0, .int x1] S (some (.int r)) S' := rv_Met.of ⟨by decide +kernel, rfl, (fun z => by first | rfl | cases z), rfl⟩ (Nat.le_of_ble_eq_true rfl) rfl (eX13_count_in n S a0 x1 r S' h)
