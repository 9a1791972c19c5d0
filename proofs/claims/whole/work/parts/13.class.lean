noncomputable def fbX7_readNot (n : Nat) (G0 : rvS → Nat → Nat → Nat → Int32 → Option (Int32 × rvS)) (G1 : rvS → Nat → Nat → Nat → Int32 → Option (Int32 × rvS)) (G2 : rvS → Nat → Nat → Nat → Int32 → Option (Int32 × rvS)) (G3 : rvS → Nat → Nat → Nat → Int32 → Option (Int32 × rvS)) (G4 : rvS → Nat → Nat → Nat → Int32 → Option (Int32 × rvS)) (S : rvS) (a0 : Nat) (a1 : Nat) (a2 : Nat) (x3 : Int32) : Option (Int32 × rvS) :=
  (rv_ck S 6 a0).bind fun u1_ =>
  rv_bp (G2 S a0 a1 a2 (x3 + (1 : Int32))) fun x4_ S5_ =>
  if x4_ = 0 then (
    some ((0 : Int32), S5_))
  else (
    (rv_ck S5_ 6 a0).bind fun u9_ =>
    (fnX7_put n S5_ a0 13 (0 : Int32) (0 : Int32)).bind fun S12_ =>
    some ((1 : Int32), S12_))
set_option maxRecDepth 20000 in
set_option maxHeartbeats 4000000 in
theorem eX7_readNot_in (n : Nat) (G0 : rvS → Nat → Nat → Nat → Int32 → Option (Int32 × rvS)) (G1 : rvS → Nat → Nat → Nat → Int32 → Option (Int32 × rvS)) (G2 : rvS → Nat → Nat → Nat → Int32 → Option (Int32 × rvS)) (G3 : rvS → Nat → Nat → Nat → Int32 → Option (Int32 × rvS)) (G4 : rvS → Nat → Nat → Nat → Int32 → Option (Int32 × rvS)) (d : Nat) (hG0 : ∀ (S : rvS) (z0 : Nat) (z1 : Nat) (z2 : Nat) (z3 : Int32) (r : Int32) (S' : rvS), G0 S z0 z1 z2 z3 = some (r, S') → rv_Met yX7_readNot mX7_readNot (4 + d) [.ref z0, .ref z1, .ref z2, .int z3] S (some (.int r)) S') (hG1 : ∀ (S : rvS) (z0 : Nat) (z1 : Nat) (z2 : Nat) (z3 : Int32) (r : Int32) (S' : rvS), G1 S z0 z1 z2 z3 = some (r, S') → rv_Met yX7_readBracket mX7_readBracket (4 + d) [.ref z0, .ref z1, .ref z2, .int z3] S (some (.int r)) S') (hG2 : ∀ (S : rvS) (z0 : Nat) (z1 : Nat) (z2 : Nat) (z3 : Int32) (r : Int32) (S' : rvS), G2 S z0 z1 z2 z3 = some (r, S') → rv_Met yX7_readOne mX7_readOne (4 + d) [.ref z0, .ref z1, .ref z2, .int z3] S (some (.int r)) S') (hG3 : ∀ (S : rvS) (z0 : Nat) (z1 : Nat) (z2 : Nat) (z3 : Int32) (r : Int32) (S' : rvS), G3 S z0 z1 z2 z3 = some (r, S') → rv_Met yX7_readAll mX7_readAll (4 + d) [.ref z0, .ref z1, .ref z2, .int z3] S (some (.int r)) S') (hG4 : ∀ (S : rvS) (z0 : Nat) (z1 : Nat) (z2 : Nat) (z3 : Int32) (r : Int32) (S' : rvS), G4 S z0 z1 z2 z3 = some (r, S') → rv_Met yX7_readAny mX7_readAny (4 + d) [.ref z0, .ref z1, .ref z2, .int z3] S (some (.int r)) S') (S : rvS) (a0 : Nat) (a1 : Nat) (a2 : Nat) (x3 : Int32) (r : Int32) (S' : rvS) (h : fbX7_readNot n G0 G1 G2 G3 G4 S a0 a1 a2 x3 = some (r, S')) : rv_Ev mX7_readNot (4 + d + 1) 0 [(0, .ref a0), (1, .ref a1), (2, .ref a2), (3, .int x3)] [] S (some (.int r)) S' := by
  unfold fbX7_readNot at h
  refine re_aloadn (pc := 0) 0 (by decide +kernel : decode cX7_readNot 0 = .ok (.aload_n 0, 1)) rfl ?_
  refine re_aloadn (pc := 1) 1 (by decide +kernel : decode cX7_readNot 1 = .ok (.aload_n 1, 1)) rfl ?_
  refine re_aloadn (pc := 2) 2 (by decide +kernel : decode cX7_readNot 2 = .ok (.aload_n 2, 1)) rfl ?_
  refine re_iloadn (pc := 3) 3 (by decide +kernel : decode cX7_readNot 3 = .ok (.iload_n 3, 1)) rfl ?_
  refine re_iconst (pc := 4) (1 : Int32) (by decide +kernel : decode cX7_readNot 4 = .ok (.iconst 1, 1)) (by decide) ?_
  refine re_iadd (pc := 5) (by decide +kernel : decode cX7_readNot 5 = .ok (.iadd, 1)) ?_
  obtain ⟨u1_, g2_, h⟩ := rv_b_e h
  obtain ⟨x4_, S5_, g6_, h⟩ := rv_bp_e h
  have m3_ := hG2 S a0 a1 a2 (x3 + (1 : Int32)) _ _ g6_
  have z7_ : rv_same S S5_ := m3_.sh rfl
  refine re_cV (pc := 6) [.ref a1, .ref a2, .int (x3 + (1 : Int32))] m3_ (rv_okl.k z7_) (rv_up.sh z7_) (by omega) (rv_ck_e g2_) ⟨by decide, rfl⟩ (Nat.le_of_ble_eq_true rfl) lVX7_72 rfl (by decide +kernel : decode cX7_readNot 6 = .ok (.invokevirtual 72, 3)) ?_
  rcases rv_if_e h with ⟨g8_, h⟩ | ⟨g8_, h⟩
  · refine re_if_ne_f (pc := 9) 14 (by decide +kernel : decode cX7_readNot 9 = .ok (.ifCond .ne 5, 3)) (by decide) g8_ ?_
    refine re_iconst (pc := 12) (0 : Int32) (by decide +kernel : decode cX7_readNot 12 = .ok (.iconst 0, 1)) (by decide) ?_
    cases h
    exact re_iret (fun ty hty => by cases hty; rfl) (by decide +kernel : decode cX7_readNot 13 = .ok (.ireturn, 1))
  · refine re_if_ne_t (pc := 9) 14 (by decide +kernel : decode cX7_readNot 9 = .ok (.ifCond .ne 5, 3)) (by decide) g8_ ?_
    refine re_aloadn (pc := 14) 0 (by decide +kernel : decode cX7_readNot 14 = .ok (.aload_n 0, 1)) rfl ?_
    refine re_getsW (pc := 15) (i := 13) (by decide) (rw6 61 (by decide +kernel) rfl) (by decide +kernel : decode cX7_readNot 15 = .ok (.getstatic 108, 3)) ?_
    refine re_iconst (pc := 18) (0 : Int32) (by decide +kernel : decode cX7_readNot 18 = .ok (.iconst 0, 1)) (by decide) ?_
    refine re_iconst (pc := 19) (0 : Int32) (by decide +kernel : decode cX7_readNot 19 = .ok (.iconst 0, 1)) (by decide) ?_
    obtain ⟨u9_, g10_, h⟩ := rv_b_e h
    obtain ⟨S12_, g13_, h⟩ := rv_b_e h
    have m11_ := metX7_put n S5_ a0 13 (0 : Int32) (0 : Int32) _ g13_
    have z14_ : rv_same S5_ S12_ := m11_.sh rfl
    refine re_cV (pc := 20) [.ref 13, .int (0 : Int32), .int (0 : Int32)] m11_ (rv_okl.k z14_) (rv_up.sh z14_) (by omega) (rv_ck_e g10_) ⟨by decide, rfl⟩ (Nat.le_of_ble_eq_true rfl) lVX7_68 rfl (by decide +kernel : decode cX7_readNot 20 = .ok (.invokevirtual 68, 3)) ?_
    refine re_iconst (pc := 23) (1 : Int32) (by decide +kernel : decode cX7_readNot 23 = .ok (.iconst 1, 1)) (by decide) ?_
    cases h
    exact re_iret (fun ty hty => by cases hty; rfl) (by decide +kernel : decode cX7_readNot 24 = .ok (.ireturn, 1))
noncomputable def fbX7_readBracket (n : Nat) (G0 : rvS → Nat → Nat → Nat → Int32 → Option (Int32 × rvS)) (G1 : rvS → Nat → Nat → Nat → Int32 → Option (Int32 × rvS)) (G2 : rvS → Nat → Nat → Nat → Int32 → Option (Int32 × rvS)) (G3 : rvS → Nat → Nat → Nat → Int32 → Option (Int32 × rvS)) (G4 : rvS → Nat → Nat → Nat → Int32 → Option (Int32 × rvS)) (S : rvS) (a0 : Nat) (a1 : Nat) (a2 : Nat) (x3 : Int32) : Option (Int32 × rvS) :=
  (rv_ck S 7 a1).bind fun u1_ =>
  (fnX8_next n S a1).bind fun S4_ =>
  (rv_ck S4_ 6 a0).bind fun u7_ =>
  rv_bp (G4 S4_ a0 a1 a2 (x3 + (1 : Int32))) fun x10_ S11_ =>
  if x10_ = 0 then (
    some ((0 : Int32), S11_))
  else (
    (rv_gI S11_ 7 a1 4).bind fun x15_ =>
    if x15_ = (41 : Int32) then (
      (rv_ck S11_ 7 a1).bind fun u18_ =>
      (fnX8_next n S11_ a1).bind fun S21_ =>
      some ((1 : Int32), S21_))
    else (
      (rv_ck S11_ 7 a1).bind fun u24_ =>
      rv_bp (fnX8_fail n S11_ a1 (1 : Int32)) fun x27_ S28_ =>
      (rv_bo x27_).bind fun b_ =>
      some (b_, S28_)))
set_option maxRecDepth 20000 in
set_option maxHeartbeats 4000000 in
theorem eX7_readBracket_in (n : Nat) (G0 : rvS → Nat → Nat → Nat → Int32 → Option (Int32 × rvS)) (G1 : rvS → Nat → Nat → Nat → Int32 → Option (Int32 × rvS)) (G2 : rvS → Nat → Nat → Nat → Int32 → Option (Int32 × rvS)) (G3 : rvS → Nat → Nat → Nat → Int32 → Option (Int32 × rvS)) (G4 : rvS → Nat → Nat → Nat → Int32 → Option (Int32 × rvS)) (d : Nat) (hG0 : ∀ (S : rvS) (z0 : Nat) (z1 : Nat) (z2 : Nat) (z3 : Int32) (r : Int32) (S' : rvS), G0 S z0 z1 z2 z3 = some (r, S') → rv_Met yX7_readNot mX7_readNot (4 + d) [.ref z0, .ref z1, .ref z2, .int z3] S (some (.int r)) S') (hG1 : ∀ (S : rvS) (z0 : Nat) (z1 : Nat) (z2 : Nat) (z3 : Int32) (r : Int32) (S' : rvS), G1 S z0 z1 z2 z3 = some (r, S') → rv_Met yX7_readBracket mX7_readBracket (4 + d) [.ref z0, .ref z1, .ref z2, .int z3] S (some (.int r)) S') (hG2 : ∀ (S : rvS) (z0 : Nat) (z1 : Nat) (z2 : Nat) (z3 : Int32) (r : Int32) (S' : rvS), G2 S z0 z1 z2 z3 = some (r, S') → rv_Met yX7_readOne mX7_readOne (4 + d) [.ref z0, .ref z1, .ref z2, .int z3] S (some (.int r)) S') (hG3 : ∀ (S : rvS) (z0 : Nat) (z1 : Nat) (z2 : Nat) (z3 : Int32) (r : Int32) (S' : rvS), G3 S z0 z1 z2 z3 = some (r, S') → rv_Met yX7_readAll mX7_readAll (4 + d) [.ref z0, .ref z1, .ref z2, .int z3] S (some (.int r)) S') (hG4 : ∀ (S : rvS) (z0 : Nat) (z1 : Nat) (z2 : Nat) (z3 : Int32) (r : Int32) (S' : rvS), G4 S z0 z1 z2 z3 = some (r, S') → rv_Met yX7_readAny mX7_readAny (4 + d) [.ref z0, .ref z1, .ref z2, .int z3] S (some (.int r)) S') (S : rvS) (a0 : Nat) (a1 : Nat) (a2 : Nat) (x3 : Int32) (r : Int32) (S' : rvS) (h : fbX7_readBracket n G0 G1 G2 G3 G4 S a0 a1 a2 x3 = some (r, S')) : rv_Ev mX7_readBracket (4 + d + 1) 0 [(0, .ref a0), (1, .ref a1), (2, .ref a2), (3, .int x3)] [] S (some (.int r)) S' := by
  unfold fbX7_readBracket at h
  refine re_aloadn (pc := 0) 1 (by decide +kernel : decode cX7_readBracket 0 = .ok (.aload_n 1, 1)) rfl ?_
  obtain ⟨u1_, g2_, h⟩ := rv_b_e h
  obtain ⟨S4_, g5_, h⟩ := rv_b_e h
  have m3_ := metX8_next n S a1 _ g5_
  have z6_ : rv_same S S4_ := m3_.sh rfl
  refine re_cV (pc := 1) [] m3_ (rv_okl.k z6_) (rv_up.sh z6_) (by omega) (rv_ck_e g2_) ⟨by decide, rfl⟩ (Nat.le_of_ble_eq_true rfl) lVX7_65 rfl (by decide +kernel : decode cX7_readBracket 1 = .ok (.invokevirtual 65, 3)) ?_
  refine re_aloadn (pc := 4) 0 (by decide +kernel : decode cX7_readBracket 4 = .ok (.aload_n 0, 1)) rfl ?_
  refine re_aloadn (pc := 5) 1 (by decide +kernel : decode cX7_readBracket 5 = .ok (.aload_n 1, 1)) rfl ?_
  refine re_aloadn (pc := 6) 2 (by decide +kernel : decode cX7_readBracket 6 = .ok (.aload_n 2, 1)) rfl ?_
  refine re_iloadn (pc := 7) 3 (by decide +kernel : decode cX7_readBracket 7 = .ok (.iload_n 3, 1)) rfl ?_
  refine re_iconst (pc := 8) (1 : Int32) (by decide +kernel : decode cX7_readBracket 8 = .ok (.iconst 1, 1)) (by decide) ?_
  refine re_iadd (pc := 9) (by decide +kernel : decode cX7_readBracket 9 = .ok (.iadd, 1)) ?_
  obtain ⟨u7_, g8_, h⟩ := rv_b_e h
  obtain ⟨x10_, S11_, g12_, h⟩ := rv_bp_e h
  have m9_ := hG4 S4_ a0 a1 a2 (x3 + (1 : Int32)) _ _ g12_
  have z13_ : rv_same S4_ S11_ := m9_.sh rfl
  refine re_cV (pc := 10) [.ref a1, .ref a2, .int (x3 + (1 : Int32))] m9_ (rv_okl.k z13_) (rv_up.sh z13_) (by omega) (rv_ck_e g8_) ⟨by decide, rfl⟩ (Nat.le_of_ble_eq_true rfl) lVX7_42 rfl (by decide +kernel : decode cX7_readBracket 10 = .ok (.invokevirtual 42, 3)) ?_
  rcases rv_if_e h with ⟨g14_, h⟩ | ⟨g14_, h⟩
  · refine re_if_ne_f (pc := 13) 18 (by decide +kernel : decode cX7_readBracket 13 = .ok (.ifCond .ne 5, 3)) (by decide) g14_ ?_
    refine re_iconst (pc := 16) (0 : Int32) (by decide +kernel : decode cX7_readBracket 16 = .ok (.iconst 0, 1)) (by decide) ?_
    cases h
    exact re_iret (fun ty hty => by cases hty; rfl) (by decide +kernel : decode cX7_readBracket 17 = .ok (.ireturn, 1))
  · refine re_if_ne_t (pc := 13) 18 (by decide +kernel : decode cX7_readBracket 13 = .ok (.ifCond .ne 5, 3)) (by decide) g14_ ?_
    refine re_aloadn (pc := 18) 1 (by decide +kernel : decode cX7_readBracket 18 = .ok (.aload_n 1, 1)) rfl ?_
    obtain ⟨x15_, g16_, h⟩ := rv_b_e h
    refine re_gI (pc := 19) g16_ lfX7_46 rfl (by decide +kernel : decode cX7_readBracket 19 = .ok (.getfield 46, 3)) ?_
    refine re_bipush (pc := 22) (41 : Int32) (by decide +kernel : decode cX7_readBracket 22 = .ok (.bipush 41, 2)) (by decide) ?_
    rcases rv_if_e h with ⟨g17_, h⟩ | ⟨g17_, h⟩
    · refine re_icmp_eq_t (pc := 24) 33 (by decide +kernel : decode cX7_readBracket 24 = .ok (.if_icmp .eq 9, 3)) (by decide) g17_ ?_
      refine re_aloadn (pc := 33) 1 (by decide +kernel : decode cX7_readBracket 33 = .ok (.aload_n 1, 1)) rfl ?_
      obtain ⟨u18_, g19_, h⟩ := rv_b_e h
      obtain ⟨S21_, g22_, h⟩ := rv_b_e h
      have m20_ := metX8_next n S11_ a1 _ g22_
      have z23_ : rv_same S11_ S21_ := m20_.sh rfl
      refine re_cV (pc := 34) [] m20_ (rv_okl.k z23_) (rv_up.sh z23_) (by omega) (rv_ck_e g19_) ⟨by decide, rfl⟩ (Nat.le_of_ble_eq_true rfl) lVX7_65 rfl (by decide +kernel : decode cX7_readBracket 34 = .ok (.invokevirtual 65, 3)) ?_
      refine re_iconst (pc := 37) (1 : Int32) (by decide +kernel : decode cX7_readBracket 37 = .ok (.iconst 1, 1)) (by decide) ?_
      cases h
      exact re_iret (fun ty hty => by cases hty; rfl) (by decide +kernel : decode cX7_readBracket 38 = .ok (.ireturn, 1))
    · refine re_icmp_eq_f (pc := 24) 33 (by decide +kernel : decode cX7_readBracket 24 = .ok (.if_icmp .eq 9, 3)) (by decide) g17_ ?_
      refine re_aloadn (pc := 27) 1 (by decide +kernel : decode cX7_readBracket 27 = .ok (.aload_n 1, 1)) rfl ?_
      refine re_iconst (pc := 28) (1 : Int32) (by decide +kernel : decode cX7_readBracket 28 = .ok (.iconst 1, 1)) (by decide) ?_
      obtain ⟨u24_, g25_, h⟩ := rv_b_e h
      obtain ⟨x27_, S28_, g29_, h⟩ := rv_bp_e h
      have m26_ := metX8_fail n S11_ a1 (1 : Int32) _ _ g29_
      have z30_ : rv_same S11_ S28_ := m26_.sh rfl
      refine re_cV (pc := 29) [.int (1 : Int32)] m26_ (rv_okl.k z30_) (rv_up.sh z30_) (by omega) (rv_ck_e g25_) ⟨by decide, rfl⟩ (Nat.le_of_ble_eq_true rfl) lVX7_51 rfl (by decide +kernel : decode cX7_readBracket 29 = .ok (.invokevirtual 51, 3)) ?_
      obtain ⟨b_, gb_, h⟩ := rv_b_e h
      obtain ⟨gb1_, gb2_⟩ := rv_bo_e gb_
      refine re_nI (pc := 32) gb1_ ?_
      cases h
      exact re_iret (fun ty hty => by cases hty; exact gb2_) (by decide +kernel : decode cX7_readBracket 32 = .ok (.ireturn, 1))
noncomputable def cX7_readOne_28 (n : Nat) (G0 : rvS → Nat → Nat → Nat → Int32 → Option (Int32 × rvS)) (G1 : rvS → Nat → Nat → Nat → Int32 → Option (Int32 × rvS)) (G2 : rvS → Nat → Nat → Nat → Int32 → Option (Int32 × rvS)) (G3 : rvS → Nat → Nat → Nat → Int32 → Option (Int32 × rvS)) (G4 : rvS → Nat → Nat → Nat → Int32 → Option (Int32 × rvS)) (S : rvS) (a1 : Nat) : Option (Int32 × rvS) :=
  (rv_ck S 7 a1).bind fun u1_ =>
  rv_bp (fnX8_fail n S a1 (4 : Int32)) fun x4_ S5_ =>
  (rv_bo x4_).bind fun b_ =>
  some (b_, S5_)
set_option maxRecDepth 20000 in
set_option maxHeartbeats 4000000 in
theorem eX7_readOne_28 (n : Nat) (G0 : rvS → Nat → Nat → Nat → Int32 → Option (Int32 × rvS)) (G1 : rvS → Nat → Nat → Nat → Int32 → Option (Int32 × rvS)) (G2 : rvS → Nat → Nat → Nat → Int32 → Option (Int32 × rvS)) (G3 : rvS → Nat → Nat → Nat → Int32 → Option (Int32 × rvS)) (G4 : rvS → Nat → Nat → Nat → Int32 → Option (Int32 × rvS)) (d : Nat) (hG0 : ∀ (S : rvS) (z0 : Nat) (z1 : Nat) (z2 : Nat) (z3 : Int32) (r : Int32) (S' : rvS), G0 S z0 z1 z2 z3 = some (r, S') → rv_Met yX7_readNot mX7_readNot (4 + d) [.ref z0, .ref z1, .ref z2, .int z3] S (some (.int r)) S') (hG1 : ∀ (S : rvS) (z0 : Nat) (z1 : Nat) (z2 : Nat) (z3 : Int32) (r : Int32) (S' : rvS), G1 S z0 z1 z2 z3 = some (r, S') → rv_Met yX7_readBracket mX7_readBracket (4 + d) [.ref z0, .ref z1, .ref z2, .int z3] S (some (.int r)) S') (hG2 : ∀ (S : rvS) (z0 : Nat) (z1 : Nat) (z2 : Nat) (z3 : Int32) (r : Int32) (S' : rvS), G2 S z0 z1 z2 z3 = some (r, S') → rv_Met yX7_readOne mX7_readOne (4 + d) [.ref z0, .ref z1, .ref z2, .int z3] S (some (.int r)) S') (hG3 : ∀ (S : rvS) (z0 : Nat) (z1 : Nat) (z2 : Nat) (z3 : Int32) (r : Int32) (S' : rvS), G3 S z0 z1 z2 z3 = some (r, S') → rv_Met yX7_readAll mX7_readAll (4 + d) [.ref z0, .ref z1, .ref z2, .int z3] S (some (.int r)) S') (hG4 : ∀ (S : rvS) (z0 : Nat) (z1 : Nat) (z2 : Nat) (z3 : Int32) (r : Int32) (S' : rvS), G4 S z0 z1 z2 z3 = some (r, S') → rv_Met yX7_readAny mX7_readAny (4 + d) [.ref z0, .ref z1, .ref z2, .int z3] S (some (.int r)) S') (S : rvS) (a1 : Nat) (r : Int32) (S' : rvS) (h : cX7_readOne_28 n G0 G1 G2 G3 G4 S a1 = some (r, S')) : rv_Ev mX7_readOne (4 + d + 1) 28 [(1, .ref a1)] [] S (some (.int r)) S' := by
  unfold cX7_readOne_28 at h
  refine re_aloadn (pc := 28) 0 (by decide +kernel : decode cX7_readOne 28 = .ok (.aload_n 1, 1)) rfl ?_
  refine re_iconst (pc := 29) (4 : Int32) (by decide +kernel : decode cX7_readOne 29 = .ok (.iconst 4, 1)) (by decide) ?_
  obtain ⟨u1_, g2_, h⟩ := rv_b_e h
  obtain ⟨x4_, S5_, g6_, h⟩ := rv_bp_e h
  have m3_ := metX8_fail n S a1 (4 : Int32) _ _ g6_
  have z7_ : rv_same S S5_ := m3_.sh rfl
  refine re_cV (pc := 30) [.int (4 : Int32)] m3_ (rv_okl.k z7_) (rv_up.sh z7_) (by omega) (rv_ck_e g2_) ⟨by decide, rfl⟩ (Nat.le_of_ble_eq_true rfl) lVX7_51 rfl (by decide +kernel : decode cX7_readOne 30 = .ok (.invokevirtual 51, 3)) ?_
  obtain ⟨b_, gb_, h⟩ := rv_b_e h
  obtain ⟨gb1_, gb2_⟩ := rv_bo_e gb_
  refine re_nI (pc := 33) gb1_ ?_
  cases h
  exact re_iret (fun ty hty => by cases hty; exact gb2_) (by decide +kernel : decode cX7_readOne 33 = .ok (.ireturn, 1))
noncomputable def fbX7_readOne (n : Nat) (G0 : rvS → Nat → Nat → Nat → Int32 → Option (Int32 × rvS)) (G1 : rvS → Nat → Nat → Nat → Int32 → Option (Int32 × rvS)) (G2 : rvS → Nat → Nat → Nat → Int32 → Option (Int32 × rvS)) (G3 : rvS → Nat → Nat → Nat → Int32 → Option (Int32 × rvS)) (G4 : rvS → Nat → Nat → Nat → Int32 → Option (Int32 × rvS)) (S : rvS) (a0 : Nat) (a1 : Nat) (a2 : Nat) (x3 : Int32) : Option (Int32 × rvS) :=
  (fnX7_startsOne n S a1).bind fun x2_ =>
  if x2_ = 0 then (
    (rv_ck S 7 a1).bind fun u100_ =>
    rv_bp (fnX8_fail n S a1 (1 : Int32)) fun x103_ S104_ =>
    (rv_bo x103_).bind fun b_ =>
    some (b_, S104_))
  else (
    (rv_gI S 6 a0 5).bind fun x5_ =>
    if (20 : Int32) ≤ x5_ then (
      cX7_readOne_28 n G0 G1 G2 G3 G4 S a1)
    else (
      if x3 ≤ (8 : Int32) then (
        (rv_gI S 6 a0 5).bind fun x9_ =>
        (rv_pI S 6 a0 5 (x9_ + (1 : Int32))).bind fun S11_ =>
        (rv_gI S11_ 7 a1 4).bind fun x13_ =>
        if x13_ = (40 : Int32) then (
          (rv_ck S11_ 6 a0).bind fun u93_ =>
          rv_bp (G1 S11_ a0 a1 a2 x3) fun x96_ S97_ =>
          (rv_bo x96_).bind fun b_ =>
          some (b_, S97_))
        else (
          (rv_gR S11_ 7 a1 8).bind fun a16_ =>
          (rv_ck S11_ 7 a1).bind fun u18_ =>
          (fnX8_next n S11_ a1).bind fun S21_ =>
          (rv_wd a16_).bind fun u24_ =>
          (rv_ix 23 (Int32.ofNat a16_)).bind fun j26_ =>
          rv_lt (rv_sw j26_) fun x29_ =>
          if x29_ = 9 then (
            (rv_ck S21_ 6 a0).bind fun u32_ =>
            rv_bp (G0 S21_ a0 a1 a2 x3) fun x35_ S36_ =>
            (rv_bo x35_).bind fun b_ =>
            some (b_, S36_))
          else (
            if x29_ = 10 then (
              (rv_ck S21_ 6 a0).bind fun u40_ =>
              rv_bp (fnX7_readOfWho n S21_ a0 a1 a2 a16_) fun x43_ S44_ =>
              (rv_bo x43_).bind fun b_ =>
              some (b_, S44_))
            else (
              if x29_ = 11 then (
                (rv_ck S21_ 6 a0).bind fun u48_ =>
                rv_bp (fnX7_readOfWho n S21_ a0 a1 a2 a16_) fun x51_ S52_ =>
                (rv_bo x51_).bind fun b_ =>
                some (b_, S52_))
              else (
                if x29_ = 12 then (
                  (rv_ck S21_ 6 a0).bind fun u56_ =>
                  rv_bp (fnX7_readOfWho n S21_ a0 a1 a2 a16_) fun x59_ S60_ =>
                  (rv_bo x59_).bind fun b_ =>
                  some (b_, S60_))
                else (
                  if x29_ = 13 then (
                    (rv_ck S21_ 6 a0).bind fun u64_ =>
                    rv_bp (fnX7_readOfNumber n S21_ a0 a1 a16_) fun x67_ S68_ =>
                    (rv_bo x67_).bind fun b_ =>
                    some (b_, S68_))
                  else (
                    if x29_ = 14 then (
                      (rv_ck S21_ 6 a0).bind fun u72_ =>
                      rv_bp (fnX7_readOfNumber n S21_ a0 a1 a16_) fun x75_ S76_ =>
                      (rv_bo x75_).bind fun b_ =>
                      some (b_, S76_))
                    else (
                      if x29_ = 15 then (
                        (rv_ck S21_ 6 a0).bind fun u80_ =>
                        rv_bp (fnX7_readOfNumber n S21_ a0 a1 a16_) fun x83_ S84_ =>
                        (rv_bo x83_).bind fun b_ =>
                        some (b_, S84_))
                      else (
                        (rv_ck S21_ 6 a0).bind fun u87_ =>
                        (fnX7_put n S21_ a0 a16_ (0 : Int32) (0 : Int32)).bind fun S90_ =>
                        some ((1 : Int32), S90_))))))))))
      else (
        cX7_readOne_28 n G0 G1 G2 G3 G4 S a1)))
set_option maxRecDepth 20000 in
set_option maxHeartbeats 4000000 in
theorem eX7_readOne_in (n : Nat) (G0 : rvS → Nat → Nat → Nat → Int32 → Option (Int32 × rvS)) (G1 : rvS → Nat → Nat → Nat → Int32 → Option (Int32 × rvS)) (G2 : rvS → Nat → Nat → Nat → Int32 → Option (Int32 × rvS)) (G3 : rvS → Nat → Nat → Nat → Int32 → Option (Int32 × rvS)) (G4 : rvS → Nat → Nat → Nat → Int32 → Option (Int32 × rvS)) (d : Nat) (hG0 : ∀ (S : rvS) (z0 : Nat) (z1 : Nat) (z2 : Nat) (z3 : Int32) (r : Int32) (S' : rvS), G0 S z0 z1 z2 z3 = some (r, S') → rv_Met yX7_readNot mX7_readNot (4 + d) [.ref z0, .ref z1, .ref z2, .int z3] S (some (.int r)) S') (hG1 : ∀ (S : rvS) (z0 : Nat) (z1 : Nat) (z2 : Nat) (z3 : Int32) (r : Int32) (S' : rvS), G1 S z0 z1 z2 z3 = some (r, S') → rv_Met yX7_readBracket mX7_readBracket (4 + d) [.ref z0, .ref z1, .ref z2, .int z3] S (some (.int r)) S') (hG2 : ∀ (S : rvS) (z0 : Nat) (z1 : Nat) (z2 : Nat) (z3 : Int32) (r : Int32) (S' : rvS), G2 S z0 z1 z2 z3 = some (r, S') → rv_Met yX7_readOne mX7_readOne (4 + d) [.ref z0, .ref z1, .ref z2, .int z3] S (some (.int r)) S') (hG3 : ∀ (S : rvS) (z0 : Nat) (z1 : Nat) (z2 : Nat) (z3 : Int32) (r : Int32) (S' : rvS), G3 S z0 z1 z2 z3 = some (r, S') → rv_Met yX7_readAll mX7_readAll (4 + d) [.ref z0, .ref z1, .ref z2, .int z3] S (some (.int r)) S') (hG4 : ∀ (S : rvS) (z0 : Nat) (z1 : Nat) (z2 : Nat) (z3 : Int32) (r : Int32) (S' : rvS), G4 S z0 z1 z2 z3 = some (r, S') → rv_Met yX7_readAny mX7_readAny (4 + d) [.ref z0, .ref z1, .ref z2, .int z3] S (some (.int r)) S') (S : rvS) (a0 : Nat) (a1 : Nat) (a2 : Nat) (x3 : Int32) (r : Int32) (S' : rvS) (h : fbX7_readOne n G0 G1 G2 G3 G4 S a0 a1 a2 x3 = some (r, S')) : rv_Ev mX7_readOne (4 + d + 1) 0 [(0, .ref a0), (1, .ref a1), (2, .ref a2), (3, .int x3)] [] S (some (.int r)) S' := by
  unfold fbX7_readOne at h
  refine re_aloadn (pc := 0) 1 (by decide +kernel : decode cX7_readOne 0 = .ok (.aload_n 1, 1)) rfl ?_
  obtain ⟨x2_, g3_, h⟩ := rv_b_e h
  have m1_ := metX7_startsOne n S a1 _ g3_
  refine re_cS (pc := 1) [.ref a1] m1_ (rv_okl.k ⟨rfl, rfl⟩) (rv_up.rf _ _) (by omega) (Nat.le_of_ble_eq_true rfl) lSX7_78 rfl (by decide +kernel : decode cX7_readOne 1 = .ok (.invokestatic 78, 3)) ?_
  rcases rv_if_e h with ⟨g4_, h⟩ | ⟨g4_, h⟩
  · refine re_if_ne_f (pc := 4) 13 (by decide +kernel : decode cX7_readOne 4 = .ok (.ifCond .ne 9, 3)) (by decide) g4_ ?_
    refine re_aloadn (pc := 7) 1 (by decide +kernel : decode cX7_readOne 7 = .ok (.aload_n 1, 1)) rfl ?_
    refine re_iconst (pc := 8) (1 : Int32) (by decide +kernel : decode cX7_readOne 8 = .ok (.iconst 1, 1)) (by decide) ?_
    obtain ⟨u100_, g101_, h⟩ := rv_b_e h
    obtain ⟨x103_, S104_, g105_, h⟩ := rv_bp_e h
    have m102_ := metX8_fail n S a1 (1 : Int32) _ _ g105_
    have z106_ : rv_same S S104_ := m102_.sh rfl
    refine re_cV (pc := 9) [.int (1 : Int32)] m102_ (rv_okl.k z106_) (rv_up.sh z106_) (by omega) (rv_ck_e g101_) ⟨by decide, rfl⟩ (Nat.le_of_ble_eq_true rfl) lVX7_51 rfl (by decide +kernel : decode cX7_readOne 9 = .ok (.invokevirtual 51, 3)) ?_
    obtain ⟨b_, gb_, h⟩ := rv_b_e h
    obtain ⟨gb1_, gb2_⟩ := rv_bo_e gb_
    refine re_nI (pc := 12) gb1_ ?_
    cases h
    exact re_iret (fun ty hty => by cases hty; exact gb2_) (by decide +kernel : decode cX7_readOne 12 = .ok (.ireturn, 1))
  · refine re_if_ne_t (pc := 4) 13 (by decide +kernel : decode cX7_readOne 4 = .ok (.ifCond .ne 9, 3)) (by decide) g4_ ?_
    refine re_aloadn (pc := 13) 0 (by decide +kernel : decode cX7_readOne 13 = .ok (.aload_n 0, 1)) rfl ?_
    obtain ⟨x5_, g6_, h⟩ := rv_b_e h
    refine re_gI (pc := 14) g6_ lfX7_36 rfl (by decide +kernel : decode cX7_readOne 14 = .ok (.getfield 36, 3)) ?_
    refine re_bipush (pc := 17) (20 : Int32) (by decide +kernel : decode cX7_readOne 17 = .ok (.bipush 20, 2)) (by decide) ?_
    rcases rv_if_e h with ⟨g7_, h⟩ | ⟨g7_, h⟩
    · refine re_icmp_ge_t (pc := 19) 28 (by decide +kernel : decode cX7_readOne 19 = .ok (.if_icmp .ge 9, 3)) (by decide) g7_ ?_
      refine re_sub [1] (lv1 := [(1, .ref a1)]) rfl ?_
      exact eX7_readOne_28 n G0 G1 G2 G3 G4 d hG0 hG1 hG2 hG3 hG4 S a1 _ _ h
    · refine re_icmp_ge_f (pc := 19) 28 (by decide +kernel : decode cX7_readOne 19 = .ok (.if_icmp .ge 9, 3)) (by decide) g7_ ?_
      refine re_iloadn (pc := 22) 3 (by decide +kernel : decode cX7_readOne 22 = .ok (.iload_n 3, 1)) rfl ?_
      refine re_bipush (pc := 23) (8 : Int32) (by decide +kernel : decode cX7_readOne 23 = .ok (.bipush 8, 2)) (by decide) ?_
      rcases rv_if_e h with ⟨g8_, h⟩ | ⟨g8_, h⟩
      · refine re_icmp_le_t (pc := 25) 34 (by decide +kernel : decode cX7_readOne 25 = .ok (.if_icmp .le 9, 3)) (by decide) g8_ ?_
        refine re_aloadn (pc := 34) 0 (by decide +kernel : decode cX7_readOne 34 = .ok (.aload_n 0, 1)) rfl ?_
        refine re_dup (pc := 35) (by decide +kernel : decode cX7_readOne 35 = .ok (.dup, 1)) rfl ?_
        obtain ⟨x9_, g10_, h⟩ := rv_b_e h
        refine re_gI (pc := 36) g10_ lfX7_36 rfl (by decide +kernel : decode cX7_readOne 36 = .ok (.getfield 36, 3)) ?_
        refine re_iconst (pc := 39) (1 : Int32) (by decide +kernel : decode cX7_readOne 39 = .ok (.iconst 1, 1)) (by decide) ?_
        refine re_iadd (pc := 40) (by decide +kernel : decode cX7_readOne 40 = .ok (.iadd, 1)) ?_
        obtain ⟨S11_, g12_, h⟩ := rv_b_e h
        refine re_pI (pc := 41) g12_ lfX7_36 rfl rfl rfl rfl (by decide +kernel : decode cX7_readOne 41 = .ok (.putfield 36, 3)) ?_
        refine re_aloadn (pc := 44) 1 (by decide +kernel : decode cX7_readOne 44 = .ok (.aload_n 1, 1)) rfl ?_
        obtain ⟨x13_, g14_, h⟩ := rv_b_e h
        refine re_gI (pc := 45) g14_ lfX7_46 rfl (by decide +kernel : decode cX7_readOne 45 = .ok (.getfield 46, 3)) ?_
        refine re_bipush (pc := 48) (40 : Int32) (by decide +kernel : decode cX7_readOne 48 = .ok (.bipush 40, 2)) (by decide) ?_
        rcases rv_if_e h with ⟨g15_, h⟩ | ⟨g15_, h⟩
        · refine re_icmp_ne_f (pc := 50) 61 (by decide +kernel : decode cX7_readOne 50 = .ok (.if_icmp .ne 11, 3)) (by decide) g15_ ?_
          refine re_aloadn (pc := 53) 0 (by decide +kernel : decode cX7_readOne 53 = .ok (.aload_n 0, 1)) rfl ?_
          refine re_aloadn (pc := 54) 1 (by decide +kernel : decode cX7_readOne 54 = .ok (.aload_n 1, 1)) rfl ?_
          refine re_aloadn (pc := 55) 2 (by decide +kernel : decode cX7_readOne 55 = .ok (.aload_n 2, 1)) rfl ?_
          refine re_iloadn (pc := 56) 3 (by decide +kernel : decode cX7_readOne 56 = .ok (.iload_n 3, 1)) rfl ?_
          obtain ⟨u93_, g94_, h⟩ := rv_b_e h
          obtain ⟨x96_, S97_, g98_, h⟩ := rv_bp_e h
          have m95_ := hG1 S11_ a0 a1 a2 x3 _ _ g98_
          have z99_ : rv_same S11_ S97_ := m95_.sh rfl
          refine re_cV (pc := 57) [.ref a1, .ref a2, .int x3] m95_ (rv_okl.k z99_) (rv_up.sh z99_) (by omega) (rv_ck_e g94_) ⟨by decide, rfl⟩ (Nat.le_of_ble_eq_true rfl) lVX7_82 rfl (by decide +kernel : decode cX7_readOne 57 = .ok (.invokevirtual 82, 3)) ?_
          obtain ⟨b_, gb_, h⟩ := rv_b_e h
          obtain ⟨gb1_, gb2_⟩ := rv_bo_e gb_
          refine re_nI (pc := 60) gb1_ ?_
          cases h
          exact re_iret (fun ty hty => by cases hty; exact gb2_) (by decide +kernel : decode cX7_readOne 60 = .ok (.ireturn, 1))
        · refine re_icmp_ne_t (pc := 50) 61 (by decide +kernel : decode cX7_readOne 50 = .ok (.if_icmp .ne 11, 3)) (by decide) g15_ ?_
          refine re_aloadn (pc := 61) 1 (by decide +kernel : decode cX7_readOne 61 = .ok (.aload_n 1, 1)) rfl ?_
          obtain ⟨a16_, g17_, h⟩ := rv_b_e h
          refine re_gR (pc := 62) g17_ lfX7_85 rfl (by decide +kernel : decode cX7_readOne 62 = .ok (.getfield 85, 3)) ?_
          refine re_astore (pc := 65) (lv1 := [(4, .ref a16_), (0, .ref a0), (1, .ref a1), (2, .ref a2), (3, .int x3)]) (by decide +kernel : decode cX7_readOne 65 = .ok (.astore 4, 2)) (by decide) rfl ?_
          refine re_aloadn (pc := 67) 2 (by decide +kernel : decode cX7_readOne 67 = .ok (.aload_n 1, 1)) rfl ?_
          obtain ⟨u18_, g19_, h⟩ := rv_b_e h
          obtain ⟨S21_, g22_, h⟩ := rv_b_e h
          have m20_ := metX8_next n S11_ a1 _ g22_
          have z23_ : rv_same S11_ S21_ := m20_.sh rfl
          refine re_cV (pc := 68) [] m20_ (rv_okl.k z23_) (rv_up.sh z23_) (by omega) (rv_ck_e g19_) ⟨by decide, rfl⟩ (Nat.le_of_ble_eq_true rfl) lVX7_65 rfl (by decide +kernel : decode cX7_readOne 68 = .ok (.invokevirtual 65, 3)) ?_
          refine re_getsS (pc := 71) (rw6 49 (by decide +kernel) rfl) (by decide +kernel : decode cX7_readOne 71 = .ok (.getstatic 88, 3)) ?_
          refine re_aload (pc := 74) 0 (by decide +kernel : decode cX7_readOne 74 = .ok (.aload 4, 2)) rfl ?_
          obtain ⟨u24_, g25_, h⟩ := rv_b_e h
          refine re_ord (pc := 76) (rv_wd_e g25_) (rw6 50 (by decide +kernel) rfl) (by omega) (Nat.le_of_ble_eq_true rfl) (by decide +kernel : decode cX7_readOne 76 = .ok (.invokevirtual 93, 3)) ?_
          obtain ⟨j26_, g27_, h⟩ := rv_b_e h
          have z28_ := rv_ix_e g27_
          refine re_aldS (pc := 79) z28_.1 (by decide +kernel : decode cX7_readOne 79 = .ok (.iaload, 1)) ?_
          refine re_nI (congrArg rv_sw z28_.2.symm) ?_
          obtain ⟨x29_, g30_, h⟩ := rv_lt_e h
          refine re_nI (pc := 80) g30_ ?_
          rcases rv_if_e h with ⟨g31_, h⟩ | ⟨g31_, h⟩
          · refine re_tabInE (pc := 80) (off := 44) 124 (by decide +kernel : decode cX7_readOne 80 = .ok (.tableswitch 69 9 15 #[44, 52, 52, 52, 61, 61, 61], 44)) g31_ (by decide) (by decide) (by decide) (by decide) ?_
            refine re_aloadn (pc := 124) 1 (by decide +kernel : decode cX7_readOne 124 = .ok (.aload_n 0, 1)) rfl ?_
            refine re_aloadn (pc := 125) 2 (by decide +kernel : decode cX7_readOne 125 = .ok (.aload_n 1, 1)) rfl ?_
            refine re_aloadn (pc := 126) 3 (by decide +kernel : decode cX7_readOne 126 = .ok (.aload_n 2, 1)) rfl ?_
            refine re_iloadn (pc := 127) 4 (by decide +kernel : decode cX7_readOne 127 = .ok (.iload_n 3, 1)) rfl ?_
            obtain ⟨u32_, g33_, h⟩ := rv_b_e h
            obtain ⟨x35_, S36_, g37_, h⟩ := rv_bp_e h
            have m34_ := hG0 S21_ a0 a1 a2 x3 _ _ g37_
            have z38_ : rv_same S21_ S36_ := m34_.sh rfl
            refine re_cV (pc := 128) [.ref a1, .ref a2, .int x3] m34_ (rv_okl.k z38_) (rv_up.sh z38_) (by omega) (rv_ck_e g33_) ⟨by decide, rfl⟩ (Nat.le_of_ble_eq_true rfl) lVX7_97 rfl (by decide +kernel : decode cX7_readOne 128 = .ok (.invokevirtual 97, 3)) ?_
            obtain ⟨b_, gb_, h⟩ := rv_b_e h
            obtain ⟨gb1_, gb2_⟩ := rv_bo_e gb_
            refine re_nI (pc := 131) gb1_ ?_
            cases h
            exact re_iret (fun ty hty => by cases hty; exact gb2_) (by decide +kernel : decode cX7_readOne 131 = .ok (.ireturn, 1))
          · skip
            rcases rv_if_e h with ⟨g39_, h⟩ | ⟨g39_, h⟩
            · refine re_tabInE (pc := 80) (off := 52) 132 (by decide +kernel : decode cX7_readOne 80 = .ok (.tableswitch 69 9 15 #[44, 52, 52, 52, 61, 61, 61], 44)) g39_ (by decide) (by decide) (by decide) (by decide) ?_
              refine re_aloadn (pc := 132) 1 (by decide +kernel : decode cX7_readOne 132 = .ok (.aload_n 0, 1)) rfl ?_
              refine re_aloadn (pc := 133) 2 (by decide +kernel : decode cX7_readOne 133 = .ok (.aload_n 1, 1)) rfl ?_
              refine re_aloadn (pc := 134) 3 (by decide +kernel : decode cX7_readOne 134 = .ok (.aload_n 2, 1)) rfl ?_
              refine re_aload (pc := 135) 0 (by decide +kernel : decode cX7_readOne 135 = .ok (.aload 4, 2)) rfl ?_
              obtain ⟨u40_, g41_, h⟩ := rv_b_e h
              obtain ⟨x43_, S44_, g45_, h⟩ := rv_bp_e h
              have m42_ := metX7_readOfWho n S21_ a0 a1 a2 a16_ _ _ g45_
              have z46_ : rv_same S21_ S44_ := m42_.sh rfl
              refine re_cV (pc := 137) [.ref a1, .ref a2, .ref a16_] m42_ (rv_okl.k z46_) (rv_up.sh z46_) (by omega) (rv_ck_e g41_) ⟨by decide, rfl⟩ (Nat.le_of_ble_eq_true rfl) lVX7_100 rfl (by decide +kernel : decode cX7_readOne 137 = .ok (.invokevirtual 100, 3)) ?_
              obtain ⟨b_, gb_, h⟩ := rv_b_e h
              obtain ⟨gb1_, gb2_⟩ := rv_bo_e gb_
              refine re_nI (pc := 140) gb1_ ?_
              cases h
              exact re_iret (fun ty hty => by cases hty; exact gb2_) (by decide +kernel : decode cX7_readOne 140 = .ok (.ireturn, 1))
            · skip
              rcases rv_if_e h with ⟨g47_, h⟩ | ⟨g47_, h⟩
              · refine re_tabInE (pc := 80) (off := 52) 132 (by decide +kernel : decode cX7_readOne 80 = .ok (.tableswitch 69 9 15 #[44, 52, 52, 52, 61, 61, 61], 44)) g47_ (by decide) (by decide) (by decide) (by decide) ?_
                refine re_aloadn (pc := 132) 1 (by decide +kernel : decode cX7_readOne 132 = .ok (.aload_n 0, 1)) rfl ?_
                refine re_aloadn (pc := 133) 2 (by decide +kernel : decode cX7_readOne 133 = .ok (.aload_n 1, 1)) rfl ?_
                refine re_aloadn (pc := 134) 3 (by decide +kernel : decode cX7_readOne 134 = .ok (.aload_n 2, 1)) rfl ?_
                refine re_aload (pc := 135) 0 (by decide +kernel : decode cX7_readOne 135 = .ok (.aload 4, 2)) rfl ?_
                obtain ⟨u48_, g49_, h⟩ := rv_b_e h
                obtain ⟨x51_, S52_, g53_, h⟩ := rv_bp_e h
                have m50_ := metX7_readOfWho n S21_ a0 a1 a2 a16_ _ _ g53_
                have z54_ : rv_same S21_ S52_ := m50_.sh rfl
                refine re_cV (pc := 137) [.ref a1, .ref a2, .ref a16_] m50_ (rv_okl.k z54_) (rv_up.sh z54_) (by omega) (rv_ck_e g49_) ⟨by decide, rfl⟩ (Nat.le_of_ble_eq_true rfl) lVX7_100 rfl (by decide +kernel : decode cX7_readOne 137 = .ok (.invokevirtual 100, 3)) ?_
                obtain ⟨b_, gb_, h⟩ := rv_b_e h
                obtain ⟨gb1_, gb2_⟩ := rv_bo_e gb_
                refine re_nI (pc := 140) gb1_ ?_
                cases h
                exact re_iret (fun ty hty => by cases hty; exact gb2_) (by decide +kernel : decode cX7_readOne 140 = .ok (.ireturn, 1))
              · skip
                rcases rv_if_e h with ⟨g55_, h⟩ | ⟨g55_, h⟩
                · refine re_tabInE (pc := 80) (off := 52) 132 (by decide +kernel : decode cX7_readOne 80 = .ok (.tableswitch 69 9 15 #[44, 52, 52, 52, 61, 61, 61], 44)) g55_ (by decide) (by decide) (by decide) (by decide) ?_
                  refine re_aloadn (pc := 132) 1 (by decide +kernel : decode cX7_readOne 132 = .ok (.aload_n 0, 1)) rfl ?_
                  refine re_aloadn (pc := 133) 2 (by decide +kernel : decode cX7_readOne 133 = .ok (.aload_n 1, 1)) rfl ?_
                  refine re_aloadn (pc := 134) 3 (by decide +kernel : decode cX7_readOne 134 = .ok (.aload_n 2, 1)) rfl ?_
                  refine re_aload (pc := 135) 0 (by decide +kernel : decode cX7_readOne 135 = .ok (.aload 4, 2)) rfl ?_
                  obtain ⟨u56_, g57_, h⟩ := rv_b_e h
                  obtain ⟨x59_, S60_, g61_, h⟩ := rv_bp_e h
                  have m58_ := metX7_readOfWho n S21_ a0 a1 a2 a16_ _ _ g61_
                  have z62_ : rv_same S21_ S60_ := m58_.sh rfl
                  refine re_cV (pc := 137) [.ref a1, .ref a2, .ref a16_] m58_ (rv_okl.k z62_) (rv_up.sh z62_) (by omega) (rv_ck_e g57_) ⟨by decide, rfl⟩ (Nat.le_of_ble_eq_true rfl) lVX7_100 rfl (by decide +kernel : decode cX7_readOne 137 = .ok (.invokevirtual 100, 3)) ?_
                  obtain ⟨b_, gb_, h⟩ := rv_b_e h
                  obtain ⟨gb1_, gb2_⟩ := rv_bo_e gb_
                  refine re_nI (pc := 140) gb1_ ?_
                  cases h
                  exact re_iret (fun ty hty => by cases hty; exact gb2_) (by decide +kernel : decode cX7_readOne 140 = .ok (.ireturn, 1))
                · skip
                  rcases rv_if_e h with ⟨g63_, h⟩ | ⟨g63_, h⟩
                  · refine re_tabInE (pc := 80) (off := 61) 141 (by decide +kernel : decode cX7_readOne 80 = .ok (.tableswitch 69 9 15 #[44, 52, 52, 52, 61, 61, 61], 44)) g63_ (by decide) (by decide) (by decide) (by decide) ?_
                    refine re_aloadn (pc := 141) 1 (by decide +kernel : decode cX7_readOne 141 = .ok (.aload_n 0, 1)) rfl ?_
                    refine re_aloadn (pc := 142) 2 (by decide +kernel : decode cX7_readOne 142 = .ok (.aload_n 1, 1)) rfl ?_
                    refine re_aload (pc := 143) 0 (by decide +kernel : decode cX7_readOne 143 = .ok (.aload 4, 2)) rfl ?_
                    obtain ⟨u64_, g65_, h⟩ := rv_b_e h
                    obtain ⟨x67_, S68_, g69_, h⟩ := rv_bp_e h
                    have m66_ := metX7_readOfNumber n S21_ a0 a1 a16_ _ _ g69_
                    have z70_ : rv_same S21_ S68_ := m66_.sh rfl
                    refine re_cV (pc := 145) [.ref a1, .ref a16_] m66_ (rv_okl.k z70_) (rv_up.sh z70_) (by omega) (rv_ck_e g65_) ⟨by decide, rfl⟩ (Nat.le_of_ble_eq_true rfl) lVX7_104 rfl (by decide +kernel : decode cX7_readOne 145 = .ok (.invokevirtual 104, 3)) ?_
                    obtain ⟨b_, gb_, h⟩ := rv_b_e h
                    obtain ⟨gb1_, gb2_⟩ := rv_bo_e gb_
                    refine re_nI (pc := 148) gb1_ ?_
                    cases h
                    exact re_iret (fun ty hty => by cases hty; exact gb2_) (by decide +kernel : decode cX7_readOne 148 = .ok (.ireturn, 1))
                  · skip
                    rcases rv_if_e h with ⟨g71_, h⟩ | ⟨g71_, h⟩
                    · refine re_tabInE (pc := 80) (off := 61) 141 (by decide +kernel : decode cX7_readOne 80 = .ok (.tableswitch 69 9 15 #[44, 52, 52, 52, 61, 61, 61], 44)) g71_ (by decide) (by decide) (by decide) (by decide) ?_
                      refine re_aloadn (pc := 141) 1 (by decide +kernel : decode cX7_readOne 141 = .ok (.aload_n 0, 1)) rfl ?_
                      refine re_aloadn (pc := 142) 2 (by decide +kernel : decode cX7_readOne 142 = .ok (.aload_n 1, 1)) rfl ?_
                      refine re_aload (pc := 143) 0 (by decide +kernel : decode cX7_readOne 143 = .ok (.aload 4, 2)) rfl ?_
                      obtain ⟨u72_, g73_, h⟩ := rv_b_e h
                      obtain ⟨x75_, S76_, g77_, h⟩ := rv_bp_e h
                      have m74_ := metX7_readOfNumber n S21_ a0 a1 a16_ _ _ g77_
                      have z78_ : rv_same S21_ S76_ := m74_.sh rfl
                      refine re_cV (pc := 145) [.ref a1, .ref a16_] m74_ (rv_okl.k z78_) (rv_up.sh z78_) (by omega) (rv_ck_e g73_) ⟨by decide, rfl⟩ (Nat.le_of_ble_eq_true rfl) lVX7_104 rfl (by decide +kernel : decode cX7_readOne 145 = .ok (.invokevirtual 104, 3)) ?_
                      obtain ⟨b_, gb_, h⟩ := rv_b_e h
                      obtain ⟨gb1_, gb2_⟩ := rv_bo_e gb_
                      refine re_nI (pc := 148) gb1_ ?_
                      cases h
                      exact re_iret (fun ty hty => by cases hty; exact gb2_) (by decide +kernel : decode cX7_readOne 148 = .ok (.ireturn, 1))
                    · skip
                      rcases rv_if_e h with ⟨g79_, h⟩ | ⟨g79_, h⟩
                      · refine re_tabInE (pc := 80) (off := 61) 141 (by decide +kernel : decode cX7_readOne 80 = .ok (.tableswitch 69 9 15 #[44, 52, 52, 52, 61, 61, 61], 44)) g79_ (by decide) (by decide) (by decide) (by decide) ?_
                        refine re_aloadn (pc := 141) 1 (by decide +kernel : decode cX7_readOne 141 = .ok (.aload_n 0, 1)) rfl ?_
                        refine re_aloadn (pc := 142) 2 (by decide +kernel : decode cX7_readOne 142 = .ok (.aload_n 1, 1)) rfl ?_
                        refine re_aload (pc := 143) 0 (by decide +kernel : decode cX7_readOne 143 = .ok (.aload 4, 2)) rfl ?_
                        obtain ⟨u80_, g81_, h⟩ := rv_b_e h
                        obtain ⟨x83_, S84_, g85_, h⟩ := rv_bp_e h
                        have m82_ := metX7_readOfNumber n S21_ a0 a1 a16_ _ _ g85_
                        have z86_ : rv_same S21_ S84_ := m82_.sh rfl
                        refine re_cV (pc := 145) [.ref a1, .ref a16_] m82_ (rv_okl.k z86_) (rv_up.sh z86_) (by omega) (rv_ck_e g81_) ⟨by decide, rfl⟩ (Nat.le_of_ble_eq_true rfl) lVX7_104 rfl (by decide +kernel : decode cX7_readOne 145 = .ok (.invokevirtual 104, 3)) ?_
                        obtain ⟨b_, gb_, h⟩ := rv_b_e h
                        obtain ⟨gb1_, gb2_⟩ := rv_bo_e gb_
                        refine re_nI (pc := 148) gb1_ ?_
                        cases h
                        exact re_iret (fun ty hty => by cases hty; exact gb2_) (by decide +kernel : decode cX7_readOne 148 = .ok (.ireturn, 1))
                      · skip
                        refine re_tabOut (pc := 80) (dflt := 69) 149 (by decide +kernel : decode cX7_readOne 80 = .ok (.tableswitch 69 9 15 #[44, 52, 52, 52, 61, 61, 61], 44)) (by have z0_ := lv_neT g31_ (a := 9) (by decide); have z1_ := lv_neT g39_ (a := 10) (by decide); have z2_ := lv_neT g47_ (a := 11) (by decide); have z3_ := lv_neT g55_ (a := 12) (by decide); have z4_ := lv_neT g63_ (a := 13) (by decide); have z5_ := lv_neT g71_ (a := 14) (by decide); have z6_ := lv_neT g79_ (a := 15) (by decide); omega) (by decide) ?_
                        refine re_aloadn (pc := 149) 1 (by decide +kernel : decode cX7_readOne 149 = .ok (.aload_n 0, 1)) rfl ?_
                        refine re_aload (pc := 150) 0 (by decide +kernel : decode cX7_readOne 150 = .ok (.aload 4, 2)) rfl ?_
                        refine re_iconst (pc := 152) (0 : Int32) (by decide +kernel : decode cX7_readOne 152 = .ok (.iconst 0, 1)) (by decide) ?_
                        refine re_iconst (pc := 153) (0 : Int32) (by decide +kernel : decode cX7_readOne 153 = .ok (.iconst 0, 1)) (by decide) ?_
                        obtain ⟨u87_, g88_, h⟩ := rv_b_e h
                        obtain ⟨S90_, g91_, h⟩ := rv_b_e h
                        have m89_ := metX7_put n S21_ a0 a16_ (0 : Int32) (0 : Int32) _ g91_
                        have z92_ : rv_same S21_ S90_ := m89_.sh rfl
                        refine re_cV (pc := 154) [.ref a16_, .int (0 : Int32), .int (0 : Int32)] m89_ (rv_okl.k z92_) (rv_up.sh z92_) (by omega) (rv_ck_e g88_) ⟨by decide, rfl⟩ (Nat.le_of_ble_eq_true rfl) lVX7_68 rfl (by decide +kernel : decode cX7_readOne 154 = .ok (.invokevirtual 68, 3)) ?_
                        refine re_iconst (pc := 157) (1 : Int32) (by decide +kernel : decode cX7_readOne 157 = .ok (.iconst 1, 1)) (by decide) ?_
                        cases h
                        exact re_iret (fun ty hty => by cases hty; rfl) (by decide +kernel : decode cX7_readOne 158 = .ok (.ireturn, 1))
      · refine re_icmp_le_f (pc := 25) 34 (by decide +kernel : decode cX7_readOne 25 = .ok (.if_icmp .le 9, 3)) (by decide) g8_ ?_
        refine re_sub [1] (lv1 := [(1, .ref a1)]) rfl ?_
        exact eX7_readOne_28 n G0 G1 G2 G3 G4 d hG0 hG1 hG2 hG3 hG4 S a1 _ _ h
noncomputable def cX7_readAll_15 (n : Nat) (G0 : rvS → Nat → Nat → Nat → Int32 → Option (Int32 × rvS)) (G1 : rvS → Nat → Nat → Nat → Int32 → Option (Int32 × rvS)) (G2 : rvS → Nat → Nat → Nat → Int32 → Option (Int32 × rvS)) (G3 : rvS → Nat → Nat → Nat → Int32 → Option (Int32 × rvS)) (G4 : rvS → Nat → Nat → Nat → Int32 → Option (Int32 × rvS)) : Nat → rvS → Nat → Nat → Nat → Int32 → Int32 → Option (Int32 × rvS)
  | 0, _, _, _, _, _, _ => none
  | k + 1, S, a0, a1, a2, x3, x4 =>
    if (200 : Int32) ≤ x4 then (
      some ((1 : Int32), S))
    else (
      (rv_ck S 7 a1).bind fun u2_ =>
      (fnX8_isWord n S a1 12).bind fun x5_ =>
      if x5_ = 0 then (
        some ((1 : Int32), S))
      else (
        (rv_ck S 7 a1).bind fun u8_ =>
        (fnX8_next n S a1).bind fun S11_ =>
        (rv_ck S11_ 6 a0).bind fun u14_ =>
        rv_bp (G2 S11_ a0 a1 a2 x3) fun x17_ S18_ =>
        if x17_ = 0 then (
          some ((0 : Int32), S18_))
        else (
          (rv_ck S18_ 6 a0).bind fun u22_ =>
          (fnX7_put n S18_ a0 12 (0 : Int32) (0 : Int32)).bind fun S25_ =>
          rv_lt (x4 + (1)) fun x28_ =>
          cX7_readAll_15 n G0 G1 G2 G3 G4 k S25_ a0 a1 a2 x3 x28_)))
set_option maxRecDepth 20000 in
set_option maxHeartbeats 4000000 in
theorem eX7_readAll_15 (n : Nat) (G0 : rvS → Nat → Nat → Nat → Int32 → Option (Int32 × rvS)) (G1 : rvS → Nat → Nat → Nat → Int32 → Option (Int32 × rvS)) (G2 : rvS → Nat → Nat → Nat → Int32 → Option (Int32 × rvS)) (G3 : rvS → Nat → Nat → Nat → Int32 → Option (Int32 × rvS)) (G4 : rvS → Nat → Nat → Nat → Int32 → Option (Int32 × rvS)) (d : Nat) (hG0 : ∀ (S : rvS) (z0 : Nat) (z1 : Nat) (z2 : Nat) (z3 : Int32) (r : Int32) (S' : rvS), G0 S z0 z1 z2 z3 = some (r, S') → rv_Met yX7_readNot mX7_readNot (4 + d) [.ref z0, .ref z1, .ref z2, .int z3] S (some (.int r)) S') (hG1 : ∀ (S : rvS) (z0 : Nat) (z1 : Nat) (z2 : Nat) (z3 : Int32) (r : Int32) (S' : rvS), G1 S z0 z1 z2 z3 = some (r, S') → rv_Met yX7_readBracket mX7_readBracket (4 + d) [.ref z0, .ref z1, .ref z2, .int z3] S (some (.int r)) S') (hG2 : ∀ (S : rvS) (z0 : Nat) (z1 : Nat) (z2 : Nat) (z3 : Int32) (r : Int32) (S' : rvS), G2 S z0 z1 z2 z3 = some (r, S') → rv_Met yX7_readOne mX7_readOne (4 + d) [.ref z0, .ref z1, .ref z2, .int z3] S (some (.int r)) S') (hG3 : ∀ (S : rvS) (z0 : Nat) (z1 : Nat) (z2 : Nat) (z3 : Int32) (r : Int32) (S' : rvS), G3 S z0 z1 z2 z3 = some (r, S') → rv_Met yX7_readAll mX7_readAll (4 + d) [.ref z0, .ref z1, .ref z2, .int z3] S (some (.int r)) S') (hG4 : ∀ (S : rvS) (z0 : Nat) (z1 : Nat) (z2 : Nat) (z3 : Int32) (r : Int32) (S' : rvS), G4 S z0 z1 z2 z3 = some (r, S') → rv_Met yX7_readAny mX7_readAny (4 + d) [.ref z0, .ref z1, .ref z2, .int z3] S (some (.int r)) S') : ∀ (k : Nat) (S : rvS) (a0 : Nat) (a1 : Nat) (a2 : Nat) (x3 : Int32) (x4 : Int32) (r : Int32) (S' : rvS), cX7_readAll_15 n G0 G1 G2 G3 G4 k S a0 a1 a2 x3 x4 = some (r, S') → rv_Ev mX7_readAll (4 + d + 1) 15 [(0, .ref a0), (1, .ref a1), (2, .ref a2), (3, .int x3), (4, .int x4)] [] S (some (.int r)) S' := by
  intro k
  induction k with
  | zero => intro S a0 a1 a2 x3 x4 r S' h; exact absurd h (by simp [cX7_readAll_15])
  | succ k ih =>
    intro S a0 a1 a2 x3 x4 r S' h
    unfold cX7_readAll_15 at h
    refine re_iload (pc := 15) 4 (by decide +kernel : decode cX7_readAll 15 = .ok (.iload 4, 2)) rfl ?_
    refine re_sipush (pc := 17) (200 : Int32) (by decide +kernel : decode cX7_readAll 17 = .ok (.sipush 200, 3)) (by decide) ?_
    rcases rv_if_e h with ⟨g1_, h⟩ | ⟨g1_, h⟩
    · refine re_icmp_ge_t (pc := 20) 64 (by decide +kernel : decode cX7_readAll 20 = .ok (.if_icmp .ge 44, 3)) (by decide) g1_ ?_
      refine re_iconst (pc := 64) (1 : Int32) (by decide +kernel : decode cX7_readAll 64 = .ok (.iconst 1, 1)) (by decide) ?_
      cases h
      exact re_iret (fun ty hty => by cases hty; rfl) (by decide +kernel : decode cX7_readAll 65 = .ok (.ireturn, 1))
    · refine re_icmp_ge_f (pc := 20) 64 (by decide +kernel : decode cX7_readAll 20 = .ok (.if_icmp .ge 44, 3)) (by decide) g1_ ?_
      refine re_aloadn (pc := 23) 1 (by decide +kernel : decode cX7_readAll 23 = .ok (.aload_n 1, 1)) rfl ?_
      refine re_getsW (pc := 24) (i := 12) (by decide) (rw6 77 (by decide +kernel) rfl) (by decide +kernel : decode cX7_readAll 24 = .ok (.getstatic 75, 3)) ?_
      obtain ⟨u2_, g3_, h⟩ := rv_b_e h
      obtain ⟨x5_, g6_, h⟩ := rv_b_e h
      have m4_ := metX8_isWord n S a1 12 _ g6_
      refine re_cV (pc := 27) [.ref 12] m4_ (rv_okl.k ⟨rfl, rfl⟩) (rv_up.rf _ _) (by omega) (rv_ck_e g3_) ⟨by decide, rfl⟩ (Nat.le_of_ble_eq_true rfl) lVX7_61 rfl (by decide +kernel : decode cX7_readAll 27 = .ok (.invokevirtual 61, 3)) ?_
      rcases rv_if_e h with ⟨g7_, h⟩ | ⟨g7_, h⟩
      · refine re_if_eq_t (pc := 30) 64 (by decide +kernel : decode cX7_readAll 30 = .ok (.ifCond .eq 34, 3)) (by decide) g7_ ?_
        refine re_iconst (pc := 64) (1 : Int32) (by decide +kernel : decode cX7_readAll 64 = .ok (.iconst 1, 1)) (by decide) ?_
        cases h
        exact re_iret (fun ty hty => by cases hty; rfl) (by decide +kernel : decode cX7_readAll 65 = .ok (.ireturn, 1))
      · refine re_if_eq_f (pc := 30) 64 (by decide +kernel : decode cX7_readAll 30 = .ok (.ifCond .eq 34, 3)) (by decide) g7_ ?_
        refine re_aloadn (pc := 33) 1 (by decide +kernel : decode cX7_readAll 33 = .ok (.aload_n 1, 1)) rfl ?_
        obtain ⟨u8_, g9_, h⟩ := rv_b_e h
        obtain ⟨S11_, g12_, h⟩ := rv_b_e h
        have m10_ := metX8_next n S a1 _ g12_
        have z13_ : rv_same S S11_ := m10_.sh rfl
        refine re_cV (pc := 34) [] m10_ (rv_okl.k z13_) (rv_up.sh z13_) (by omega) (rv_ck_e g9_) ⟨by decide, rfl⟩ (Nat.le_of_ble_eq_true rfl) lVX7_65 rfl (by decide +kernel : decode cX7_readAll 34 = .ok (.invokevirtual 65, 3)) ?_
        refine re_aloadn (pc := 37) 0 (by decide +kernel : decode cX7_readAll 37 = .ok (.aload_n 0, 1)) rfl ?_
        refine re_aloadn (pc := 38) 1 (by decide +kernel : decode cX7_readAll 38 = .ok (.aload_n 1, 1)) rfl ?_
        refine re_aloadn (pc := 39) 2 (by decide +kernel : decode cX7_readAll 39 = .ok (.aload_n 2, 1)) rfl ?_
        refine re_iloadn (pc := 40) 3 (by decide +kernel : decode cX7_readAll 40 = .ok (.iload_n 3, 1)) rfl ?_
        obtain ⟨u14_, g15_, h⟩ := rv_b_e h
        obtain ⟨x17_, S18_, g19_, h⟩ := rv_bp_e h
        have m16_ := hG2 S11_ a0 a1 a2 x3 _ _ g19_
        have z20_ : rv_same S11_ S18_ := m16_.sh rfl
        refine re_cV (pc := 41) [.ref a1, .ref a2, .int x3] m16_ (rv_okl.k z20_) (rv_up.sh z20_) (by omega) (rv_ck_e g15_) ⟨by decide, rfl⟩ (Nat.le_of_ble_eq_true rfl) lVX7_72 rfl (by decide +kernel : decode cX7_readAll 41 = .ok (.invokevirtual 72, 3)) ?_
        rcases rv_if_e h with ⟨g21_, h⟩ | ⟨g21_, h⟩
        · refine re_if_ne_f (pc := 44) 49 (by decide +kernel : decode cX7_readAll 44 = .ok (.ifCond .ne 5, 3)) (by decide) g21_ ?_
          refine re_iconst (pc := 47) (0 : Int32) (by decide +kernel : decode cX7_readAll 47 = .ok (.iconst 0, 1)) (by decide) ?_
          cases h
          exact re_iret (fun ty hty => by cases hty; rfl) (by decide +kernel : decode cX7_readAll 48 = .ok (.ireturn, 1))
        · refine re_if_ne_t (pc := 44) 49 (by decide +kernel : decode cX7_readAll 44 = .ok (.ifCond .ne 5, 3)) (by decide) g21_ ?_
          refine re_aloadn (pc := 49) 0 (by decide +kernel : decode cX7_readAll 49 = .ok (.aload_n 0, 1)) rfl ?_
          refine re_getsW (pc := 50) (i := 12) (by decide) (rw6 77 (by decide +kernel) rfl) (by decide +kernel : decode cX7_readAll 50 = .ok (.getstatic 75, 3)) ?_
          refine re_iconst (pc := 53) (0 : Int32) (by decide +kernel : decode cX7_readAll 53 = .ok (.iconst 0, 1)) (by decide) ?_
          refine re_iconst (pc := 54) (0 : Int32) (by decide +kernel : decode cX7_readAll 54 = .ok (.iconst 0, 1)) (by decide) ?_
          obtain ⟨u22_, g23_, h⟩ := rv_b_e h
          obtain ⟨S25_, g26_, h⟩ := rv_b_e h
          have m24_ := metX7_put n S18_ a0 12 (0 : Int32) (0 : Int32) _ g26_
          have z27_ : rv_same S18_ S25_ := m24_.sh rfl
          refine re_cV (pc := 55) [.ref 12, .int (0 : Int32), .int (0 : Int32)] m24_ (rv_okl.k z27_) (rv_up.sh z27_) (by omega) (rv_ck_e g23_) ⟨by decide, rfl⟩ (Nat.le_of_ble_eq_true rfl) lVX7_68 rfl (by decide +kernel : decode cX7_readAll 55 = .ok (.invokevirtual 68, 3)) ?_
          obtain ⟨x28_, g29_, h⟩ := rv_lt_e h
          refine re_iinc (pc := 58) 4 x28_ (lv1 := [(4, .int x28_), (0, .ref a0), (1, .ref a1), (2, .ref a2), (3, .int x3)]) (by decide +kernel : decode cX7_readAll 58 = .ok (.iinc 4 1, 3)) rfl g29_ (by decide) rfl ?_
          refine re_goto (pc := 61) 15 (by decide +kernel : decode cX7_readAll 61 = .ok (.goto (-46), 3)) (by decide) ?_
          refine re_sub [1, 2, 3, 4, 0] (lv1 := [(0, .ref a0), (1, .ref a1), (2, .ref a2), (3, .int x3), (4, .int x28_)]) rfl ?_
          exact ih S25_ a0 a1 a2 x3 x28_ _ _ h
noncomputable def fbX7_readAll (n : Nat) (G0 : rvS → Nat → Nat → Nat → Int32 → Option (Int32 × rvS)) (G1 : rvS → Nat → Nat → Nat → Int32 → Option (Int32 × rvS)) (G2 : rvS → Nat → Nat → Nat → Int32 → Option (Int32 × rvS)) (G3 : rvS → Nat → Nat → Nat → Int32 → Option (Int32 × rvS)) (G4 : rvS → Nat → Nat → Nat → Int32 → Option (Int32 × rvS)) (S : rvS) (a0 : Nat) (a1 : Nat) (a2 : Nat) (x3 : Int32) : Option (Int32 × rvS) :=
  (rv_ck S 6 a0).bind fun u1_ =>
  rv_bp (G2 S a0 a1 a2 x3) fun x4_ S5_ =>
  if x4_ = 0 then (
    some ((0 : Int32), S5_))
  else (
    cX7_readAll_15 n G0 G1 G2 G3 G4 n S5_ a0 a1 a2 x3 (0 : Int32))
set_option maxRecDepth 20000 in
set_option maxHeartbeats 4000000 in
theorem eX7_readAll_in (n : Nat) (G0 : rvS → Nat → Nat → Nat → Int32 → Option (Int32 × rvS)) (G1 : rvS → Nat → Nat → Nat → Int32 → Option (Int32 × rvS)) (G2 : rvS → Nat → Nat → Nat → Int32 → Option (Int32 × rvS)) (G3 : rvS → Nat → Nat → Nat → Int32 → Option (Int32 × rvS)) (G4 : rvS → Nat → Nat → Nat → Int32 → Option (Int32 × rvS)) (d : Nat) (hG0 : ∀ (S : rvS) (z0 : Nat) (z1 : Nat) (z2 : Nat) (z3 : Int32) (r : Int32) (S' : rvS), G0 S z0 z1 z2 z3 = some (r, S') → rv_Met yX7_readNot mX7_readNot (4 + d) [.ref z0, .ref z1, .ref z2, .int z3] S (some (.int r)) S') (hG1 : ∀ (S : rvS) (z0 : Nat) (z1 : Nat) (z2 : Nat) (z3 : Int32) (r : Int32) (S' : rvS), G1 S z0 z1 z2 z3 = some (r, S') → rv_Met yX7_readBracket mX7_readBracket (4 + d) [.ref z0, .ref z1, .ref z2, .int z3] S (some (.int r)) S') (hG2 : ∀ (S : rvS) (z0 : Nat) (z1 : Nat) (z2 : Nat) (z3 : Int32) (r : Int32) (S' : rvS), G2 S z0 z1 z2 z3 = some (r, S') → rv_Met yX7_readOne mX7_readOne (4 + d) [.ref z0, .ref z1, .ref z2, .int z3] S (some (.int r)) S') (hG3 : ∀ (S : rvS) (z0 : Nat) (z1 : Nat) (z2 : Nat) (z3 : Int32) (r : Int32) (S' : rvS), G3 S z0 z1 z2 z3 = some (r, S') → rv_Met yX7_readAll mX7_readAll (4 + d) [.ref z0, .ref z1, .ref z2, .int z3] S (some (.int r)) S') (hG4 : ∀ (S : rvS) (z0 : Nat) (z1 : Nat) (z2 : Nat) (z3 : Int32) (r : Int32) (S' : rvS), G4 S z0 z1 z2 z3 = some (r, S') → rv_Met yX7_readAny mX7_readAny (4 + d) [.ref z0, .ref z1, .ref z2, .int z3] S (some (.int r)) S') (S : rvS) (a0 : Nat) (a1 : Nat) (a2 : Nat) (x3 : Int32) (r : Int32) (S' : rvS) (h : fbX7_readAll n G0 G1 G2 G3 G4 S a0 a1 a2 x3 = some (r, S')) : rv_Ev mX7_readAll (4 + d + 1) 0 [(0, .ref a0), (1, .ref a1), (2, .ref a2), (3, .int x3)] [] S (some (.int r)) S' := by
  unfold fbX7_readAll at h
  refine re_aloadn (pc := 0) 0 (by decide +kernel : decode cX7_readAll 0 = .ok (.aload_n 0, 1)) rfl ?_
  refine re_aloadn (pc := 1) 1 (by decide +kernel : decode cX7_readAll 1 = .ok (.aload_n 1, 1)) rfl ?_
  refine re_aloadn (pc := 2) 2 (by decide +kernel : decode cX7_readAll 2 = .ok (.aload_n 2, 1)) rfl ?_
  refine re_iloadn (pc := 3) 3 (by decide +kernel : decode cX7_readAll 3 = .ok (.iload_n 3, 1)) rfl ?_
  obtain ⟨u1_, g2_, h⟩ := rv_b_e h
  obtain ⟨x4_, S5_, g6_, h⟩ := rv_bp_e h
  have m3_ := hG2 S a0 a1 a2 x3 _ _ g6_
  have z7_ : rv_same S S5_ := m3_.sh rfl
  refine re_cV (pc := 4) [.ref a1, .ref a2, .int x3] m3_ (rv_okl.k z7_) (rv_up.sh z7_) (by omega) (rv_ck_e g2_) ⟨by decide, rfl⟩ (Nat.le_of_ble_eq_true rfl) lVX7_72 rfl (by decide +kernel : decode cX7_readAll 4 = .ok (.invokevirtual 72, 3)) ?_
  rcases rv_if_e h with ⟨g8_, h⟩ | ⟨g8_, h⟩
  · refine re_if_ne_f (pc := 7) 12 (by decide +kernel : decode cX7_readAll 7 = .ok (.ifCond .ne 5, 3)) (by decide) g8_ ?_
    refine re_iconst (pc := 10) (0 : Int32) (by decide +kernel : decode cX7_readAll 10 = .ok (.iconst 0, 1)) (by decide) ?_
    cases h
    exact re_iret (fun ty hty => by cases hty; rfl) (by decide +kernel : decode cX7_readAll 11 = .ok (.ireturn, 1))
  · refine re_if_ne_t (pc := 7) 12 (by decide +kernel : decode cX7_readAll 7 = .ok (.ifCond .ne 5, 3)) (by decide) g8_ ?_
    refine re_iconst (pc := 12) (0 : Int32) (by decide +kernel : decode cX7_readAll 12 = .ok (.iconst 0, 1)) (by decide) ?_
    refine re_istore (pc := 13) (lv1 := [(4, .int (0 : Int32)), (0, .ref a0), (1, .ref a1), (2, .ref a2), (3, .int x3)]) (by decide +kernel : decode cX7_readAll 13 = .ok (.istore 4, 2)) (by decide) rfl ?_
    refine re_sub [1, 2, 3, 4, 0] (lv1 := [(0, .ref a0), (1, .ref a1), (2, .ref a2), (3, .int x3), (4, .int (0 : Int32))]) rfl ?_
    exact eX7_readAll_15 n G0 G1 G2 G3 G4 d hG0 hG1 hG2 hG3 hG4 n S5_ a0 a1 a2 x3 (0 : Int32) _ _ h
noncomputable def cX7_readAny_15 (n : Nat) (G0 : rvS → Nat → Nat → Nat → Int32 → Option (Int32 × rvS)) (G1 : rvS → Nat → Nat → Nat → Int32 → Option (Int32 × rvS)) (G2 : rvS → Nat → Nat → Nat → Int32 → Option (Int32 × rvS)) (G3 : rvS → Nat → Nat → Nat → Int32 → Option (Int32 × rvS)) (G4 : rvS → Nat → Nat → Nat → Int32 → Option (Int32 × rvS)) : Nat → rvS → Nat → Nat → Nat → Int32 → Int32 → Option (Int32 × rvS)
  | 0, _, _, _, _, _, _ => none
  | k + 1, S, a0, a1, a2, x3, x4 =>
    if (200 : Int32) ≤ x4 then (
      some ((1 : Int32), S))
    else (
      (rv_ck S 7 a1).bind fun u2_ =>
      (fnX8_isWord n S a1 11).bind fun x5_ =>
      if x5_ = 0 then (
        some ((1 : Int32), S))
      else (
        (rv_ck S 7 a1).bind fun u8_ =>
        (fnX8_next n S a1).bind fun S11_ =>
        (rv_ck S11_ 6 a0).bind fun u14_ =>
        rv_bp (G3 S11_ a0 a1 a2 x3) fun x17_ S18_ =>
        if x17_ = 0 then (
          some ((0 : Int32), S18_))
        else (
          (rv_ck S18_ 6 a0).bind fun u22_ =>
          (fnX7_put n S18_ a0 11 (0 : Int32) (0 : Int32)).bind fun S25_ =>
          rv_lt (x4 + (1)) fun x28_ =>
          cX7_readAny_15 n G0 G1 G2 G3 G4 k S25_ a0 a1 a2 x3 x28_)))
set_option maxRecDepth 20000 in
set_option maxHeartbeats 4000000 in
theorem eX7_readAny_15 (n : Nat) (G0 : rvS → Nat → Nat → Nat → Int32 → Option (Int32 × rvS)) (G1 : rvS → Nat → Nat → Nat → Int32 → Option (Int32 × rvS)) (G2 : rvS → Nat → Nat → Nat → Int32 → Option (Int32 × rvS)) (G3 : rvS → Nat → Nat → Nat → Int32 → Option (Int32 × rvS)) (G4 : rvS → Nat → Nat → Nat → Int32 → Option (Int32 × rvS)) (d : Nat) (hG0 : ∀ (S : rvS) (z0 : Nat) (z1 : Nat) (z2 : Nat) (z3 : Int32) (r : Int32) (S' : rvS), G0 S z0 z1 z2 z3 = some (r, S') → rv_Met yX7_readNot mX7_readNot (4 + d) [.ref z0, .ref z1, .ref z2, .int z3] S (some (.int r)) S') (hG1 : ∀ (S : rvS) (z0 : Nat) (z1 : Nat) (z2 : Nat) (z3 : Int32) (r : Int32) (S' : rvS), G1 S z0 z1 z2 z3 = some (r, S') → rv_Met yX7_readBracket mX7_readBracket (4 + d) [.ref z0, .ref z1, .ref z2, .int z3] S (some (.int r)) S') (hG2 : ∀ (S : rvS) (z0 : Nat) (z1 : Nat) (z2 : Nat) (z3 : Int32) (r : Int32) (S' : rvS), G2 S z0 z1 z2 z3 = some (r, S') → rv_Met yX7_readOne mX7_readOne (4 + d) [.ref z0, .ref z1, .ref z2, .int z3] S (some (.int r)) S') (hG3 : ∀ (S : rvS) (z0 : Nat) (z1 : Nat) (z2 : Nat) (z3 : Int32) (r : Int32) (S' : rvS), G3 S z0 z1 z2 z3 = some (r, S') → rv_Met yX7_readAll mX7_readAll (4 + d) [.ref z0, .ref z1, .ref z2, .int z3] S (some (.int r)) S') (hG4 : ∀ (S : rvS) (z0 : Nat) (z1 : Nat) (z2 : Nat) (z3 : Int32) (r : Int32) (S' : rvS), G4 S z0 z1 z2 z3 = some (r, S') → rv_Met yX7_readAny mX7_readAny (4 + d) [.ref z0, .ref z1, .ref z2, .int z3] S (some (.int r)) S') : ∀ (k : Nat) (S : rvS) (a0 : Nat) (a1 : Nat) (a2 : Nat) (x3 : Int32) (x4 : Int32) (r : Int32) (S' : rvS), cX7_readAny_15 n G0 G1 G2 G3 G4 k S a0 a1 a2 x3 x4 = some (r, S') → rv_Ev mX7_readAny (4 + d + 1) 15 [(0, .ref a0), (1, .ref a1), (2, .ref a2), (3, .int x3), (4, .int x4)] [] S (some (.int r)) S' := by
  intro k
  induction k with
  | zero => intro S a0 a1 a2 x3 x4 r S' h; exact absurd h (by simp [cX7_readAny_15])
  | succ k ih =>
    intro S a0 a1 a2 x3 x4 r S' h
    unfold cX7_readAny_15 at h
    refine re_iload (pc := 15) 4 (by decide +kernel : decode cX7_readAny 15 = .ok (.iload 4, 2)) rfl ?_
    refine re_sipush (pc := 17) (200 : Int32) (by decide +kernel : decode cX7_readAny 17 = .ok (.sipush 200, 3)) (by decide) ?_
    rcases rv_if_e h with ⟨g1_, h⟩ | ⟨g1_, h⟩
    · refine re_icmp_ge_t (pc := 20) 64 (by decide +kernel : decode cX7_readAny 20 = .ok (.if_icmp .ge 44, 3)) (by decide) g1_ ?_
      refine re_iconst (pc := 64) (1 : Int32) (by decide +kernel : decode cX7_readAny 64 = .ok (.iconst 1, 1)) (by decide) ?_
      cases h
      exact re_iret (fun ty hty => by cases hty; rfl) (by decide +kernel : decode cX7_readAny 65 = .ok (.ireturn, 1))
    · refine re_icmp_ge_f (pc := 20) 64 (by decide +kernel : decode cX7_readAny 20 = .ok (.if_icmp .ge 44, 3)) (by decide) g1_ ?_
      refine re_aloadn (pc := 23) 1 (by decide +kernel : decode cX7_readAny 23 = .ok (.aload_n 1, 1)) rfl ?_
      refine re_getsW (pc := 24) (i := 11) (by decide) (rw6 79 (by decide +kernel) rfl) (by decide +kernel : decode cX7_readAny 24 = .ok (.getstatic 58, 3)) ?_
      obtain ⟨u2_, g3_, h⟩ := rv_b_e h
      obtain ⟨x5_, g6_, h⟩ := rv_b_e h
      have m4_ := metX8_isWord n S a1 11 _ g6_
      refine re_cV (pc := 27) [.ref 11] m4_ (rv_okl.k ⟨rfl, rfl⟩) (rv_up.rf _ _) (by omega) (rv_ck_e g3_) ⟨by decide, rfl⟩ (Nat.le_of_ble_eq_true rfl) lVX7_61 rfl (by decide +kernel : decode cX7_readAny 27 = .ok (.invokevirtual 61, 3)) ?_
      rcases rv_if_e h with ⟨g7_, h⟩ | ⟨g7_, h⟩
      · refine re_if_eq_t (pc := 30) 64 (by decide +kernel : decode cX7_readAny 30 = .ok (.ifCond .eq 34, 3)) (by decide) g7_ ?_
        refine re_iconst (pc := 64) (1 : Int32) (by decide +kernel : decode cX7_readAny 64 = .ok (.iconst 1, 1)) (by decide) ?_
        cases h
        exact re_iret (fun ty hty => by cases hty; rfl) (by decide +kernel : decode cX7_readAny 65 = .ok (.ireturn, 1))
      · refine re_if_eq_f (pc := 30) 64 (by decide +kernel : decode cX7_readAny 30 = .ok (.ifCond .eq 34, 3)) (by decide) g7_ ?_
        refine re_aloadn (pc := 33) 1 (by decide +kernel : decode cX7_readAny 33 = .ok (.aload_n 1, 1)) rfl ?_
        obtain ⟨u8_, g9_, h⟩ := rv_b_e h
        obtain ⟨S11_, g12_, h⟩ := rv_b_e h
        have m10_ := metX8_next n S a1 _ g12_
        have z13_ : rv_same S S11_ := m10_.sh rfl
        refine re_cV (pc := 34) [] m10_ (rv_okl.k z13_) (rv_up.sh z13_) (by omega) (rv_ck_e g9_) ⟨by decide, rfl⟩ (Nat.le_of_ble_eq_true rfl) lVX7_65 rfl (by decide +kernel : decode cX7_readAny 34 = .ok (.invokevirtual 65, 3)) ?_
        refine re_aloadn (pc := 37) 0 (by decide +kernel : decode cX7_readAny 37 = .ok (.aload_n 0, 1)) rfl ?_
        refine re_aloadn (pc := 38) 1 (by decide +kernel : decode cX7_readAny 38 = .ok (.aload_n 1, 1)) rfl ?_
        refine re_aloadn (pc := 39) 2 (by decide +kernel : decode cX7_readAny 39 = .ok (.aload_n 2, 1)) rfl ?_
        refine re_iloadn (pc := 40) 3 (by decide +kernel : decode cX7_readAny 40 = .ok (.iload_n 3, 1)) rfl ?_
        obtain ⟨u14_, g15_, h⟩ := rv_b_e h
        obtain ⟨x17_, S18_, g19_, h⟩ := rv_bp_e h
        have m16_ := hG3 S11_ a0 a1 a2 x3 _ _ g19_
        have z20_ : rv_same S11_ S18_ := m16_.sh rfl
        refine re_cV (pc := 41) [.ref a1, .ref a2, .int x3] m16_ (rv_okl.k z20_) (rv_up.sh z20_) (by omega) (rv_ck_e g15_) ⟨by decide, rfl⟩ (Nat.le_of_ble_eq_true rfl) lVX7_55 rfl (by decide +kernel : decode cX7_readAny 41 = .ok (.invokevirtual 55, 3)) ?_
        rcases rv_if_e h with ⟨g21_, h⟩ | ⟨g21_, h⟩
        · refine re_if_ne_f (pc := 44) 49 (by decide +kernel : decode cX7_readAny 44 = .ok (.ifCond .ne 5, 3)) (by decide) g21_ ?_
          refine re_iconst (pc := 47) (0 : Int32) (by decide +kernel : decode cX7_readAny 47 = .ok (.iconst 0, 1)) (by decide) ?_
          cases h
          exact re_iret (fun ty hty => by cases hty; rfl) (by decide +kernel : decode cX7_readAny 48 = .ok (.ireturn, 1))
        · refine re_if_ne_t (pc := 44) 49 (by decide +kernel : decode cX7_readAny 44 = .ok (.ifCond .ne 5, 3)) (by decide) g21_ ?_
          refine re_aloadn (pc := 49) 0 (by decide +kernel : decode cX7_readAny 49 = .ok (.aload_n 0, 1)) rfl ?_
          refine re_getsW (pc := 50) (i := 11) (by decide) (rw6 79 (by decide +kernel) rfl) (by decide +kernel : decode cX7_readAny 50 = .ok (.getstatic 58, 3)) ?_
          refine re_iconst (pc := 53) (0 : Int32) (by decide +kernel : decode cX7_readAny 53 = .ok (.iconst 0, 1)) (by decide) ?_
          refine re_iconst (pc := 54) (0 : Int32) (by decide +kernel : decode cX7_readAny 54 = .ok (.iconst 0, 1)) (by decide) ?_
          obtain ⟨u22_, g23_, h⟩ := rv_b_e h
          obtain ⟨S25_, g26_, h⟩ := rv_b_e h
          have m24_ := metX7_put n S18_ a0 11 (0 : Int32) (0 : Int32) _ g26_
          have z27_ : rv_same S18_ S25_ := m24_.sh rfl
          refine re_cV (pc := 55) [.ref 11, .int (0 : Int32), .int (0 : Int32)] m24_ (rv_okl.k z27_) (rv_up.sh z27_) (by omega) (rv_ck_e g23_) ⟨by decide, rfl⟩ (Nat.le_of_ble_eq_true rfl) lVX7_68 rfl (by decide +kernel : decode cX7_readAny 55 = .ok (.invokevirtual 68, 3)) ?_
          obtain ⟨x28_, g29_, h⟩ := rv_lt_e h
          refine re_iinc (pc := 58) 4 x28_ (lv1 := [(4, .int x28_), (0, .ref a0), (1, .ref a1), (2, .ref a2), (3, .int x3)]) (by decide +kernel : decode cX7_readAny 58 = .ok (.iinc 4 1, 3)) rfl g29_ (by decide) rfl ?_
          refine re_goto (pc := 61) 15 (by decide +kernel : decode cX7_readAny 61 = .ok (.goto (-46), 3)) (by decide) ?_
          refine re_sub [1, 2, 3, 4, 0] (lv1 := [(0, .ref a0), (1, .ref a1), (2, .ref a2), (3, .int x3), (4, .int x28_)]) rfl ?_
          exact ih S25_ a0 a1 a2 x3 x28_ _ _ h
noncomputable def fbX7_readAny (n : Nat) (G0 : rvS → Nat → Nat → Nat → Int32 → Option (Int32 × rvS)) (G1 : rvS → Nat → Nat → Nat → Int32 → Option (Int32 × rvS)) (G2 : rvS → Nat → Nat → Nat → Int32 → Option (Int32 × rvS)) (G3 : rvS → Nat → Nat → Nat → Int32 → Option (Int32 × rvS)) (G4 : rvS → Nat → Nat → Nat → Int32 → Option (Int32 × rvS)) (S : rvS) (a0 : Nat) (a1 : Nat) (a2 : Nat) (x3 : Int32) : Option (Int32 × rvS) :=
  (rv_ck S 6 a0).bind fun u1_ =>
  rv_bp (G3 S a0 a1 a2 x3) fun x4_ S5_ =>
  if x4_ = 0 then (
    some ((0 : Int32), S5_))
  else (
    cX7_readAny_15 n G0 G1 G2 G3 G4 n S5_ a0 a1 a2 x3 (0 : Int32))
set_option maxRecDepth 20000 in
set_option maxHeartbeats 4000000 in
theorem eX7_readAny_in (n : Nat) (G0 : rvS → Nat → Nat → Nat → Int32 → Option (Int32 × rvS)) (G1 : rvS → Nat → Nat → Nat → Int32 → Option (Int32 × rvS)) (G2 : rvS → Nat → Nat → Nat → Int32 → Option (Int32 × rvS)) (G3 : rvS → Nat → Nat → Nat → Int32 → Option (Int32 × rvS)) (G4 : rvS → Nat → Nat → Nat → Int32 → Option (Int32 × rvS)) (d : Nat) (hG0 : ∀ (S : rvS) (z0 : Nat) (z1 : Nat) (z2 : Nat) (z3 : Int32) (r : Int32) (S' : rvS), G0 S z0 z1 z2 z3 = some (r, S') → rv_Met yX7_readNot mX7_readNot (4 + d) [.ref z0, .ref z1, .ref z2, .int z3] S (some (.int r)) S') (hG1 : ∀ (S : rvS) (z0 : Nat) (z1 : Nat) (z2 : Nat) (z3 : Int32) (r : Int32) (S' : rvS), G1 S z0 z1 z2 z3 = some (r, S') → rv_Met yX7_readBracket mX7_readBracket (4 + d) [.ref z0, .ref z1, .ref z2, .int z3] S (some (.int r)) S') (hG2 : ∀ (S : rvS) (z0 : Nat) (z1 : Nat) (z2 : Nat) (z3 : Int32) (r : Int32) (S' : rvS), G2 S z0 z1 z2 z3 = some (r, S') → rv_Met yX7_readOne mX7_readOne (4 + d) [.ref z0, .ref z1, .ref z2, .int z3] S (some (.int r)) S') (hG3 : ∀ (S : rvS) (z0 : Nat) (z1 : Nat) (z2 : Nat) (z3 : Int32) (r : Int32) (S' : rvS), G3 S z0 z1 z2 z3 = some (r, S') → rv_Met yX7_readAll mX7_readAll (4 + d) [.ref z0, .ref z1, .ref z2, .int z3] S (some (.int r)) S') (hG4 : ∀ (S : rvS) (z0 : Nat) (z1 : Nat) (z2 : Nat) (z3 : Int32) (r : Int32) (S' : rvS), G4 S z0 z1 z2 z3 = some (r, S') → rv_Met yX7_readAny mX7_readAny (4 + d) [.ref z0, .ref z1, .ref z2, .int z3] S (some (.int r)) S') (S : rvS) (a0 : Nat) (a1 : Nat) (a2 : Nat) (x3 : Int32) (r : Int32) (S' : rvS) (h : fbX7_readAny n G0 G1 G2 G3 G4 S a0 a1 a2 x3 = some (r, S')) : rv_Ev mX7_readAny (4 + d + 1) 0 [(0, .ref a0), (1, .ref a1), (2, .ref a2), (3, .int x3)] [] S (some (.int r)) S' := by
  unfold fbX7_readAny at h
  refine re_aloadn (pc := 0) 0 (by decide +kernel : decode cX7_readAny 0 = .ok (.aload_n 0, 1)) rfl ?_
  refine re_aloadn (pc := 1) 1 (by decide +kernel : decode cX7_readAny 1 = .ok (.aload_n 1, 1)) rfl ?_
  refine re_aloadn (pc := 2) 2 (by decide +kernel : decode cX7_readAny 2 = .ok (.aload_n 2, 1)) rfl ?_
  refine re_iloadn (pc := 3) 3 (by decide +kernel : decode cX7_readAny 3 = .ok (.iload_n 3, 1)) rfl ?_
  obtain ⟨u1_, g2_, h⟩ := rv_b_e h
  obtain ⟨x4_, S5_, g6_, h⟩ := rv_bp_e h
  have m3_ := hG3 S a0 a1 a2 x3 _ _ g6_
  have z7_ : rv_same S S5_ := m3_.sh rfl
  refine re_cV (pc := 4) [.ref a1, .ref a2, .int x3] m3_ (rv_okl.k z7_) (rv_up.sh z7_) (by omega) (rv_ck_e g2_) ⟨by decide, rfl⟩ (Nat.le_of_ble_eq_true rfl) lVX7_55 rfl (by decide +kernel : decode cX7_readAny 4 = .ok (.invokevirtual 55, 3)) ?_
  rcases rv_if_e h with ⟨g8_, h⟩ | ⟨g8_, h⟩
  · refine re_if_ne_f (pc := 7) 12 (by decide +kernel : decode cX7_readAny 7 = .ok (.ifCond .ne 5, 3)) (by decide) g8_ ?_
    refine re_iconst (pc := 10) (0 : Int32) (by decide +kernel : decode cX7_readAny 10 = .ok (.iconst 0, 1)) (by decide) ?_
    cases h
    exact re_iret (fun ty hty => by cases hty; rfl) (by decide +kernel : decode cX7_readAny 11 = .ok (.ireturn, 1))
  · refine re_if_ne_t (pc := 7) 12 (by decide +kernel : decode cX7_readAny 7 = .ok (.ifCond .ne 5, 3)) (by decide) g8_ ?_
    refine re_iconst (pc := 12) (0 : Int32) (by decide +kernel : decode cX7_readAny 12 = .ok (.iconst 0, 1)) (by decide) ?_
    refine re_istore (pc := 13) (lv1 := [(4, .int (0 : Int32)), (0, .ref a0), (1, .ref a1), (2, .ref a2), (3, .int x3)]) (by decide +kernel : decode cX7_readAny 13 = .ok (.istore 4, 2)) (by decide) rfl ?_
    refine re_sub [1, 2, 3, 4, 0] (lv1 := [(0, .ref a0), (1, .ref a1), (2, .ref a2), (3, .int x3), (4, .int (0 : Int32))]) rfl ?_
    exact eX7_readAny_15 n G0 G1 G2 G3 G4 d hG0 hG1 hG2 hG3 hG4 n S5_ a0 a1 a2 x3 (0 : Int32) _ _ h
noncomputable def fGX7_readNot (n : Nat) : Nat → (rvS → Nat → Nat → Nat → Int32 → Option (Int32 × rvS)) × (rvS → Nat → Nat → Nat → Int32 → Option (Int32 × rvS)) × (rvS → Nat → Nat → Nat → Int32 → Option (Int32 × rvS)) × (rvS → Nat → Nat → Nat → Int32 → Option (Int32 × rvS)) × (rvS → Nat → Nat → Nat → Int32 → Option (Int32 × rvS))
  | 0 => (fun _ _ _ _ _ => none, fun _ _ _ _ _ => none, fun _ _ _ _ _ => none, fun _ _ _ _ _ => none, fun _ _ _ _ _ => none)
  | d + 1 => (fbX7_readNot n ((fGX7_readNot n d).1) ((fGX7_readNot n d).2.1) ((fGX7_readNot n d).2.2.1) ((fGX7_readNot n d).2.2.2.1) ((fGX7_readNot n d).2.2.2.2), fbX7_readBracket n ((fGX7_readNot n d).1) ((fGX7_readNot n d).2.1) ((fGX7_readNot n d).2.2.1) ((fGX7_readNot n d).2.2.2.1) ((fGX7_readNot n d).2.2.2.2), fbX7_readOne n ((fGX7_readNot n d).1) ((fGX7_readNot n d).2.1) ((fGX7_readNot n d).2.2.1) ((fGX7_readNot n d).2.2.2.1) ((fGX7_readNot n d).2.2.2.2), fbX7_readAll n ((fGX7_readNot n d).1) ((fGX7_readNot n d).2.1) ((fGX7_readNot n d).2.2.1) ((fGX7_readNot n d).2.2.2.1) ((fGX7_readNot n d).2.2.2.2), fbX7_readAny n ((fGX7_readNot n d).1) ((fGX7_readNot n d).2.1) ((fGX7_readNot n d).2.2.1) ((fGX7_readNot n d).2.2.2.1) ((fGX7_readNot n d).2.2.2.2))
theorem fGX7_readNot_ok (n : Nat) : ∀ d : Nat, (∀ (S : rvS) (z0 : Nat) (z1 : Nat) (z2 : Nat) (z3 : Int32) (r : Int32) (S' : rvS), ((fGX7_readNot n d).1) S z0 z1 z2 z3 = some (r, S') → rv_Met yX7_readNot mX7_readNot (4 + d) [.ref z0, .ref z1, .ref z2, .int z3] S (some (.int r)) S') ∧ (∀ (S : rvS) (z0 : Nat) (z1 : Nat) (z2 : Nat) (z3 : Int32) (r : Int32) (S' : rvS), ((fGX7_readNot n d).2.1) S z0 z1 z2 z3 = some (r, S') → rv_Met yX7_readBracket mX7_readBracket (4 + d) [.ref z0, .ref z1, .ref z2, .int z3] S (some (.int r)) S') ∧ (∀ (S : rvS) (z0 : Nat) (z1 : Nat) (z2 : Nat) (z3 : Int32) (r : Int32) (S' : rvS), ((fGX7_readNot n d).2.2.1) S z0 z1 z2 z3 = some (r, S') → rv_Met yX7_readOne mX7_readOne (4 + d) [.ref z0, .ref z1, .ref z2, .int z3] S (some (.int r)) S') ∧ (∀ (S : rvS) (z0 : Nat) (z1 : Nat) (z2 : Nat) (z3 : Int32) (r : Int32) (S' : rvS), ((fGX7_readNot n d).2.2.2.1) S z0 z1 z2 z3 = some (r, S') → rv_Met yX7_readAll mX7_readAll (4 + d) [.ref z0, .ref z1, .ref z2, .int z3] S (some (.int r)) S') ∧ (∀ (S : rvS) (z0 : Nat) (z1 : Nat) (z2 : Nat) (z3 : Int32) (r : Int32) (S' : rvS), ((fGX7_readNot n d).2.2.2.2) S z0 z1 z2 z3 = some (r, S') → rv_Met yX7_readAny mX7_readAny (4 + d) [.ref z0, .ref z1, .ref z2, .int z3] S (some (.int r)) S') := by
  intro d
  induction d with
  | zero => exact ⟨(by intros; rename_i h; exact absurd h (by simp [fGX7_readNot])), (by intros; rename_i h; exact absurd h (by simp [fGX7_readNot])), (by intros; rename_i h; exact absurd h (by simp [fGX7_readNot])), (by intros; rename_i h; exact absurd h (by simp [fGX7_readNot])), (by intros; rename_i h; exact absurd h (by simp [fGX7_readNot]))⟩
  | succ d ih =>
    obtain ⟨i0, i1, i2, i3, i4⟩ := ih
    exact ⟨(fun S z0 z1 z2 z3 r S' h => rv_Met.of ⟨by decide +kernel, rfl, (fun z => by first | rfl | cases z), rfl⟩ (Nat.le_of_ble_eq_true rfl) rfl (eX7_readNot_in n ((fGX7_readNot n d).1) ((fGX7_readNot n d).2.1) ((fGX7_readNot n d).2.2.1) ((fGX7_readNot n d).2.2.2.1) ((fGX7_readNot n d).2.2.2.2) d i0 i1 i2 i3 i4 S z0 z1 z2 z3 r S' h)), (fun S z0 z1 z2 z3 r S' h => rv_Met.of ⟨by decide +kernel, rfl, (fun z => by first | rfl | cases z), rfl⟩ (Nat.le_of_ble_eq_true rfl) rfl (eX7_readBracket_in n ((fGX7_readNot n d).1) ((fGX7_readNot n d).2.1) ((fGX7_readNot n d).2.2.1) ((fGX7_readNot n d).2.2.2.1) ((fGX7_readNot n d).2.2.2.2) d i0 i1 i2 i3 i4 S z0 z1 z2 z3 r S' h)), (fun S z0 z1 z2 z3 r S' h => rv_Met.of ⟨by decide +kernel, rfl, (fun z => by first | rfl | cases z), rfl⟩ (Nat.le_of_ble_eq_true rfl) rfl (eX7_readOne_in n ((fGX7_readNot n d).1) ((fGX7_readNot n d).2.1) ((fGX7_readNot n d).2.2.1) ((fGX7_readNot n d).2.2.2.1) ((fGX7_readNot n d).2.2.2.2) d i0 i1 i2 i3 i4 S z0 z1 z2 z3 r S' h)), (fun S z0 z1 z2 z3 r S' h => rv_Met.of ⟨by decide +kernel, rfl, (fun z => by first | rfl | cases z), rfl⟩ (Nat.le_of_ble_eq_true rfl) rfl (eX7_readAll_in n ((fGX7_readNot n d).1) ((fGX7_readNot n d).2.1) ((fGX7_readNot n d).2.2.1) ((fGX7_readNot n d).2.2.2.1) ((fGX7_readNot n d).2.2.2.2) d i0 i1 i2 i3 i4 S z0 z1 z2 z3 r S' h)), (fun S z0 z1 z2 z3 r S' h => rv_Met.of ⟨by decide +kernel, rfl, (fun z => by first | rfl | cases z), rfl⟩ (Nat.le_of_ble_eq_true rfl) rfl (eX7_readAny_in n ((fGX7_readNot n d).1) ((fGX7_readNot n d).2.1) ((fGX7_readNot n d).2.2.1) ((fGX7_readNot n d).2.2.2.1) ((fGX7_readNot n d).2.2.2.2) d i0 i1 i2 i3 i4 S z0 z1 z2 z3 r S' h))⟩
noncomputable def fnX7_readNot (n d : Nat) : rvS → Nat → Nat → Nat → Int32 → Option (Int32 × rvS) := (fGX7_readNot n d).1
theorem metX7_readNot (n d : Nat) (S : rvS) (z0 : Nat) (z1 : Nat) (z2 : Nat) (z3 : Int32) (r : Int32) (S' : rvS) (h : fnX7_readNot n d S z0 z1 z2 z3 = some (r, S')) : rv_Met yX7_readNot mX7_readNot (4 + d) [.ref z0, .ref z1, .ref z2, .int z3] S (some (.int r)) S' := (fGX7_readNot_ok n d).1 S z0 z1 z2 z3 r S' h
noncomputable def fnX7_readBracket (n d : Nat) : rvS → Nat → Nat → Nat → Int32 → Option (Int32 × rvS) := (fGX7_readNot n d).2.1
theorem metX7_readBracket (n d : Nat) (S : rvS) (z0 : Nat) (z1 : Nat) (z2 : Nat) (z3 : Int32) (r : Int32) (S' : rvS) (h : fnX7_readBracket n d S z0 z1 z2 z3 = some (r, S')) : rv_Met yX7_readBracket mX7_readBracket (4 + d) [.ref z0, .ref z1, .ref z2, .int z3] S (some (.int r)) S' := (fGX7_readNot_ok n d).2.1 S z0 z1 z2 z3 r S' h
noncomputable def fnX7_readOne (n d : Nat) : rvS → Nat → Nat → Nat → Int32 → Option (Int32 × rvS) := (fGX7_readNot n d).2.2.1
theorem metX7_readOne (n d : Nat) (S : rvS) (z0 : Nat) (z1 : Nat) (z2 : Nat) (z3 : Int32) (r : Int32) (S' : rvS) (h : fnX7_readOne n d S z0 z1 z2 z3 = some (r, S')) : rv_Met yX7_readOne mX7_readOne (4 + d) [.ref z0, .ref z1, .ref z2, .int z3] S (some (.int r)) S' := (fGX7_readNot_ok n d).2.2.1 S z0 z1 z2 z3 r S' h
noncomputable def fnX7_readAll (n d : Nat) : rvS → Nat → Nat → Nat → Int32 → Option (Int32 × rvS) := (fGX7_readNot n d).2.2.2.1
theorem metX7_readAll (n d : Nat) (S : rvS) (z0 : Nat) (z1 : Nat) (z2 : Nat) (z3 : Int32) (r : Int32) (S' : rvS) (h : fnX7_readAll n d S z0 z1 z2 z3 = some (r, S')) : rv_Met yX7_readAll mX7_readAll (4 + d) [.ref z0, .ref z1, .ref z2, .int z3] S (some (.int r)) S' := (fGX7_readNot_ok n d).2.2.2.1 S z0 z1 z2 z3 r S' h
noncomputable def fnX7_readAny (n d : Nat) : rvS → Nat → Nat → Nat → Int32 → Option (Int32 × rvS) := (fGX7_readNot n d).2.2.2.2
theorem metX7_readAny (n d : Nat) (S : rvS) (z0 : Nat) (z1 : Nat) (z2 : Nat) (z3 : Int32) (r : Int32) (S' : rvS) (h : fnX7_readAny n d S z0 z1 z2 z3 = some (r, S')) : rv_Met yX7_readAny mX7_readAny (4 + d) [.ref z0, .ref z1, .ref z2, .int z3] S (some (.int r)) S' := (fGX7_readNot_ok n d).2.2.2.2 S z0 z1 z2 z3 r S' h
noncomputable def fnX7_read (n : Nat) (S : rvS) (a0 : Nat) (a1 : Nat) (a2 : Nat) : Option (Int32 × rvS) :=
  (rv_ck S 6 a0).bind fun u1_ =>
  (fnX7_forget n S a0).bind fun S4_ =>
  (rv_ck S4_ 6 a0).bind fun u7_ =>
  rv_bp (fnX7_readAny n 64 S4_ a0 a1 a2 (1 : Int32)) fun x10_ S11_ =>
  if x10_ = 0 then (
    some ((0 : Int32), S11_))
  else (
    (rv_gI S11_ 7 a1 4).bind fun x15_ =>
    if x15_ = 0 then (
      some ((1 : Int32), S11_))
    else (
      (rv_ck S11_ 7 a1).bind fun u18_ =>
      rv_bp (fnX8_fail n S11_ a1 (1 : Int32)) fun x21_ S22_ =>
      if x21_ = 0 then (
        some ((0 : Int32), S22_))
      else (
        some ((1 : Int32), S22_))))
set_option maxRecDepth 20000 in
set_option maxHeartbeats 4000000 in
theorem eX7_read_in (n : Nat) (S : rvS) (a0 : Nat) (a1 : Nat) (a2 : Nat) (r : Int32) (S' : rvS) (h : fnX7_read n S a0 a1 a2 = some (r, S')) : rv_Ev mX7_read 69 0 [(0, .ref a0), (1, .ref a1), (2, .ref a2)] [] S (some (.int r)) S' := by
  unfold fnX7_read at h
  refine re_aloadn (pc := 0) 0 (by decide +kernel : decode cX7_read 0 = .ok (.aload_n 0, 1)) rfl ?_
  obtain ⟨u1_, g2_, h⟩ := rv_b_e h
  obtain ⟨S4_, g5_, h⟩ := rv_b_e h
  have m3_ := metX7_forget n S a0 _ g5_
  have z6_ : rv_same S S4_ := m3_.sh rfl
  refine re_cV (pc := 1) [] m3_ (rv_okl.k z6_) (rv_up.sh z6_) (by decide) (rv_ck_e g2_) ⟨by decide, rfl⟩ (Nat.le_of_ble_eq_true rfl) lVX7_39 rfl (by decide +kernel : decode cX7_read 1 = .ok (.invokevirtual 39, 3)) ?_
  refine re_aloadn (pc := 4) 0 (by decide +kernel : decode cX7_read 4 = .ok (.aload_n 0, 1)) rfl ?_
  refine re_aloadn (pc := 5) 1 (by decide +kernel : decode cX7_read 5 = .ok (.aload_n 1, 1)) rfl ?_
  refine re_aloadn (pc := 6) 2 (by decide +kernel : decode cX7_read 6 = .ok (.aload_n 2, 1)) rfl ?_
  refine re_iconst (pc := 7) (1 : Int32) (by decide +kernel : decode cX7_read 7 = .ok (.iconst 1, 1)) (by decide) ?_
  obtain ⟨u7_, g8_, h⟩ := rv_b_e h
  obtain ⟨x10_, S11_, g12_, h⟩ := rv_bp_e h
  have m9_ := metX7_readAny n 64 S4_ a0 a1 a2 (1 : Int32) _ _ g12_
  have z13_ : rv_same S4_ S11_ := m9_.sh rfl
  refine re_cV (pc := 8) [.ref a1, .ref a2, .int (1 : Int32)] m9_ (rv_okl.k z13_) (rv_up.sh z13_) (by decide) (rv_ck_e g8_) ⟨by decide, rfl⟩ (Nat.le_of_ble_eq_true rfl) lVX7_42 rfl (by decide +kernel : decode cX7_read 8 = .ok (.invokevirtual 42, 3)) ?_
  rcases rv_if_e h with ⟨g14_, h⟩ | ⟨g14_, h⟩
  · refine re_if_ne_f (pc := 11) 16 (by decide +kernel : decode cX7_read 11 = .ok (.ifCond .ne 5, 3)) (by decide) g14_ ?_
    refine re_iconst (pc := 14) (0 : Int32) (by decide +kernel : decode cX7_read 14 = .ok (.iconst 0, 1)) (by decide) ?_
    cases h
    exact re_iret (fun ty hty => by cases hty; rfl) (by decide +kernel : decode cX7_read 15 = .ok (.ireturn, 1))
  · refine re_if_ne_t (pc := 11) 16 (by decide +kernel : decode cX7_read 11 = .ok (.ifCond .ne 5, 3)) (by decide) g14_ ?_
    refine re_aloadn (pc := 16) 1 (by decide +kernel : decode cX7_read 16 = .ok (.aload_n 1, 1)) rfl ?_
    obtain ⟨x15_, g16_, h⟩ := rv_b_e h
    refine re_gI (pc := 17) g16_ lfX7_46 rfl (by decide +kernel : decode cX7_read 17 = .ok (.getfield 46, 3)) ?_
    rcases rv_if_e h with ⟨g17_, h⟩ | ⟨g17_, h⟩
    · refine re_if_eq_t (pc := 20) 31 (by decide +kernel : decode cX7_read 20 = .ok (.ifCond .eq 11, 3)) (by decide) g17_ ?_
      refine re_iconst (pc := 31) (1 : Int32) (by decide +kernel : decode cX7_read 31 = .ok (.iconst 1, 1)) (by decide) ?_
      refine re_goto (pc := 32) 36 (by decide +kernel : decode cX7_read 32 = .ok (.goto 4, 3)) (by decide) ?_
      cases h
      exact re_iret (fun ty hty => by cases hty; rfl) (by decide +kernel : decode cX7_read 36 = .ok (.ireturn, 1))
    · refine re_if_eq_f (pc := 20) 31 (by decide +kernel : decode cX7_read 20 = .ok (.ifCond .eq 11, 3)) (by decide) g17_ ?_
      refine re_aloadn (pc := 23) 1 (by decide +kernel : decode cX7_read 23 = .ok (.aload_n 1, 1)) rfl ?_
      refine re_iconst (pc := 24) (1 : Int32) (by decide +kernel : decode cX7_read 24 = .ok (.iconst 1, 1)) (by decide) ?_
      obtain ⟨u18_, g19_, h⟩ := rv_b_e h
      obtain ⟨x21_, S22_, g23_, h⟩ := rv_bp_e h
      have m20_ := metX8_fail n S11_ a1 (1 : Int32) _ _ g23_
      have z24_ : rv_same S11_ S22_ := m20_.sh rfl
      refine re_cV (pc := 25) [.int (1 : Int32)] m20_ (rv_okl.k z24_) (rv_up.sh z24_) (by decide) (rv_ck_e g19_) ⟨by decide, rfl⟩ (Nat.le_of_ble_eq_true rfl) lVX7_51 rfl (by decide +kernel : decode cX7_read 25 = .ok (.invokevirtual 51, 3)) ?_
      rcases rv_if_e h with ⟨g25_, h⟩ | ⟨g25_, h⟩
      · refine re_if_eq_t (pc := 28) 35 (by decide +kernel : decode cX7_read 28 = .ok (.ifCond .eq 7, 3)) (by decide) g25_ ?_
        refine re_iconst (pc := 35) (0 : Int32) (by decide +kernel : decode cX7_read 35 = .ok (.iconst 0, 1)) (by decide) ?_
        cases h
        exact re_iret (fun ty hty => by cases hty; rfl) (by decide +kernel : decode cX7_read 36 = .ok (.ireturn, 1))
      · refine re_if_eq_f (pc := 28) 35 (by decide +kernel : decode cX7_read 28 = .ok (.ifCond .eq 7, 3)) (by decide) g25_ ?_
        refine re_iconst (pc := 31) (1 : Int32) (by decide +kernel : decode cX7_read 31 = .ok (.iconst 1, 1)) (by decide) ?_
        refine re_goto (pc := 32) 36 (by decide +kernel : decode cX7_read 32 = .ok (.goto 4, 3)) (by decide) ?_
        cases h
        exact re_iret (fun ty hty => by cases hty; rfl) (by decide +kernel : decode cX7_read 36 = .ok (.ireturn, 1))
theorem metX7_read (n : Nat) (S : rvS) (a0 : Nat) (a1 : Nat) (a2 : Nat) (r : Int32) (S' : rvS) (h : fnX7_read n S a0 a1 a2 = some (r, S')) : rv_Met yX7_read mX7_read 69 [.ref a0, .ref a1, .ref a2] S (some (.int r)) S' := rv_Met.of ⟨by decide +kernel, rfl, (fun z => by first | rfl | cases z), rfl⟩ (Nat.le_of_ble_eq_true rfl) rfl (eX7_read_in n S a0 a1 a2 r S' h)
noncomputable def fnX7_join (n : Nat) (S : rvS) (a0 : Nat) (x1 : Int32) (x2 : Int32) : Option rvS :=
  if x2 < (1 : Int32) then (
    some S)
  else (
    if (40 : Int32) ≤ x2 then (
      some S)
    else (
      (rv_gR S 6 a0 3).bind fun a3_ =>
      (rv_aL S a3_ (x2 - (1 : Int32))).bind fun x5_ =>
      (rv_gR S 6 a0 3).bind fun a7_ =>
      (rv_aL S a7_ x2).bind fun x9_ =>
      (rv_gR S 6 a0 3).bind fun a11_ =>
      if x1 = 0 then (
        (rv_uL S a11_ (x2 - (1 : Int32)) (x5_ ||| x9_)).bind fun S14_ =>
        some S14_)
      else (
        (rv_uL S a11_ (x2 - (1 : Int32)) (x5_ &&& x9_)).bind fun S16_ =>
        some S16_)))
set_option maxRecDepth 20000 in
set_option maxHeartbeats 4000000 in
theorem eX7_join_in (n : Nat) (S : rvS) (a0 : Nat) (x1 : Int32) (x2 : Int32) (S' : rvS) (h : fnX7_join n S a0 x1 x2 = some S') : rv_Ev mX7_join 0 0 [(0, .ref a0), (1, .int x1), (2, .int x2)] [] S none S' := by
  unfold fnX7_join at h
  refine re_iloadn (pc := 0) 2 (by decide +kernel : decode cX7_join 0 = .ok (.iload_n 2, 1)) rfl ?_
  refine re_iconst (pc := 1) (1 : Int32) (by decide +kernel : decode cX7_join 1 = .ok (.iconst 1, 1)) (by decide) ?_
  rcases rv_if_e h with ⟨g1_, h⟩ | ⟨g1_, h⟩
  · refine re_icmp_lt_t (pc := 2) 51 (by decide +kernel : decode cX7_join 2 = .ok (.if_icmp .lt 49, 3)) (by decide) g1_ ?_
    cases h
    exact re_vret (by decide +kernel : decode cX7_join 51 = .ok (.return_, 1))
  · refine re_icmp_lt_f (pc := 2) 51 (by decide +kernel : decode cX7_join 2 = .ok (.if_icmp .lt 49, 3)) (by decide) g1_ ?_
    refine re_iloadn (pc := 5) 2 (by decide +kernel : decode cX7_join 5 = .ok (.iload_n 2, 1)) rfl ?_
    refine re_bipush (pc := 6) (40 : Int32) (by decide +kernel : decode cX7_join 6 = .ok (.bipush 40, 2)) (by decide) ?_
    rcases rv_if_e h with ⟨g2_, h⟩ | ⟨g2_, h⟩
    · refine re_icmp_ge_t (pc := 8) 51 (by decide +kernel : decode cX7_join 8 = .ok (.if_icmp .ge 43, 3)) (by decide) g2_ ?_
      cases h
      exact re_vret (by decide +kernel : decode cX7_join 51 = .ok (.return_, 1))
    · refine re_icmp_ge_f (pc := 8) 51 (by decide +kernel : decode cX7_join 8 = .ok (.if_icmp .ge 43, 3)) (by decide) g2_ ?_
      refine re_aloadn (pc := 11) 0 (by decide +kernel : decode cX7_join 11 = .ok (.aload_n 0, 1)) rfl ?_
      obtain ⟨a3_, g4_, h⟩ := rv_b_e h
      refine re_gR (pc := 12) g4_ lfX7_24 rfl (by decide +kernel : decode cX7_join 12 = .ok (.getfield 24, 3)) ?_
      refine re_iloadn (pc := 15) 2 (by decide +kernel : decode cX7_join 15 = .ok (.iload_n 2, 1)) rfl ?_
      refine re_iconst (pc := 16) (1 : Int32) (by decide +kernel : decode cX7_join 16 = .ok (.iconst 1, 1)) (by decide) ?_
      refine re_isub (pc := 17) (by decide +kernel : decode cX7_join 17 = .ok (.isub, 1)) ?_
      obtain ⟨x5_, g6_, h⟩ := rv_b_e h
      refine re_aL (pc := 18) g6_ (by decide +kernel : decode cX7_join 18 = .ok (.laload, 1)) ?_
      refine re_lstoren (pc := 19) (lv1 := [(3, .long x5_), (0, .ref a0), (1, .int x1), (2, .int x2)]) (by decide +kernel : decode cX7_join 19 = .ok (.lstore_n 3, 1)) rfl (by decide) rfl ?_
      refine re_aloadn (pc := 20) 1 (by decide +kernel : decode cX7_join 20 = .ok (.aload_n 0, 1)) rfl ?_
      obtain ⟨a7_, g8_, h⟩ := rv_b_e h
      refine re_gR (pc := 21) g8_ lfX7_24 rfl (by decide +kernel : decode cX7_join 21 = .ok (.getfield 24, 3)) ?_
      refine re_iloadn (pc := 24) 3 (by decide +kernel : decode cX7_join 24 = .ok (.iload_n 2, 1)) rfl ?_
      obtain ⟨x9_, g10_, h⟩ := rv_b_e h
      refine re_aL (pc := 25) g10_ (by decide +kernel : decode cX7_join 25 = .ok (.laload, 1)) ?_
      refine re_lstore (pc := 26) (lv1 := [(5, .long x9_), (3, .long x5_), (0, .ref a0), (1, .int x1), (2, .int x2)]) (by decide +kernel : decode cX7_join 26 = .ok (.lstore 5, 2)) (by decide) rfl ?_
      refine re_aloadn (pc := 28) 2 (by decide +kernel : decode cX7_join 28 = .ok (.aload_n 0, 1)) rfl ?_
      obtain ⟨a11_, g12_, h⟩ := rv_b_e h
      refine re_gR (pc := 29) g12_ lfX7_24 rfl (by decide +kernel : decode cX7_join 29 = .ok (.getfield 24, 3)) ?_
      refine re_iloadn (pc := 32) 4 (by decide +kernel : decode cX7_join 32 = .ok (.iload_n 2, 1)) rfl ?_
      refine re_iconst (pc := 33) (1 : Int32) (by decide +kernel : decode cX7_join 33 = .ok (.iconst 1, 1)) (by decide) ?_
      refine re_isub (pc := 34) (by decide +kernel : decode cX7_join 34 = .ok (.isub, 1)) ?_
      refine re_iloadn (pc := 35) 3 (by decide +kernel : decode cX7_join 35 = .ok (.iload_n 1, 1)) rfl ?_
      rcases rv_if_e h with ⟨g13_, h⟩ | ⟨g13_, h⟩
      · refine re_if_eq_t (pc := 36) 46 (by decide +kernel : decode cX7_join 36 = .ok (.ifCond .eq 10, 3)) (by decide) g13_ ?_
        refine re_lloadn (pc := 46) 1 (by decide +kernel : decode cX7_join 46 = .ok (.lload_n 3, 1)) rfl ?_
        refine re_lload (pc := 47) 0 (by decide +kernel : decode cX7_join 47 = .ok (.lload 5, 2)) rfl ?_
        refine re_lor (pc := 49) (by decide +kernel : decode cX7_join 49 = .ok (.lor, 1)) ?_
        obtain ⟨S14_, g15_, h⟩ := rv_b_e h
        refine re_uL (pc := 50) g15_ (by decide +kernel : decode cX7_join 50 = .ok (.lastore, 1)) ?_
        cases h
        exact re_vret (by decide +kernel : decode cX7_join 51 = .ok (.return_, 1))
      · refine re_if_eq_f (pc := 36) 46 (by decide +kernel : decode cX7_join 36 = .ok (.ifCond .eq 10, 3)) (by decide) g13_ ?_
        refine re_lloadn (pc := 39) 1 (by decide +kernel : decode cX7_join 39 = .ok (.lload_n 3, 1)) rfl ?_
        refine re_lload (pc := 40) 0 (by decide +kernel : decode cX7_join 40 = .ok (.lload 5, 2)) rfl ?_
        refine re_land (pc := 42) (by decide +kernel : decode cX7_join 42 = .ok (.land, 1)) ?_
        refine re_goto (pc := 43) 50 (by decide +kernel : decode cX7_join 43 = .ok (.goto 7, 3)) (by decide) ?_
        obtain ⟨S16_, g17_, h⟩ := rv_b_e h
        refine re_uL (pc := 50) g17_ (by decide +kernel : decode cX7_join 50 = .ok (.lastore, 1)) ?_
        cases h
        exact re_vret (by decide +kernel : decode cX7_join 51 = .ok (.return_, 1))
theorem metX7_join (n : Nat) (S : rvS) (a0 : Nat) (x1 : Int32) (x2 : Int32) (S' : rvS) (h : fnX7_join n S a0 x1 x2 = some S') : rv_Met yX7_join mX7_join 0 [.ref a0, .int x1, .int x2] S none S' := rv_Met.of ⟨by decide +kernel, rfl, (fun z => by first | rfl | cases z), rfl⟩ (Nat.le_of_ble_eq_true rfl) rfl (eX7_join_in n S a0 x1 x2 S' h)
noncomputable def fnX9_goers (n : Nat) (S : rvS) (a0 : Nat) (x1 : Int32) : Option Int32 :=
  (rv_gR S 8 a0 1).bind fun a1_ =>
  (rv_ck S 5 a1_).bind fun u3_ =>
  (fnX6_has n S a1_ x1).bind fun x6_ =>
  if x6_ = 0 then (
    some (0 : Int32))
  else (
    (rv_gR S 8 a0 0).bind fun a9_ =>
    (rv_gR S 8 a0 1).bind fun a11_ =>
    (rv_gR S 5 a11_ 3).bind fun a13_ =>
    (rv_aI S 0 a13_ x1).bind fun x15_ =>
    (rv_gR S 8 a0 1).bind fun a17_ =>
    (rv_gR S 5 a17_ 4).bind fun a19_ =>
    (rv_aI S 0 a19_ x1).bind fun x21_ =>
    (rv_ck S 0 a9_).bind fun u23_ =>
    (fnX1_goers n S a9_ x15_ x21_).bind fun x26_ =>
    some x26_)
set_option maxRecDepth 20000 in
set_option maxHeartbeats 4000000 in
theorem eX9_goers_in (n : Nat) (S : rvS) (a0 : Nat) (x1 : Int32) (r : Int32) (h : fnX9_goers n S a0 x1 = some r) : rv_Ev mX9_goers 2 0 [(0, .ref a0), (1, .int x1)] [] S (some (.int r)) S := by
  unfold fnX9_goers at h
  refine re_aloadn (pc := 0) 0 (by decide +kernel : decode cX9_goers 0 = .ok (.aload_n 0, 1)) rfl ?_
  obtain ⟨a1_, g2_, h⟩ := rv_b_e h
  refine re_gR (pc := 1) g2_ lfX9_21 rfl (by decide +kernel : decode cX9_goers 1 = .ok (.getfield 21, 3)) ?_
  refine re_iloadn (pc := 4) 1 (by decide +kernel : decode cX9_goers 4 = .ok (.iload_n 1, 1)) rfl ?_
  obtain ⟨u3_, g4_, h⟩ := rv_b_e h
  obtain ⟨x6_, g7_, h⟩ := rv_b_e h
  have m5_ := metX6_has n S a1_ x1 _ g7_
  refine re_cV (pc := 5) [.int x1] m5_ (rv_okl.k ⟨rfl, rfl⟩) (rv_up.rf _ _) (by decide) (rv_ck_e g4_) ⟨by decide, rfl⟩ (Nat.le_of_ble_eq_true rfl) lVX9_72 rfl (by decide +kernel : decode cX9_goers 5 = .ok (.invokevirtual 72, 3)) ?_
  rcases rv_if_e h with ⟨g8_, h⟩ | ⟨g8_, h⟩
  · refine re_if_eq_t (pc := 8) 39 (by decide +kernel : decode cX9_goers 8 = .ok (.ifCond .eq 31, 3)) (by decide) g8_ ?_
    refine re_iconst (pc := 39) (0 : Int32) (by decide +kernel : decode cX9_goers 39 = .ok (.iconst 0, 1)) (by decide) ?_
    cases h
    exact re_iret (fun ty hty => by cases hty; rfl) (by decide +kernel : decode cX9_goers 40 = .ok (.ireturn, 1))
  · refine re_if_eq_f (pc := 8) 39 (by decide +kernel : decode cX9_goers 8 = .ok (.ifCond .eq 31, 3)) (by decide) g8_ ?_
    refine re_aloadn (pc := 11) 0 (by decide +kernel : decode cX9_goers 11 = .ok (.aload_n 0, 1)) rfl ?_
    obtain ⟨a9_, g10_, h⟩ := rv_b_e h
    refine re_gR (pc := 12) g10_ lfX9_12 rfl (by decide +kernel : decode cX9_goers 12 = .ok (.getfield 12, 3)) ?_
    refine re_aloadn (pc := 15) 0 (by decide +kernel : decode cX9_goers 15 = .ok (.aload_n 0, 1)) rfl ?_
    obtain ⟨a11_, g12_, h⟩ := rv_b_e h
    refine re_gR (pc := 16) g12_ lfX9_21 rfl (by decide +kernel : decode cX9_goers 16 = .ok (.getfield 21, 3)) ?_
    obtain ⟨a13_, g14_, h⟩ := rv_b_e h
    refine re_gR (pc := 19) g14_ lfX9_76 rfl (by decide +kernel : decode cX9_goers 19 = .ok (.getfield 76, 3)) ?_
    refine re_iloadn (pc := 22) 1 (by decide +kernel : decode cX9_goers 22 = .ok (.iload_n 1, 1)) rfl ?_
    obtain ⟨x15_, g16_, h⟩ := rv_b_e h
    refine re_aI (pc := 23) g16_ (by decide +kernel : decode cX9_goers 23 = .ok (.iaload, 1)) ?_
    refine re_aloadn (pc := 24) 0 (by decide +kernel : decode cX9_goers 24 = .ok (.aload_n 0, 1)) rfl ?_
    obtain ⟨a17_, g18_, h⟩ := rv_b_e h
    refine re_gR (pc := 25) g18_ lfX9_21 rfl (by decide +kernel : decode cX9_goers 25 = .ok (.getfield 21, 3)) ?_
    obtain ⟨a19_, g20_, h⟩ := rv_b_e h
    refine re_gR (pc := 28) g20_ lfX9_79 rfl (by decide +kernel : decode cX9_goers 28 = .ok (.getfield 79, 3)) ?_
    refine re_iloadn (pc := 31) 1 (by decide +kernel : decode cX9_goers 31 = .ok (.iload_n 1, 1)) rfl ?_
    obtain ⟨x21_, g22_, h⟩ := rv_b_e h
    refine re_aI (pc := 32) g22_ (by decide +kernel : decode cX9_goers 32 = .ok (.iaload, 1)) ?_
    obtain ⟨u23_, g24_, h⟩ := rv_b_e h
    obtain ⟨x26_, g27_, h⟩ := rv_b_e h
    have m25_ := metX1_goers n S a9_ x15_ x21_ _ g27_
    refine re_cV (pc := 33) [.int x15_, .int x21_] m25_ (rv_okl.k ⟨rfl, rfl⟩) (rv_up.rf _ _) (by decide) (rv_ck_e g24_) ⟨by decide, rfl⟩ (Nat.le_of_ble_eq_true rfl) lVX9_82 rfl (by decide +kernel : decode cX9_goers 33 = .ok (.invokevirtual 82, 3)) ?_
    refine re_goto (pc := 36) 40 (by decide +kernel : decode cX9_goers 36 = .ok (.goto 4, 3)) (by decide) ?_
    cases h
    exact re_iret (fun ty hty => by cases hty; rfl) (by decide +kernel : decode cX9_goers 40 = .ok (.ireturn, 1))
theorem metX9_goers (n : Nat) (S : rvS) (a0 : Nat) (x1 : Int32) (r : Int32) (h : fnX9_goers n S a0 x1 = some r) : rv_Met yX9_goers mX9_goers 2 [.ref a0, .int x1] S (some (.int r)) S := rv_Met.of ⟨by decide +kernel, rfl, (fun z => by first | rfl | cases z), rfl⟩ (Nat.le_of_ble_eq_true rfl) rfl (eX9_goers_in n S a0 x1 r h)
noncomputable def fnX7_compares (n : Nat) (S : rvS) (a0 : Nat) (x1 : Int32) (x2 : Int32) : Option Int32 :=
  (rv_gR S 6 a0 1).bind fun a1_ =>
  (rv_aI S 0 a1_ x2).bind fun x3_ =>
  if x3_ = (60 : Int32) then (
    (rv_gR S 6 a0 2).bind fun a21_ =>
    (rv_aI S 0 a21_ x2).bind fun x23_ =>
    if x23_ ≤ x1 then (
      some (0 : Int32))
    else (
      some (1 : Int32)))
  else (
    (rv_gR S 6 a0 1).bind fun a6_ =>
    (rv_aI S 0 a6_ x2).bind fun x8_ =>
    if x8_ = (61 : Int32) then (
      (rv_gR S 6 a0 2).bind fun a16_ =>
      (rv_aI S 0 a16_ x2).bind fun x18_ =>
      if x1 = x18_ then (
        some (1 : Int32))
      else (
        some (0 : Int32)))
    else (
      (rv_gR S 6 a0 2).bind fun a11_ =>
      (rv_aI S 0 a11_ x2).bind fun x13_ =>
      if x1 ≤ x13_ then (
        some (0 : Int32))
      else (
        some (1 : Int32))))
set_option maxRecDepth 20000 in
set_option maxHeartbeats 4000000 in
theorem eX7_compares_in (n : Nat) (S : rvS) (a0 : Nat) (x1 : Int32) (x2 : Int32) (r : Int32) (h : fnX7_compares n S a0 x1 x2 = some r) : rv_Ev mX7_compares 0 0 [(0, .ref a0), (1, .int x1), (2, .int x2)] [] S (some (.int r)) S := by
  unfold fnX7_compares at h
  refine re_aloadn (pc := 0) 0 (by decide +kernel : decode cX7_compares 0 = .ok (.aload_n 0, 1)) rfl ?_
  obtain ⟨a1_, g2_, h⟩ := rv_b_e h
  refine re_gR (pc := 1) g2_ lfX7_17 rfl (by decide +kernel : decode cX7_compares 1 = .ok (.getfield 17, 3)) ?_
  refine re_iloadn (pc := 4) 2 (by decide +kernel : decode cX7_compares 4 = .ok (.iload_n 2, 1)) rfl ?_
  obtain ⟨x3_, g4_, h⟩ := rv_b_e h
  refine re_aI (pc := 5) g4_ (by decide +kernel : decode cX7_compares 5 = .ok (.iaload, 1)) ?_
  refine re_bipush (pc := 6) (60 : Int32) (by decide +kernel : decode cX7_compares 6 = .ok (.bipush 60, 2)) (by decide) ?_
  rcases rv_if_e h with ⟨g5_, h⟩ | ⟨g5_, h⟩
  · refine re_icmp_ne_f (pc := 8) 27 (by decide +kernel : decode cX7_compares 8 = .ok (.if_icmp .ne 19, 3)) (by decide) g5_ ?_
    refine re_iloadn (pc := 11) 1 (by decide +kernel : decode cX7_compares 11 = .ok (.iload_n 1, 1)) rfl ?_
    refine re_aloadn (pc := 12) 0 (by decide +kernel : decode cX7_compares 12 = .ok (.aload_n 0, 1)) rfl ?_
    obtain ⟨a21_, g22_, h⟩ := rv_b_e h
    refine re_gR (pc := 13) g22_ lfX7_21 rfl (by decide +kernel : decode cX7_compares 13 = .ok (.getfield 21, 3)) ?_
    refine re_iloadn (pc := 16) 2 (by decide +kernel : decode cX7_compares 16 = .ok (.iload_n 2, 1)) rfl ?_
    obtain ⟨x23_, g24_, h⟩ := rv_b_e h
    refine re_aI (pc := 17) g24_ (by decide +kernel : decode cX7_compares 17 = .ok (.iaload, 1)) ?_
    rcases rv_if_e h with ⟨g25_, h⟩ | ⟨g25_, h⟩
    · refine re_icmp_ge_t (pc := 18) 25 (by decide +kernel : decode cX7_compares 18 = .ok (.if_icmp .ge 7, 3)) (by decide) g25_ ?_
      refine re_iconst (pc := 25) (0 : Int32) (by decide +kernel : decode cX7_compares 25 = .ok (.iconst 0, 1)) (by decide) ?_
      cases h
      exact re_iret (fun ty hty => by cases hty; rfl) (by decide +kernel : decode cX7_compares 26 = .ok (.ireturn, 1))
    · refine re_icmp_ge_f (pc := 18) 25 (by decide +kernel : decode cX7_compares 18 = .ok (.if_icmp .ge 7, 3)) (by decide) g25_ ?_
      refine re_iconst (pc := 21) (1 : Int32) (by decide +kernel : decode cX7_compares 21 = .ok (.iconst 1, 1)) (by decide) ?_
      refine re_goto (pc := 22) 26 (by decide +kernel : decode cX7_compares 22 = .ok (.goto 4, 3)) (by decide) ?_
      cases h
      exact re_iret (fun ty hty => by cases hty; rfl) (by decide +kernel : decode cX7_compares 26 = .ok (.ireturn, 1))
  · refine re_icmp_ne_t (pc := 8) 27 (by decide +kernel : decode cX7_compares 8 = .ok (.if_icmp .ne 19, 3)) (by decide) g5_ ?_
    refine re_aloadn (pc := 27) 0 (by decide +kernel : decode cX7_compares 27 = .ok (.aload_n 0, 1)) rfl ?_
    obtain ⟨a6_, g7_, h⟩ := rv_b_e h
    refine re_gR (pc := 28) g7_ lfX7_17 rfl (by decide +kernel : decode cX7_compares 28 = .ok (.getfield 17, 3)) ?_
    refine re_iloadn (pc := 31) 2 (by decide +kernel : decode cX7_compares 31 = .ok (.iload_n 2, 1)) rfl ?_
    obtain ⟨x8_, g9_, h⟩ := rv_b_e h
    refine re_aI (pc := 32) g9_ (by decide +kernel : decode cX7_compares 32 = .ok (.iaload, 1)) ?_
    refine re_bipush (pc := 33) (61 : Int32) (by decide +kernel : decode cX7_compares 33 = .ok (.bipush 61, 2)) (by decide) ?_
    rcases rv_if_e h with ⟨g10_, h⟩ | ⟨g10_, h⟩
    · refine re_icmp_ne_f (pc := 35) 56 (by decide +kernel : decode cX7_compares 35 = .ok (.if_icmp .ne 21, 3)) (by decide) g10_ ?_
      refine re_iloadn (pc := 38) 1 (by decide +kernel : decode cX7_compares 38 = .ok (.iload_n 1, 1)) rfl ?_
      refine re_aloadn (pc := 39) 0 (by decide +kernel : decode cX7_compares 39 = .ok (.aload_n 0, 1)) rfl ?_
      obtain ⟨a16_, g17_, h⟩ := rv_b_e h
      refine re_gR (pc := 40) g17_ lfX7_21 rfl (by decide +kernel : decode cX7_compares 40 = .ok (.getfield 21, 3)) ?_
      refine re_iloadn (pc := 43) 2 (by decide +kernel : decode cX7_compares 43 = .ok (.iload_n 2, 1)) rfl ?_
      obtain ⟨x18_, g19_, h⟩ := rv_b_e h
      refine re_aI (pc := 44) g19_ (by decide +kernel : decode cX7_compares 44 = .ok (.iaload, 1)) ?_
      rcases rv_if_e h with ⟨g20_, h⟩ | ⟨g20_, h⟩
      · refine re_icmp_ne_f (pc := 45) 52 (by decide +kernel : decode cX7_compares 45 = .ok (.if_icmp .ne 7, 3)) (by decide) g20_ ?_
        refine re_iconst (pc := 48) (1 : Int32) (by decide +kernel : decode cX7_compares 48 = .ok (.iconst 1, 1)) (by decide) ?_
        refine re_goto (pc := 49) 71 (by decide +kernel : decode cX7_compares 49 = .ok (.goto 22, 3)) (by decide) ?_
        cases h
        exact re_iret (fun ty hty => by cases hty; rfl) (by decide +kernel : decode cX7_compares 71 = .ok (.ireturn, 1))
      · refine re_icmp_ne_t (pc := 45) 52 (by decide +kernel : decode cX7_compares 45 = .ok (.if_icmp .ne 7, 3)) (by decide) g20_ ?_
        refine re_iconst (pc := 52) (0 : Int32) (by decide +kernel : decode cX7_compares 52 = .ok (.iconst 0, 1)) (by decide) ?_
        refine re_goto (pc := 53) 71 (by decide +kernel : decode cX7_compares 53 = .ok (.goto 18, 3)) (by decide) ?_
        cases h
        exact re_iret (fun ty hty => by cases hty; rfl) (by decide +kernel : decode cX7_compares 71 = .ok (.ireturn, 1))
    · refine re_icmp_ne_t (pc := 35) 56 (by decide +kernel : decode cX7_compares 35 = .ok (.if_icmp .ne 21, 3)) (by decide) g10_ ?_
      refine re_iloadn (pc := 56) 1 (by decide +kernel : decode cX7_compares 56 = .ok (.iload_n 1, 1)) rfl ?_
      refine re_aloadn (pc := 57) 0 (by decide +kernel : decode cX7_compares 57 = .ok (.aload_n 0, 1)) rfl ?_
      obtain ⟨a11_, g12_, h⟩ := rv_b_e h
      refine re_gR (pc := 58) g12_ lfX7_21 rfl (by decide +kernel : decode cX7_compares 58 = .ok (.getfield 21, 3)) ?_
      refine re_iloadn (pc := 61) 2 (by decide +kernel : decode cX7_compares 61 = .ok (.iload_n 2, 1)) rfl ?_
      obtain ⟨x13_, g14_, h⟩ := rv_b_e h
      refine re_aI (pc := 62) g14_ (by decide +kernel : decode cX7_compares 62 = .ok (.iaload, 1)) ?_
      rcases rv_if_e h with ⟨g15_, h⟩ | ⟨g15_, h⟩
      · refine re_icmp_le_t (pc := 63) 70 (by decide +kernel : decode cX7_compares 63 = .ok (.if_icmp .le 7, 3)) (by decide) g15_ ?_
        refine re_iconst (pc := 70) (0 : Int32) (by decide +kernel : decode cX7_compares 70 = .ok (.iconst 0, 1)) (by decide) ?_
        cases h
        exact re_iret (fun ty hty => by cases hty; rfl) (by decide +kernel : decode cX7_compares 71 = .ok (.ireturn, 1))
      · refine re_icmp_le_f (pc := 63) 70 (by decide +kernel : decode cX7_compares 63 = .ok (.if_icmp .le 7, 3)) (by decide) g15_ ?_
        refine re_iconst (pc := 66) (1 : Int32) (by decide +kernel : decode cX7_compares 66 = .ok (.iconst 1, 1)) (by decide) ?_
        refine re_goto (pc := 67) 71 (by decide +kernel : decode cX7_compares 67 = .ok (.goto 4, 3)) (by decide) ?_
        cases h
        exact re_iret (fun ty hty => by cases hty; rfl) (by decide +kernel : decode cX7_compares 71 = .ok (.ireturn, 1))
theorem metX7_compares (n : Nat) (S : rvS) (a0 : Nat) (x1 : Int32) (x2 : Int32) (r : Int32) (h : fnX7_compares n S a0 x1 x2 = some r) : rv_Met yX7_compares mX7_compares 0 [.ref a0, .int x1, .int x2] S (some (.int r)) S := rv_Met.of ⟨by decide +kernel, rfl, (fun z => by first | rfl | cases z), rfl⟩ (Nat.le_of_ble_eq_true rfl) rfl (eX7_compares_in n S a0 x1 x2 r h)
noncomputable def fnX7_isTrue (n : Nat) (S : rvS) (a0 : Nat) (a1 : Nat) (x2 : Int32) (x3 : Int32) : Option Int32 :=
  (rv_gR S 8 a1 1).bind fun a1_ =>
  (rv_gR S 6 a0 0).bind fun a3_ =>
  (rv_aR S 4 a3_ x2).bind fun a5_ =>
  (rv_wd a5_).bind fun u7_ =>
  (rv_ix 23 (Int32.ofNat a5_)).bind fun j9_ =>
  rv_lt (rv_sw j9_) fun x12_ =>
  if x12_ = 10 then (
    (rv_gR S 5 a1_ 3).bind fun a15_ =>
    (rv_aI S 0 a15_ x3).bind fun x17_ =>
    (rv_gR S 6 a0 2).bind fun a19_ =>
    (rv_aI S 0 a19_ x2).bind fun x21_ =>
    if x17_ = x21_ then (
      some (1 : Int32))
    else (
      some (0 : Int32)))
  else (
    if x12_ = 11 then (
      (rv_gR S 6 a0 2).bind fun a25_ =>
      (rv_aI S 0 a25_ x2).bind fun x27_ =>
      (rv_ck S 5 a1_).bind fun u29_ =>
      (fnX6_bears n S a1_ x3 x27_).bind fun x32_ =>
      (rv_bo x32_).bind fun b_ =>
      some b_)
    else (
      if x12_ = 12 then (
        (rv_ck S 8 a1).bind fun u35_ =>
        (fnX9_goers n S a1 x3).bind fun x38_ =>
        (rv_gR S 6 a0 2).bind fun a40_ =>
        (rv_aI S 0 a40_ x2).bind fun x42_ =>
        if (((x38_.toUInt32 >>> (x42_.toUInt32 &&& Int32.toUInt32 31)).toInt32) &&& (1 : Int32)) = 0 then (
          some (0 : Int32))
        else (
          some (1 : Int32)))
      else (
        if x12_ = 13 then (
          (rv_gR S 5 a1_ 2).bind fun a46_ =>
          (rv_aI S 0 a46_ x3).bind fun x48_ =>
          (rv_ck S 6 a0).bind fun u50_ =>
          (fnX7_compares n S a0 x48_ x2).bind fun x53_ =>
          (rv_bo x53_).bind fun b_ =>
          some b_)
        else (
          if x12_ = 14 then (
            (rv_ck S 5 a1_).bind fun u56_ =>
            (fnX6_names n S a1_ x3).bind fun x59_ =>
            (rv_ck S 6 a0).bind fun u61_ =>
            (fnX7_compares n S a0 x59_ x2).bind fun x64_ =>
            (rv_bo x64_).bind fun b_ =>
            some b_)
          else (
            if x12_ = 15 then (
              (rv_gR S 8 a1 0).bind fun a67_ =>
              (rv_gR S 5 a1_ 3).bind fun a69_ =>
              (rv_aI S 0 a69_ x3).bind fun x71_ =>
              (rv_ck S 0 a67_).bind fun u73_ =>
              (fnX1_villageOf n S a67_ x71_).bind fun x76_ =>
              (rv_ck S 6 a0).bind fun u78_ =>
              (fnX7_compares n S a0 x76_ x2).bind fun x81_ =>
              (rv_bo x81_).bind fun b_ =>
              some b_)
            else (
              if x12_ = 16 then (
                (rv_ck S 8 a1).bind fun u84_ =>
                (fnX9_goers n S a1 x3).bind fun x87_ =>
                if x87_ = 0 then (
                  some (1 : Int32))
                else (
                  some (0 : Int32)))
              else (
                if x12_ = 17 then (
                  (rv_ck S 8 a1).bind fun u91_ =>
                  (fnX9_forgery n S a1 x3).bind fun x94_ =>
                  if x94_ = 0 then (
                    some (0 : Int32))
                  else (
                    some (1 : Int32)))
                else (
                  some (0 : Int32)))))))))
set_option maxRecDepth 20000 in
set_option maxHeartbeats 4000000 in
theorem eX7_isTrue_in (n : Nat) (S : rvS) (a0 : Nat) (a1 : Nat) (x2 : Int32) (x3 : Int32) (r : Int32) (h : fnX7_isTrue n S a0 a1 x2 x3 = some r) : rv_Ev mX7_isTrue 4 0 [(0, .ref a0), (1, .ref a1), (2, .int x2), (3, .int x3)] [] S (some (.int r)) S := by
  unfold fnX7_isTrue at h
  refine re_aloadn (pc := 0) 1 (by decide +kernel : decode cX7_isTrue 0 = .ok (.aload_n 1, 1)) rfl ?_
  obtain ⟨a1_, g2_, h⟩ := rv_b_e h
  refine re_gR (pc := 1) g2_ lfX7_134 rfl (by decide +kernel : decode cX7_isTrue 1 = .ok (.getfield 134, 3)) ?_
  refine re_astore (pc := 4) (lv1 := [(4, .ref a1_), (0, .ref a0), (1, .ref a1), (2, .int x2), (3, .int x3)]) (by decide +kernel : decode cX7_isTrue 4 = .ok (.astore 4, 2)) (by decide) rfl ?_
  refine re_getsS (pc := 6) (rw6 49 (by decide +kernel) rfl) (by decide +kernel : decode cX7_isTrue 6 = .ok (.getstatic 88, 3)) ?_
  refine re_aloadn (pc := 9) 1 (by decide +kernel : decode cX7_isTrue 9 = .ok (.aload_n 0, 1)) rfl ?_
  obtain ⟨a3_, g4_, h⟩ := rv_b_e h
  refine re_gR (pc := 10) g4_ lfX7_13 rfl (by decide +kernel : decode cX7_isTrue 10 = .ok (.getfield 13, 3)) ?_
  refine re_iloadn (pc := 13) 3 (by decide +kernel : decode cX7_isTrue 13 = .ok (.iload_n 2, 1)) rfl ?_
  obtain ⟨a5_, g6_, h⟩ := rv_b_e h
  refine re_aR (pc := 14) (t := 0) (by decide) g6_ (by decide +kernel : decode cX7_isTrue 14 = .ok (.aaload, 1)) ?_
  obtain ⟨u7_, g8_, h⟩ := rv_b_e h
  refine re_ord (pc := 15) (rv_wd_e g8_) (rw6 50 (by decide +kernel) rfl) (by decide) (Nat.le_of_ble_eq_true rfl) (by decide +kernel : decode cX7_isTrue 15 = .ok (.invokevirtual 93, 3)) ?_
  obtain ⟨j9_, g10_, h⟩ := rv_b_e h
  have z11_ := rv_ix_e g10_
  refine re_aldS (pc := 18) z11_.1 (by decide +kernel : decode cX7_isTrue 18 = .ok (.iaload, 1)) ?_
  refine re_nI (congrArg rv_sw z11_.2.symm) ?_
  obtain ⟨x12_, g13_, h⟩ := rv_lt_e h
  refine re_nI (pc := 19) g13_ ?_
  rcases rv_if_e h with ⟨g14_, h⟩ | ⟨g14_, h⟩
  · refine re_tabInE (pc := 19) (off := 45) 64 (by decide +kernel : decode cX7_isTrue 19 = .ok (.tableswitch 176 10 17 #[45, 67, 80, 131, 144, 156, 103, 117], 45)) g14_ (by decide) (by decide) (by decide) (by decide) ?_
    refine re_aload (pc := 64) 0 (by decide +kernel : decode cX7_isTrue 64 = .ok (.aload 4, 2)) rfl ?_
    obtain ⟨a15_, g16_, h⟩ := rv_b_e h
    refine re_gR (pc := 66) g16_ lfX7_149 rfl (by decide +kernel : decode cX7_isTrue 66 = .ok (.getfield 149, 3)) ?_
    refine re_iloadn (pc := 69) 4 (by decide +kernel : decode cX7_isTrue 69 = .ok (.iload_n 3, 1)) rfl ?_
    obtain ⟨x17_, g18_, h⟩ := rv_b_e h
    refine re_aI (pc := 70) g18_ (by decide +kernel : decode cX7_isTrue 70 = .ok (.iaload, 1)) ?_
    refine re_aloadn (pc := 71) 1 (by decide +kernel : decode cX7_isTrue 71 = .ok (.aload_n 0, 1)) rfl ?_
    obtain ⟨a19_, g20_, h⟩ := rv_b_e h
    refine re_gR (pc := 72) g20_ lfX7_21 rfl (by decide +kernel : decode cX7_isTrue 72 = .ok (.getfield 21, 3)) ?_
    refine re_iloadn (pc := 75) 3 (by decide +kernel : decode cX7_isTrue 75 = .ok (.iload_n 2, 1)) rfl ?_
    obtain ⟨x21_, g22_, h⟩ := rv_b_e h
    refine re_aI (pc := 76) g22_ (by decide +kernel : decode cX7_isTrue 76 = .ok (.iaload, 1)) ?_
    rcases rv_if_e h with ⟨g23_, h⟩ | ⟨g23_, h⟩
    · refine re_icmp_ne_f (pc := 77) 84 (by decide +kernel : decode cX7_isTrue 77 = .ok (.if_icmp .ne 7, 3)) (by decide) g23_ ?_
      refine re_iconst (pc := 80) (1 : Int32) (by decide +kernel : decode cX7_isTrue 80 = .ok (.iconst 1, 1)) (by decide) ?_
      refine re_goto (pc := 81) 85 (by decide +kernel : decode cX7_isTrue 81 = .ok (.goto 4, 3)) (by decide) ?_
      cases h
      exact re_iret (fun ty hty => by cases hty; rfl) (by decide +kernel : decode cX7_isTrue 85 = .ok (.ireturn, 1))
    · refine re_icmp_ne_t (pc := 77) 84 (by decide +kernel : decode cX7_isTrue 77 = .ok (.if_icmp .ne 7, 3)) (by decide) g23_ ?_
      refine re_iconst (pc := 84) (0 : Int32) (by decide +kernel : decode cX7_isTrue 84 = .ok (.iconst 0, 1)) (by decide) ?_
      cases h
      exact re_iret (fun ty hty => by cases hty; rfl) (by decide +kernel : decode cX7_isTrue 85 = .ok (.ireturn, 1))
  · skip
    rcases rv_if_e h with ⟨g24_, h⟩ | ⟨g24_, h⟩
    · refine re_tabInE (pc := 19) (off := 67) 86 (by decide +kernel : decode cX7_isTrue 19 = .ok (.tableswitch 176 10 17 #[45, 67, 80, 131, 144, 156, 103, 117], 45)) g24_ (by decide) (by decide) (by decide) (by decide) ?_
      refine re_aload (pc := 86) 0 (by decide +kernel : decode cX7_isTrue 86 = .ok (.aload 4, 2)) rfl ?_
      refine re_iloadn (pc := 88) 4 (by decide +kernel : decode cX7_isTrue 88 = .ok (.iload_n 3, 1)) rfl ?_
      refine re_aloadn (pc := 89) 1 (by decide +kernel : decode cX7_isTrue 89 = .ok (.aload_n 0, 1)) rfl ?_
      obtain ⟨a25_, g26_, h⟩ := rv_b_e h
      refine re_gR (pc := 90) g26_ lfX7_21 rfl (by decide +kernel : decode cX7_isTrue 90 = .ok (.getfield 21, 3)) ?_
      refine re_iloadn (pc := 93) 3 (by decide +kernel : decode cX7_isTrue 93 = .ok (.iload_n 2, 1)) rfl ?_
      obtain ⟨x27_, g28_, h⟩ := rv_b_e h
      refine re_aI (pc := 94) g28_ (by decide +kernel : decode cX7_isTrue 94 = .ok (.iaload, 1)) ?_
      obtain ⟨u29_, g30_, h⟩ := rv_b_e h
      obtain ⟨x32_, g33_, h⟩ := rv_b_e h
      have m31_ := metX6_bears n S a1_ x3 x27_ _ g33_
      refine re_cV (pc := 95) [.int x3, .int x27_] m31_ (rv_okl.k ⟨rfl, rfl⟩) (rv_up.rf _ _) (by decide) (rv_ck_e g30_) ⟨by decide, rfl⟩ (Nat.le_of_ble_eq_true rfl) lVX7_152 rfl (by decide +kernel : decode cX7_isTrue 95 = .ok (.invokevirtual 152, 3)) ?_
      obtain ⟨b_, gb_, h⟩ := rv_b_e h
      obtain ⟨gb1_, gb2_⟩ := rv_bo_e gb_
      refine re_nI (pc := 98) gb1_ ?_
      cases h
      exact re_iret (fun ty hty => by cases hty; exact gb2_) (by decide +kernel : decode cX7_isTrue 98 = .ok (.ireturn, 1))
    · skip
      rcases rv_if_e h with ⟨g34_, h⟩ | ⟨g34_, h⟩
      · refine re_tabInE (pc := 19) (off := 80) 99 (by decide +kernel : decode cX7_isTrue 19 = .ok (.tableswitch 176 10 17 #[45, 67, 80, 131, 144, 156, 103, 117], 45)) g34_ (by decide) (by decide) (by decide) (by decide) ?_
        refine re_aloadn (pc := 99) 2 (by decide +kernel : decode cX7_isTrue 99 = .ok (.aload_n 1, 1)) rfl ?_
        refine re_iloadn (pc := 100) 4 (by decide +kernel : decode cX7_isTrue 100 = .ok (.iload_n 3, 1)) rfl ?_
        obtain ⟨u35_, g36_, h⟩ := rv_b_e h
        obtain ⟨x38_, g39_, h⟩ := rv_b_e h
        have m37_ := metX9_goers n S a1 x3 _ g39_
        refine re_cV (pc := 101) [.int x3] m37_ (rv_okl.k ⟨rfl, rfl⟩) (rv_up.rf _ _) (by decide) (rv_ck_e g36_) ⟨by decide, rfl⟩ (Nat.le_of_ble_eq_true rfl) lVX7_156 rfl (by decide +kernel : decode cX7_isTrue 101 = .ok (.invokevirtual 156, 3)) ?_
        refine re_aloadn (pc := 104) 1 (by decide +kernel : decode cX7_isTrue 104 = .ok (.aload_n 0, 1)) rfl ?_
        obtain ⟨a40_, g41_, h⟩ := rv_b_e h
        refine re_gR (pc := 105) g41_ lfX7_21 rfl (by decide +kernel : decode cX7_isTrue 105 = .ok (.getfield 21, 3)) ?_
        refine re_iloadn (pc := 108) 3 (by decide +kernel : decode cX7_isTrue 108 = .ok (.iload_n 2, 1)) rfl ?_
        obtain ⟨x42_, g43_, h⟩ := rv_b_e h
        refine re_aI (pc := 109) g43_ (by decide +kernel : decode cX7_isTrue 109 = .ok (.iaload, 1)) ?_
        refine re_iushr (pc := 110) (by decide +kernel : decode cX7_isTrue 110 = .ok (.iushr, 1)) ?_
        refine re_iconst (pc := 111) (1 : Int32) (by decide +kernel : decode cX7_isTrue 111 = .ok (.iconst 1, 1)) (by decide) ?_
        refine re_iand (pc := 112) (by decide +kernel : decode cX7_isTrue 112 = .ok (.iand, 1)) ?_
        rcases rv_if_e h with ⟨g44_, h⟩ | ⟨g44_, h⟩
        · refine re_if_eq_t (pc := 113) 120 (by decide +kernel : decode cX7_isTrue 113 = .ok (.ifCond .eq 7, 3)) (by decide) g44_ ?_
          refine re_iconst (pc := 120) (0 : Int32) (by decide +kernel : decode cX7_isTrue 120 = .ok (.iconst 0, 1)) (by decide) ?_
          cases h
          exact re_iret (fun ty hty => by cases hty; rfl) (by decide +kernel : decode cX7_isTrue 121 = .ok (.ireturn, 1))
        · refine re_if_eq_f (pc := 113) 120 (by decide +kernel : decode cX7_isTrue 113 = .ok (.ifCond .eq 7, 3)) (by decide) g44_ ?_
          refine re_iconst (pc := 116) (1 : Int32) (by decide +kernel : decode cX7_isTrue 116 = .ok (.iconst 1, 1)) (by decide) ?_
          refine re_goto (pc := 117) 121 (by decide +kernel : decode cX7_isTrue 117 = .ok (.goto 4, 3)) (by decide) ?_
          cases h
          exact re_iret (fun ty hty => by cases hty; rfl) (by decide +kernel : decode cX7_isTrue 121 = .ok (.ireturn, 1))
      · skip
        rcases rv_if_e h with ⟨g45_, h⟩ | ⟨g45_, h⟩
        · refine re_tabInE (pc := 19) (off := 131) 150 (by decide +kernel : decode cX7_isTrue 19 = .ok (.tableswitch 176 10 17 #[45, 67, 80, 131, 144, 156, 103, 117], 45)) g45_ (by decide) (by decide) (by decide) (by decide) ?_
          refine re_aloadn (pc := 150) 1 (by decide +kernel : decode cX7_isTrue 150 = .ok (.aload_n 0, 1)) rfl ?_
          refine re_aload (pc := 151) 0 (by decide +kernel : decode cX7_isTrue 151 = .ok (.aload 4, 2)) rfl ?_
          obtain ⟨a46_, g47_, h⟩ := rv_b_e h
          refine re_gR (pc := 153) g47_ lfX7_163 rfl (by decide +kernel : decode cX7_isTrue 153 = .ok (.getfield 163, 3)) ?_
          refine re_iloadn (pc := 156) 4 (by decide +kernel : decode cX7_isTrue 156 = .ok (.iload_n 3, 1)) rfl ?_
          obtain ⟨x48_, g49_, h⟩ := rv_b_e h
          refine re_aI (pc := 157) g49_ (by decide +kernel : decode cX7_isTrue 157 = .ok (.iaload, 1)) ?_
          refine re_iloadn (pc := 158) 3 (by decide +kernel : decode cX7_isTrue 158 = .ok (.iload_n 2, 1)) rfl ?_
          obtain ⟨u50_, g51_, h⟩ := rv_b_e h
          obtain ⟨x53_, g54_, h⟩ := rv_b_e h
          have m52_ := metX7_compares n S a0 x48_ x2 _ g54_
          refine re_cV (pc := 159) [.int x48_, .int x2] m52_ (rv_okl.k ⟨rfl, rfl⟩) (rv_up.rf _ _) (by decide) (rv_ck_e g51_) ⟨by decide, rfl⟩ (Nat.le_of_ble_eq_true rfl) lVX7_166 rfl (by decide +kernel : decode cX7_isTrue 159 = .ok (.invokevirtual 166, 3)) ?_
          obtain ⟨b_, gb_, h⟩ := rv_b_e h
          obtain ⟨gb1_, gb2_⟩ := rv_bo_e gb_
          refine re_nI (pc := 162) gb1_ ?_
          cases h
          exact re_iret (fun ty hty => by cases hty; exact gb2_) (by decide +kernel : decode cX7_isTrue 162 = .ok (.ireturn, 1))
        · skip
          rcases rv_if_e h with ⟨g55_, h⟩ | ⟨g55_, h⟩
          · refine re_tabInE (pc := 19) (off := 144) 163 (by decide +kernel : decode cX7_isTrue 19 = .ok (.tableswitch 176 10 17 #[45, 67, 80, 131, 144, 156, 103, 117], 45)) g55_ (by decide) (by decide) (by decide) (by decide) ?_
            refine re_aloadn (pc := 163) 1 (by decide +kernel : decode cX7_isTrue 163 = .ok (.aload_n 0, 1)) rfl ?_
            refine re_aload (pc := 164) 0 (by decide +kernel : decode cX7_isTrue 164 = .ok (.aload 4, 2)) rfl ?_
            refine re_iloadn (pc := 166) 4 (by decide +kernel : decode cX7_isTrue 166 = .ok (.iload_n 3, 1)) rfl ?_
            obtain ⟨u56_, g57_, h⟩ := rv_b_e h
            obtain ⟨x59_, g60_, h⟩ := rv_b_e h
            have m58_ := metX6_names n S a1_ x3 _ g60_
            refine re_cV (pc := 167) [.int x3] m58_ (rv_okl.k ⟨rfl, rfl⟩) (rv_up.rf _ _) (by decide) (rv_ck_e g57_) ⟨by decide, rfl⟩ (Nat.le_of_ble_eq_true rfl) lVX7_169 rfl (by decide +kernel : decode cX7_isTrue 167 = .ok (.invokevirtual 169, 3)) ?_
            refine re_iloadn (pc := 170) 3 (by decide +kernel : decode cX7_isTrue 170 = .ok (.iload_n 2, 1)) rfl ?_
            obtain ⟨u61_, g62_, h⟩ := rv_b_e h
            obtain ⟨x64_, g65_, h⟩ := rv_b_e h
            have m63_ := metX7_compares n S a0 x59_ x2 _ g65_
            refine re_cV (pc := 171) [.int x59_, .int x2] m63_ (rv_okl.k ⟨rfl, rfl⟩) (rv_up.rf _ _) (by decide) (rv_ck_e g62_) ⟨by decide, rfl⟩ (Nat.le_of_ble_eq_true rfl) lVX7_166 rfl (by decide +kernel : decode cX7_isTrue 171 = .ok (.invokevirtual 166, 3)) ?_
            obtain ⟨b_, gb_, h⟩ := rv_b_e h
            obtain ⟨gb1_, gb2_⟩ := rv_bo_e gb_
            refine re_nI (pc := 174) gb1_ ?_
            cases h
            exact re_iret (fun ty hty => by cases hty; exact gb2_) (by decide +kernel : decode cX7_isTrue 174 = .ok (.ireturn, 1))
          · skip
            rcases rv_if_e h with ⟨g66_, h⟩ | ⟨g66_, h⟩
            · refine re_tabInE (pc := 19) (off := 156) 175 (by decide +kernel : decode cX7_isTrue 19 = .ok (.tableswitch 176 10 17 #[45, 67, 80, 131, 144, 156, 103, 117], 45)) g66_ (by decide) (by decide) (by decide) (by decide) ?_
              refine re_aloadn (pc := 175) 1 (by decide +kernel : decode cX7_isTrue 175 = .ok (.aload_n 0, 1)) rfl ?_
              refine re_aloadn (pc := 176) 2 (by decide +kernel : decode cX7_isTrue 176 = .ok (.aload_n 1, 1)) rfl ?_
              obtain ⟨a67_, g68_, h⟩ := rv_b_e h
              refine re_gR (pc := 177) g68_ lfX7_172 rfl (by decide +kernel : decode cX7_isTrue 177 = .ok (.getfield 172, 3)) ?_
              refine re_aload (pc := 180) 0 (by decide +kernel : decode cX7_isTrue 180 = .ok (.aload 4, 2)) rfl ?_
              obtain ⟨a69_, g70_, h⟩ := rv_b_e h
              refine re_gR (pc := 182) g70_ lfX7_149 rfl (by decide +kernel : decode cX7_isTrue 182 = .ok (.getfield 149, 3)) ?_
              refine re_iloadn (pc := 185) 4 (by decide +kernel : decode cX7_isTrue 185 = .ok (.iload_n 3, 1)) rfl ?_
              obtain ⟨x71_, g72_, h⟩ := rv_b_e h
              refine re_aI (pc := 186) g72_ (by decide +kernel : decode cX7_isTrue 186 = .ok (.iaload, 1)) ?_
              obtain ⟨u73_, g74_, h⟩ := rv_b_e h
              obtain ⟨x76_, g77_, h⟩ := rv_b_e h
              have m75_ := metX1_villageOf n S a67_ x71_ _ g77_
              refine re_cV (pc := 187) [.int x71_] m75_ (rv_okl.k ⟨rfl, rfl⟩) (rv_up.rf _ _) (by decide) (rv_ck_e g74_) ⟨by decide, rfl⟩ (Nat.le_of_ble_eq_true rfl) lVX7_176 rfl (by decide +kernel : decode cX7_isTrue 187 = .ok (.invokevirtual 176, 3)) ?_
              refine re_iloadn (pc := 190) 3 (by decide +kernel : decode cX7_isTrue 190 = .ok (.iload_n 2, 1)) rfl ?_
              obtain ⟨u78_, g79_, h⟩ := rv_b_e h
              obtain ⟨x81_, g82_, h⟩ := rv_b_e h
              have m80_ := metX7_compares n S a0 x76_ x2 _ g82_
              refine re_cV (pc := 191) [.int x76_, .int x2] m80_ (rv_okl.k ⟨rfl, rfl⟩) (rv_up.rf _ _) (by decide) (rv_ck_e g79_) ⟨by decide, rfl⟩ (Nat.le_of_ble_eq_true rfl) lVX7_166 rfl (by decide +kernel : decode cX7_isTrue 191 = .ok (.invokevirtual 166, 3)) ?_
              obtain ⟨b_, gb_, h⟩ := rv_b_e h
              obtain ⟨gb1_, gb2_⟩ := rv_bo_e gb_
              refine re_nI (pc := 194) gb1_ ?_
              cases h
              exact re_iret (fun ty hty => by cases hty; exact gb2_) (by decide +kernel : decode cX7_isTrue 194 = .ok (.ireturn, 1))
            · skip
              rcases rv_if_e h with ⟨g83_, h⟩ | ⟨g83_, h⟩
              · refine re_tabInE (pc := 19) (off := 103) 122 (by decide +kernel : decode cX7_isTrue 19 = .ok (.tableswitch 176 10 17 #[45, 67, 80, 131, 144, 156, 103, 117], 45)) g83_ (by decide) (by decide) (by decide) (by decide) ?_
                refine re_aloadn (pc := 122) 2 (by decide +kernel : decode cX7_isTrue 122 = .ok (.aload_n 1, 1)) rfl ?_
                refine re_iloadn (pc := 123) 4 (by decide +kernel : decode cX7_isTrue 123 = .ok (.iload_n 3, 1)) rfl ?_
                obtain ⟨u84_, g85_, h⟩ := rv_b_e h
                obtain ⟨x87_, g88_, h⟩ := rv_b_e h
                have m86_ := metX9_goers n S a1 x3 _ g88_
                refine re_cV (pc := 124) [.int x3] m86_ (rv_okl.k ⟨rfl, rfl⟩) (rv_up.rf _ _) (by decide) (rv_ck_e g85_) ⟨by decide, rfl⟩ (Nat.le_of_ble_eq_true rfl) lVX7_156 rfl (by decide +kernel : decode cX7_isTrue 124 = .ok (.invokevirtual 156, 3)) ?_
                rcases rv_if_e h with ⟨g89_, h⟩ | ⟨g89_, h⟩
                · refine re_if_ne_f (pc := 127) 134 (by decide +kernel : decode cX7_isTrue 127 = .ok (.ifCond .ne 7, 3)) (by decide) g89_ ?_
                  refine re_iconst (pc := 130) (1 : Int32) (by decide +kernel : decode cX7_isTrue 130 = .ok (.iconst 1, 1)) (by decide) ?_
                  refine re_goto (pc := 131) 135 (by decide +kernel : decode cX7_isTrue 131 = .ok (.goto 4, 3)) (by decide) ?_
                  cases h
                  exact re_iret (fun ty hty => by cases hty; rfl) (by decide +kernel : decode cX7_isTrue 135 = .ok (.ireturn, 1))
                · refine re_if_ne_t (pc := 127) 134 (by decide +kernel : decode cX7_isTrue 127 = .ok (.ifCond .ne 7, 3)) (by decide) g89_ ?_
                  refine re_iconst (pc := 134) (0 : Int32) (by decide +kernel : decode cX7_isTrue 134 = .ok (.iconst 0, 1)) (by decide) ?_
                  cases h
                  exact re_iret (fun ty hty => by cases hty; rfl) (by decide +kernel : decode cX7_isTrue 135 = .ok (.ireturn, 1))
              · skip
                rcases rv_if_e h with ⟨g90_, h⟩ | ⟨g90_, h⟩
                · refine re_tabInE (pc := 19) (off := 117) 136 (by decide +kernel : decode cX7_isTrue 19 = .ok (.tableswitch 176 10 17 #[45, 67, 80, 131, 144, 156, 103, 117], 45)) g90_ (by decide) (by decide) (by decide) (by decide) ?_
                  refine re_aloadn (pc := 136) 2 (by decide +kernel : decode cX7_isTrue 136 = .ok (.aload_n 1, 1)) rfl ?_
                  refine re_iloadn (pc := 137) 4 (by decide +kernel : decode cX7_isTrue 137 = .ok (.iload_n 3, 1)) rfl ?_
                  obtain ⟨u91_, g92_, h⟩ := rv_b_e h
                  obtain ⟨x94_, g95_, h⟩ := rv_b_e h
                  have m93_ := metX9_forgery n S a1 x3 _ g95_
                  refine re_cV (pc := 138) [.int x3] m93_ (rv_okl.k ⟨rfl, rfl⟩) (rv_up.rf _ _) (by decide) (rv_ck_e g92_) ⟨by decide, rfl⟩ (Nat.le_of_ble_eq_true rfl) lVX7_160 rfl (by decide +kernel : decode cX7_isTrue 138 = .ok (.invokevirtual 160, 3)) ?_
                  rcases rv_if_e h with ⟨g96_, h⟩ | ⟨g96_, h⟩
                  · refine re_if_eq_t (pc := 141) 148 (by decide +kernel : decode cX7_isTrue 141 = .ok (.ifCond .eq 7, 3)) (by decide) g96_ ?_
                    refine re_iconst (pc := 148) (0 : Int32) (by decide +kernel : decode cX7_isTrue 148 = .ok (.iconst 0, 1)) (by decide) ?_
                    cases h
                    exact re_iret (fun ty hty => by cases hty; rfl) (by decide +kernel : decode cX7_isTrue 149 = .ok (.ireturn, 1))
                  · refine re_if_eq_f (pc := 141) 148 (by decide +kernel : decode cX7_isTrue 141 = .ok (.ifCond .eq 7, 3)) (by decide) g96_ ?_
                    refine re_iconst (pc := 144) (1 : Int32) (by decide +kernel : decode cX7_isTrue 144 = .ok (.iconst 1, 1)) (by decide) ?_
                    refine re_goto (pc := 145) 149 (by decide +kernel : decode cX7_isTrue 145 = .ok (.goto 4, 3)) (by decide) ?_
                    cases h
                    exact re_iret (fun ty hty => by cases hty; rfl) (by decide +kernel : decode cX7_isTrue 149 = .ok (.ireturn, 1))
                · skip
                  refine re_tabOut (pc := 19) (dflt := 176) 195 (by decide +kernel : decode cX7_isTrue 19 = .ok (.tableswitch 176 10 17 #[45, 67, 80, 131, 144, 156, 103, 117], 45)) (by have z0_ := lv_neT g14_ (a := 10) (by decide); have z1_ := lv_neT g24_ (a := 11) (by decide); have z2_ := lv_neT g34_ (a := 12) (by decide); have z3_ := lv_neT g45_ (a := 13) (by decide); have z4_ := lv_neT g55_ (a := 14) (by decide); have z5_ := lv_neT g66_ (a := 15) (by decide); have z6_ := lv_neT g83_ (a := 16) (by decide); have z7_ := lv_neT g90_ (a := 17) (by decide); omega) (by decide) ?_
                  refine re_iconst (pc := 195) (0 : Int32) (by decide +kernel : decode cX7_isTrue 195 = .ok (.iconst 0, 1)) (by decide) ?_
                  cases h
                  exact re_iret (fun ty hty => by cases hty; rfl) (by decide +kernel : decode cX7_isTrue 196 = .ok (.ireturn, 1))
theorem metX7_isTrue (n : Nat) (S : rvS) (a0 : Nat) (a1 : Nat) (x2 : Int32) (x3 : Int32) (r : Int32) (h : fnX7_isTrue n S a0 a1 x2 x3 = some r) : rv_Met yX7_isTrue mX7_isTrue 4 [.ref a0, .ref a1, .int x2, .int x3] S (some (.int r)) S := rv_Met.of ⟨by decide +kernel, rfl, (fun z => by first | rfl | cases z), rfl⟩ (Nat.le_of_ble_eq_true rfl) rfl (eX7_isTrue_in n S a0 a1 x2 x3 r h)
noncomputable def cX7_coinsOfStep_5 (n : Nat) (S : rvS) : Nat → Nat → Nat → Int32 → Int64 → Int32 → Option Int64
  | 0, _, _, _, _, _ => none
  | k + 1, a0, a1, x2, x3, x5 =>
    (rv_gR S 8 a1 1).bind fun a1_ =>
    (rv_gI S 5 a1_ 0).bind fun x3_ =>
    if x3_ ≤ x5 then (
      some x3)
    else (
      (rv_ck S 6 a0).bind fun u6_ =>
      (fnX7_isTrue n S a0 a1 x2 x5).bind fun x9_ =>
      if x9_ = 0 then (
        rv_lt (x5 + (1)) fun x12_ =>
        cX7_coinsOfStep_5 n S k a0 a1 x2 x3 x12_)
      else (
        rv_lt (x3 ||| ((1 : Int64) <<< (x5.toInt64 &&& 63))) fun x14_ =>
        rv_lt (x5 + (1)) fun x16_ =>
        cX7_coinsOfStep_5 n S k a0 a1 x2 x14_ x16_))
set_option maxRecDepth 20000 in
set_option maxHeartbeats 4000000 in
theorem eX7_coinsOfStep_5 (n : Nat) (S : rvS) : ∀ (k : Nat) (a0 : Nat) (a1 : Nat) (x2 : Int32) (x3 : Int64) (x5 : Int32) (r : Int64), cX7_coinsOfStep_5 n S k a0 a1 x2 x3 x5 = some r → rv_Ev mX7_coinsOfStep 5 5 [(0, .ref a0), (1, .ref a1), (2, .int x2), (3, .long x3), (5, .int x5)] [] S (some (.long r)) S := by
  intro k
  induction k with
  | zero => intro a0 a1 x2 x3 x5 r h; exact absurd h (by simp [cX7_coinsOfStep_5])
  | succ k ih =>
    intro a0 a1 x2 x3 x5 r h
    unfold cX7_coinsOfStep_5 at h
    refine re_iload (pc := 5) 4 (by decide +kernel : decode cX7_coinsOfStep 5 = .ok (.iload 5, 2)) rfl ?_
    refine re_aloadn (pc := 7) 1 (by decide +kernel : decode cX7_coinsOfStep 7 = .ok (.aload_n 1, 1)) rfl ?_
    obtain ⟨a1_, g2_, h⟩ := rv_b_e h
    refine re_gR (pc := 8) g2_ lfX7_134 rfl (by decide +kernel : decode cX7_coinsOfStep 8 = .ok (.getfield 134, 3)) ?_
    obtain ⟨x3_, g4_, h⟩ := rv_b_e h
    refine re_gI (pc := 11) g4_ lfX7_140 rfl (by decide +kernel : decode cX7_coinsOfStep 11 = .ok (.getfield 140, 3)) ?_
    rcases rv_if_e h with ⟨g5_, h⟩ | ⟨g5_, h⟩
    · refine re_icmp_ge_t (pc := 14) 41 (by decide +kernel : decode cX7_coinsOfStep 14 = .ok (.if_icmp .ge 27, 3)) (by decide) g5_ ?_
      refine re_lloadn (pc := 41) 3 (by decide +kernel : decode cX7_coinsOfStep 41 = .ok (.lload_n 3, 1)) rfl ?_
      cases h
      exact re_lret (by decide +kernel : decode cX7_coinsOfStep 42 = .ok (.lreturn, 1))
    · refine re_icmp_ge_f (pc := 14) 41 (by decide +kernel : decode cX7_coinsOfStep 14 = .ok (.if_icmp .ge 27, 3)) (by decide) g5_ ?_
      refine re_aloadn (pc := 17) 0 (by decide +kernel : decode cX7_coinsOfStep 17 = .ok (.aload_n 0, 1)) rfl ?_
      refine re_aloadn (pc := 18) 1 (by decide +kernel : decode cX7_coinsOfStep 18 = .ok (.aload_n 1, 1)) rfl ?_
      refine re_iloadn (pc := 19) 2 (by decide +kernel : decode cX7_coinsOfStep 19 = .ok (.iload_n 2, 1)) rfl ?_
      refine re_iload (pc := 20) 4 (by decide +kernel : decode cX7_coinsOfStep 20 = .ok (.iload 5, 2)) rfl ?_
      obtain ⟨u6_, g7_, h⟩ := rv_b_e h
      obtain ⟨x9_, g10_, h⟩ := rv_b_e h
      have m8_ := metX7_isTrue n S a0 a1 x2 x5 _ g10_
      refine re_cV (pc := 22) [.ref a1, .int x2, .int x5] m8_ (rv_okl.k ⟨rfl, rfl⟩) (rv_up.rf _ _) (by decide) (rv_ck_e g7_) ⟨by decide, rfl⟩ (Nat.le_of_ble_eq_true rfl) lVX7_145 rfl (by decide +kernel : decode cX7_coinsOfStep 22 = .ok (.invokevirtual 145, 3)) ?_
      rcases rv_if_e h with ⟨g11_, h⟩ | ⟨g11_, h⟩
      · refine re_if_eq_t (pc := 25) 35 (by decide +kernel : decode cX7_coinsOfStep 25 = .ok (.ifCond .eq 10, 3)) (by decide) g11_ ?_
        obtain ⟨x12_, g13_, h⟩ := rv_lt_e h
        refine re_iinc (pc := 35) 4 x12_ (lv1 := [(5, .int x12_), (0, .ref a0), (1, .ref a1), (2, .int x2), (3, .long x3)]) (by decide +kernel : decode cX7_coinsOfStep 35 = .ok (.iinc 5 1, 3)) rfl g13_ (by decide) rfl ?_
        refine re_goto (pc := 38) 5 (by decide +kernel : decode cX7_coinsOfStep 38 = .ok (.goto (-33), 3)) (by decide) ?_
        refine re_sub [1, 2, 3, 4, 0] (lv1 := [(0, .ref a0), (1, .ref a1), (2, .int x2), (3, .long x3), (5, .int x12_)]) rfl ?_
        exact ih a0 a1 x2 x3 x12_ _ h
      · refine re_if_eq_f (pc := 25) 35 (by decide +kernel : decode cX7_coinsOfStep 25 = .ok (.ifCond .eq 10, 3)) (by decide) g11_ ?_
        refine re_lloadn (pc := 28) 3 (by decide +kernel : decode cX7_coinsOfStep 28 = .ok (.lload_n 3, 1)) rfl ?_
        refine re_lconst (pc := 29) (1 : Int64) (by decide +kernel : decode cX7_coinsOfStep 29 = .ok (.lconst 1, 1)) (by decide) ?_
        refine re_iload (pc := 30) 4 (by decide +kernel : decode cX7_coinsOfStep 30 = .ok (.iload 5, 2)) rfl ?_
        refine re_lshl (pc := 32) (by decide +kernel : decode cX7_coinsOfStep 32 = .ok (.lshl, 1)) ?_
        refine re_lor (pc := 33) (by decide +kernel : decode cX7_coinsOfStep 33 = .ok (.lor, 1)) ?_
        obtain ⟨x14_, g15_, h⟩ := rv_lt_e h
        refine re_nL (pc := 34) g15_ ?_
        refine re_lstoren (pc := 34) (lv1 := [(3, .long x14_), (0, .ref a0), (1, .ref a1), (2, .int x2), (5, .int x5)]) (by decide +kernel : decode cX7_coinsOfStep 34 = .ok (.lstore_n 3, 1)) rfl (by decide) rfl ?_
        obtain ⟨x16_, g17_, h⟩ := rv_lt_e h
        refine re_iinc (pc := 35) 4 x16_ (lv1 := [(5, .int x16_), (3, .long x14_), (0, .ref a0), (1, .ref a1), (2, .int x2)]) (by decide +kernel : decode cX7_coinsOfStep 35 = .ok (.iinc 5 1, 3)) rfl g17_ (by decide) rfl ?_
        refine re_goto (pc := 38) 5 (by decide +kernel : decode cX7_coinsOfStep 38 = .ok (.goto (-33), 3)) (by decide) ?_
        refine re_sub [2, 3, 4, 1, 0] (lv1 := [(0, .ref a0), (1, .ref a1), (2, .int x2), (3, .long x14_), (5, .int x16_)]) rfl ?_
        exact ih a0 a1 x2 x14_ x16_ _ h
noncomputable def fnX7_coinsOfStep (n : Nat) (S : rvS) (a0 : Nat) (a1 : Nat) (x2 : Int32) : Option Int64 :=
  cX7_coinsOfStep_5 n S n a0 a1 x2 (0 : Int64) (0 : Int32)
set_option maxRecDepth 20000 in
set_option maxHeartbeats 4000000 in
theorem eX7_coinsOfStep_in (n : Nat) (S : rvS) (a0 : Nat) (a1 : Nat) (x2 : Int32) (r : Int64) (h : fnX7_coinsOfStep n S a0 a1 x2 = some r) : rv_Ev mX7_coinsOfStep 5 0 [(0, .ref a0), (1, .ref a1), (2, .int x2)] [] S (some (.long r)) S := by
  unfold fnX7_coinsOfStep at h
  refine re_lconst (pc := 0) (0 : Int64) (by decide +kernel : decode cX7_coinsOfStep 0 = .ok (.lconst 0, 1)) (by decide) ?_
  refine re_lstoren (pc := 1) (lv1 := [(3, .long (0 : Int64)), (0, .ref a0), (1, .ref a1), (2, .int x2)]) (by decide +kernel : decode cX7_coinsOfStep 1 = .ok (.lstore_n 3, 1)) rfl (by decide) rfl ?_
  refine re_iconst (pc := 2) (0 : Int32) (by decide +kernel : decode cX7_coinsOfStep 2 = .ok (.iconst 0, 1)) (by decide) ?_
  refine re_istore (pc := 3) (lv1 := [(5, .int (0 : Int32)), (3, .long (0 : Int64)), (0, .ref a0), (1, .ref a1), (2, .int x2)]) (by decide +kernel : decode cX7_coinsOfStep 3 = .ok (.istore 5, 2)) (by decide) rfl ?_
  refine re_sub [2, 3, 4, 1, 0] (lv1 := [(0, .ref a0), (1, .ref a1), (2, .int x2), (3, .long (0 : Int64)), (5, .int (0 : Int32))]) rfl ?_
  exact eX7_coinsOfStep_5 n S n a0 a1 x2 (0 : Int64) (0 : Int32) _ h
theorem metX7_coinsOfStep (n : Nat) (S : rvS) (a0 : Nat) (a1 : Nat) (x2 : Int32) (r : Int64) (h : fnX7_coinsOfStep n S a0 a1 x2 = some r) : rv_Met yX7_coinsOfStep mX7_coinsOfStep 5 [.ref a0, .ref a1, .int x2] S (some (.long r)) S := rv_Met.of ⟨by decide +kernel, rfl, (fun z => by first | rfl | cases z), rfl⟩ (Nat.le_of_ble_eq_true rfl) rfl (eX7_coinsOfStep_in n S a0 a1 x2 r h)
noncomputable def cX7_coinsSaid_108 (n : Nat) (K4 : Nat → Nat → Int32 → Int32 → rvS → Option (Int64 × rvS)) (S : rvS) (a0 : Nat) (a1 : Nat) (x2 : Int32) (x3 : Int32) (t0 : Nat) (t1 : Int32) : Option (Int64 × rvS) :=
  (rv_ck S 6 t0).bind fun u1_ =>
  (fnX7_join n S t0 t1 x2).bind fun S4_ =>
  rv_lt (x3 + (1)) fun x7_ =>
  K4 a0 a1 x2 x7_ S4_
set_option maxRecDepth 20000 in
set_option maxHeartbeats 4000000 in
theorem eX7_coinsSaid_108 (n : Nat) (K4 : Nat → Nat → Int32 → Int32 → rvS → Option (Int64 × rvS)) (hK4 : ∀ (a0 : Nat) (a1 : Nat) (x2 : Int32) (x3 : Int32) (S : rvS) (r : Int64) (S' : rvS), K4 a0 a1 x2 x3 S = some (r, S') → rv_Ev mX7_coinsSaid 6 4 [(0, .ref a0), (1, .ref a1), (2, .int x2), (3, .int x3)] [] S (some (.long r)) S') (S : rvS) (a0 : Nat) (a1 : Nat) (x2 : Int32) (x3 : Int32) (t0 : Nat) (t1 : Int32) (r : Int64) (S' : rvS) (h : cX7_coinsSaid_108 n K4 S a0 a1 x2 x3 t0 t1 = some (r, S')) : rv_Ev mX7_coinsSaid 6 108 [(0, .ref a0), (1, .ref a1), (2, .int x2), (3, .int x3)] [.int t1, .ref t0] S (some (.long r)) S' := by
  unfold cX7_coinsSaid_108 at h
  refine re_iloadn (pc := 108) 2 (by decide +kernel : decode cX7_coinsSaid 108 = .ok (.iload_n 2, 1)) rfl ?_
  obtain ⟨u1_, g2_, h⟩ := rv_b_e h
  obtain ⟨S4_, g5_, h⟩ := rv_b_e h
  have m3_ := metX7_join n S t0 t1 x2 _ g5_
  have z6_ : rv_same S S4_ := m3_.sh rfl
  refine re_cV (pc := 109) [.int t1, .int x2] m3_ (rv_okl.k z6_) (rv_up.sh z6_) (by decide) (rv_ck_e g2_) ⟨by decide, rfl⟩ (Nat.le_of_ble_eq_true rfl) lVX7_126 rfl (by decide +kernel : decode cX7_coinsSaid 109 = .ok (.invokevirtual 126, 3)) ?_
  refine re_goto (pc := 112) 136 (by decide +kernel : decode cX7_coinsSaid 112 = .ok (.goto 24, 3)) (by decide) ?_
  obtain ⟨x7_, g8_, h⟩ := rv_lt_e h
  refine re_iinc (pc := 136) 3 x7_ (lv1 := [(3, .int x7_), (0, .ref a0), (1, .ref a1), (2, .int x2)]) (by decide +kernel : decode cX7_coinsSaid 136 = .ok (.iinc 3 1, 3)) rfl g8_ (by decide) rfl ?_
  refine re_goto (pc := 139) 4 (by decide +kernel : decode cX7_coinsSaid 139 = .ok (.goto (-135), 3)) (by decide) ?_
  refine re_sub [1, 2, 3, 0] (lv1 := [(0, .ref a0), (1, .ref a1), (2, .int x2), (3, .int x7_)]) rfl ?_
  exact hK4 a0 a1 x2 x7_ S4_ _ _ h
noncomputable def cX7_coinsSaid_82 (n : Nat) (K4 : Nat → Nat → Int32 → Int32 → rvS → Option (Int64 × rvS)) (S : rvS) (a0 : Nat) (a1 : Nat) (x2 : Int32) (x3 : Int32) : Option (Int64 × rvS) :=
  if x2 < (2 : Int32) then (
    rv_lt (x3 + (1)) fun x2_ =>
    K4 a0 a1 x2 x2_ S)
  else (
    rv_lt (x2 + (-1)) fun x4_ =>
    (rv_gR S 6 a0 0).bind fun a6_ =>
    (rv_aR S 4 a6_ x3).bind fun a8_ =>
    (rv_wd a8_).bind fun u10_ =>
    (rv_wd 12).bind fun u12_ =>
    if a8_ = 12 then (
      cX7_coinsSaid_108 n K4 S a0 a1 x4_ x3 a0 (1 : Int32))
    else (
      cX7_coinsSaid_108 n K4 S a0 a1 x4_ x3 a0 (0 : Int32)))
set_option maxRecDepth 20000 in
set_option maxHeartbeats 4000000 in
theorem eX7_coinsSaid_82 (n : Nat) (K4 : Nat → Nat → Int32 → Int32 → rvS → Option (Int64 × rvS)) (hK4 : ∀ (a0 : Nat) (a1 : Nat) (x2 : Int32) (x3 : Int32) (S : rvS) (r : Int64) (S' : rvS), K4 a0 a1 x2 x3 S = some (r, S') → rv_Ev mX7_coinsSaid 6 4 [(0, .ref a0), (1, .ref a1), (2, .int x2), (3, .int x3)] [] S (some (.long r)) S') (S : rvS) (a0 : Nat) (a1 : Nat) (x2 : Int32) (x3 : Int32) (r : Int64) (S' : rvS) (h : cX7_coinsSaid_82 n K4 S a0 a1 x2 x3 = some (r, S')) : rv_Ev mX7_coinsSaid 6 82 [(0, .ref a0), (1, .ref a1), (2, .int x2), (3, .int x3)] [] S (some (.long r)) S' := by
  unfold cX7_coinsSaid_82 at h
  refine re_iloadn (pc := 82) 2 (by decide +kernel : decode cX7_coinsSaid 82 = .ok (.iload_n 2, 1)) rfl ?_
  refine re_iconst (pc := 83) (2 : Int32) (by decide +kernel : decode cX7_coinsSaid 83 = .ok (.iconst 2, 1)) (by decide) ?_
  rcases rv_if_e h with ⟨g1_, h⟩ | ⟨g1_, h⟩
  · refine re_icmp_lt_t (pc := 84) 136 (by decide +kernel : decode cX7_coinsSaid 84 = .ok (.if_icmp .lt 52, 3)) (by decide) g1_ ?_
    obtain ⟨x2_, g3_, h⟩ := rv_lt_e h
    refine re_iinc (pc := 136) 3 x2_ (lv1 := [(3, .int x2_), (0, .ref a0), (1, .ref a1), (2, .int x2)]) (by decide +kernel : decode cX7_coinsSaid 136 = .ok (.iinc 3 1, 3)) rfl g3_ (by decide) rfl ?_
    refine re_goto (pc := 139) 4 (by decide +kernel : decode cX7_coinsSaid 139 = .ok (.goto (-135), 3)) (by decide) ?_
    refine re_sub [1, 2, 3, 0] (lv1 := [(0, .ref a0), (1, .ref a1), (2, .int x2), (3, .int x2_)]) rfl ?_
    exact hK4 a0 a1 x2 x2_ S _ _ h
  · refine re_icmp_lt_f (pc := 84) 136 (by decide +kernel : decode cX7_coinsSaid 84 = .ok (.if_icmp .lt 52, 3)) (by decide) g1_ ?_
    obtain ⟨x4_, g5_, h⟩ := rv_lt_e h
    refine re_iinc (pc := 87) 2 x4_ (lv1 := [(2, .int x4_), (0, .ref a0), (1, .ref a1), (3, .int x3)]) (by decide +kernel : decode cX7_coinsSaid 87 = .ok (.iinc 2 (-1), 3)) rfl g5_ (by decide) rfl ?_
    refine re_aloadn (pc := 90) 1 (by decide +kernel : decode cX7_coinsSaid 90 = .ok (.aload_n 0, 1)) rfl ?_
    refine re_aloadn (pc := 91) 1 (by decide +kernel : decode cX7_coinsSaid 91 = .ok (.aload_n 0, 1)) rfl ?_
    obtain ⟨a6_, g7_, h⟩ := rv_b_e h
    refine re_gR (pc := 92) g7_ lfX7_13 rfl (by decide +kernel : decode cX7_coinsSaid 92 = .ok (.getfield 13, 3)) ?_
    refine re_iloadn (pc := 95) 3 (by decide +kernel : decode cX7_coinsSaid 95 = .ok (.iload_n 3, 1)) rfl ?_
    obtain ⟨a8_, g9_, h⟩ := rv_b_e h
    refine re_aR (pc := 96) (t := 0) (by decide) g9_ (by decide +kernel : decode cX7_coinsSaid 96 = .ok (.aaload, 1)) ?_
    refine re_getsW (pc := 97) (i := 12) (by decide) (rw6 77 (by decide +kernel) rfl) (by decide +kernel : decode cX7_coinsSaid 97 = .ok (.getstatic 75, 3)) ?_
    obtain ⟨u10_, g11_, h⟩ := rv_b_e h
    obtain ⟨u12_, g13_, h⟩ := rv_b_e h
    rcases rv_if_e h with ⟨g14_, h⟩ | ⟨g14_, h⟩
    · refine re_acmp_ne_f (pc := 100) (rv_wd_e g11_) (rv_wd_e g13_) 107 (by decide +kernel : decode cX7_coinsSaid 100 = .ok (.if_acmp .ne 7, 3)) (by decide) g14_ ?_
      refine re_iconst (pc := 103) (1 : Int32) (by decide +kernel : decode cX7_coinsSaid 103 = .ok (.iconst 1, 1)) (by decide) ?_
      refine re_goto (pc := 104) 108 (by decide +kernel : decode cX7_coinsSaid 104 = .ok (.goto 4, 3)) (by decide) ?_
      refine re_sub [1, 2, 0, 3] (lv1 := [(0, .ref a0), (1, .ref a1), (2, .int x4_), (3, .int x3)]) rfl ?_
      exact eX7_coinsSaid_108 n K4 hK4 S a0 a1 x4_ x3 a0 (1 : Int32) _ _ h
    · refine re_acmp_ne_t (pc := 100) (rv_wd_e g11_) (rv_wd_e g13_) 107 (by decide +kernel : decode cX7_coinsSaid 100 = .ok (.if_acmp .ne 7, 3)) (by decide) g14_ ?_
      refine re_iconst (pc := 107) (0 : Int32) (by decide +kernel : decode cX7_coinsSaid 107 = .ok (.iconst 0, 1)) (by decide) ?_
      refine re_sub [1, 2, 0, 3] (lv1 := [(0, .ref a0), (1, .ref a1), (2, .int x4_), (3, .int x3)]) rfl ?_
      exact eX7_coinsSaid_108 n K4 hK4 S a0 a1 x4_ x3 a0 (0 : Int32) _ _ h
noncomputable def cX7_coinsSaid_142 (n : Nat) (S : rvS) (a0 : Nat) (a1 : Nat) (x2 : Int32) : Option (Int64 × rvS) :=
  if x2 < (1 : Int32) then (
    some ((0 : Int64), S))
  else (
    (rv_gR S 6 a0 3).bind fun a2_ =>
    (rv_aL S a2_ (0 : Int32)).bind fun x4_ =>
    (rv_gR S 8 a1 1).bind fun a6_ =>
    (rv_gI S 5 a6_ 0).bind fun x8_ =>
    some (x4_ &&& (((1 : Int64) <<< (x8_.toInt64 &&& 63)) - (1 : Int64)), S))
set_option maxRecDepth 20000 in
set_option maxHeartbeats 4000000 in
theorem eX7_coinsSaid_142 (n : Nat) (S : rvS) (a0 : Nat) (a1 : Nat) (x2 : Int32) (r : Int64) (S' : rvS) (h : cX7_coinsSaid_142 n S a0 a1 x2 = some (r, S')) : rv_Ev mX7_coinsSaid 6 142 [(0, .ref a0), (1, .ref a1), (2, .int x2)] [] S (some (.long r)) S' := by
  unfold cX7_coinsSaid_142 at h
  refine re_iloadn (pc := 142) 2 (by decide +kernel : decode cX7_coinsSaid 142 = .ok (.iload_n 2, 1)) rfl ?_
  refine re_iconst (pc := 143) (1 : Int32) (by decide +kernel : decode cX7_coinsSaid 143 = .ok (.iconst 1, 1)) (by decide) ?_
  rcases rv_if_e h with ⟨g1_, h⟩ | ⟨g1_, h⟩
  · refine re_icmp_lt_t (pc := 144) 168 (by decide +kernel : decode cX7_coinsSaid 144 = .ok (.if_icmp .lt 24, 3)) (by decide) g1_ ?_
    refine re_lconst (pc := 168) (0 : Int64) (by decide +kernel : decode cX7_coinsSaid 168 = .ok (.lconst 0, 1)) (by decide) ?_
    cases h
    exact re_lret (by decide +kernel : decode cX7_coinsSaid 169 = .ok (.lreturn, 1))
  · refine re_icmp_lt_f (pc := 144) 168 (by decide +kernel : decode cX7_coinsSaid 144 = .ok (.if_icmp .lt 24, 3)) (by decide) g1_ ?_
    refine re_aloadn (pc := 147) 0 (by decide +kernel : decode cX7_coinsSaid 147 = .ok (.aload_n 0, 1)) rfl ?_
    obtain ⟨a2_, g3_, h⟩ := rv_b_e h
    refine re_gR (pc := 148) g3_ lfX7_24 rfl (by decide +kernel : decode cX7_coinsSaid 148 = .ok (.getfield 24, 3)) ?_
    refine re_iconst (pc := 151) (0 : Int32) (by decide +kernel : decode cX7_coinsSaid 151 = .ok (.iconst 0, 1)) (by decide) ?_
    obtain ⟨x4_, g5_, h⟩ := rv_b_e h
    refine re_aL (pc := 152) g5_ (by decide +kernel : decode cX7_coinsSaid 152 = .ok (.laload, 1)) ?_
    refine re_lconst (pc := 153) (1 : Int64) (by decide +kernel : decode cX7_coinsSaid 153 = .ok (.lconst 1, 1)) (by decide) ?_
    refine re_aloadn (pc := 154) 1 (by decide +kernel : decode cX7_coinsSaid 154 = .ok (.aload_n 1, 1)) rfl ?_
    obtain ⟨a6_, g7_, h⟩ := rv_b_e h
    refine re_gR (pc := 155) g7_ lfX7_134 rfl (by decide +kernel : decode cX7_coinsSaid 155 = .ok (.getfield 134, 3)) ?_
    obtain ⟨x8_, g9_, h⟩ := rv_b_e h
    refine re_gI (pc := 158) g9_ lfX7_140 rfl (by decide +kernel : decode cX7_coinsSaid 158 = .ok (.getfield 140, 3)) ?_
    refine re_lshl (pc := 161) (by decide +kernel : decode cX7_coinsSaid 161 = .ok (.lshl, 1)) ?_
    refine re_lconst (pc := 162) (1 : Int64) (by decide +kernel : decode cX7_coinsSaid 162 = .ok (.lconst 1, 1)) (by decide) ?_
    refine re_lsub (pc := 163) (by decide +kernel : decode cX7_coinsSaid 163 = .ok (.lsub, 1)) ?_
    refine re_land (pc := 164) (by decide +kernel : decode cX7_coinsSaid 164 = .ok (.land, 1)) ?_
    refine re_goto (pc := 165) 169 (by decide +kernel : decode cX7_coinsSaid 165 = .ok (.goto 4, 3)) (by decide) ?_
    cases h
    exact re_lret (by decide +kernel : decode cX7_coinsSaid 169 = .ok (.lreturn, 1))
noncomputable def cX7_coinsSaid_4 (n : Nat) : Nat → rvS → Nat → Nat → Int32 → Int32 → Option (Int64 × rvS)
  | 0, _, _, _, _, _ => none
  | k + 1, S, a0, a1, x2, x3 =>
    (rv_gI S 6 a0 4).bind fun x1_ =>
    if x1_ ≤ x3 then (
      cX7_coinsSaid_142 n S a0 a1 x2)
    else (
      if (40 : Int32) ≤ x3 then (
        cX7_coinsSaid_142 n S a0 a1 x2)
      else (
        (rv_gR S 6 a0 0).bind fun a5_ =>
        (rv_aR S 4 a5_ x3).bind fun a7_ =>
        (rv_wd a7_).bind fun u9_ =>
        (rv_wd 13).bind fun u11_ =>
        if a7_ = 13 then (
          if x2 < (1 : Int32) then (
            rv_lt (x3 + (1)) fun x49_ =>
            cX7_coinsSaid_4 n k S a0 a1 x2 x49_)
          else (
            (rv_gR S 6 a0 3).bind fun a51_ =>
            (rv_gR S 6 a0 3).bind fun a53_ =>
            (rv_aL S a53_ (x2 - (1 : Int32))).bind fun x55_ =>
            (rv_uL S a51_ (x2 - (1 : Int32)) (x55_ ^^^ (-1 : Int64))).bind fun S57_ =>
            rv_lt (x3 + (1)) fun x59_ =>
            cX7_coinsSaid_4 n k S57_ a0 a1 x2 x59_))
        else (
          (rv_gR S 6 a0 0).bind fun a14_ =>
          (rv_aR S 4 a14_ x3).bind fun a16_ =>
          (rv_wd a16_).bind fun u18_ =>
          (rv_wd 12).bind fun u20_ =>
          if a16_ = 12 then (
            cX7_coinsSaid_82 n (fun a0 a1 x2 x3 S => cX7_coinsSaid_4 n k S a0 a1 x2 x3) S a0 a1 x2 x3)
          else (
            (rv_gR S 6 a0 0).bind fun a23_ =>
            (rv_aR S 4 a23_ x3).bind fun a25_ =>
            (rv_wd a25_).bind fun u27_ =>
            (rv_wd 11).bind fun u29_ =>
            if a25_ = 11 then (
              cX7_coinsSaid_82 n (fun a0 a1 x2 x3 S => cX7_coinsSaid_4 n k S a0 a1 x2 x3) S a0 a1 x2 x3)
            else (
              if (40 : Int32) ≤ x2 then (
                rv_lt (x3 + (1)) fun x33_ =>
                cX7_coinsSaid_4 n k S a0 a1 x2 x33_)
              else (
                (rv_gR S 6 a0 3).bind fun a35_ =>
                (rv_ck S 6 a0).bind fun u37_ =>
                (fnX7_coinsOfStep n S a0 a1 x3).bind fun x40_ =>
                (rv_uL S a35_ x2 x40_).bind fun S42_ =>
                rv_lt (x2 + (1)) fun x44_ =>
                rv_lt (x3 + (1)) fun x46_ =>
                cX7_coinsSaid_4 n k S42_ a0 a1 x44_ x46_))))))
set_option maxRecDepth 20000 in
set_option maxHeartbeats 4000000 in
theorem eX7_coinsSaid_4 (n : Nat) : ∀ (k : Nat) (S : rvS) (a0 : Nat) (a1 : Nat) (x2 : Int32) (x3 : Int32) (r : Int64) (S' : rvS), cX7_coinsSaid_4 n k S a0 a1 x2 x3 = some (r, S') → rv_Ev mX7_coinsSaid 6 4 [(0, .ref a0), (1, .ref a1), (2, .int x2), (3, .int x3)] [] S (some (.long r)) S' := by
  intro k
  induction k with
  | zero => intro S a0 a1 x2 x3 r S' h; exact absurd h (by simp [cX7_coinsSaid_4])
  | succ k ih =>
    intro S a0 a1 x2 x3 r S' h
    unfold cX7_coinsSaid_4 at h
    refine re_iloadn (pc := 4) 3 (by decide +kernel : decode cX7_coinsSaid 4 = .ok (.iload_n 3, 1)) rfl ?_
    refine re_aloadn (pc := 5) 0 (by decide +kernel : decode cX7_coinsSaid 5 = .ok (.aload_n 0, 1)) rfl ?_
    obtain ⟨x1_, g2_, h⟩ := rv_b_e h
    refine re_gI (pc := 6) g2_ lfX7_32 rfl (by decide +kernel : decode cX7_coinsSaid 6 = .ok (.getfield 32, 3)) ?_
    rcases rv_if_e h with ⟨g3_, h⟩ | ⟨g3_, h⟩
    · refine re_icmp_ge_t (pc := 9) 142 (by decide +kernel : decode cX7_coinsSaid 9 = .ok (.if_icmp .ge 133, 3)) (by decide) g3_ ?_
      refine re_sub [0, 1, 2] (lv1 := [(0, .ref a0), (1, .ref a1), (2, .int x2)]) rfl ?_
      exact eX7_coinsSaid_142 n S a0 a1 x2 _ _ h
    · refine re_icmp_ge_f (pc := 9) 142 (by decide +kernel : decode cX7_coinsSaid 9 = .ok (.if_icmp .ge 133, 3)) (by decide) g3_ ?_
      refine re_iloadn (pc := 12) 3 (by decide +kernel : decode cX7_coinsSaid 12 = .ok (.iload_n 3, 1)) rfl ?_
      refine re_bipush (pc := 13) (40 : Int32) (by decide +kernel : decode cX7_coinsSaid 13 = .ok (.bipush 40, 2)) (by decide) ?_
      rcases rv_if_e h with ⟨g4_, h⟩ | ⟨g4_, h⟩
      · refine re_icmp_ge_t (pc := 15) 142 (by decide +kernel : decode cX7_coinsSaid 15 = .ok (.if_icmp .ge 127, 3)) (by decide) g4_ ?_
        refine re_sub [0, 1, 2] (lv1 := [(0, .ref a0), (1, .ref a1), (2, .int x2)]) rfl ?_
        exact eX7_coinsSaid_142 n S a0 a1 x2 _ _ h
      · refine re_icmp_ge_f (pc := 15) 142 (by decide +kernel : decode cX7_coinsSaid 15 = .ok (.if_icmp .ge 127, 3)) (by decide) g4_ ?_
        refine re_aloadn (pc := 18) 0 (by decide +kernel : decode cX7_coinsSaid 18 = .ok (.aload_n 0, 1)) rfl ?_
        obtain ⟨a5_, g6_, h⟩ := rv_b_e h
        refine re_gR (pc := 19) g6_ lfX7_13 rfl (by decide +kernel : decode cX7_coinsSaid 19 = .ok (.getfield 13, 3)) ?_
        refine re_iloadn (pc := 22) 3 (by decide +kernel : decode cX7_coinsSaid 22 = .ok (.iload_n 3, 1)) rfl ?_
        obtain ⟨a7_, g8_, h⟩ := rv_b_e h
        refine re_aR (pc := 23) (t := 0) (by decide) g8_ (by decide +kernel : decode cX7_coinsSaid 23 = .ok (.aaload, 1)) ?_
        refine re_getsW (pc := 24) (i := 13) (by decide) (rw6 61 (by decide +kernel) rfl) (by decide +kernel : decode cX7_coinsSaid 24 = .ok (.getstatic 108, 3)) ?_
        obtain ⟨u9_, g10_, h⟩ := rv_b_e h
        obtain ⟨u11_, g12_, h⟩ := rv_b_e h
        rcases rv_if_e h with ⟨g13_, h⟩ | ⟨g13_, h⟩
        · refine re_acmp_ne_f (pc := 27) (rv_wd_e g10_) (rv_wd_e g12_) 58 (by decide +kernel : decode cX7_coinsSaid 27 = .ok (.if_acmp .ne 31, 3)) (by decide) g13_ ?_
          refine re_iloadn (pc := 30) 2 (by decide +kernel : decode cX7_coinsSaid 30 = .ok (.iload_n 2, 1)) rfl ?_
          refine re_iconst (pc := 31) (1 : Int32) (by decide +kernel : decode cX7_coinsSaid 31 = .ok (.iconst 1, 1)) (by decide) ?_
          rcases rv_if_e h with ⟨g48_, h⟩ | ⟨g48_, h⟩
          · refine re_icmp_lt_t (pc := 32) 136 (by decide +kernel : decode cX7_coinsSaid 32 = .ok (.if_icmp .lt 104, 3)) (by decide) g48_ ?_
            obtain ⟨x49_, g50_, h⟩ := rv_lt_e h
            refine re_iinc (pc := 136) 3 x49_ (lv1 := [(3, .int x49_), (0, .ref a0), (1, .ref a1), (2, .int x2)]) (by decide +kernel : decode cX7_coinsSaid 136 = .ok (.iinc 3 1, 3)) rfl g50_ (by decide) rfl ?_
            refine re_goto (pc := 139) 4 (by decide +kernel : decode cX7_coinsSaid 139 = .ok (.goto (-135), 3)) (by decide) ?_
            refine re_sub [1, 2, 3, 0] (lv1 := [(0, .ref a0), (1, .ref a1), (2, .int x2), (3, .int x49_)]) rfl ?_
            exact ih S a0 a1 x2 x49_ _ _ h
          · refine re_icmp_lt_f (pc := 32) 136 (by decide +kernel : decode cX7_coinsSaid 32 = .ok (.if_icmp .lt 104, 3)) (by decide) g48_ ?_
            refine re_aloadn (pc := 35) 0 (by decide +kernel : decode cX7_coinsSaid 35 = .ok (.aload_n 0, 1)) rfl ?_
            obtain ⟨a51_, g52_, h⟩ := rv_b_e h
            refine re_gR (pc := 36) g52_ lfX7_24 rfl (by decide +kernel : decode cX7_coinsSaid 36 = .ok (.getfield 24, 3)) ?_
            refine re_iloadn (pc := 39) 2 (by decide +kernel : decode cX7_coinsSaid 39 = .ok (.iload_n 2, 1)) rfl ?_
            refine re_iconst (pc := 40) (1 : Int32) (by decide +kernel : decode cX7_coinsSaid 40 = .ok (.iconst 1, 1)) (by decide) ?_
            refine re_isub (pc := 41) (by decide +kernel : decode cX7_coinsSaid 41 = .ok (.isub, 1)) ?_
            refine re_aloadn (pc := 42) 0 (by decide +kernel : decode cX7_coinsSaid 42 = .ok (.aload_n 0, 1)) rfl ?_
            obtain ⟨a53_, g54_, h⟩ := rv_b_e h
            refine re_gR (pc := 43) g54_ lfX7_24 rfl (by decide +kernel : decode cX7_coinsSaid 43 = .ok (.getfield 24, 3)) ?_
            refine re_iloadn (pc := 46) 2 (by decide +kernel : decode cX7_coinsSaid 46 = .ok (.iload_n 2, 1)) rfl ?_
            refine re_iconst (pc := 47) (1 : Int32) (by decide +kernel : decode cX7_coinsSaid 47 = .ok (.iconst 1, 1)) (by decide) ?_
            refine re_isub (pc := 48) (by decide +kernel : decode cX7_coinsSaid 48 = .ok (.isub, 1)) ?_
            obtain ⟨x55_, g56_, h⟩ := rv_b_e h
            refine re_aL (pc := 49) g56_ (by decide +kernel : decode cX7_coinsSaid 49 = .ok (.laload, 1)) ?_
            refine re_ldc2 (pc := 50) (v := -1) (rw6 90 (by decide +kernel) rfl) (by decide +kernel : decode cX7_coinsSaid 50 = .ok (.ldc2_w 124, 3)) ?_
            refine re_lxor (pc := 53) (by decide +kernel : decode cX7_coinsSaid 53 = .ok (.lxor, 1)) ?_
            obtain ⟨S57_, g58_, h⟩ := rv_b_e h
            refine re_uL (pc := 54) g58_ (by decide +kernel : decode cX7_coinsSaid 54 = .ok (.lastore, 1)) ?_
            refine re_goto (pc := 55) 136 (by decide +kernel : decode cX7_coinsSaid 55 = .ok (.goto 81, 3)) (by decide) ?_
            obtain ⟨x59_, g60_, h⟩ := rv_lt_e h
            refine re_iinc (pc := 136) 3 x59_ (lv1 := [(3, .int x59_), (0, .ref a0), (1, .ref a1), (2, .int x2)]) (by decide +kernel : decode cX7_coinsSaid 136 = .ok (.iinc 3 1, 3)) rfl g60_ (by decide) rfl ?_
            refine re_goto (pc := 139) 4 (by decide +kernel : decode cX7_coinsSaid 139 = .ok (.goto (-135), 3)) (by decide) ?_
            refine re_sub [1, 2, 3, 0] (lv1 := [(0, .ref a0), (1, .ref a1), (2, .int x2), (3, .int x59_)]) rfl ?_
            exact ih S57_ a0 a1 x2 x59_ _ _ h
        · refine re_acmp_ne_t (pc := 27) (rv_wd_e g10_) (rv_wd_e g12_) 58 (by decide +kernel : decode cX7_coinsSaid 27 = .ok (.if_acmp .ne 31, 3)) (by decide) g13_ ?_
          refine re_aloadn (pc := 58) 0 (by decide +kernel : decode cX7_coinsSaid 58 = .ok (.aload_n 0, 1)) rfl ?_
          obtain ⟨a14_, g15_, h⟩ := rv_b_e h
          refine re_gR (pc := 59) g15_ lfX7_13 rfl (by decide +kernel : decode cX7_coinsSaid 59 = .ok (.getfield 13, 3)) ?_
          refine re_iloadn (pc := 62) 3 (by decide +kernel : decode cX7_coinsSaid 62 = .ok (.iload_n 3, 1)) rfl ?_
          obtain ⟨a16_, g17_, h⟩ := rv_b_e h
          refine re_aR (pc := 63) (t := 0) (by decide) g17_ (by decide +kernel : decode cX7_coinsSaid 63 = .ok (.aaload, 1)) ?_
          refine re_getsW (pc := 64) (i := 12) (by decide) (rw6 77 (by decide +kernel) rfl) (by decide +kernel : decode cX7_coinsSaid 64 = .ok (.getstatic 75, 3)) ?_
          obtain ⟨u18_, g19_, h⟩ := rv_b_e h
          obtain ⟨u20_, g21_, h⟩ := rv_b_e h
          rcases rv_if_e h with ⟨g22_, h⟩ | ⟨g22_, h⟩
          · refine re_acmp_eq_t (pc := 67) (rv_wd_e g19_) (rv_wd_e g21_) 82 (by decide +kernel : decode cX7_coinsSaid 67 = .ok (.if_acmp .eq 15, 3)) (by decide) g22_ ?_
            exact eX7_coinsSaid_82 n (fun a0 a1 x2 x3 S => cX7_coinsSaid_4 n k S a0 a1 x2 x3) (fun a0 a1 x2 x3 S _ _ h => ih S a0 a1 x2 x3 _ _ h) S a0 a1 x2 x3 _ _ h
          · refine re_acmp_eq_f (pc := 67) (rv_wd_e g19_) (rv_wd_e g21_) 82 (by decide +kernel : decode cX7_coinsSaid 67 = .ok (.if_acmp .eq 15, 3)) (by decide) g22_ ?_
            refine re_aloadn (pc := 70) 0 (by decide +kernel : decode cX7_coinsSaid 70 = .ok (.aload_n 0, 1)) rfl ?_
            obtain ⟨a23_, g24_, h⟩ := rv_b_e h
            refine re_gR (pc := 71) g24_ lfX7_13 rfl (by decide +kernel : decode cX7_coinsSaid 71 = .ok (.getfield 13, 3)) ?_
            refine re_iloadn (pc := 74) 3 (by decide +kernel : decode cX7_coinsSaid 74 = .ok (.iload_n 3, 1)) rfl ?_
            obtain ⟨a25_, g26_, h⟩ := rv_b_e h
            refine re_aR (pc := 75) (t := 0) (by decide) g26_ (by decide +kernel : decode cX7_coinsSaid 75 = .ok (.aaload, 1)) ?_
            refine re_getsW (pc := 76) (i := 11) (by decide) (rw6 79 (by decide +kernel) rfl) (by decide +kernel : decode cX7_coinsSaid 76 = .ok (.getstatic 58, 3)) ?_
            obtain ⟨u27_, g28_, h⟩ := rv_b_e h
            obtain ⟨u29_, g30_, h⟩ := rv_b_e h
            rcases rv_if_e h with ⟨g31_, h⟩ | ⟨g31_, h⟩
            · refine re_acmp_ne_f (pc := 79) (rv_wd_e g28_) (rv_wd_e g30_) 115 (by decide +kernel : decode cX7_coinsSaid 79 = .ok (.if_acmp .ne 36, 3)) (by decide) g31_ ?_
              exact eX7_coinsSaid_82 n (fun a0 a1 x2 x3 S => cX7_coinsSaid_4 n k S a0 a1 x2 x3) (fun a0 a1 x2 x3 S _ _ h => ih S a0 a1 x2 x3 _ _ h) S a0 a1 x2 x3 _ _ h
            · refine re_acmp_ne_t (pc := 79) (rv_wd_e g28_) (rv_wd_e g30_) 115 (by decide +kernel : decode cX7_coinsSaid 79 = .ok (.if_acmp .ne 36, 3)) (by decide) g31_ ?_
              refine re_iloadn (pc := 115) 2 (by decide +kernel : decode cX7_coinsSaid 115 = .ok (.iload_n 2, 1)) rfl ?_
              refine re_bipush (pc := 116) (40 : Int32) (by decide +kernel : decode cX7_coinsSaid 116 = .ok (.bipush 40, 2)) (by decide) ?_
              rcases rv_if_e h with ⟨g32_, h⟩ | ⟨g32_, h⟩
              · refine re_icmp_ge_t (pc := 118) 136 (by decide +kernel : decode cX7_coinsSaid 118 = .ok (.if_icmp .ge 18, 3)) (by decide) g32_ ?_
                obtain ⟨x33_, g34_, h⟩ := rv_lt_e h
                refine re_iinc (pc := 136) 3 x33_ (lv1 := [(3, .int x33_), (0, .ref a0), (1, .ref a1), (2, .int x2)]) (by decide +kernel : decode cX7_coinsSaid 136 = .ok (.iinc 3 1, 3)) rfl g34_ (by decide) rfl ?_
                refine re_goto (pc := 139) 4 (by decide +kernel : decode cX7_coinsSaid 139 = .ok (.goto (-135), 3)) (by decide) ?_
                refine re_sub [1, 2, 3, 0] (lv1 := [(0, .ref a0), (1, .ref a1), (2, .int x2), (3, .int x33_)]) rfl ?_
                exact ih S a0 a1 x2 x33_ _ _ h
              · refine re_icmp_ge_f (pc := 118) 136 (by decide +kernel : decode cX7_coinsSaid 118 = .ok (.if_icmp .ge 18, 3)) (by decide) g32_ ?_
                refine re_aloadn (pc := 121) 0 (by decide +kernel : decode cX7_coinsSaid 121 = .ok (.aload_n 0, 1)) rfl ?_
                obtain ⟨a35_, g36_, h⟩ := rv_b_e h
                refine re_gR (pc := 122) g36_ lfX7_24 rfl (by decide +kernel : decode cX7_coinsSaid 122 = .ok (.getfield 24, 3)) ?_
                refine re_iloadn (pc := 125) 2 (by decide +kernel : decode cX7_coinsSaid 125 = .ok (.iload_n 2, 1)) rfl ?_
                refine re_aloadn (pc := 126) 0 (by decide +kernel : decode cX7_coinsSaid 126 = .ok (.aload_n 0, 1)) rfl ?_
                refine re_aloadn (pc := 127) 1 (by decide +kernel : decode cX7_coinsSaid 127 = .ok (.aload_n 1, 1)) rfl ?_
                refine re_iloadn (pc := 128) 3 (by decide +kernel : decode cX7_coinsSaid 128 = .ok (.iload_n 3, 1)) rfl ?_
                obtain ⟨u37_, g38_, h⟩ := rv_b_e h
                obtain ⟨x40_, g41_, h⟩ := rv_b_e h
                have m39_ := metX7_coinsOfStep n S a0 a1 x3 _ g41_
                refine re_cV (pc := 129) [.ref a1, .int x3] m39_ (rv_okl.k ⟨rfl, rfl⟩) (rv_up.rf _ _) (by decide) (rv_ck_e g38_) ⟨by decide, rfl⟩ (Nat.le_of_ble_eq_true rfl) lVX7_130 rfl (by decide +kernel : decode cX7_coinsSaid 129 = .ok (.invokevirtual 130, 3)) ?_
                obtain ⟨S42_, g43_, h⟩ := rv_b_e h
                refine re_uL (pc := 132) g43_ (by decide +kernel : decode cX7_coinsSaid 132 = .ok (.lastore, 1)) ?_
                obtain ⟨x44_, g45_, h⟩ := rv_lt_e h
                refine re_iinc (pc := 133) 2 x44_ (lv1 := [(2, .int x44_), (0, .ref a0), (1, .ref a1), (3, .int x3)]) (by decide +kernel : decode cX7_coinsSaid 133 = .ok (.iinc 2 1, 3)) rfl g45_ (by decide) rfl ?_
                obtain ⟨x46_, g47_, h⟩ := rv_lt_e h
                refine re_iinc (pc := 136) 3 x46_ (lv1 := [(3, .int x46_), (2, .int x44_), (0, .ref a0), (1, .ref a1)]) (by decide +kernel : decode cX7_coinsSaid 136 = .ok (.iinc 3 1, 3)) rfl g47_ (by decide) rfl ?_
                refine re_goto (pc := 139) 4 (by decide +kernel : decode cX7_coinsSaid 139 = .ok (.goto (-135), 3)) (by decide) ?_
                refine re_sub [2, 3, 1, 0] (lv1 := [(0, .ref a0), (1, .ref a1), (2, .int x44_), (3, .int x46_)]) rfl ?_
                exact ih S42_ a0 a1 x44_ x46_ _ _ h
noncomputable def fnX7_coinsSaid (n : Nat) (S : rvS) (a0 : Nat) (a1 : Nat) : Option (Int64 × rvS) :=
  cX7_coinsSaid_4 n n S a0 a1 (0 : Int32) (0 : Int32)
set_option maxRecDepth 20000 in
set_option maxHeartbeats 4000000 in
theorem eX7_coinsSaid_in (n : Nat) (S : rvS) (a0 : Nat) (a1 : Nat) (r : Int64) (S' : rvS) (h : fnX7_coinsSaid n S a0 a1 = some (r, S')) : rv_Ev mX7_coinsSaid 6 0 [(0, .ref a0), (1, .ref a1)] [] S (some (.long r)) S' := by
  unfold fnX7_coinsSaid at h
  refine re_iconst (pc := 0) (0 : Int32) (by decide +kernel : decode cX7_coinsSaid 0 = .ok (.iconst 0, 1)) (by decide) ?_
  refine re_istoren (pc := 1) (lv1 := [(2, .int (0 : Int32)), (0, .ref a0), (1, .ref a1)]) (by decide +kernel : decode cX7_coinsSaid 1 = .ok (.istore_n 2, 1)) rfl (by decide) rfl ?_
  refine re_iconst (pc := 2) (0 : Int32) (by decide +kernel : decode cX7_coinsSaid 2 = .ok (.iconst 0, 1)) (by decide) ?_
  refine re_istoren (pc := 3) (lv1 := [(3, .int (0 : Int32)), (2, .int (0 : Int32)), (0, .ref a0), (1, .ref a1)]) (by decide +kernel : decode cX7_coinsSaid 3 = .ok (.istore_n 3, 1)) rfl (by decide) rfl ?_
  refine re_sub [2, 3, 1, 0] (lv1 := [(0, .ref a0), (1, .ref a1), (2, .int (0 : Int32)), (3, .int (0 : Int32))]) rfl ?_
  exact eX7_coinsSaid_4 n n S a0 a1 (0 : Int32) (0 : Int32) _ _ h
theorem metX7_coinsSaid (n : Nat) (S : rvS) (a0 : Nat) (a1 : Nat) (r : Int64) (S' : rvS) (h : fnX7_coinsSaid n S a0 a1 = some (r, S')) : rv_Met yX7_coinsSaid mX7_coinsSaid 6 [.ref a0, .ref a1] S (some (.long r)) S' := rv_Met.of ⟨by decide +kernel, rfl, (fun z => by first | rfl | cases z), rfl⟩ (Nat.le_of_ble_eq_true rfl) rfl (eX7_coinsSaid_in n S a0 a1 r S' h)
noncomputable def fnX8_init (n : Nat) (S : rvS) (a0 : Nat) : Option rvS :=
  (rv_vl S a0).bind fun _ =>
  rv_lt (64 + S.1.length) fun a2_ =>
  rv_lt (rv_new S (52, 940)) fun S4_ =>
  (rv_pR S4_ 7 a0 0 a2_).bind fun S8_ =>
  (rv_pR S8_ 7 a0 8 22).bind fun S12_ =>
  some S12_
set_option maxRecDepth 20000 in
set_option maxHeartbeats 4000000 in
theorem eX8_init_in (n : Nat) (S : rvS) (a0 : Nat) (S' : rvS) (h : fnX8_init n S a0 = some S') : rv_Ev mX8_init 1 0 [(0, .ref a0)] [] S none S' := by
  unfold fnX8_init at h
  obtain ⟨_, g1_, h⟩ := rv_b_e h
  refine re_aloadn (pc := 0) 0 (by decide +kernel : decode cX8_init 0 = .ok (.aload_n 0, 1)) rfl ?_
  refine re_obj (pc := 1) (rw1 36 (by decide +kernel) rfl) rwoi rwoc (Nat.le_of_ble_eq_true rfl) (by decide) (by decide +kernel : decode cX8_init 1 = .ok (.invokespecial 1, 3)) ?_
  refine re_aloadn (pc := 4) 0 (by decide +kernel : decode cX8_init 4 = .ok (.aload_n 0, 1)) rfl ?_
  refine re_sipush (pc := 5) (940 : Int32) (by decide +kernel : decode cX8_init 5 = .ok (.sipush 940, 3)) (by decide) ?_
  refine re_newa (pc := 8) (t := 2) (N := 940) rfl (rv_alv (List.forall_mem_cons.mpr ⟨(rv_vl_e g1_), (fun _ z => absurd z List.not_mem_nil)⟩)) ((List.forall_mem_cons.mpr ⟨(rv_vl_e g1_), (fun _ z => absurd z List.not_mem_nil)⟩)) (by decide) rfl (rw1 85 (by decide +kernel) rfl) (by decide) (by decide) (by decide) (by decide +kernel : decode cX8_init 8 = .ok (.newarray .byte, 2)) ?_
  obtain ⟨a2_, g3_, h⟩ := rv_lt_e h
  refine re_nR g3_ ?_
  obtain ⟨S4_, g5_, h⟩ := rv_lt_e h
  refine re_nS g5_ ?_
  have o6_ : a0 < 64 + S4_.1.length := rv_okn g5_ (rv_vl_e g1_)
  have o7_ : a2_ < 64 + S4_.1.length := by rw [← g3_]; exact rv_okn0 g5_
  obtain ⟨S8_, g9_, h⟩ := rv_b_e h
  have o10_ : a0 < 64 + S8_.1.length := by rw [rv_pR_sh g9_]; exact o6_
  have o11_ : a2_ < 64 + S8_.1.length := by rw [rv_pR_sh g9_]; exact o7_
  refine re_pR (pc := 10) g9_ lfX8_9 rfl (Or.inr ⟨rfl, rfl, rfl, (rw1 39 (by decide +kernel) rfl)⟩) (by decide +kernel : decode cX8_init 10 = .ok (.putfield 9, 3)) ?_
  refine re_aloadn (pc := 13) 0 (by decide +kernel : decode cX8_init 13 = .ok (.aload_n 0, 1)) rfl ?_
  refine re_getsW (pc := 14) (i := 22) (by decide) (rw1 37 (by decide +kernel) rfl) (by decide +kernel : decode cX8_init 14 = .ok (.getstatic 13, 3)) ?_
  obtain ⟨S12_, g13_, h⟩ := rv_b_e h
  have o14_ : a0 < 64 + S12_.1.length := by rw [rv_pR_sh g13_]; exact o10_
  have o15_ : a2_ < 64 + S12_.1.length := by rw [rv_pR_sh g13_]; exact o11_
  refine re_pR (pc := 17) g13_ lfX8_19 rfl (Or.inl rfl) (by decide +kernel : decode cX8_init 17 = .ok (.putfield 19, 3)) ?_
  cases h
  exact re_vret (by decide +kernel : decode cX8_init 20 = .ok (.return_, 1))
theorem metX8_init (n : Nat) (S : rvS) (a0 : Nat) (S' : rvS) (h : fnX8_init n S a0 = some S') : rv_Met yX8_init mX8_init 1 [.ref a0] S none S' := rv_Met.of ⟨by decide +kernel, rfl, (fun z => by first | rfl | cases z), rfl⟩ (Nat.le_of_ble_eq_true rfl) rfl (eX8_init_in n S a0 S' h)
noncomputable def fnX8_hasRoom (n : Nat) (S : rvS) (a0 : Nat) : Option Int32 :=
  (rv_gI S 7 a0 1).bind fun x1_ =>
  if (940 : Int32) < (x1_ + (20 : Int32)) then (
    some (0 : Int32))
  else (
    some (1 : Int32))
set_option maxRecDepth 20000 in
set_option maxHeartbeats 4000000 in
theorem eX8_hasRoom_in (n : Nat) (S : rvS) (a0 : Nat) (r : Int32) (h : fnX8_hasRoom n S a0 = some r) : rv_Ev mX8_hasRoom 0 0 [(0, .ref a0)] [] S (some (.int r)) S := by
  unfold fnX8_hasRoom at h
  refine re_aloadn (pc := 0) 0 (by decide +kernel : decode cX8_hasRoom 0 = .ok (.aload_n 0, 1)) rfl ?_
  obtain ⟨x1_, g2_, h⟩ := rv_b_e h
  refine re_gI (pc := 1) g2_ lfX8_22 rfl (by decide +kernel : decode cX8_hasRoom 1 = .ok (.getfield 22, 3)) ?_
  refine re_bipush (pc := 4) (20 : Int32) (by decide +kernel : decode cX8_hasRoom 4 = .ok (.bipush 20, 2)) (by decide) ?_
  refine re_iadd (pc := 6) (by decide +kernel : decode cX8_hasRoom 6 = .ok (.iadd, 1)) ?_
  refine re_sipush (pc := 7) (940 : Int32) (by decide +kernel : decode cX8_hasRoom 7 = .ok (.sipush 940, 3)) (by decide) ?_
  rcases rv_if_e h with ⟨g3_, h⟩ | ⟨g3_, h⟩
  · refine re_icmp_gt_t (pc := 10) 17 (by decide +kernel : decode cX8_hasRoom 10 = .ok (.if_icmp .gt 7, 3)) (by decide) g3_ ?_
    refine re_iconst (pc := 17) (0 : Int32) (by decide +kernel : decode cX8_hasRoom 17 = .ok (.iconst 0, 1)) (by decide) ?_
    cases h
    exact re_iret (fun ty hty => by cases hty; rfl) (by decide +kernel : decode cX8_hasRoom 18 = .ok (.ireturn, 1))
  · refine re_icmp_gt_f (pc := 10) 17 (by decide +kernel : decode cX8_hasRoom 10 = .ok (.if_icmp .gt 7, 3)) (by decide) g3_ ?_
    refine re_iconst (pc := 13) (1 : Int32) (by decide +kernel : decode cX8_hasRoom 13 = .ok (.iconst 1, 1)) (by decide) ?_
    refine re_goto (pc := 14) 18 (by decide +kernel : decode cX8_hasRoom 14 = .ok (.goto 4, 3)) (by decide) ?_
    cases h
    exact re_iret (fun ty hty => by cases hty; rfl) (by decide +kernel : decode cX8_hasRoom 18 = .ok (.ireturn, 1))
theorem metX8_hasRoom (n : Nat) (S : rvS) (a0 : Nat) (r : Int32) (h : fnX8_hasRoom n S a0 = some r) : rv_Met yX8_hasRoom mX8_hasRoom 0 [.ref a0] S (some (.int r)) S := rv_Met.of ⟨by decide +kernel, rfl, (fun z => by first | rfl | cases z), rfl⟩ (Nat.le_of_ble_eq_true rfl) rfl (eX8_hasRoom_in n S a0 r h)
noncomputable def cX8_add_3 (n : Nat) : Nat → rvS → Nat → Int32 → Int32 → Option rvS
  | 0, _, _, _, _ => none
  | k + 1, S, a0, x1, x2 =>
    if x2 < 0 then (
      some S)
    else (
      (rv_gI S 7 a0 1).bind fun x2_ =>
      if (940 : Int32) ≤ x2_ then (
        some S)
      else (
        (rv_gR S 7 a0 0).bind fun a5_ =>
        (rv_gI S 7 a0 1).bind fun x7_ =>
        (rv_uB S a5_ x7_ (((x1.toUInt32 >>> (x2.toUInt32 &&& Int32.toUInt32 31)).toInt32).toInt8.toInt32)).bind fun S9_ =>
        (rv_gI S9_ 7 a0 1).bind fun x11_ =>
        (rv_pI S9_ 7 a0 1 (x11_ + (1 : Int32))).bind fun S13_ =>
        rv_lt (x2 + (-8)) fun x15_ =>
        cX8_add_3 n k S13_ a0 x1 x15_))
set_option maxRecDepth 20000 in
set_option maxHeartbeats 4000000 in
theorem eX8_add_3 (n : Nat) : ∀ (k : Nat) (S : rvS) (a0 : Nat) (x1 : Int32) (x2 : Int32) (S' : rvS), cX8_add_3 n k S a0 x1 x2 = some S' → rv_Ev mX8_add 0 3 [(0, .ref a0), (1, .int x1), (2, .int x2)] [] S none S' := by
  intro k
  induction k with
  | zero => intro S a0 x1 x2 S' h; exact absurd h (by simp [cX8_add_3])
  | succ k ih =>
    intro S a0 x1 x2 S' h
    unfold cX8_add_3 at h
    refine re_iloadn (pc := 3) 2 (by decide +kernel : decode cX8_add 3 = .ok (.iload_n 2, 1)) rfl ?_
    rcases rv_if_e h with ⟨g1_, h⟩ | ⟨g1_, h⟩
    · refine re_if_lt_t (pc := 4) 46 (by decide +kernel : decode cX8_add 4 = .ok (.ifCond .lt 42, 3)) (by decide) g1_ ?_
      cases h
      exact re_vret (by decide +kernel : decode cX8_add 46 = .ok (.return_, 1))
    · refine re_if_lt_f (pc := 4) 46 (by decide +kernel : decode cX8_add 4 = .ok (.ifCond .lt 42, 3)) (by decide) g1_ ?_
      refine re_aloadn (pc := 7) 0 (by decide +kernel : decode cX8_add 7 = .ok (.aload_n 0, 1)) rfl ?_
      obtain ⟨x2_, g3_, h⟩ := rv_b_e h
      refine re_gI (pc := 8) g3_ lfX8_22 rfl (by decide +kernel : decode cX8_add 8 = .ok (.getfield 22, 3)) ?_
      refine re_sipush (pc := 11) (940 : Int32) (by decide +kernel : decode cX8_add 11 = .ok (.sipush 940, 3)) (by decide) ?_
      rcases rv_if_e h with ⟨g4_, h⟩ | ⟨g4_, h⟩
      · refine re_icmp_ge_t (pc := 14) 46 (by decide +kernel : decode cX8_add 14 = .ok (.if_icmp .ge 32, 3)) (by decide) g4_ ?_
        cases h
        exact re_vret (by decide +kernel : decode cX8_add 46 = .ok (.return_, 1))
      · refine re_icmp_ge_f (pc := 14) 46 (by decide +kernel : decode cX8_add 14 = .ok (.if_icmp .ge 32, 3)) (by decide) g4_ ?_
        refine re_aloadn (pc := 17) 0 (by decide +kernel : decode cX8_add 17 = .ok (.aload_n 0, 1)) rfl ?_
        obtain ⟨a5_, g6_, h⟩ := rv_b_e h
        refine re_gR (pc := 18) g6_ lfX8_9 rfl (by decide +kernel : decode cX8_add 18 = .ok (.getfield 9, 3)) ?_
        refine re_aloadn (pc := 21) 0 (by decide +kernel : decode cX8_add 21 = .ok (.aload_n 0, 1)) rfl ?_
        obtain ⟨x7_, g8_, h⟩ := rv_b_e h
        refine re_gI (pc := 22) g8_ lfX8_22 rfl (by decide +kernel : decode cX8_add 22 = .ok (.getfield 22, 3)) ?_
        refine re_iloadn (pc := 25) 1 (by decide +kernel : decode cX8_add 25 = .ok (.iload_n 1, 1)) rfl ?_
        refine re_iloadn (pc := 26) 2 (by decide +kernel : decode cX8_add 26 = .ok (.iload_n 2, 1)) rfl ?_
        refine re_iushr (pc := 27) (by decide +kernel : decode cX8_add 27 = .ok (.iushr, 1)) ?_
        refine re_i2b (pc := 28) (by decide +kernel : decode cX8_add 28 = .ok (.i2b, 1)) ?_
        obtain ⟨S9_, g10_, h⟩ := rv_b_e h
        refine re_uB (pc := 29) g10_ (by decide +kernel : decode cX8_add 29 = .ok (.bastore, 1)) ?_
        refine re_aloadn (pc := 30) 0 (by decide +kernel : decode cX8_add 30 = .ok (.aload_n 0, 1)) rfl ?_
        refine re_dup (pc := 31) (by decide +kernel : decode cX8_add 31 = .ok (.dup, 1)) rfl ?_
        obtain ⟨x11_, g12_, h⟩ := rv_b_e h
        refine re_gI (pc := 32) g12_ lfX8_22 rfl (by decide +kernel : decode cX8_add 32 = .ok (.getfield 22, 3)) ?_
        refine re_iconst (pc := 35) (1 : Int32) (by decide +kernel : decode cX8_add 35 = .ok (.iconst 1, 1)) (by decide) ?_
        refine re_iadd (pc := 36) (by decide +kernel : decode cX8_add 36 = .ok (.iadd, 1)) ?_
        obtain ⟨S13_, g14_, h⟩ := rv_b_e h
        refine re_pI (pc := 37) g14_ lfX8_22 rfl rfl rfl rfl (by decide +kernel : decode cX8_add 37 = .ok (.putfield 22, 3)) ?_
        obtain ⟨x15_, g16_, h⟩ := rv_lt_e h
        refine re_iinc (pc := 40) 2 x15_ (lv1 := [(2, .int x15_), (0, .ref a0), (1, .int x1)]) (by decide +kernel : decode cX8_add 40 = .ok (.iinc 2 (-8), 3)) rfl g16_ (by decide) rfl ?_
        refine re_goto (pc := 43) 3 (by decide +kernel : decode cX8_add 43 = .ok (.goto (-40), 3)) (by decide) ?_
        refine re_sub [1, 2, 0] (lv1 := [(0, .ref a0), (1, .int x1), (2, .int x15_)]) rfl ?_
        exact ih S13_ a0 x1 x15_ _ h
noncomputable def fnX8_add (n : Nat) (S : rvS) (a0 : Nat) (x1 : Int32) : Option rvS :=
  cX8_add_3 n n S a0 x1 (24 : Int32)
set_option maxRecDepth 20000 in
set_option maxHeartbeats 4000000 in
theorem eX8_add_in (n : Nat) (S : rvS) (a0 : Nat) (x1 : Int32) (S' : rvS) (h : fnX8_add n S a0 x1 = some S') : rv_Ev mX8_add 0 0 [(0, .ref a0), (1, .int x1)] [] S none S' := by
  unfold fnX8_add at h
  refine re_bipush (pc := 0) (24 : Int32) (by decide +kernel : decode cX8_add 0 = .ok (.bipush 24, 2)) (by decide) ?_
  refine re_istoren (pc := 2) (lv1 := [(2, .int (24 : Int32)), (0, .ref a0), (1, .int x1)]) (by decide +kernel : decode cX8_add 2 = .ok (.istore_n 2, 1)) rfl (by decide) rfl ?_
  refine re_sub [1, 2, 0] (lv1 := [(0, .ref a0), (1, .int x1), (2, .int (24 : Int32))]) rfl ?_
  exact eX8_add_3 n n S a0 x1 (24 : Int32) _ h
theorem metX8_add (n : Nat) (S : rvS) (a0 : Nat) (x1 : Int32) (S' : rvS) (h : fnX8_add n S a0 x1 = some S') : rv_Met yX8_add mX8_add 0 [.ref a0, .int x1] S none S' := rv_Met.of ⟨by decide +kernel, rfl, (fun z => by first | rfl | cases z), rfl⟩ (Nat.le_of_ble_eq_true rfl) rfl (eX8_add_in n S a0 x1 S' h)
noncomputable def fnX8_open (n : Nat) (S : rvS) (a0 : Nat) (x1 : Int32) : Option rvS :=
  (rv_pI S 7 a0 2 x1).bind fun S1_ =>
  (rv_pI S1_ 7 a0 3 (0 : Int32)).bind fun S3_ =>
  (rv_pI S3_ 7 a0 9 (0 : Int32)).bind fun S5_ =>
  (rv_pI S5_ 7 a0 10 (0 : Int32)).bind fun S7_ =>
  (rv_ck S7_ 7 a0).bind fun u9_ =>
  (fnX8_next n S7_ a0).bind fun S12_ =>
  some S12_
set_option maxRecDepth 20000 in
set_option maxHeartbeats 4000000 in
theorem eX8_open_in (n : Nat) (S : rvS) (a0 : Nat) (x1 : Int32) (S' : rvS) (h : fnX8_open n S a0 x1 = some S') : rv_Ev mX8_open 3 0 [(0, .ref a0), (1, .int x1)] [] S none S' := by
  unfold fnX8_open at h
  refine re_aloadn (pc := 0) 0 (by decide +kernel : decode cX8_open 0 = .ok (.aload_n 0, 1)) rfl ?_
  refine re_iloadn (pc := 1) 1 (by decide +kernel : decode cX8_open 1 = .ok (.iload_n 1, 1)) rfl ?_
  obtain ⟨S1_, g2_, h⟩ := rv_b_e h
  refine re_pI (pc := 2) g2_ lfX8_26 rfl rfl rfl rfl (by decide +kernel : decode cX8_open 2 = .ok (.putfield 26, 3)) ?_
  refine re_aloadn (pc := 5) 0 (by decide +kernel : decode cX8_open 5 = .ok (.aload_n 0, 1)) rfl ?_
  refine re_iconst (pc := 6) (0 : Int32) (by decide +kernel : decode cX8_open 6 = .ok (.iconst 0, 1)) (by decide) ?_
  obtain ⟨S3_, g4_, h⟩ := rv_b_e h
  refine re_pI (pc := 7) g4_ lfX8_29 rfl rfl rfl rfl (by decide +kernel : decode cX8_open 7 = .ok (.putfield 29, 3)) ?_
  refine re_aloadn (pc := 10) 0 (by decide +kernel : decode cX8_open 10 = .ok (.aload_n 0, 1)) rfl ?_
  refine re_iconst (pc := 11) (0 : Int32) (by decide +kernel : decode cX8_open 11 = .ok (.iconst 0, 1)) (by decide) ?_
  obtain ⟨S5_, g6_, h⟩ := rv_b_e h
  refine re_pI (pc := 12) g6_ lfX8_32 rfl rfl rfl rfl (by decide +kernel : decode cX8_open 12 = .ok (.putfield 32, 3)) ?_
  refine re_aloadn (pc := 15) 0 (by decide +kernel : decode cX8_open 15 = .ok (.aload_n 0, 1)) rfl ?_
  refine re_iconst (pc := 16) (0 : Int32) (by decide +kernel : decode cX8_open 16 = .ok (.iconst 0, 1)) (by decide) ?_
  obtain ⟨S7_, g8_, h⟩ := rv_b_e h
  refine re_pI (pc := 17) g8_ lfX8_35 rfl rfl rfl rfl (by decide +kernel : decode cX8_open 17 = .ok (.putfield 35, 3)) ?_
  refine re_aloadn (pc := 20) 0 (by decide +kernel : decode cX8_open 20 = .ok (.aload_n 0, 1)) rfl ?_
  obtain ⟨u9_, g10_, h⟩ := rv_b_e h
  obtain ⟨S12_, g13_, h⟩ := rv_b_e h
  have m11_ := metX8_next n S7_ a0 _ g13_
  have z14_ : rv_same S7_ S12_ := m11_.sh rfl
  refine re_cV (pc := 21) [] m11_ (rv_okl.k z14_) (rv_up.sh z14_) (by decide) (rv_ck_e g10_) ⟨by decide, rfl⟩ (Nat.le_of_ble_eq_true rfl) lVX8_38 rfl (by decide +kernel : decode cX8_open 21 = .ok (.invokevirtual 38, 3)) ?_
  cases h
  exact re_vret (by decide +kernel : decode cX8_open 24 = .ok (.return_, 1))
theorem metX8_open (n : Nat) (S : rvS) (a0 : Nat) (x1 : Int32) (S' : rvS) (h : fnX8_open n S a0 x1 = some S') : rv_Met yX8_open mX8_open 3 [.ref a0, .int x1] S none S' := rv_Met.of ⟨by decide +kernel, rfl, (fun z => by first | rfl | cases z), rfl⟩ (Nat.le_of_ble_eq_true rfl) rfl (eX8_open_in n S a0 x1 S' h)
noncomputable def fnX9_init (n : Nat) (S : rvS) (a0 : Nat) : Option rvS :=
  (rv_vl S a0).bind fun _ =>
  rv_lt (64 + S.1.length) fun a2_ =>
  rv_lt (rv_new S (0, rv_N 0)) fun S4_ =>
  (fnX1_init n S4_ a2_).bind fun S9_ =>
  (rv_pR S9_ 8 a0 0 a2_).bind fun S13_ =>
  rv_lt (64 + S13_.1.length) fun a17_ =>
  rv_lt (rv_new S13_ (5, rv_N 5)) fun S19_ =>
  (fnX6_init n S19_ a17_).bind fun S25_ =>
  (rv_pR S25_ 8 a0 1 a17_).bind fun S30_ =>
  rv_lt (64 + S30_.1.length) fun a35_ =>
  rv_lt (rv_new S30_ (6, rv_N 6)) fun S37_ =>
  (fnX7_init n S37_ a35_).bind fun S44_ =>
  (rv_pR S44_ 8 a0 2 a35_).bind fun S50_ =>
  rv_lt (64 + S50_.1.length) fun a56_ =>
  rv_lt (rv_new S50_ (50, 12)) fun S58_ =>
  (rv_pR S58_ 8 a0 3 a56_).bind fun S65_ =>
  rv_lt (64 + S65_.1.length) fun a72_ =>
  rv_lt (rv_new S65_ (50, 12)) fun S74_ =>
  (rv_pR S74_ 8 a0 4 a72_).bind fun S82_ =>
  rv_lt (64 + S82_.1.length) fun a90_ =>
  rv_lt (rv_new S82_ (50, 12)) fun S92_ =>
  (rv_pR S92_ 8 a0 5 a90_).bind fun S101_ =>
  (rv_pI S101_ 8 a0 8 (8 : Int32)).bind fun S110_ =>
  (rv_pI S110_ 8 a0 9 (1 : Int32)).bind fun S119_ =>
  some S119_
set_option maxRecDepth 20000 in
set_option maxHeartbeats 4000000 in
theorem eX9_init_in (n : Nat) (S : rvS) (a0 : Nat) (S' : rvS) (h : fnX9_init n S a0 = some S') : rv_Ev mX9_init 2 0 [(0, .ref a0)] [] S none S' := by
  unfold fnX9_init at h
  obtain ⟨_, g1_, h⟩ := rv_b_e h
  refine re_aloadn (pc := 0) 0 (by decide +kernel : decode cX9_init 0 = .ok (.aload_n 0, 1)) rfl ?_
  refine re_obj (pc := 1) (rw1 91 (by decide +kernel) rfl) rwoi rwoc (Nat.le_of_ble_eq_true rfl) (by decide) (by decide +kernel : decode cX9_init 1 = .ok (.invokespecial 3, 3)) ?_
  refine re_aloadn (pc := 4) 0 (by decide +kernel : decode cX9_init 4 = .ok (.aload_n 0, 1)) rfl ?_
  refine re_new (pc := 5) (c := 0) rfl (rv_alv (List.forall_mem_cons.mpr ⟨(rv_vl_e g1_), (fun _ z => absurd z List.not_mem_nil)⟩)) ((List.forall_mem_cons.mpr ⟨(rv_vl_e g1_), (fun _ z => absurd z List.not_mem_nil)⟩)) (by decide) (rw1 92 (by decide +kernel) rfl) (rw1 93 (by decide +kernel) rfl) (rw1 6 (by decide +kernel) rfl) (by decide +kernel : decode cX9_init 5 = .ok (.new 9, 3)) ?_
  obtain ⟨a2_, g3_, h⟩ := rv_lt_e h
  refine re_nR g3_ ?_
  obtain ⟨S4_, g5_, h⟩ := rv_lt_e h
  refine re_nS g5_ ?_
  have o6_ : a0 < 64 + S4_.1.length := rv_okn g5_ (rv_vl_e g1_)
  have o7_ : a2_ < 64 + S4_.1.length := by rw [← g3_]; exact rv_okn0 g5_
  refine re_dup (pc := 8) (by decide +kernel : decode cX9_init 8 = .ok (.dup, 1)) rfl ?_
  obtain ⟨S9_, g10_, h⟩ := rv_b_e h
  have m8_ := metX1_init n S4_ a2_ _ g10_
  have o11_ : a0 < 64 + S9_.1.length := Nat.lt_of_lt_of_le o6_ (Nat.add_le_add_left m8_.1.2.1 64)
  have o12_ : a2_ < 64 + S9_.1.length := Nat.lt_of_lt_of_le o7_ (Nat.add_le_add_left m8_.1.2.1 64)
  refine re_cI (pc := 9) (st := [.ref a2_, .ref a0]) [] m8_ (rv_okl.n (rv_alv (List.forall_mem_cons.mpr ⟨o6_, (fun _ z => absurd z List.not_mem_nil)⟩)) ((List.forall_mem_cons.mpr ⟨o7_, (List.forall_mem_cons.mpr ⟨o6_, (fun _ z => absurd z List.not_mem_nil)⟩)⟩))) ⟨fun z => absurd z (by decide), m8_.1.2⟩ (by decide) (Nat.le_of_ble_eq_true rfl) lIX9_11 rfl (by decide +kernel : decode cX9_init 9 = .ok (.invokespecial 11, 3)) ?_
  obtain ⟨S13_, g14_, h⟩ := rv_b_e h
  have o15_ : a0 < 64 + S13_.1.length := by rw [rv_pR_sh g14_]; exact o11_
  have o16_ : a2_ < 64 + S13_.1.length := by rw [rv_pR_sh g14_]; exact o12_
  refine re_pR (pc := 12) g14_ lfX9_12 rfl (Or.inr ⟨rfl, rfl, rfl, (rw1 210 (by decide +kernel) rfl)⟩) (by decide +kernel : decode cX9_init 12 = .ok (.putfield 12, 3)) ?_
  refine re_aloadn (pc := 15) 0 (by decide +kernel : decode cX9_init 15 = .ok (.aload_n 0, 1)) rfl ?_
  refine re_new (pc := 16) (c := 5) rfl (rv_alv (List.forall_mem_cons.mpr ⟨o15_, (fun _ z => absurd z List.not_mem_nil)⟩)) ((List.forall_mem_cons.mpr ⟨o15_, (fun _ z => absurd z List.not_mem_nil)⟩)) (by decide) (rw1 139 (by decide +kernel) rfl) (rw1 140 (by decide +kernel) rfl) (rw1 7 (by decide +kernel) rfl) (by decide +kernel : decode cX9_init 16 = .ok (.new 18, 3)) ?_
  obtain ⟨a17_, g18_, h⟩ := rv_lt_e h
  refine re_nR g18_ ?_
  obtain ⟨S19_, g20_, h⟩ := rv_lt_e h
  refine re_nS g20_ ?_
  have o21_ : a0 < 64 + S19_.1.length := rv_okn g20_ o15_
  have o22_ : a2_ < 64 + S19_.1.length := rv_okn g20_ o16_
  have o23_ : a17_ < 64 + S19_.1.length := by rw [← g18_]; exact rv_okn0 g20_
  refine re_dup (pc := 19) (by decide +kernel : decode cX9_init 19 = .ok (.dup, 1)) rfl ?_
  obtain ⟨S25_, g26_, h⟩ := rv_b_e h
  have m24_ := metX6_init n S19_ a17_ _ g26_
  have o27_ : a0 < 64 + S25_.1.length := Nat.lt_of_lt_of_le o21_ (Nat.add_le_add_left m24_.1.2.1 64)
  have o28_ : a2_ < 64 + S25_.1.length := Nat.lt_of_lt_of_le o22_ (Nat.add_le_add_left m24_.1.2.1 64)
  have o29_ : a17_ < 64 + S25_.1.length := Nat.lt_of_lt_of_le o23_ (Nat.add_le_add_left m24_.1.2.1 64)
  refine re_cI (pc := 20) (st := [.ref a17_, .ref a0]) [] m24_ (rv_okl.n (rv_alv (List.forall_mem_cons.mpr ⟨o21_, (fun _ z => absurd z List.not_mem_nil)⟩)) ((List.forall_mem_cons.mpr ⟨o23_, (List.forall_mem_cons.mpr ⟨o21_, (fun _ z => absurd z List.not_mem_nil)⟩)⟩))) ⟨fun z => absurd z (by decide), m24_.1.2⟩ (by decide) (Nat.le_of_ble_eq_true rfl) lIX9_20 rfl (by decide +kernel : decode cX9_init 20 = .ok (.invokespecial 20, 3)) ?_
  obtain ⟨S30_, g31_, h⟩ := rv_b_e h
  have o32_ : a0 < 64 + S30_.1.length := by rw [rv_pR_sh g31_]; exact o27_
  have o33_ : a2_ < 64 + S30_.1.length := by rw [rv_pR_sh g31_]; exact o28_
  have o34_ : a17_ < 64 + S30_.1.length := by rw [rv_pR_sh g31_]; exact o29_
  refine re_pR (pc := 23) g31_ lfX9_21 rfl (Or.inr ⟨rfl, rfl, rfl, (rw1 217 (by decide +kernel) rfl)⟩) (by decide +kernel : decode cX9_init 23 = .ok (.putfield 21, 3)) ?_
  refine re_aloadn (pc := 26) 0 (by decide +kernel : decode cX9_init 26 = .ok (.aload_n 0, 1)) rfl ?_
  refine re_new (pc := 27) (c := 6) rfl (rv_alv (List.forall_mem_cons.mpr ⟨o32_, (fun _ z => absurd z List.not_mem_nil)⟩)) ((List.forall_mem_cons.mpr ⟨o32_, (fun _ z => absurd z List.not_mem_nil)⟩)) (by decide) (rw1 181 (by decide +kernel) rfl) (rw1 182 (by decide +kernel) rfl) (rw1 8 (by decide +kernel) rfl) (by decide +kernel : decode cX9_init 27 = .ok (.new 25, 3)) ?_
  obtain ⟨a35_, g36_, h⟩ := rv_lt_e h
  refine re_nR g36_ ?_
  obtain ⟨S37_, g38_, h⟩ := rv_lt_e h
  refine re_nS g38_ ?_
  have o39_ : a0 < 64 + S37_.1.length := rv_okn g38_ o32_
  have o40_ : a2_ < 64 + S37_.1.length := rv_okn g38_ o33_
  have o41_ : a17_ < 64 + S37_.1.length := rv_okn g38_ o34_
  have o42_ : a35_ < 64 + S37_.1.length := by rw [← g36_]; exact rv_okn0 g38_
  refine re_dup (pc := 30) (by decide +kernel : decode cX9_init 30 = .ok (.dup, 1)) rfl ?_
  obtain ⟨S44_, g45_, h⟩ := rv_b_e h
  have m43_ := metX7_init n S37_ a35_ _ g45_
  have o46_ : a0 < 64 + S44_.1.length := Nat.lt_of_lt_of_le o39_ (Nat.add_le_add_left m43_.1.2.1 64)
  have o47_ : a2_ < 64 + S44_.1.length := Nat.lt_of_lt_of_le o40_ (Nat.add_le_add_left m43_.1.2.1 64)
  have o48_ : a17_ < 64 + S44_.1.length := Nat.lt_of_lt_of_le o41_ (Nat.add_le_add_left m43_.1.2.1 64)
  have o49_ : a35_ < 64 + S44_.1.length := Nat.lt_of_lt_of_le o42_ (Nat.add_le_add_left m43_.1.2.1 64)
  refine re_cI (pc := 31) (st := [.ref a35_, .ref a0]) [] m43_ (rv_okl.n (rv_alv (List.forall_mem_cons.mpr ⟨o39_, (fun _ z => absurd z List.not_mem_nil)⟩)) ((List.forall_mem_cons.mpr ⟨o42_, (List.forall_mem_cons.mpr ⟨o39_, (fun _ z => absurd z List.not_mem_nil)⟩)⟩))) ⟨fun z => absurd z (by decide), m43_.1.2⟩ (by decide) (Nat.le_of_ble_eq_true rfl) lIX9_27 rfl (by decide +kernel : decode cX9_init 31 = .ok (.invokespecial 27, 3)) ?_
  obtain ⟨S50_, g51_, h⟩ := rv_b_e h
  have o52_ : a0 < 64 + S50_.1.length := by rw [rv_pR_sh g51_]; exact o46_
  have o53_ : a2_ < 64 + S50_.1.length := by rw [rv_pR_sh g51_]; exact o47_
  have o54_ : a17_ < 64 + S50_.1.length := by rw [rv_pR_sh g51_]; exact o48_
  have o55_ : a35_ < 64 + S50_.1.length := by rw [rv_pR_sh g51_]; exact o49_
  refine re_pR (pc := 34) g51_ lfX9_28 rfl (Or.inr ⟨rfl, rfl, rfl, (rw1 224 (by decide +kernel) rfl)⟩) (by decide +kernel : decode cX9_init 34 = .ok (.putfield 28, 3)) ?_
  refine re_aloadn (pc := 37) 0 (by decide +kernel : decode cX9_init 37 = .ok (.aload_n 0, 1)) rfl ?_
  refine re_bipush (pc := 38) (12 : Int32) (by decide +kernel : decode cX9_init 38 = .ok (.bipush 12, 2)) (by decide) ?_
  refine re_newa (pc := 40) (t := 0) (N := 12) rfl (rv_alv (List.forall_mem_cons.mpr ⟨o52_, (fun _ z => absurd z List.not_mem_nil)⟩)) ((List.forall_mem_cons.mpr ⟨o52_, (fun _ z => absurd z List.not_mem_nil)⟩)) (by decide) rfl (rw1 137 (by decide +kernel) rfl) (by decide) (by decide) (by decide) (by decide +kernel : decode cX9_init 40 = .ok (.newarray .int, 2)) ?_
  obtain ⟨a56_, g57_, h⟩ := rv_lt_e h
  refine re_nR g57_ ?_
  obtain ⟨S58_, g59_, h⟩ := rv_lt_e h
  refine re_nS g59_ ?_
  have o60_ : a0 < 64 + S58_.1.length := rv_okn g59_ o52_
  have o61_ : a2_ < 64 + S58_.1.length := rv_okn g59_ o53_
  have o62_ : a17_ < 64 + S58_.1.length := rv_okn g59_ o54_
  have o63_ : a35_ < 64 + S58_.1.length := rv_okn g59_ o55_
  have o64_ : a56_ < 64 + S58_.1.length := by rw [← g57_]; exact rv_okn0 g59_
  obtain ⟨S65_, g66_, h⟩ := rv_b_e h
  have o67_ : a0 < 64 + S65_.1.length := by rw [rv_pR_sh g66_]; exact o60_
  have o68_ : a2_ < 64 + S65_.1.length := by rw [rv_pR_sh g66_]; exact o61_
  have o69_ : a17_ < 64 + S65_.1.length := by rw [rv_pR_sh g66_]; exact o62_
  have o70_ : a35_ < 64 + S65_.1.length := by rw [rv_pR_sh g66_]; exact o63_
  have o71_ : a56_ < 64 + S65_.1.length := by rw [rv_pR_sh g66_]; exact o64_
  refine re_pR (pc := 42) g66_ lfX9_32 rfl (Or.inr ⟨rfl, rfl, rfl, (rw1 226 (by decide +kernel) rfl)⟩) (by decide +kernel : decode cX9_init 42 = .ok (.putfield 32, 3)) ?_
  refine re_aloadn (pc := 45) 0 (by decide +kernel : decode cX9_init 45 = .ok (.aload_n 0, 1)) rfl ?_
  refine re_bipush (pc := 46) (12 : Int32) (by decide +kernel : decode cX9_init 46 = .ok (.bipush 12, 2)) (by decide) ?_
  refine re_newa (pc := 48) (t := 0) (N := 12) rfl (rv_alv (List.forall_mem_cons.mpr ⟨o67_, (fun _ z => absurd z List.not_mem_nil)⟩)) ((List.forall_mem_cons.mpr ⟨o67_, (fun _ z => absurd z List.not_mem_nil)⟩)) (by decide) rfl (rw1 137 (by decide +kernel) rfl) (by decide) (by decide) (by decide) (by decide +kernel : decode cX9_init 48 = .ok (.newarray .int, 2)) ?_
  obtain ⟨a72_, g73_, h⟩ := rv_lt_e h
  refine re_nR g73_ ?_
  obtain ⟨S74_, g75_, h⟩ := rv_lt_e h
  refine re_nS g75_ ?_
  have o76_ : a0 < 64 + S74_.1.length := rv_okn g75_ o67_
  have o77_ : a2_ < 64 + S74_.1.length := rv_okn g75_ o68_
  have o78_ : a17_ < 64 + S74_.1.length := rv_okn g75_ o69_
  have o79_ : a35_ < 64 + S74_.1.length := rv_okn g75_ o70_
  have o80_ : a56_ < 64 + S74_.1.length := rv_okn g75_ o71_
  have o81_ : a72_ < 64 + S74_.1.length := by rw [← g73_]; exact rv_okn0 g75_
  obtain ⟨S82_, g83_, h⟩ := rv_b_e h
  have o84_ : a0 < 64 + S82_.1.length := by rw [rv_pR_sh g83_]; exact o76_
  have o85_ : a2_ < 64 + S82_.1.length := by rw [rv_pR_sh g83_]; exact o77_
  have o86_ : a17_ < 64 + S82_.1.length := by rw [rv_pR_sh g83_]; exact o78_
  have o87_ : a35_ < 64 + S82_.1.length := by rw [rv_pR_sh g83_]; exact o79_
  have o88_ : a56_ < 64 + S82_.1.length := by rw [rv_pR_sh g83_]; exact o80_
  have o89_ : a72_ < 64 + S82_.1.length := by rw [rv_pR_sh g83_]; exact o81_
  refine re_pR (pc := 50) g83_ lfX9_36 rfl (Or.inr ⟨rfl, rfl, rfl, (rw1 229 (by decide +kernel) rfl)⟩) (by decide +kernel : decode cX9_init 50 = .ok (.putfield 36, 3)) ?_
  refine re_aloadn (pc := 53) 0 (by decide +kernel : decode cX9_init 53 = .ok (.aload_n 0, 1)) rfl ?_
  refine re_bipush (pc := 54) (12 : Int32) (by decide +kernel : decode cX9_init 54 = .ok (.bipush 12, 2)) (by decide) ?_
  refine re_newa (pc := 56) (t := 0) (N := 12) rfl (rv_alv (List.forall_mem_cons.mpr ⟨o84_, (fun _ z => absurd z List.not_mem_nil)⟩)) ((List.forall_mem_cons.mpr ⟨o84_, (fun _ z => absurd z List.not_mem_nil)⟩)) (by decide) rfl (rw1 137 (by decide +kernel) rfl) (by decide) (by decide) (by decide) (by decide +kernel : decode cX9_init 56 = .ok (.newarray .int, 2)) ?_
  obtain ⟨a90_, g91_, h⟩ := rv_lt_e h
  refine re_nR g91_ ?_
  obtain ⟨S92_, g93_, h⟩ := rv_lt_e h
  refine re_nS g93_ ?_
  have o94_ : a0 < 64 + S92_.1.length := rv_okn g93_ o84_
  have o95_ : a2_ < 64 + S92_.1.length := rv_okn g93_ o85_
  have o96_ : a17_ < 64 + S92_.1.length := rv_okn g93_ o86_
  have o97_ : a35_ < 64 + S92_.1.length := rv_okn g93_ o87_
  have o98_ : a56_ < 64 + S92_.1.length := rv_okn g93_ o88_
  have o99_ : a72_ < 64 + S92_.1.length := rv_okn g93_ o89_
  have o100_ : a90_ < 64 + S92_.1.length := by rw [← g91_]; exact rv_okn0 g93_
  obtain ⟨S101_, g102_, h⟩ := rv_b_e h
  have o103_ : a0 < 64 + S101_.1.length := by rw [rv_pR_sh g102_]; exact o94_
  have o104_ : a2_ < 64 + S101_.1.length := by rw [rv_pR_sh g102_]; exact o95_
  have o105_ : a17_ < 64 + S101_.1.length := by rw [rv_pR_sh g102_]; exact o96_
  have o106_ : a35_ < 64 + S101_.1.length := by rw [rv_pR_sh g102_]; exact o97_
  have o107_ : a56_ < 64 + S101_.1.length := by rw [rv_pR_sh g102_]; exact o98_
  have o108_ : a72_ < 64 + S101_.1.length := by rw [rv_pR_sh g102_]; exact o99_
  have o109_ : a90_ < 64 + S101_.1.length := by rw [rv_pR_sh g102_]; exact o100_
  refine re_pR (pc := 58) g102_ lfX9_39 rfl (Or.inr ⟨rfl, rfl, rfl, (rw1 232 (by decide +kernel) rfl)⟩) (by decide +kernel : decode cX9_init 58 = .ok (.putfield 39, 3)) ?_
  refine re_aloadn (pc := 61) 0 (by decide +kernel : decode cX9_init 61 = .ok (.aload_n 0, 1)) rfl ?_
  refine re_bipush (pc := 62) (8 : Int32) (by decide +kernel : decode cX9_init 62 = .ok (.bipush 8, 2)) (by decide) ?_
  obtain ⟨S110_, g111_, h⟩ := rv_b_e h
  have o112_ : a0 < 64 + S110_.1.length := by rw [rv_pI_sh g111_]; exact o103_
  have o113_ : a2_ < 64 + S110_.1.length := by rw [rv_pI_sh g111_]; exact o104_
  have o114_ : a17_ < 64 + S110_.1.length := by rw [rv_pI_sh g111_]; exact o105_
  have o115_ : a35_ < 64 + S110_.1.length := by rw [rv_pI_sh g111_]; exact o106_
  have o116_ : a56_ < 64 + S110_.1.length := by rw [rv_pI_sh g111_]; exact o107_
  have o117_ : a72_ < 64 + S110_.1.length := by rw [rv_pI_sh g111_]; exact o108_
  have o118_ : a90_ < 64 + S110_.1.length := by rw [rv_pI_sh g111_]; exact o109_
  refine re_pI (pc := 64) g111_ lfX9_42 rfl rfl rfl rfl (by decide +kernel : decode cX9_init 64 = .ok (.putfield 42, 3)) ?_
  refine re_aloadn (pc := 67) 0 (by decide +kernel : decode cX9_init 67 = .ok (.aload_n 0, 1)) rfl ?_
  refine re_iconst (pc := 68) (1 : Int32) (by decide +kernel : decode cX9_init 68 = .ok (.iconst 1, 1)) (by decide) ?_
  obtain ⟨S119_, g120_, h⟩ := rv_b_e h
  have o121_ : a0 < 64 + S119_.1.length := by rw [rv_pI_sh g120_]; exact o112_
  have o122_ : a2_ < 64 + S119_.1.length := by rw [rv_pI_sh g120_]; exact o113_
  have o123_ : a17_ < 64 + S119_.1.length := by rw [rv_pI_sh g120_]; exact o114_
  have o124_ : a35_ < 64 + S119_.1.length := by rw [rv_pI_sh g120_]; exact o115_
  have o125_ : a56_ < 64 + S119_.1.length := by rw [rv_pI_sh g120_]; exact o116_
  have o126_ : a72_ < 64 + S119_.1.length := by rw [rv_pI_sh g120_]; exact o117_
  have o127_ : a90_ < 64 + S119_.1.length := by rw [rv_pI_sh g120_]; exact o118_
  refine re_pI (pc := 69) g120_ lfX9_46 rfl rfl rfl rfl (by decide +kernel : decode cX9_init 69 = .ok (.putfield 46, 3)) ?_
  cases h
  exact re_vret (by decide +kernel : decode cX9_init 72 = .ok (.return_, 1))
theorem metX9_init (n : Nat) (S : rvS) (a0 : Nat) (S' : rvS) (h : fnX9_init n S a0 = some S') : rv_Met yX9_init mX9_init 2 [.ref a0] S none S' := rv_Met.of ⟨by decide +kernel, rfl, (fun z => by first | rfl | cases z), rfl⟩ (Nat.le_of_ble_eq_true rfl) rfl (eX9_init_in n S a0 S' h)
noncomputable def fnX9_empty (n : Nat) (S : rvS) (a0 : Nat) : Option rvS :=
  (rv_gR S 8 a0 0).bind fun a1_ =>
  (rv_ck S 0 a1_).bind fun u3_ =>
  (fnX1_empty n S a1_).bind fun S6_ =>
  (rv_gR S6_ 8 a0 1).bind fun a9_ =>
  (rv_ck S6_ 5 a9_).bind fun u11_ =>
  (fnX6_empty n S6_ a9_).bind fun S14_ =>
  (rv_gR S14_ 8 a0 2).bind fun a17_ =>
  (rv_ck S14_ 6 a17_).bind fun u19_ =>
  (fnX7_forget n S14_ a17_).bind fun S22_ =>
  (rv_pI S22_ 8 a0 6 (0 : Int32)).bind fun S25_ =>
  (rv_pI S25_ 8 a0 7 (0 : Int32)).bind fun S27_ =>
  (rv_pI S27_ 8 a0 8 (8 : Int32)).bind fun S29_ =>
  (rv_pI S29_ 8 a0 9 (1 : Int32)).bind fun S31_ =>
  some S31_
set_option maxRecDepth 20000 in
set_option maxHeartbeats 4000000 in
theorem eX9_empty_in (n : Nat) (S : rvS) (a0 : Nat) (S' : rvS) (h : fnX9_empty n S a0 = some S') : rv_Ev mX9_empty 4 0 [(0, .ref a0)] [] S none S' := by
  unfold fnX9_empty at h
  refine re_aloadn (pc := 0) 0 (by decide +kernel : decode cX9_empty 0 = .ok (.aload_n 0, 1)) rfl ?_
  obtain ⟨a1_, g2_, h⟩ := rv_b_e h
  refine re_gR (pc := 1) g2_ lfX9_12 rfl (by decide +kernel : decode cX9_empty 1 = .ok (.getfield 12, 3)) ?_
  obtain ⟨u3_, g4_, h⟩ := rv_b_e h
  obtain ⟨S6_, g7_, h⟩ := rv_b_e h
  have m5_ := metX1_empty n S a1_ _ g7_
  have z8_ : rv_same S S6_ := m5_.sh rfl
  refine re_cV (pc := 4) [] m5_ (rv_okl.k z8_) (rv_up.sh z8_) (by decide) (rv_ck_e g4_) ⟨by decide, rfl⟩ (Nat.le_of_ble_eq_true rfl) lVX9_49 rfl (by decide +kernel : decode cX9_empty 4 = .ok (.invokevirtual 49, 3)) ?_
  refine re_aloadn (pc := 7) 0 (by decide +kernel : decode cX9_empty 7 = .ok (.aload_n 0, 1)) rfl ?_
  obtain ⟨a9_, g10_, h⟩ := rv_b_e h
  refine re_gR (pc := 8) g10_ lfX9_21 rfl (by decide +kernel : decode cX9_empty 8 = .ok (.getfield 21, 3)) ?_
  obtain ⟨u11_, g12_, h⟩ := rv_b_e h
  obtain ⟨S14_, g15_, h⟩ := rv_b_e h
  have m13_ := metX6_empty n S6_ a9_ _ g15_
  have z16_ : rv_same S6_ S14_ := m13_.sh rfl
  refine re_cV (pc := 11) [] m13_ (rv_okl.k z16_) (rv_up.sh z16_) (by decide) (rv_ck_e g12_) ⟨by decide, rfl⟩ (Nat.le_of_ble_eq_true rfl) lVX9_52 rfl (by decide +kernel : decode cX9_empty 11 = .ok (.invokevirtual 52, 3)) ?_
  refine re_aloadn (pc := 14) 0 (by decide +kernel : decode cX9_empty 14 = .ok (.aload_n 0, 1)) rfl ?_
  obtain ⟨a17_, g18_, h⟩ := rv_b_e h
  refine re_gR (pc := 15) g18_ lfX9_28 rfl (by decide +kernel : decode cX9_empty 15 = .ok (.getfield 28, 3)) ?_
  obtain ⟨u19_, g20_, h⟩ := rv_b_e h
  obtain ⟨S22_, g23_, h⟩ := rv_b_e h
  have m21_ := metX7_forget n S14_ a17_ _ g23_
  have z24_ : rv_same S14_ S22_ := m21_.sh rfl
  refine re_cV (pc := 18) [] m21_ (rv_okl.k z24_) (rv_up.sh z24_) (by decide) (rv_ck_e g20_) ⟨by decide, rfl⟩ (Nat.le_of_ble_eq_true rfl) lVX9_53 rfl (by decide +kernel : decode cX9_empty 18 = .ok (.invokevirtual 53, 3)) ?_
  refine re_aloadn (pc := 21) 0 (by decide +kernel : decode cX9_empty 21 = .ok (.aload_n 0, 1)) rfl ?_
  refine re_iconst (pc := 22) (0 : Int32) (by decide +kernel : decode cX9_empty 22 = .ok (.iconst 0, 1)) (by decide) ?_
  obtain ⟨S25_, g26_, h⟩ := rv_b_e h
  refine re_pI (pc := 23) g26_ lfX9_56 rfl rfl rfl rfl (by decide +kernel : decode cX9_empty 23 = .ok (.putfield 56, 3)) ?_
  refine re_aloadn (pc := 26) 0 (by decide +kernel : decode cX9_empty 26 = .ok (.aload_n 0, 1)) rfl ?_
  refine re_iconst (pc := 27) (0 : Int32) (by decide +kernel : decode cX9_empty 27 = .ok (.iconst 0, 1)) (by decide) ?_
  obtain ⟨S27_, g28_, h⟩ := rv_b_e h
  refine re_pI (pc := 28) g28_ lfX9_59 rfl rfl rfl rfl (by decide +kernel : decode cX9_empty 28 = .ok (.putfield 59, 3)) ?_
  refine re_aloadn (pc := 31) 0 (by decide +kernel : decode cX9_empty 31 = .ok (.aload_n 0, 1)) rfl ?_
  refine re_bipush (pc := 32) (8 : Int32) (by decide +kernel : decode cX9_empty 32 = .ok (.bipush 8, 2)) (by decide) ?_
  obtain ⟨S29_, g30_, h⟩ := rv_b_e h
  refine re_pI (pc := 34) g30_ lfX9_42 rfl rfl rfl rfl (by decide +kernel : decode cX9_empty 34 = .ok (.putfield 42, 3)) ?_
  refine re_aloadn (pc := 37) 0 (by decide +kernel : decode cX9_empty 37 = .ok (.aload_n 0, 1)) rfl ?_
  refine re_iconst (pc := 38) (1 : Int32) (by decide +kernel : decode cX9_empty 38 = .ok (.iconst 1, 1)) (by decide) ?_
  obtain ⟨S31_, g32_, h⟩ := rv_b_e h
  refine re_pI (pc := 39) g32_ lfX9_46 rfl rfl rfl rfl (by decide +kernel : decode cX9_empty 39 = .ok (.putfield 46, 3)) ?_
  cases h
  exact re_vret (by decide +kernel : decode cX9_empty 42 = .ok (.return_, 1))
theorem metX9_empty (n : Nat) (S : rvS) (a0 : Nat) (S' : rvS) (h : fnX9_empty n S a0 = some S') : rv_Met yX9_empty mX9_empty 4 [.ref a0] S none S' := rv_Met.of ⟨by decide +kernel, rfl, (fun z => by first | rfl | cases z), rfl⟩ (Nat.le_of_ble_eq_true rfl) rfl (eX9_empty_in n S a0 S' h)
noncomputable def cX9_copyFrom_83 (n : Nat) (S : rvS) (a0 : Nat) (a1 : Nat) : Option rvS :=
  (rv_gI S 8 a1 6).bind fun x1_ =>
  (rv_pI S 8 a0 6 x1_).bind fun S3_ =>
  (rv_gI S3_ 8 a1 7).bind fun x5_ =>
  (rv_pI S3_ 8 a0 7 x5_).bind fun S7_ =>
  (rv_gI S7_ 8 a1 8).bind fun x9_ =>
  (rv_pI S7_ 8 a0 8 x9_).bind fun S11_ =>
  (rv_gI S11_ 8 a1 9).bind fun x13_ =>
  (rv_pI S11_ 8 a0 9 x13_).bind fun S15_ =>
  some S15_
set_option maxRecDepth 20000 in
set_option maxHeartbeats 4000000 in
theorem eX9_copyFrom_83 (n : Nat) (S : rvS) (a0 : Nat) (a1 : Nat) (S' : rvS) (h : cX9_copyFrom_83 n S a0 a1 = some S') : rv_Ev mX9_copyFrom 1 83 [(0, .ref a0), (1, .ref a1)] [] S none S' := by
  unfold cX9_copyFrom_83 at h
  refine re_aloadn (pc := 83) 0 (by decide +kernel : decode cX9_copyFrom 83 = .ok (.aload_n 0, 1)) rfl ?_
  refine re_aloadn (pc := 84) 1 (by decide +kernel : decode cX9_copyFrom 84 = .ok (.aload_n 1, 1)) rfl ?_
  obtain ⟨x1_, g2_, h⟩ := rv_b_e h
  refine re_gI (pc := 85) g2_ lfX9_56 rfl (by decide +kernel : decode cX9_copyFrom 85 = .ok (.getfield 56, 3)) ?_
  obtain ⟨S3_, g4_, h⟩ := rv_b_e h
  refine re_pI (pc := 88) g4_ lfX9_56 rfl rfl rfl rfl (by decide +kernel : decode cX9_copyFrom 88 = .ok (.putfield 56, 3)) ?_
  refine re_aloadn (pc := 91) 0 (by decide +kernel : decode cX9_copyFrom 91 = .ok (.aload_n 0, 1)) rfl ?_
  refine re_aloadn (pc := 92) 1 (by decide +kernel : decode cX9_copyFrom 92 = .ok (.aload_n 1, 1)) rfl ?_
  obtain ⟨x5_, g6_, h⟩ := rv_b_e h
  refine re_gI (pc := 93) g6_ lfX9_59 rfl (by decide +kernel : decode cX9_copyFrom 93 = .ok (.getfield 59, 3)) ?_
  obtain ⟨S7_, g8_, h⟩ := rv_b_e h
  refine re_pI (pc := 96) g8_ lfX9_59 rfl rfl rfl rfl (by decide +kernel : decode cX9_copyFrom 96 = .ok (.putfield 59, 3)) ?_
  refine re_aloadn (pc := 99) 0 (by decide +kernel : decode cX9_copyFrom 99 = .ok (.aload_n 0, 1)) rfl ?_
  refine re_aloadn (pc := 100) 1 (by decide +kernel : decode cX9_copyFrom 100 = .ok (.aload_n 1, 1)) rfl ?_
  obtain ⟨x9_, g10_, h⟩ := rv_b_e h
  refine re_gI (pc := 101) g10_ lfX9_42 rfl (by decide +kernel : decode cX9_copyFrom 101 = .ok (.getfield 42, 3)) ?_
  obtain ⟨S11_, g12_, h⟩ := rv_b_e h
  refine re_pI (pc := 104) g12_ lfX9_42 rfl rfl rfl rfl (by decide +kernel : decode cX9_copyFrom 104 = .ok (.putfield 42, 3)) ?_
  refine re_aloadn (pc := 107) 0 (by decide +kernel : decode cX9_copyFrom 107 = .ok (.aload_n 0, 1)) rfl ?_
  refine re_aloadn (pc := 108) 1 (by decide +kernel : decode cX9_copyFrom 108 = .ok (.aload_n 1, 1)) rfl ?_
  obtain ⟨x13_, g14_, h⟩ := rv_b_e h
  refine re_gI (pc := 109) g14_ lfX9_46 rfl (by decide +kernel : decode cX9_copyFrom 109 = .ok (.getfield 46, 3)) ?_
  obtain ⟨S15_, g16_, h⟩ := rv_b_e h
  refine re_pI (pc := 112) g16_ lfX9_46 rfl rfl rfl rfl (by decide +kernel : decode cX9_copyFrom 112 = .ok (.putfield 46, 3)) ?_
  cases h
  exact re_vret (by decide +kernel : decode cX9_copyFrom 115 = .ok (.return_, 1))
noncomputable def cX9_copyFrom_35 (n : Nat) : Nat → rvS → Nat → Nat → Int32 → Option rvS
  | 0, _, _, _, _ => none
  | k + 1, S, a0, a1, x2 =>
    if (12 : Int32) ≤ x2 then (
      cX9_copyFrom_83 n S a0 a1)
    else (
      (rv_gR S 8 a0 3).bind fun a2_ =>
      (rv_gR S 8 a1 3).bind fun a4_ =>
      (rv_aI S 0 a4_ x2).bind fun x6_ =>
      (rv_uI S a2_ x2 x6_).bind fun S8_ =>
      (rv_gR S8_ 8 a0 4).bind fun a10_ =>
      (rv_gR S8_ 8 a1 4).bind fun a12_ =>
      (rv_aI S8_ 0 a12_ x2).bind fun x14_ =>
      (rv_uI S8_ a10_ x2 x14_).bind fun S16_ =>
      (rv_gR S16_ 8 a0 5).bind fun a18_ =>
      (rv_gR S16_ 8 a1 5).bind fun a20_ =>
      (rv_aI S16_ 0 a20_ x2).bind fun x22_ =>
      (rv_uI S16_ a18_ x2 x22_).bind fun S24_ =>
      rv_lt (x2 + (1)) fun x26_ =>
      cX9_copyFrom_35 n k S24_ a0 a1 x26_)
set_option maxRecDepth 20000 in
set_option maxHeartbeats 4000000 in
theorem eX9_copyFrom_35 (n : Nat) : ∀ (k : Nat) (S : rvS) (a0 : Nat) (a1 : Nat) (x2 : Int32) (S' : rvS), cX9_copyFrom_35 n k S a0 a1 x2 = some S' → rv_Ev mX9_copyFrom 1 35 [(0, .ref a0), (1, .ref a1), (2, .int x2)] [] S none S' := by
  intro k
  induction k with
  | zero => intro S a0 a1 x2 S' h; exact absurd h (by simp [cX9_copyFrom_35])
  | succ k ih =>
    intro S a0 a1 x2 S' h
    unfold cX9_copyFrom_35 at h
    refine re_iloadn (pc := 35) 2 (by decide +kernel : decode cX9_copyFrom 35 = .ok (.iload_n 2, 1)) rfl ?_
    refine re_bipush (pc := 36) (12 : Int32) (by decide +kernel : decode cX9_copyFrom 36 = .ok (.bipush 12, 2)) (by decide) ?_
    rcases rv_if_e h with ⟨g1_, h⟩ | ⟨g1_, h⟩
    · refine re_icmp_ge_t (pc := 38) 83 (by decide +kernel : decode cX9_copyFrom 38 = .ok (.if_icmp .ge 45, 3)) (by decide) g1_ ?_
      refine re_sub [0, 1] (lv1 := [(0, .ref a0), (1, .ref a1)]) rfl ?_
      exact eX9_copyFrom_83 n S a0 a1 _ h
    · refine re_icmp_ge_f (pc := 38) 83 (by decide +kernel : decode cX9_copyFrom 38 = .ok (.if_icmp .ge 45, 3)) (by decide) g1_ ?_
      refine re_aloadn (pc := 41) 0 (by decide +kernel : decode cX9_copyFrom 41 = .ok (.aload_n 0, 1)) rfl ?_
      obtain ⟨a2_, g3_, h⟩ := rv_b_e h
      refine re_gR (pc := 42) g3_ lfX9_32 rfl (by decide +kernel : decode cX9_copyFrom 42 = .ok (.getfield 32, 3)) ?_
      refine re_iloadn (pc := 45) 2 (by decide +kernel : decode cX9_copyFrom 45 = .ok (.iload_n 2, 1)) rfl ?_
      refine re_aloadn (pc := 46) 1 (by decide +kernel : decode cX9_copyFrom 46 = .ok (.aload_n 1, 1)) rfl ?_
      obtain ⟨a4_, g5_, h⟩ := rv_b_e h
      refine re_gR (pc := 47) g5_ lfX9_32 rfl (by decide +kernel : decode cX9_copyFrom 47 = .ok (.getfield 32, 3)) ?_
      refine re_iloadn (pc := 50) 2 (by decide +kernel : decode cX9_copyFrom 50 = .ok (.iload_n 2, 1)) rfl ?_
      obtain ⟨x6_, g7_, h⟩ := rv_b_e h
      refine re_aI (pc := 51) g7_ (by decide +kernel : decode cX9_copyFrom 51 = .ok (.iaload, 1)) ?_
      obtain ⟨S8_, g9_, h⟩ := rv_b_e h
      refine re_uI (pc := 52) g9_ (by decide +kernel : decode cX9_copyFrom 52 = .ok (.iastore, 1)) ?_
      refine re_aloadn (pc := 53) 0 (by decide +kernel : decode cX9_copyFrom 53 = .ok (.aload_n 0, 1)) rfl ?_
      obtain ⟨a10_, g11_, h⟩ := rv_b_e h
      refine re_gR (pc := 54) g11_ lfX9_36 rfl (by decide +kernel : decode cX9_copyFrom 54 = .ok (.getfield 36, 3)) ?_
      refine re_iloadn (pc := 57) 2 (by decide +kernel : decode cX9_copyFrom 57 = .ok (.iload_n 2, 1)) rfl ?_
      refine re_aloadn (pc := 58) 1 (by decide +kernel : decode cX9_copyFrom 58 = .ok (.aload_n 1, 1)) rfl ?_
      obtain ⟨a12_, g13_, h⟩ := rv_b_e h
      refine re_gR (pc := 59) g13_ lfX9_36 rfl (by decide +kernel : decode cX9_copyFrom 59 = .ok (.getfield 36, 3)) ?_
      refine re_iloadn (pc := 62) 2 (by decide +kernel : decode cX9_copyFrom 62 = .ok (.iload_n 2, 1)) rfl ?_
      obtain ⟨x14_, g15_, h⟩ := rv_b_e h
      refine re_aI (pc := 63) g15_ (by decide +kernel : decode cX9_copyFrom 63 = .ok (.iaload, 1)) ?_
      obtain ⟨S16_, g17_, h⟩ := rv_b_e h
      refine re_uI (pc := 64) g17_ (by decide +kernel : decode cX9_copyFrom 64 = .ok (.iastore, 1)) ?_
      refine re_aloadn (pc := 65) 0 (by decide +kernel : decode cX9_copyFrom 65 = .ok (.aload_n 0, 1)) rfl ?_
      obtain ⟨a18_, g19_, h⟩ := rv_b_e h
      refine re_gR (pc := 66) g19_ lfX9_39 rfl (by decide +kernel : decode cX9_copyFrom 66 = .ok (.getfield 39, 3)) ?_
      refine re_iloadn (pc := 69) 2 (by decide +kernel : decode cX9_copyFrom 69 = .ok (.iload_n 2, 1)) rfl ?_
      refine re_aloadn (pc := 70) 1 (by decide +kernel : decode cX9_copyFrom 70 = .ok (.aload_n 1, 1)) rfl ?_
      obtain ⟨a20_, g21_, h⟩ := rv_b_e h
      refine re_gR (pc := 71) g21_ lfX9_39 rfl (by decide +kernel : decode cX9_copyFrom 71 = .ok (.getfield 39, 3)) ?_
      refine re_iloadn (pc := 74) 2 (by decide +kernel : decode cX9_copyFrom 74 = .ok (.iload_n 2, 1)) rfl ?_
      obtain ⟨x22_, g23_, h⟩ := rv_b_e h
      refine re_aI (pc := 75) g23_ (by decide +kernel : decode cX9_copyFrom 75 = .ok (.iaload, 1)) ?_
      obtain ⟨S24_, g25_, h⟩ := rv_b_e h
      refine re_uI (pc := 76) g25_ (by decide +kernel : decode cX9_copyFrom 76 = .ok (.iastore, 1)) ?_
      obtain ⟨x26_, g27_, h⟩ := rv_lt_e h
      refine re_iinc (pc := 77) 2 x26_ (lv1 := [(2, .int x26_), (0, .ref a0), (1, .ref a1)]) (by decide +kernel : decode cX9_copyFrom 77 = .ok (.iinc 2 1, 3)) rfl g27_ (by decide) rfl ?_
      refine re_goto (pc := 80) 35 (by decide +kernel : decode cX9_copyFrom 80 = .ok (.goto (-45), 3)) (by decide) ?_
      refine re_sub [1, 2, 0] (lv1 := [(0, .ref a0), (1, .ref a1), (2, .int x26_)]) rfl ?_
      exact ih S24_ a0 a1 x26_ _ h
noncomputable def fnX9_copyFrom (n : Nat) (S : rvS) (a0 : Nat) (a1 : Nat) : Option rvS :=
  (rv_gR S 8 a0 0).bind fun a1_ =>
  (rv_gR S 8 a1 0).bind fun a3_ =>
  (rv_ck S 0 a1_).bind fun u5_ =>
  (fnX1_copyFrom n S a1_ a3_).bind fun S8_ =>
  (rv_gR S8_ 8 a0 1).bind fun a11_ =>
  (rv_gR S8_ 8 a1 1).bind fun a13_ =>
  (rv_ck S8_ 5 a11_).bind fun u15_ =>
  (fnX6_copyFrom n S8_ a11_ a13_).bind fun S18_ =>
  (rv_gR S18_ 8 a0 2).bind fun a21_ =>
  (rv_gR S18_ 8 a1 2).bind fun a23_ =>
  (rv_ck S18_ 6 a21_).bind fun u25_ =>
  (fnX7_copyFrom n S18_ a21_ a23_).bind fun S28_ =>
  cX9_copyFrom_35 n n S28_ a0 a1 (0 : Int32)
set_option maxRecDepth 20000 in
set_option maxHeartbeats 4000000 in
theorem eX9_copyFrom_in (n : Nat) (S : rvS) (a0 : Nat) (a1 : Nat) (S' : rvS) (h : fnX9_copyFrom n S a0 a1 = some S') : rv_Ev mX9_copyFrom 1 0 [(0, .ref a0), (1, .ref a1)] [] S none S' := by
  unfold fnX9_copyFrom at h
  refine re_aloadn (pc := 0) 0 (by decide +kernel : decode cX9_copyFrom 0 = .ok (.aload_n 0, 1)) rfl ?_
  obtain ⟨a1_, g2_, h⟩ := rv_b_e h
  refine re_gR (pc := 1) g2_ lfX9_12 rfl (by decide +kernel : decode cX9_copyFrom 1 = .ok (.getfield 12, 3)) ?_
  refine re_aloadn (pc := 4) 1 (by decide +kernel : decode cX9_copyFrom 4 = .ok (.aload_n 1, 1)) rfl ?_
  obtain ⟨a3_, g4_, h⟩ := rv_b_e h
  refine re_gR (pc := 5) g4_ lfX9_12 rfl (by decide +kernel : decode cX9_copyFrom 5 = .ok (.getfield 12, 3)) ?_
  obtain ⟨u5_, g6_, h⟩ := rv_b_e h
  obtain ⟨S8_, g9_, h⟩ := rv_b_e h
  have m7_ := metX1_copyFrom n S a1_ a3_ _ g9_
  have z10_ : rv_same S S8_ := m7_.sh rfl
  refine re_cV (pc := 8) [.ref a3_] m7_ (rv_okl.k z10_) (rv_up.sh z10_) (by decide) (rv_ck_e g6_) ⟨by decide, rfl⟩ (Nat.le_of_ble_eq_true rfl) lVX9_62 rfl (by decide +kernel : decode cX9_copyFrom 8 = .ok (.invokevirtual 62, 3)) ?_
  refine re_aloadn (pc := 11) 0 (by decide +kernel : decode cX9_copyFrom 11 = .ok (.aload_n 0, 1)) rfl ?_
  obtain ⟨a11_, g12_, h⟩ := rv_b_e h
  refine re_gR (pc := 12) g12_ lfX9_21 rfl (by decide +kernel : decode cX9_copyFrom 12 = .ok (.getfield 21, 3)) ?_
  refine re_aloadn (pc := 15) 1 (by decide +kernel : decode cX9_copyFrom 15 = .ok (.aload_n 1, 1)) rfl ?_
  obtain ⟨a13_, g14_, h⟩ := rv_b_e h
  refine re_gR (pc := 16) g14_ lfX9_21 rfl (by decide +kernel : decode cX9_copyFrom 16 = .ok (.getfield 21, 3)) ?_
  obtain ⟨u15_, g16_, h⟩ := rv_b_e h
  obtain ⟨S18_, g19_, h⟩ := rv_b_e h
  have m17_ := metX6_copyFrom n S8_ a11_ a13_ _ g19_
  have z20_ : rv_same S8_ S18_ := m17_.sh rfl
  refine re_cV (pc := 19) [.ref a13_] m17_ (rv_okl.k z20_) (rv_up.sh z20_) (by decide) (rv_ck_e g16_) ⟨by decide, rfl⟩ (Nat.le_of_ble_eq_true rfl) lVX9_66 rfl (by decide +kernel : decode cX9_copyFrom 19 = .ok (.invokevirtual 66, 3)) ?_
  refine re_aloadn (pc := 22) 0 (by decide +kernel : decode cX9_copyFrom 22 = .ok (.aload_n 0, 1)) rfl ?_
  obtain ⟨a21_, g22_, h⟩ := rv_b_e h
  refine re_gR (pc := 23) g22_ lfX9_28 rfl (by decide +kernel : decode cX9_copyFrom 23 = .ok (.getfield 28, 3)) ?_
  refine re_aloadn (pc := 26) 1 (by decide +kernel : decode cX9_copyFrom 26 = .ok (.aload_n 1, 1)) rfl ?_
  obtain ⟨a23_, g24_, h⟩ := rv_b_e h
  refine re_gR (pc := 27) g24_ lfX9_28 rfl (by decide +kernel : decode cX9_copyFrom 27 = .ok (.getfield 28, 3)) ?_
  obtain ⟨u25_, g26_, h⟩ := rv_b_e h
  obtain ⟨S28_, g29_, h⟩ := rv_b_e h
  have m27_ := metX7_copyFrom n S18_ a21_ a23_ _ g29_
  have z30_ : rv_same S18_ S28_ := m27_.sh rfl
  refine re_cV (pc := 30) [.ref a23_] m27_ (rv_okl.k z30_) (rv_up.sh z30_) (by decide) (rv_ck_e g26_) ⟨by decide, rfl⟩ (Nat.le_of_ble_eq_true rfl) lVX9_69 rfl (by decide +kernel : decode cX9_copyFrom 30 = .ok (.invokevirtual 69, 3)) ?_
  refine re_iconst (pc := 33) (0 : Int32) (by decide +kernel : decode cX9_copyFrom 33 = .ok (.iconst 0, 1)) (by decide) ?_
  refine re_istoren (pc := 34) (lv1 := [(2, .int (0 : Int32)), (0, .ref a0), (1, .ref a1)]) (by decide +kernel : decode cX9_copyFrom 34 = .ok (.istore_n 2, 1)) rfl (by decide) rfl ?_
  refine re_sub [1, 2, 0] (lv1 := [(0, .ref a0), (1, .ref a1), (2, .int (0 : Int32))]) rfl ?_
  exact eX9_copyFrom_35 n n S28_ a0 a1 (0 : Int32) _ h
theorem metX9_copyFrom (n : Nat) (S : rvS) (a0 : Nat) (a1 : Nat) (S' : rvS) (h : fnX9_copyFrom n S a0 a1 = some S') : rv_Met yX9_copyFrom mX9_copyFrom 1 [.ref a0, .ref a1] S none S' := rv_Met.of ⟨by decide +kernel, rfl, (fun z => by first | rfl | cases z), rfl⟩ (Nat.le_of_ble_eq_true rfl) rfl (eX9_copyFrom_in n S a0 a1 S' h)
noncomputable def fnX9_owe (n : Nat) (S : rvS) (a0 : Nat) (x1 : Int32) (x2 : Int32) (x3 : Int32) : Option rvS :=
  (rv_gI S 8 a0 6).bind fun x1_ =>
  if (12 : Int32) ≤ x1_ then (
    some S)
  else (
    (rv_gR S 8 a0 3).bind fun a4_ =>
    (rv_gI S 8 a0 6).bind fun x6_ =>
    (rv_uI S a4_ x6_ x1).bind fun S8_ =>
    (rv_gR S8_ 8 a0 4).bind fun a10_ =>
    (rv_gI S8_ 8 a0 6).bind fun x12_ =>
    (rv_uI S8_ a10_ x12_ x2).bind fun S14_ =>
    (rv_gR S14_ 8 a0 5).bind fun a16_ =>
    (rv_gI S14_ 8 a0 6).bind fun x18_ =>
    (rv_uI S14_ a16_ x18_ x3).bind fun S20_ =>
    (rv_gI S20_ 8 a0 6).bind fun x22_ =>
    (rv_pI S20_ 8 a0 6 (x22_ + (1 : Int32))).bind fun S24_ =>
    some S24_)
set_option maxRecDepth 20000 in
set_option maxHeartbeats 4000000 in
theorem eX9_owe_in (n : Nat) (S : rvS) (a0 : Nat) (x1 : Int32) (x2 : Int32) (x3 : Int32) (S' : rvS) (h : fnX9_owe n S a0 x1 x2 x3 = some S') : rv_Ev mX9_owe 0 0 [(0, .ref a0), (1, .int x1), (2, .int x2), (3, .int x3)] [] S none S' := by
  unfold fnX9_owe at h
  refine re_aloadn (pc := 0) 0 (by decide +kernel : decode cX9_owe 0 = .ok (.aload_n 0, 1)) rfl ?_
  obtain ⟨x1_, g2_, h⟩ := rv_b_e h
  refine re_gI (pc := 1) g2_ lfX9_56 rfl (by decide +kernel : decode cX9_owe 1 = .ok (.getfield 56, 3)) ?_
  refine re_bipush (pc := 4) (12 : Int32) (by decide +kernel : decode cX9_owe 4 = .ok (.bipush 12, 2)) (by decide) ?_
  rcases rv_if_e h with ⟨g3_, h⟩ | ⟨g3_, h⟩
  · refine re_icmp_ge_t (pc := 6) 49 (by decide +kernel : decode cX9_owe 6 = .ok (.if_icmp .ge 43, 3)) (by decide) g3_ ?_
    cases h
    exact re_vret (by decide +kernel : decode cX9_owe 49 = .ok (.return_, 1))
  · refine re_icmp_ge_f (pc := 6) 49 (by decide +kernel : decode cX9_owe 6 = .ok (.if_icmp .ge 43, 3)) (by decide) g3_ ?_
    refine re_aloadn (pc := 9) 0 (by decide +kernel : decode cX9_owe 9 = .ok (.aload_n 0, 1)) rfl ?_
    obtain ⟨a4_, g5_, h⟩ := rv_b_e h
    refine re_gR (pc := 10) g5_ lfX9_32 rfl (by decide +kernel : decode cX9_owe 10 = .ok (.getfield 32, 3)) ?_
    refine re_aloadn (pc := 13) 0 (by decide +kernel : decode cX9_owe 13 = .ok (.aload_n 0, 1)) rfl ?_
    obtain ⟨x6_, g7_, h⟩ := rv_b_e h
    refine re_gI (pc := 14) g7_ lfX9_56 rfl (by decide +kernel : decode cX9_owe 14 = .ok (.getfield 56, 3)) ?_
    refine re_iloadn (pc := 17) 1 (by decide +kernel : decode cX9_owe 17 = .ok (.iload_n 1, 1)) rfl ?_
    obtain ⟨S8_, g9_, h⟩ := rv_b_e h
    refine re_uI (pc := 18) g9_ (by decide +kernel : decode cX9_owe 18 = .ok (.iastore, 1)) ?_
    refine re_aloadn (pc := 19) 0 (by decide +kernel : decode cX9_owe 19 = .ok (.aload_n 0, 1)) rfl ?_
    obtain ⟨a10_, g11_, h⟩ := rv_b_e h
    refine re_gR (pc := 20) g11_ lfX9_36 rfl (by decide +kernel : decode cX9_owe 20 = .ok (.getfield 36, 3)) ?_
    refine re_aloadn (pc := 23) 0 (by decide +kernel : decode cX9_owe 23 = .ok (.aload_n 0, 1)) rfl ?_
    obtain ⟨x12_, g13_, h⟩ := rv_b_e h
    refine re_gI (pc := 24) g13_ lfX9_56 rfl (by decide +kernel : decode cX9_owe 24 = .ok (.getfield 56, 3)) ?_
    refine re_iloadn (pc := 27) 2 (by decide +kernel : decode cX9_owe 27 = .ok (.iload_n 2, 1)) rfl ?_
    obtain ⟨S14_, g15_, h⟩ := rv_b_e h
    refine re_uI (pc := 28) g15_ (by decide +kernel : decode cX9_owe 28 = .ok (.iastore, 1)) ?_
    refine re_aloadn (pc := 29) 0 (by decide +kernel : decode cX9_owe 29 = .ok (.aload_n 0, 1)) rfl ?_
    obtain ⟨a16_, g17_, h⟩ := rv_b_e h
    refine re_gR (pc := 30) g17_ lfX9_39 rfl (by decide +kernel : decode cX9_owe 30 = .ok (.getfield 39, 3)) ?_
    refine re_aloadn (pc := 33) 0 (by decide +kernel : decode cX9_owe 33 = .ok (.aload_n 0, 1)) rfl ?_
    obtain ⟨x18_, g19_, h⟩ := rv_b_e h
    refine re_gI (pc := 34) g19_ lfX9_56 rfl (by decide +kernel : decode cX9_owe 34 = .ok (.getfield 56, 3)) ?_
    refine re_iloadn (pc := 37) 3 (by decide +kernel : decode cX9_owe 37 = .ok (.iload_n 3, 1)) rfl ?_
    obtain ⟨S20_, g21_, h⟩ := rv_b_e h
    refine re_uI (pc := 38) g21_ (by decide +kernel : decode cX9_owe 38 = .ok (.iastore, 1)) ?_
    refine re_aloadn (pc := 39) 0 (by decide +kernel : decode cX9_owe 39 = .ok (.aload_n 0, 1)) rfl ?_
    refine re_dup (pc := 40) (by decide +kernel : decode cX9_owe 40 = .ok (.dup, 1)) rfl ?_
    obtain ⟨x22_, g23_, h⟩ := rv_b_e h
    refine re_gI (pc := 41) g23_ lfX9_56 rfl (by decide +kernel : decode cX9_owe 41 = .ok (.getfield 56, 3)) ?_
    refine re_iconst (pc := 44) (1 : Int32) (by decide +kernel : decode cX9_owe 44 = .ok (.iconst 1, 1)) (by decide) ?_
    refine re_iadd (pc := 45) (by decide +kernel : decode cX9_owe 45 = .ok (.iadd, 1)) ?_
    obtain ⟨S24_, g25_, h⟩ := rv_b_e h
    refine re_pI (pc := 46) g25_ lfX9_56 rfl rfl rfl rfl (by decide +kernel : decode cX9_owe 46 = .ok (.putfield 56, 3)) ?_
    cases h
    exact re_vret (by decide +kernel : decode cX9_owe 49 = .ok (.return_, 1))
theorem metX9_owe (n : Nat) (S : rvS) (a0 : Nat) (x1 : Int32) (x2 : Int32) (x3 : Int32) (S' : rvS) (h : fnX9_owe n S a0 x1 x2 x3 = some S') : rv_Met yX9_owe mX9_owe 0 [.ref a0, .int x1, .int x2, .int x3] S none S' := rv_Met.of ⟨by decide +kernel, rfl, (fun z => by first | rfl | cases z), rfl⟩ (Nat.le_of_ble_eq_true rfl) rfl (eX9_owe_in n S a0 x1 x2 x3 S' h)
noncomputable def cX9_stuckCoins_4 (n : Nat) (S : rvS) : Nat → Nat → Int64 → Int32 → Option Int64
  | 0, _, _, _ => none
  | k + 1, a0, x1, x3 =>
    (rv_gR S 8 a0 1).bind fun a1_ =>
    (rv_gI S 5 a1_ 0).bind fun x3_ =>
    if x3_ ≤ x3 then (
      some x1)
    else (
      (rv_ck S 8 a0).bind fun u6_ =>
      (fnX9_goers n S a0 x3).bind fun x9_ =>
      if x9_ = 0 then (
        rv_lt (x1 ||| ((1 : Int64) <<< (x3.toInt64 &&& 63))) fun x14_ =>
        rv_lt (x3 + (1)) fun x16_ =>
        cX9_stuckCoins_4 n S k a0 x14_ x16_)
      else (
        rv_lt (x3 + (1)) fun x12_ =>
        cX9_stuckCoins_4 n S k a0 x1 x12_))
set_option maxRecDepth 20000 in
set_option maxHeartbeats 4000000 in
theorem eX9_stuckCoins_4 (n : Nat) (S : rvS) : ∀ (k : Nat) (a0 : Nat) (x1 : Int64) (x3 : Int32) (r : Int64), cX9_stuckCoins_4 n S k a0 x1 x3 = some r → rv_Ev mX9_stuckCoins 3 4 [(0, .ref a0), (1, .long x1), (3, .int x3)] [] S (some (.long r)) S := by
  intro k
  induction k with
  | zero => intro a0 x1 x3 r h; exact absurd h (by simp [cX9_stuckCoins_4])
  | succ k ih =>
    intro a0 x1 x3 r h
    unfold cX9_stuckCoins_4 at h
    refine re_iloadn (pc := 4) 2 (by decide +kernel : decode cX9_stuckCoins 4 = .ok (.iload_n 3, 1)) rfl ?_
    refine re_aloadn (pc := 5) 0 (by decide +kernel : decode cX9_stuckCoins 5 = .ok (.aload_n 0, 1)) rfl ?_
    obtain ⟨a1_, g2_, h⟩ := rv_b_e h
    refine re_gR (pc := 6) g2_ lfX9_21 rfl (by decide +kernel : decode cX9_stuckCoins 6 = .ok (.getfield 21, 3)) ?_
    obtain ⟨x3_, g4_, h⟩ := rv_b_e h
    refine re_gI (pc := 9) g4_ lfX9_108 rfl (by decide +kernel : decode cX9_stuckCoins 9 = .ok (.getfield 108, 3)) ?_
    rcases rv_if_e h with ⟨g5_, h⟩ | ⟨g5_, h⟩
    · refine re_icmp_ge_t (pc := 12) 35 (by decide +kernel : decode cX9_stuckCoins 12 = .ok (.if_icmp .ge 23, 3)) (by decide) g5_ ?_
      refine re_lloadn (pc := 35) 1 (by decide +kernel : decode cX9_stuckCoins 35 = .ok (.lload_n 1, 1)) rfl ?_
      cases h
      exact re_lret (by decide +kernel : decode cX9_stuckCoins 36 = .ok (.lreturn, 1))
    · refine re_icmp_ge_f (pc := 12) 35 (by decide +kernel : decode cX9_stuckCoins 12 = .ok (.if_icmp .ge 23, 3)) (by decide) g5_ ?_
      refine re_aloadn (pc := 15) 0 (by decide +kernel : decode cX9_stuckCoins 15 = .ok (.aload_n 0, 1)) rfl ?_
      refine re_iloadn (pc := 16) 2 (by decide +kernel : decode cX9_stuckCoins 16 = .ok (.iload_n 3, 1)) rfl ?_
      obtain ⟨u6_, g7_, h⟩ := rv_b_e h
      obtain ⟨x9_, g10_, h⟩ := rv_b_e h
      have m8_ := metX9_goers n S a0 x3 _ g10_
      refine re_cV (pc := 17) [.int x3] m8_ (rv_okl.k ⟨rfl, rfl⟩) (rv_up.rf _ _) (by decide) (rv_ck_e g7_) ⟨by decide, rfl⟩ (Nat.le_of_ble_eq_true rfl) lVX9_111 rfl (by decide +kernel : decode cX9_stuckCoins 17 = .ok (.invokevirtual 111, 3)) ?_
      rcases rv_if_e h with ⟨g11_, h⟩ | ⟨g11_, h⟩
      · refine re_if_ne_f (pc := 20) 29 (by decide +kernel : decode cX9_stuckCoins 20 = .ok (.ifCond .ne 9, 3)) (by decide) g11_ ?_
        refine re_lloadn (pc := 23) 1 (by decide +kernel : decode cX9_stuckCoins 23 = .ok (.lload_n 1, 1)) rfl ?_
        refine re_lconst (pc := 24) (1 : Int64) (by decide +kernel : decode cX9_stuckCoins 24 = .ok (.lconst 1, 1)) (by decide) ?_
        refine re_iloadn (pc := 25) 2 (by decide +kernel : decode cX9_stuckCoins 25 = .ok (.iload_n 3, 1)) rfl ?_
        refine re_lshl (pc := 26) (by decide +kernel : decode cX9_stuckCoins 26 = .ok (.lshl, 1)) ?_
        refine re_lor (pc := 27) (by decide +kernel : decode cX9_stuckCoins 27 = .ok (.lor, 1)) ?_
        obtain ⟨x14_, g15_, h⟩ := rv_lt_e h
        refine re_nL (pc := 28) g15_ ?_
        refine re_lstoren (pc := 28) (lv1 := [(1, .long x14_), (0, .ref a0), (3, .int x3)]) (by decide +kernel : decode cX9_stuckCoins 28 = .ok (.lstore_n 1, 1)) rfl (by decide) rfl ?_
        obtain ⟨x16_, g17_, h⟩ := rv_lt_e h
        refine re_iinc (pc := 29) 2 x16_ (lv1 := [(3, .int x16_), (1, .long x14_), (0, .ref a0)]) (by decide +kernel : decode cX9_stuckCoins 29 = .ok (.iinc 3 1, 3)) rfl g17_ (by decide) rfl ?_
        refine re_goto (pc := 32) 4 (by decide +kernel : decode cX9_stuckCoins 32 = .ok (.goto (-28), 3)) (by decide) ?_
        refine re_sub [2, 1, 0] (lv1 := [(0, .ref a0), (1, .long x14_), (3, .int x16_)]) rfl ?_
        exact ih a0 x14_ x16_ _ h
      · refine re_if_ne_t (pc := 20) 29 (by decide +kernel : decode cX9_stuckCoins 20 = .ok (.ifCond .ne 9, 3)) (by decide) g11_ ?_
        obtain ⟨x12_, g13_, h⟩ := rv_lt_e h
        refine re_iinc (pc := 29) 2 x12_ (lv1 := [(3, .int x12_), (0, .ref a0), (1, .long x1)]) (by decide +kernel : decode cX9_stuckCoins 29 = .ok (.iinc 3 1, 3)) rfl g13_ (by decide) rfl ?_
        refine re_goto (pc := 32) 4 (by decide +kernel : decode cX9_stuckCoins 32 = .ok (.goto (-28), 3)) (by decide) ?_
        refine re_sub [1, 2, 0] (lv1 := [(0, .ref a0), (1, .long x1), (3, .int x12_)]) rfl ?_
        exact ih a0 x1 x12_ _ h
noncomputable def fnX9_stuckCoins (n : Nat) (S : rvS) (a0 : Nat) : Option Int64 :=
  cX9_stuckCoins_4 n S n a0 (0 : Int64) (0 : Int32)
set_option maxRecDepth 20000 in
set_option maxHeartbeats 4000000 in
theorem eX9_stuckCoins_in (n : Nat) (S : rvS) (a0 : Nat) (r : Int64) (h : fnX9_stuckCoins n S a0 = some r) : rv_Ev mX9_stuckCoins 3 0 [(0, .ref a0)] [] S (some (.long r)) S := by
  unfold fnX9_stuckCoins at h
  refine re_lconst (pc := 0) (0 : Int64) (by decide +kernel : decode cX9_stuckCoins 0 = .ok (.lconst 0, 1)) (by decide) ?_
  refine re_lstoren (pc := 1) (lv1 := [(1, .long (0 : Int64)), (0, .ref a0)]) (by decide +kernel : decode cX9_stuckCoins 1 = .ok (.lstore_n 1, 1)) rfl (by decide) rfl ?_
  refine re_iconst (pc := 2) (0 : Int32) (by decide +kernel : decode cX9_stuckCoins 2 = .ok (.iconst 0, 1)) (by decide) ?_
  refine re_istoren (pc := 3) (lv1 := [(3, .int (0 : Int32)), (1, .long (0 : Int64)), (0, .ref a0)]) (by decide +kernel : decode cX9_stuckCoins 3 = .ok (.istore_n 3, 1)) rfl (by decide) rfl ?_
  refine re_sub [2, 1, 0] (lv1 := [(0, .ref a0), (1, .long (0 : Int64)), (3, .int (0 : Int32))]) rfl ?_
  exact eX9_stuckCoins_4 n S n a0 (0 : Int64) (0 : Int32) _ h
theorem metX9_stuckCoins (n : Nat) (S : rvS) (a0 : Nat) (r : Int64) (h : fnX9_stuckCoins n S a0 = some r) : rv_Met yX9_stuckCoins mX9_stuckCoins 3 [.ref a0] S (some (.long r)) S := rv_Met.of ⟨by decide +kernel, rfl, (fun z => by first | rfl | cases z), rfl⟩ (Nat.le_of_ble_eq_true rfl) rfl (eX9_stuckCoins_in n S a0 r h)
noncomputable def cX9_freedIn_11 (n : Nat) (S : rvS) : Nat → Nat → Int32 → Int64 → Int32 → Int32 → Option Int32
  | 0, _, _, _, _, _ => none
  | k + 1, a0, x1, x2, x4, x5 =>
    (rv_gR S 8 a0 1).bind fun a1_ =>
    (rv_gI S 5 a1_ 0).bind fun x3_ =>
    if x3_ ≤ x5 then (
      some x4)
    else (
      if (lg_cmp (((x2.toUInt64 >>> (x5.toInt64.toUInt64 &&& Int64.toUInt64 63)).toInt64) &&& (1 : Int64)) (0 : Int64)) = 0 then (
        rv_lt (x5 + (1)) fun x7_ =>
        cX9_freedIn_11 n S k a0 x1 x2 x4 x7_)
      else (
        (rv_gR S 8 a0 0).bind fun a9_ =>
        (rv_gR S 8 a0 0).bind fun a11_ =>
        (rv_gR S 8 a0 1).bind fun a13_ =>
        (rv_gR S 5 a13_ 3).bind fun a15_ =>
        (rv_aI S 0 a15_ x5).bind fun x17_ =>
        (rv_ck S 0 a11_).bind fun u19_ =>
        (fnX1_villageOf n S a11_ x17_).bind fun x22_ =>
        (rv_ck S 0 a9_).bind fun u24_ =>
        (fnX1_areNear n S a9_ x1 x22_).bind fun x27_ =>
        if x27_ = 0 then (
          rv_lt (x5 + (1)) fun x30_ =>
          cX9_freedIn_11 n S k a0 x1 x2 x4 x30_)
        else (
          rv_lt (x4 + (1)) fun x32_ =>
          rv_lt (x5 + (1)) fun x34_ =>
          cX9_freedIn_11 n S k a0 x1 x2 x32_ x34_)))
set_option maxRecDepth 20000 in
set_option maxHeartbeats 4000000 in
theorem eX9_freedIn_11 (n : Nat) (S : rvS) : ∀ (k : Nat) (a0 : Nat) (x1 : Int32) (x2 : Int64) (x4 : Int32) (x5 : Int32) (r : Int32), cX9_freedIn_11 n S k a0 x1 x2 x4 x5 = some r → rv_Ev mX9_freedIn 4 11 [(0, .ref a0), (1, .int x1), (2, .long x2), (4, .int x4), (5, .int x5)] [] S (some (.int r)) S := by
  intro k
  induction k with
  | zero => intro a0 x1 x2 x4 x5 r h; exact absurd h (by simp [cX9_freedIn_11])
  | succ k ih =>
    intro a0 x1 x2 x4 x5 r h
    unfold cX9_freedIn_11 at h
    refine re_iload (pc := 11) 4 (by decide +kernel : decode cX9_freedIn 11 = .ok (.iload 5, 2)) rfl ?_
    refine re_aloadn (pc := 13) 0 (by decide +kernel : decode cX9_freedIn 13 = .ok (.aload_n 0, 1)) rfl ?_
    obtain ⟨a1_, g2_, h⟩ := rv_b_e h
    refine re_gR (pc := 14) g2_ lfX9_21 rfl (by decide +kernel : decode cX9_freedIn 14 = .ok (.getfield 21, 3)) ?_
    obtain ⟨x3_, g4_, h⟩ := rv_b_e h
    refine re_gI (pc := 17) g4_ lfX9_108 rfl (by decide +kernel : decode cX9_freedIn 17 = .ok (.getfield 108, 3)) ?_
    rcases rv_if_e h with ⟨g5_, h⟩ | ⟨g5_, h⟩
    · refine re_icmp_ge_t (pc := 20) 71 (by decide +kernel : decode cX9_freedIn 20 = .ok (.if_icmp .ge 51, 3)) (by decide) g5_ ?_
      refine re_iload (pc := 71) 3 (by decide +kernel : decode cX9_freedIn 71 = .ok (.iload 4, 2)) rfl ?_
      cases h
      exact re_iret (fun ty hty => by cases hty; rfl) (by decide +kernel : decode cX9_freedIn 73 = .ok (.ireturn, 1))
    · refine re_icmp_ge_f (pc := 20) 71 (by decide +kernel : decode cX9_freedIn 20 = .ok (.if_icmp .ge 51, 3)) (by decide) g5_ ?_
      refine re_lloadn (pc := 23) 2 (by decide +kernel : decode cX9_freedIn 23 = .ok (.lload_n 2, 1)) rfl ?_
      refine re_iload (pc := 24) 4 (by decide +kernel : decode cX9_freedIn 24 = .ok (.iload 5, 2)) rfl ?_
      refine re_lushr (pc := 26) (by decide +kernel : decode cX9_freedIn 26 = .ok (.lushr, 1)) ?_
      refine re_lconst (pc := 27) (1 : Int64) (by decide +kernel : decode cX9_freedIn 27 = .ok (.lconst 1, 1)) (by decide) ?_
      refine re_land (pc := 28) (by decide +kernel : decode cX9_freedIn 28 = .ok (.land, 1)) ?_
      refine re_lconst (pc := 29) (0 : Int64) (by decide +kernel : decode cX9_freedIn 29 = .ok (.lconst 0, 1)) (by decide) ?_
      refine re_lcmp (pc := 30) (by decide +kernel : decode cX9_freedIn 30 = .ok (.lcmp, 1)) ?_
      rcases rv_if_e h with ⟨g6_, h⟩ | ⟨g6_, h⟩
      · refine re_if_eq_t (pc := 31) 65 (by decide +kernel : decode cX9_freedIn 31 = .ok (.ifCond .eq 34, 3)) (by decide) g6_ ?_
        obtain ⟨x7_, g8_, h⟩ := rv_lt_e h
        refine re_iinc (pc := 65) 4 x7_ (lv1 := [(5, .int x7_), (0, .ref a0), (1, .int x1), (2, .long x2), (4, .int x4)]) (by decide +kernel : decode cX9_freedIn 65 = .ok (.iinc 5 1, 3)) rfl g8_ (by decide) rfl ?_
        refine re_goto (pc := 68) 11 (by decide +kernel : decode cX9_freedIn 68 = .ok (.goto (-57), 3)) (by decide) ?_
        refine re_sub [1, 2, 3, 4, 0] (lv1 := [(0, .ref a0), (1, .int x1), (2, .long x2), (4, .int x4), (5, .int x7_)]) rfl ?_
        exact ih a0 x1 x2 x4 x7_ _ h
      · refine re_if_eq_f (pc := 31) 65 (by decide +kernel : decode cX9_freedIn 31 = .ok (.ifCond .eq 34, 3)) (by decide) g6_ ?_
        refine re_aloadn (pc := 34) 0 (by decide +kernel : decode cX9_freedIn 34 = .ok (.aload_n 0, 1)) rfl ?_
        obtain ⟨a9_, g10_, h⟩ := rv_b_e h
        refine re_gR (pc := 35) g10_ lfX9_12 rfl (by decide +kernel : decode cX9_freedIn 35 = .ok (.getfield 12, 3)) ?_
        refine re_iloadn (pc := 38) 1 (by decide +kernel : decode cX9_freedIn 38 = .ok (.iload_n 1, 1)) rfl ?_
        refine re_aloadn (pc := 39) 0 (by decide +kernel : decode cX9_freedIn 39 = .ok (.aload_n 0, 1)) rfl ?_
        obtain ⟨a11_, g12_, h⟩ := rv_b_e h
        refine re_gR (pc := 40) g12_ lfX9_12 rfl (by decide +kernel : decode cX9_freedIn 40 = .ok (.getfield 12, 3)) ?_
        refine re_aloadn (pc := 43) 0 (by decide +kernel : decode cX9_freedIn 43 = .ok (.aload_n 0, 1)) rfl ?_
        obtain ⟨a13_, g14_, h⟩ := rv_b_e h
        refine re_gR (pc := 44) g14_ lfX9_21 rfl (by decide +kernel : decode cX9_freedIn 44 = .ok (.getfield 21, 3)) ?_
        obtain ⟨a15_, g16_, h⟩ := rv_b_e h
        refine re_gR (pc := 47) g16_ lfX9_76 rfl (by decide +kernel : decode cX9_freedIn 47 = .ok (.getfield 76, 3)) ?_
        refine re_iload (pc := 50) 4 (by decide +kernel : decode cX9_freedIn 50 = .ok (.iload 5, 2)) rfl ?_
        obtain ⟨x17_, g18_, h⟩ := rv_b_e h
        refine re_aI (pc := 52) g18_ (by decide +kernel : decode cX9_freedIn 52 = .ok (.iaload, 1)) ?_
        obtain ⟨u19_, g20_, h⟩ := rv_b_e h
        obtain ⟨x22_, g23_, h⟩ := rv_b_e h
        have m21_ := metX1_villageOf n S a11_ x17_ _ g23_
        refine re_cV (pc := 53) [.int x17_] m21_ (rv_okl.k ⟨rfl, rfl⟩) (rv_up.rf _ _) (by decide) (rv_ck_e g20_) ⟨by decide, rfl⟩ (Nat.le_of_ble_eq_true rfl) lVX9_101 rfl (by decide +kernel : decode cX9_freedIn 53 = .ok (.invokevirtual 101, 3)) ?_
        obtain ⟨u24_, g25_, h⟩ := rv_b_e h
        obtain ⟨x27_, g28_, h⟩ := rv_b_e h
        have m26_ := metX1_areNear n S a9_ x1 x22_ _ g28_
        refine re_cV (pc := 56) [.int x1, .int x22_] m26_ (rv_okl.k ⟨rfl, rfl⟩) (rv_up.rf _ _) (by decide) (rv_ck_e g25_) ⟨by decide, rfl⟩ (Nat.le_of_ble_eq_true rfl) lVX9_105 rfl (by decide +kernel : decode cX9_freedIn 56 = .ok (.invokevirtual 105, 3)) ?_
        rcases rv_if_e h with ⟨g29_, h⟩ | ⟨g29_, h⟩
        · refine re_if_eq_t (pc := 59) 65 (by decide +kernel : decode cX9_freedIn 59 = .ok (.ifCond .eq 6, 3)) (by decide) g29_ ?_
          obtain ⟨x30_, g31_, h⟩ := rv_lt_e h
          refine re_iinc (pc := 65) 4 x30_ (lv1 := [(5, .int x30_), (0, .ref a0), (1, .int x1), (2, .long x2), (4, .int x4)]) (by decide +kernel : decode cX9_freedIn 65 = .ok (.iinc 5 1, 3)) rfl g31_ (by decide) rfl ?_
          refine re_goto (pc := 68) 11 (by decide +kernel : decode cX9_freedIn 68 = .ok (.goto (-57), 3)) (by decide) ?_
          refine re_sub [1, 2, 3, 4, 0] (lv1 := [(0, .ref a0), (1, .int x1), (2, .long x2), (4, .int x4), (5, .int x30_)]) rfl ?_
          exact ih a0 x1 x2 x4 x30_ _ h
        · refine re_if_eq_f (pc := 59) 65 (by decide +kernel : decode cX9_freedIn 59 = .ok (.ifCond .eq 6, 3)) (by decide) g29_ ?_
          obtain ⟨x32_, g33_, h⟩ := rv_lt_e h
          refine re_iinc (pc := 62) 3 x32_ (lv1 := [(4, .int x32_), (0, .ref a0), (1, .int x1), (2, .long x2), (5, .int x5)]) (by decide +kernel : decode cX9_freedIn 62 = .ok (.iinc 4 1, 3)) rfl g33_ (by decide) rfl ?_
          obtain ⟨x34_, g35_, h⟩ := rv_lt_e h
          refine re_iinc (pc := 65) 4 x34_ (lv1 := [(5, .int x34_), (4, .int x32_), (0, .ref a0), (1, .int x1), (2, .long x2)]) (by decide +kernel : decode cX9_freedIn 65 = .ok (.iinc 5 1, 3)) rfl g35_ (by decide) rfl ?_
          refine re_goto (pc := 68) 11 (by decide +kernel : decode cX9_freedIn 68 = .ok (.goto (-57), 3)) (by decide) ?_
          refine re_sub [2, 3, 4, 1, 0] (lv1 := [(0, .ref a0), (1, .int x1), (2, .long x2), (4, .int x32_), (5, .int x34_)]) rfl ?_
          exact ih a0 x1 x2 x32_ x34_ _ h
noncomputable def fnX9_freedIn (n : Nat) (S : rvS) (a0 : Nat) (x1 : Int32) : Option Int32 :=
  (rv_ck S 8 a0).bind fun u1_ =>
  (fnX9_stuckCoins n S a0).bind fun x4_ =>
  cX9_freedIn_11 n S n a0 x1 x4_ (0 : Int32) (0 : Int32)
set_option maxRecDepth 20000 in
set_option maxHeartbeats 4000000 in
theorem eX9_freedIn_in (n : Nat) (S : rvS) (a0 : Nat) (x1 : Int32) (r : Int32) (h : fnX9_freedIn n S a0 x1 = some r) : rv_Ev mX9_freedIn 4 0 [(0, .ref a0), (1, .int x1)] [] S (some (.int r)) S := by
  unfold fnX9_freedIn at h
  refine re_aloadn (pc := 0) 0 (by decide +kernel : decode cX9_freedIn 0 = .ok (.aload_n 0, 1)) rfl ?_
  obtain ⟨u1_, g2_, h⟩ := rv_b_e h
  obtain ⟨x4_, g5_, h⟩ := rv_b_e h
  have m3_ := metX9_stuckCoins n S a0 _ g5_
  refine re_cV (pc := 1) [] m3_ (rv_okl.k ⟨rfl, rfl⟩) (rv_up.rf _ _) (by decide) (rv_ck_e g2_) ⟨by decide, rfl⟩ (Nat.le_of_ble_eq_true rfl) lVX9_113 rfl (by decide +kernel : decode cX9_freedIn 1 = .ok (.invokevirtual 113, 3)) ?_
  refine re_lstoren (pc := 4) (lv1 := [(2, .long x4_), (0, .ref a0), (1, .int x1)]) (by decide +kernel : decode cX9_freedIn 4 = .ok (.lstore_n 2, 1)) rfl (by decide) rfl ?_
  refine re_iconst (pc := 5) (0 : Int32) (by decide +kernel : decode cX9_freedIn 5 = .ok (.iconst 0, 1)) (by decide) ?_
  refine re_istore (pc := 6) (lv1 := [(4, .int (0 : Int32)), (2, .long x4_), (0, .ref a0), (1, .int x1)]) (by decide +kernel : decode cX9_freedIn 6 = .ok (.istore 4, 2)) (by decide) rfl ?_
  refine re_iconst (pc := 8) (0 : Int32) (by decide +kernel : decode cX9_freedIn 8 = .ok (.iconst 0, 1)) (by decide) ?_
  refine re_istore (pc := 9) (lv1 := [(5, .int (0 : Int32)), (4, .int (0 : Int32)), (2, .long x4_), (0, .ref a0), (1, .int x1)]) (by decide +kernel : decode cX9_freedIn 9 = .ok (.istore 5, 2)) (by decide) rfl ?_
  refine re_sub [3, 4, 2, 1, 0] (lv1 := [(0, .ref a0), (1, .int x1), (2, .long x4_), (4, .int (0 : Int32)), (5, .int (0 : Int32))]) rfl ?_
  exact eX9_freedIn_11 n S n a0 x1 x4_ (0 : Int32) (0 : Int32) _ h
theorem metX9_freedIn (n : Nat) (S : rvS) (a0 : Nat) (x1 : Int32) (r : Int32) (h : fnX9_freedIn n S a0 x1 = some r) : rv_Met yX9_freedIn mX9_freedIn 4 [.ref a0, .int x1] S (some (.int r)) S := rv_Met.of ⟨by decide +kernel, rfl, (fun z => by first | rfl | cases z), rfl⟩ (Nat.le_of_ble_eq_true rfl) rfl (eX9_freedIn_in n S a0 x1 r h)
noncomputable def fnX9_feeFor (n : Nat) (S : rvS) (a0 : Nat) (x1 : Int32) : Option Int32 :=
  (rv_gI S 8 a0 8).bind fun x1_ =>
  if x1_ ≤ 0 then (
    some x1)
  else (
    (rv_gI S 8 a0 8).bind fun x4_ =>
    (rv_gI S 8 a0 8).bind fun x6_ =>
    (rv_nz x6_).bind fun u8_ =>
    some (((x1 + x4_) - (1 : Int32)) / x6_))
set_option maxRecDepth 20000 in
set_option maxHeartbeats 4000000 in
theorem eX9_feeFor_in (n : Nat) (S : rvS) (a0 : Nat) (x1 : Int32) (r : Int32) (h : fnX9_feeFor n S a0 x1 = some r) : rv_Ev mX9_feeFor 0 0 [(0, .ref a0), (1, .int x1)] [] S (some (.int r)) S := by
  unfold fnX9_feeFor at h
  refine re_aloadn (pc := 0) 0 (by decide +kernel : decode cX9_feeFor 0 = .ok (.aload_n 0, 1)) rfl ?_
  obtain ⟨x1_, g2_, h⟩ := rv_b_e h
  refine re_gI (pc := 1) g2_ lfX9_42 rfl (by decide +kernel : decode cX9_feeFor 1 = .ok (.getfield 42, 3)) ?_
  rcases rv_if_e h with ⟨g3_, h⟩ | ⟨g3_, h⟩
  · refine re_if_le_t (pc := 4) 23 (by decide +kernel : decode cX9_feeFor 4 = .ok (.ifCond .le 19, 3)) (by decide) g3_ ?_
    refine re_iloadn (pc := 23) 1 (by decide +kernel : decode cX9_feeFor 23 = .ok (.iload_n 1, 1)) rfl ?_
    cases h
    exact re_iret (fun ty hty => by cases hty; rfl) (by decide +kernel : decode cX9_feeFor 24 = .ok (.ireturn, 1))
  · refine re_if_le_f (pc := 4) 23 (by decide +kernel : decode cX9_feeFor 4 = .ok (.ifCond .le 19, 3)) (by decide) g3_ ?_
    refine re_iloadn (pc := 7) 1 (by decide +kernel : decode cX9_feeFor 7 = .ok (.iload_n 1, 1)) rfl ?_
    refine re_aloadn (pc := 8) 0 (by decide +kernel : decode cX9_feeFor 8 = .ok (.aload_n 0, 1)) rfl ?_
    obtain ⟨x4_, g5_, h⟩ := rv_b_e h
    refine re_gI (pc := 9) g5_ lfX9_42 rfl (by decide +kernel : decode cX9_feeFor 9 = .ok (.getfield 42, 3)) ?_
    refine re_iadd (pc := 12) (by decide +kernel : decode cX9_feeFor 12 = .ok (.iadd, 1)) ?_
    refine re_iconst (pc := 13) (1 : Int32) (by decide +kernel : decode cX9_feeFor 13 = .ok (.iconst 1, 1)) (by decide) ?_
    refine re_isub (pc := 14) (by decide +kernel : decode cX9_feeFor 14 = .ok (.isub, 1)) ?_
    refine re_aloadn (pc := 15) 0 (by decide +kernel : decode cX9_feeFor 15 = .ok (.aload_n 0, 1)) rfl ?_
    obtain ⟨x6_, g7_, h⟩ := rv_b_e h
    refine re_gI (pc := 16) g7_ lfX9_42 rfl (by decide +kernel : decode cX9_feeFor 16 = .ok (.getfield 42, 3)) ?_
    obtain ⟨u8_, g9_, h⟩ := rv_b_e h
    refine re_idiv (pc := 19) (by decide +kernel : decode cX9_feeFor 19 = .ok (.idiv, 1)) (rv_nz_e g9_) ?_
    refine re_goto (pc := 20) 24 (by decide +kernel : decode cX9_feeFor 20 = .ok (.goto 4, 3)) (by decide) ?_
    cases h
    exact re_iret (fun ty hty => by cases hty; rfl) (by decide +kernel : decode cX9_feeFor 24 = .ok (.ireturn, 1))
theorem metX9_feeFor (n : Nat) (S : rvS) (a0 : Nat) (x1 : Int32) (r : Int32) (h : fnX9_feeFor n S a0 x1 = some r) : rv_Met yX9_feeFor mX9_feeFor 0 [.ref a0, .int x1] S (some (.int r)) S := rv_Met.of ⟨by decide +kernel, rfl, (fun z => by first | rfl | cases z), rfl⟩ (Nat.le_of_ble_eq_true rfl) rfl (eX9_feeFor_in n S a0 x1 r h)
noncomputable def fnX9_whyNoChange (n : Nat) (S : rvS) (a0 : Nat) (x1 : Int32) (x2 : Int32) : Option Int32 :=
  (rv_gR S 8 a0 0).bind fun a1_ =>
  (rv_gR S 8 a0 1).bind fun a3_ =>
  (rv_gR S 5 a3_ 3).bind fun a5_ =>
  (rv_aI S 0 a5_ x2).bind fun x7_ =>
  (rv_ck S 0 a1_).bind fun u9_ =>
  (fnX1_isStranger n S a1_ x7_).bind fun x12_ =>
  if x12_ = 0 then (
    some (1 : Int32))
  else (
    (rv_gR S 8 a0 1).bind fun a15_ =>
    (rv_gR S 5 a15_ 3).bind fun a17_ =>
    (rv_aI S 0 a17_ x2).bind fun x19_ =>
    (rv_ck S 8 a0).bind fun u21_ =>
    (fnX9_whyNot n S a0 x1 x19_).bind fun x24_ =>
    if x24_ = 0 then (
      (rv_gR S 8 a0 1).bind fun a27_ =>
      (rv_gR S 5 a27_ 3).bind fun a29_ =>
      (rv_aI S 0 a29_ x1).bind fun x31_ =>
      (rv_ck S 8 a0).bind fun u33_ =>
      (fnX9_whyNot n S a0 x2 x31_).bind fun x36_ =>
      if x36_ = 0 then (
        (rv_gR S 8 a0 1).bind fun a39_ =>
        (rv_gR S 5 a39_ 2).bind fun a41_ =>
        (rv_aI S 0 a41_ x2).bind fun x43_ =>
        (rv_gR S 8 a0 1).bind fun a45_ =>
        (rv_gR S 5 a45_ 2).bind fun a47_ =>
        (rv_aI S 0 a47_ x1).bind fun x49_ =>
        (rv_gR S 8 a0 1).bind fun a51_ =>
        (rv_gR S 5 a51_ 2).bind fun a53_ =>
        (rv_aI S 0 a53_ x1).bind fun x55_ =>
        (rv_ck S 8 a0).bind fun u57_ =>
        (fnX9_feeFor n S a0 x55_).bind fun x60_ =>
        if x43_ ≤ (x49_ - x60_) then (
          some (0 : Int32))
        else (
          some (4 : Int32)))
      else (
        some (3 : Int32)))
    else (
      some (2 : Int32)))
set_option maxRecDepth 20000 in
set_option maxHeartbeats 4000000 in
theorem eX9_whyNoChange_in (n : Nat) (S : rvS) (a0 : Nat) (x1 : Int32) (x2 : Int32) (r : Int32) (h : fnX9_whyNoChange n S a0 x1 x2 = some r) : rv_Ev mX9_whyNoChange 4 0 [(0, .ref a0), (1, .int x1), (2, .int x2)] [] S (some (.int r)) S := by
  unfold fnX9_whyNoChange at h
  refine re_aloadn (pc := 0) 0 (by decide +kernel : decode cX9_whyNoChange 0 = .ok (.aload_n 0, 1)) rfl ?_
  obtain ⟨a1_, g2_, h⟩ := rv_b_e h
  refine re_gR (pc := 1) g2_ lfX9_12 rfl (by decide +kernel : decode cX9_whyNoChange 1 = .ok (.getfield 12, 3)) ?_
  refine re_aloadn (pc := 4) 0 (by decide +kernel : decode cX9_whyNoChange 4 = .ok (.aload_n 0, 1)) rfl ?_
  obtain ⟨a3_, g4_, h⟩ := rv_b_e h
  refine re_gR (pc := 5) g4_ lfX9_21 rfl (by decide +kernel : decode cX9_whyNoChange 5 = .ok (.getfield 21, 3)) ?_
  obtain ⟨a5_, g6_, h⟩ := rv_b_e h
  refine re_gR (pc := 8) g6_ lfX9_76 rfl (by decide +kernel : decode cX9_whyNoChange 8 = .ok (.getfield 76, 3)) ?_
  refine re_iloadn (pc := 11) 2 (by decide +kernel : decode cX9_whyNoChange 11 = .ok (.iload_n 2, 1)) rfl ?_
  obtain ⟨x7_, g8_, h⟩ := rv_b_e h
  refine re_aI (pc := 12) g8_ (by decide +kernel : decode cX9_whyNoChange 12 = .ok (.iaload, 1)) ?_
  obtain ⟨u9_, g10_, h⟩ := rv_b_e h
  obtain ⟨x12_, g13_, h⟩ := rv_b_e h
  have m11_ := metX1_isStranger n S a1_ x7_ _ g13_
  refine re_cV (pc := 13) [.int x7_] m11_ (rv_okl.k ⟨rfl, rfl⟩) (rv_up.rf _ _) (by decide) (rv_ck_e g10_) ⟨by decide, rfl⟩ (Nat.le_of_ble_eq_true rfl) lVX9_117 rfl (by decide +kernel : decode cX9_whyNoChange 13 = .ok (.invokevirtual 117, 3)) ?_
  rcases rv_if_e h with ⟨g14_, h⟩ | ⟨g14_, h⟩
  · refine re_if_ne_f (pc := 16) 21 (by decide +kernel : decode cX9_whyNoChange 16 = .ok (.ifCond .ne 5, 3)) (by decide) g14_ ?_
    refine re_iconst (pc := 19) (1 : Int32) (by decide +kernel : decode cX9_whyNoChange 19 = .ok (.iconst 1, 1)) (by decide) ?_
    cases h
    exact re_iret (fun ty hty => by cases hty; rfl) (by decide +kernel : decode cX9_whyNoChange 20 = .ok (.ireturn, 1))
  · refine re_if_ne_t (pc := 16) 21 (by decide +kernel : decode cX9_whyNoChange 16 = .ok (.ifCond .ne 5, 3)) (by decide) g14_ ?_
    refine re_aloadn (pc := 21) 0 (by decide +kernel : decode cX9_whyNoChange 21 = .ok (.aload_n 0, 1)) rfl ?_
    refine re_iloadn (pc := 22) 1 (by decide +kernel : decode cX9_whyNoChange 22 = .ok (.iload_n 1, 1)) rfl ?_
    refine re_aloadn (pc := 23) 0 (by decide +kernel : decode cX9_whyNoChange 23 = .ok (.aload_n 0, 1)) rfl ?_
    obtain ⟨a15_, g16_, h⟩ := rv_b_e h
    refine re_gR (pc := 24) g16_ lfX9_21 rfl (by decide +kernel : decode cX9_whyNoChange 24 = .ok (.getfield 21, 3)) ?_
    obtain ⟨a17_, g18_, h⟩ := rv_b_e h
    refine re_gR (pc := 27) g18_ lfX9_76 rfl (by decide +kernel : decode cX9_whyNoChange 27 = .ok (.getfield 76, 3)) ?_
    refine re_iloadn (pc := 30) 2 (by decide +kernel : decode cX9_whyNoChange 30 = .ok (.iload_n 2, 1)) rfl ?_
    obtain ⟨x19_, g20_, h⟩ := rv_b_e h
    refine re_aI (pc := 31) g20_ (by decide +kernel : decode cX9_whyNoChange 31 = .ok (.iaload, 1)) ?_
    obtain ⟨u21_, g22_, h⟩ := rv_b_e h
    obtain ⟨x24_, g25_, h⟩ := rv_b_e h
    have m23_ := metX9_whyNot n S a0 x1 x19_ _ g25_
    refine re_cV (pc := 32) [.int x1, .int x19_] m23_ (rv_okl.k ⟨rfl, rfl⟩) (rv_up.rf _ _) (by decide) (rv_ck_e g22_) ⟨by decide, rfl⟩ (Nat.le_of_ble_eq_true rfl) lVX9_120 rfl (by decide +kernel : decode cX9_whyNoChange 32 = .ok (.invokevirtual 120, 3)) ?_
    rcases rv_if_e h with ⟨g26_, h⟩ | ⟨g26_, h⟩
    · refine re_if_eq_t (pc := 35) 40 (by decide +kernel : decode cX9_whyNoChange 35 = .ok (.ifCond .eq 5, 3)) (by decide) g26_ ?_
      refine re_aloadn (pc := 40) 0 (by decide +kernel : decode cX9_whyNoChange 40 = .ok (.aload_n 0, 1)) rfl ?_
      refine re_iloadn (pc := 41) 2 (by decide +kernel : decode cX9_whyNoChange 41 = .ok (.iload_n 2, 1)) rfl ?_
      refine re_aloadn (pc := 42) 0 (by decide +kernel : decode cX9_whyNoChange 42 = .ok (.aload_n 0, 1)) rfl ?_
      obtain ⟨a27_, g28_, h⟩ := rv_b_e h
      refine re_gR (pc := 43) g28_ lfX9_21 rfl (by decide +kernel : decode cX9_whyNoChange 43 = .ok (.getfield 21, 3)) ?_
      obtain ⟨a29_, g30_, h⟩ := rv_b_e h
      refine re_gR (pc := 46) g30_ lfX9_76 rfl (by decide +kernel : decode cX9_whyNoChange 46 = .ok (.getfield 76, 3)) ?_
      refine re_iloadn (pc := 49) 1 (by decide +kernel : decode cX9_whyNoChange 49 = .ok (.iload_n 1, 1)) rfl ?_
      obtain ⟨x31_, g32_, h⟩ := rv_b_e h
      refine re_aI (pc := 50) g32_ (by decide +kernel : decode cX9_whyNoChange 50 = .ok (.iaload, 1)) ?_
      obtain ⟨u33_, g34_, h⟩ := rv_b_e h
      obtain ⟨x36_, g37_, h⟩ := rv_b_e h
      have m35_ := metX9_whyNot n S a0 x2 x31_ _ g37_
      refine re_cV (pc := 51) [.int x2, .int x31_] m35_ (rv_okl.k ⟨rfl, rfl⟩) (rv_up.rf _ _) (by decide) (rv_ck_e g34_) ⟨by decide, rfl⟩ (Nat.le_of_ble_eq_true rfl) lVX9_120 rfl (by decide +kernel : decode cX9_whyNoChange 51 = .ok (.invokevirtual 120, 3)) ?_
      rcases rv_if_e h with ⟨g38_, h⟩ | ⟨g38_, h⟩
      · refine re_if_eq_t (pc := 54) 59 (by decide +kernel : decode cX9_whyNoChange 54 = .ok (.ifCond .eq 5, 3)) (by decide) g38_ ?_
        refine re_aloadn (pc := 59) 0 (by decide +kernel : decode cX9_whyNoChange 59 = .ok (.aload_n 0, 1)) rfl ?_
        obtain ⟨a39_, g40_, h⟩ := rv_b_e h
        refine re_gR (pc := 60) g40_ lfX9_21 rfl (by decide +kernel : decode cX9_whyNoChange 60 = .ok (.getfield 21, 3)) ?_
        obtain ⟨a41_, g42_, h⟩ := rv_b_e h
        refine re_gR (pc := 63) g42_ lfX9_122 rfl (by decide +kernel : decode cX9_whyNoChange 63 = .ok (.getfield 122, 3)) ?_
        refine re_iloadn (pc := 66) 2 (by decide +kernel : decode cX9_whyNoChange 66 = .ok (.iload_n 2, 1)) rfl ?_
        obtain ⟨x43_, g44_, h⟩ := rv_b_e h
        refine re_aI (pc := 67) g44_ (by decide +kernel : decode cX9_whyNoChange 67 = .ok (.iaload, 1)) ?_
        refine re_aloadn (pc := 68) 0 (by decide +kernel : decode cX9_whyNoChange 68 = .ok (.aload_n 0, 1)) rfl ?_
        obtain ⟨a45_, g46_, h⟩ := rv_b_e h
        refine re_gR (pc := 69) g46_ lfX9_21 rfl (by decide +kernel : decode cX9_whyNoChange 69 = .ok (.getfield 21, 3)) ?_
        obtain ⟨a47_, g48_, h⟩ := rv_b_e h
        refine re_gR (pc := 72) g48_ lfX9_122 rfl (by decide +kernel : decode cX9_whyNoChange 72 = .ok (.getfield 122, 3)) ?_
        refine re_iloadn (pc := 75) 1 (by decide +kernel : decode cX9_whyNoChange 75 = .ok (.iload_n 1, 1)) rfl ?_
        obtain ⟨x49_, g50_, h⟩ := rv_b_e h
        refine re_aI (pc := 76) g50_ (by decide +kernel : decode cX9_whyNoChange 76 = .ok (.iaload, 1)) ?_
        refine re_aloadn (pc := 77) 0 (by decide +kernel : decode cX9_whyNoChange 77 = .ok (.aload_n 0, 1)) rfl ?_
        refine re_aloadn (pc := 78) 0 (by decide +kernel : decode cX9_whyNoChange 78 = .ok (.aload_n 0, 1)) rfl ?_
        obtain ⟨a51_, g52_, h⟩ := rv_b_e h
        refine re_gR (pc := 79) g52_ lfX9_21 rfl (by decide +kernel : decode cX9_whyNoChange 79 = .ok (.getfield 21, 3)) ?_
        obtain ⟨a53_, g54_, h⟩ := rv_b_e h
        refine re_gR (pc := 82) g54_ lfX9_122 rfl (by decide +kernel : decode cX9_whyNoChange 82 = .ok (.getfield 122, 3)) ?_
        refine re_iloadn (pc := 85) 1 (by decide +kernel : decode cX9_whyNoChange 85 = .ok (.iload_n 1, 1)) rfl ?_
        obtain ⟨x55_, g56_, h⟩ := rv_b_e h
        refine re_aI (pc := 86) g56_ (by decide +kernel : decode cX9_whyNoChange 86 = .ok (.iaload, 1)) ?_
        obtain ⟨u57_, g58_, h⟩ := rv_b_e h
        obtain ⟨x60_, g61_, h⟩ := rv_b_e h
        have m59_ := metX9_feeFor n S a0 x55_ _ g61_
        refine re_cV (pc := 87) [.int x55_] m59_ (rv_okl.k ⟨rfl, rfl⟩) (rv_up.rf _ _) (by decide) (rv_ck_e g58_) ⟨by decide, rfl⟩ (Nat.le_of_ble_eq_true rfl) lVX9_125 rfl (by decide +kernel : decode cX9_whyNoChange 87 = .ok (.invokevirtual 125, 3)) ?_
        refine re_isub (pc := 90) (by decide +kernel : decode cX9_whyNoChange 90 = .ok (.isub, 1)) ?_
        rcases rv_if_e h with ⟨g62_, h⟩ | ⟨g62_, h⟩
        · refine re_icmp_le_t (pc := 91) 98 (by decide +kernel : decode cX9_whyNoChange 91 = .ok (.if_icmp .le 7, 3)) (by decide) g62_ ?_
          refine re_iconst (pc := 98) (0 : Int32) (by decide +kernel : decode cX9_whyNoChange 98 = .ok (.iconst 0, 1)) (by decide) ?_
          cases h
          exact re_iret (fun ty hty => by cases hty; rfl) (by decide +kernel : decode cX9_whyNoChange 99 = .ok (.ireturn, 1))
        · refine re_icmp_le_f (pc := 91) 98 (by decide +kernel : decode cX9_whyNoChange 91 = .ok (.if_icmp .le 7, 3)) (by decide) g62_ ?_
          refine re_iconst (pc := 94) (4 : Int32) (by decide +kernel : decode cX9_whyNoChange 94 = .ok (.iconst 4, 1)) (by decide) ?_
          refine re_goto (pc := 95) 99 (by decide +kernel : decode cX9_whyNoChange 95 = .ok (.goto 4, 3)) (by decide) ?_
          cases h
          exact re_iret (fun ty hty => by cases hty; rfl) (by decide +kernel : decode cX9_whyNoChange 99 = .ok (.ireturn, 1))
      · refine re_if_eq_f (pc := 54) 59 (by decide +kernel : decode cX9_whyNoChange 54 = .ok (.ifCond .eq 5, 3)) (by decide) g38_ ?_
        refine re_iconst (pc := 57) (3 : Int32) (by decide +kernel : decode cX9_whyNoChange 57 = .ok (.iconst 3, 1)) (by decide) ?_
        cases h
        exact re_iret (fun ty hty => by cases hty; rfl) (by decide +kernel : decode cX9_whyNoChange 58 = .ok (.ireturn, 1))
    · refine re_if_eq_f (pc := 35) 40 (by decide +kernel : decode cX9_whyNoChange 35 = .ok (.ifCond .eq 5, 3)) (by decide) g26_ ?_
      refine re_iconst (pc := 38) (2 : Int32) (by decide +kernel : decode cX9_whyNoChange 38 = .ok (.iconst 2, 1)) (by decide) ?_
      cases h
      exact re_iret (fun ty hty => by cases hty; rfl) (by decide +kernel : decode cX9_whyNoChange 39 = .ok (.ireturn, 1))
theorem metX9_whyNoChange (n : Nat) (S : rvS) (a0 : Nat) (x1 : Int32) (x2 : Int32) (r : Int32) (h : fnX9_whyNoChange n S a0 x1 x2 = some r) : rv_Met yX9_whyNoChange mX9_whyNoChange 4 [.ref a0, .int x1, .int x2] S (some (.int r)) S := rv_Met.of ⟨by decide +kernel, rfl, (fun z => by first | rfl | cases z), rfl⟩ (Nat.le_of_ble_eq_true rfl) rfl (eX9_whyNoChange_in n S a0 x1 x2 r h)
noncomputable def fnX9_swap (n : Nat) (S : rvS) (a0 : Nat) (x1 : Int32) (x2 : Int32) : Option rvS :=
  (rv_gR S 8 a0 1).bind fun a1_ =>
  (rv_gR S 5 a1_ 3).bind fun a3_ =>
  (rv_aI S 0 a3_ x1).bind fun x5_ =>
  (rv_gR S 8 a0 1).bind fun a7_ =>
  (rv_gR S 5 a7_ 3).bind fun a9_ =>
  (rv_aI S 0 a9_ x2).bind fun x11_ =>
  (rv_gR S 8 a0 0).bind fun a13_ =>
  (rv_gR S 8 a0 1).bind fun a15_ =>
  (rv_gR S 5 a15_ 2).bind fun a17_ =>
  (rv_aI S 0 a17_ x1).bind fun x19_ =>
  (rv_gR S 8 a0 1).bind fun a21_ =>
  (rv_gR S 5 a21_ 2).bind fun a23_ =>
  (rv_aI S 0 a23_ x2).bind fun x25_ =>
  (rv_ck S 0 a13_).bind fun u27_ =>
  (fnX1_earn n S a13_ x11_ (x19_ - x25_)).bind fun S30_ =>
  (rv_gR S30_ 8 a0 1).bind fun a33_ =>
  (rv_ck S30_ 5 a33_).bind fun u35_ =>
  (fnX6_move n S30_ a33_ x1 x11_).bind fun S38_ =>
  (rv_gR S38_ 8 a0 1).bind fun a41_ =>
  (rv_ck S38_ 5 a41_).bind fun u43_ =>
  (fnX6_move n S38_ a41_ x2 x5_).bind fun S46_ =>
  some S46_
set_option maxRecDepth 20000 in
set_option maxHeartbeats 4000000 in
theorem eX9_swap_in (n : Nat) (S : rvS) (a0 : Nat) (x1 : Int32) (x2 : Int32) (S' : rvS) (h : fnX9_swap n S a0 x1 x2 = some S') : rv_Ev mX9_swap 2 0 [(0, .ref a0), (1, .int x1), (2, .int x2)] [] S none S' := by
  unfold fnX9_swap at h
  refine re_aloadn (pc := 0) 0 (by decide +kernel : decode cX9_swap 0 = .ok (.aload_n 0, 1)) rfl ?_
  obtain ⟨a1_, g2_, h⟩ := rv_b_e h
  refine re_gR (pc := 1) g2_ lfX9_21 rfl (by decide +kernel : decode cX9_swap 1 = .ok (.getfield 21, 3)) ?_
  obtain ⟨a3_, g4_, h⟩ := rv_b_e h
  refine re_gR (pc := 4) g4_ lfX9_76 rfl (by decide +kernel : decode cX9_swap 4 = .ok (.getfield 76, 3)) ?_
  refine re_iloadn (pc := 7) 1 (by decide +kernel : decode cX9_swap 7 = .ok (.iload_n 1, 1)) rfl ?_
  obtain ⟨x5_, g6_, h⟩ := rv_b_e h
  refine re_aI (pc := 8) g6_ (by decide +kernel : decode cX9_swap 8 = .ok (.iaload, 1)) ?_
  refine re_istoren (pc := 9) (lv1 := [(3, .int x5_), (0, .ref a0), (1, .int x1), (2, .int x2)]) (by decide +kernel : decode cX9_swap 9 = .ok (.istore_n 3, 1)) rfl (by decide) rfl ?_
  refine re_aloadn (pc := 10) 1 (by decide +kernel : decode cX9_swap 10 = .ok (.aload_n 0, 1)) rfl ?_
  obtain ⟨a7_, g8_, h⟩ := rv_b_e h
  refine re_gR (pc := 11) g8_ lfX9_21 rfl (by decide +kernel : decode cX9_swap 11 = .ok (.getfield 21, 3)) ?_
  obtain ⟨a9_, g10_, h⟩ := rv_b_e h
  refine re_gR (pc := 14) g10_ lfX9_76 rfl (by decide +kernel : decode cX9_swap 14 = .ok (.getfield 76, 3)) ?_
  refine re_iloadn (pc := 17) 3 (by decide +kernel : decode cX9_swap 17 = .ok (.iload_n 2, 1)) rfl ?_
  obtain ⟨x11_, g12_, h⟩ := rv_b_e h
  refine re_aI (pc := 18) g12_ (by decide +kernel : decode cX9_swap 18 = .ok (.iaload, 1)) ?_
  refine re_istore (pc := 19) (lv1 := [(4, .int x11_), (3, .int x5_), (0, .ref a0), (1, .int x1), (2, .int x2)]) (by decide +kernel : decode cX9_swap 19 = .ok (.istore 4, 2)) (by decide) rfl ?_
  refine re_aloadn (pc := 21) 2 (by decide +kernel : decode cX9_swap 21 = .ok (.aload_n 0, 1)) rfl ?_
  obtain ⟨a13_, g14_, h⟩ := rv_b_e h
  refine re_gR (pc := 22) g14_ lfX9_12 rfl (by decide +kernel : decode cX9_swap 22 = .ok (.getfield 12, 3)) ?_
  refine re_iload (pc := 25) 0 (by decide +kernel : decode cX9_swap 25 = .ok (.iload 4, 2)) rfl ?_
  refine re_aloadn (pc := 27) 2 (by decide +kernel : decode cX9_swap 27 = .ok (.aload_n 0, 1)) rfl ?_
  obtain ⟨a15_, g16_, h⟩ := rv_b_e h
  refine re_gR (pc := 28) g16_ lfX9_21 rfl (by decide +kernel : decode cX9_swap 28 = .ok (.getfield 21, 3)) ?_
  obtain ⟨a17_, g18_, h⟩ := rv_b_e h
  refine re_gR (pc := 31) g18_ lfX9_122 rfl (by decide +kernel : decode cX9_swap 31 = .ok (.getfield 122, 3)) ?_
  refine re_iloadn (pc := 34) 3 (by decide +kernel : decode cX9_swap 34 = .ok (.iload_n 1, 1)) rfl ?_
  obtain ⟨x19_, g20_, h⟩ := rv_b_e h
  refine re_aI (pc := 35) g20_ (by decide +kernel : decode cX9_swap 35 = .ok (.iaload, 1)) ?_
  refine re_aloadn (pc := 36) 2 (by decide +kernel : decode cX9_swap 36 = .ok (.aload_n 0, 1)) rfl ?_
  obtain ⟨a21_, g22_, h⟩ := rv_b_e h
  refine re_gR (pc := 37) g22_ lfX9_21 rfl (by decide +kernel : decode cX9_swap 37 = .ok (.getfield 21, 3)) ?_
  obtain ⟨a23_, g24_, h⟩ := rv_b_e h
  refine re_gR (pc := 40) g24_ lfX9_122 rfl (by decide +kernel : decode cX9_swap 40 = .ok (.getfield 122, 3)) ?_
  refine re_iloadn (pc := 43) 4 (by decide +kernel : decode cX9_swap 43 = .ok (.iload_n 2, 1)) rfl ?_
  obtain ⟨x25_, g26_, h⟩ := rv_b_e h
  refine re_aI (pc := 44) g26_ (by decide +kernel : decode cX9_swap 44 = .ok (.iaload, 1)) ?_
  refine re_isub (pc := 45) (by decide +kernel : decode cX9_swap 45 = .ok (.isub, 1)) ?_
  obtain ⟨u27_, g28_, h⟩ := rv_b_e h
  obtain ⟨S30_, g31_, h⟩ := rv_b_e h
  have m29_ := metX1_earn n S a13_ x11_ (x19_ - x25_) _ g31_
  have z32_ : rv_same S S30_ := m29_.sh rfl
  refine re_cV (pc := 46) [.int x11_, .int (x19_ - x25_)] m29_ (rv_okl.k z32_) (rv_up.sh z32_) (by decide) (rv_ck_e g28_) ⟨by decide, rfl⟩ (Nat.le_of_ble_eq_true rfl) lVX9_128 rfl (by decide +kernel : decode cX9_swap 46 = .ok (.invokevirtual 128, 3)) ?_
  refine re_aloadn (pc := 49) 2 (by decide +kernel : decode cX9_swap 49 = .ok (.aload_n 0, 1)) rfl ?_
  obtain ⟨a33_, g34_, h⟩ := rv_b_e h
  refine re_gR (pc := 50) g34_ lfX9_21 rfl (by decide +kernel : decode cX9_swap 50 = .ok (.getfield 21, 3)) ?_
  refine re_iloadn (pc := 53) 3 (by decide +kernel : decode cX9_swap 53 = .ok (.iload_n 1, 1)) rfl ?_
  refine re_iload (pc := 54) 0 (by decide +kernel : decode cX9_swap 54 = .ok (.iload 4, 2)) rfl ?_
  obtain ⟨u35_, g36_, h⟩ := rv_b_e h
  obtain ⟨S38_, g39_, h⟩ := rv_b_e h
  have m37_ := metX6_move n S30_ a33_ x1 x11_ _ g39_
  have z40_ : rv_same S30_ S38_ := m37_.sh rfl
  refine re_cV (pc := 56) [.int x1, .int x11_] m37_ (rv_okl.k z40_) (rv_up.sh z40_) (by decide) (rv_ck_e g36_) ⟨by decide, rfl⟩ (Nat.le_of_ble_eq_true rfl) lVX9_132 rfl (by decide +kernel : decode cX9_swap 56 = .ok (.invokevirtual 132, 3)) ?_
  refine re_aloadn (pc := 59) 2 (by decide +kernel : decode cX9_swap 59 = .ok (.aload_n 0, 1)) rfl ?_
  obtain ⟨a41_, g42_, h⟩ := rv_b_e h
  refine re_gR (pc := 60) g42_ lfX9_21 rfl (by decide +kernel : decode cX9_swap 60 = .ok (.getfield 21, 3)) ?_
  refine re_iloadn (pc := 63) 4 (by decide +kernel : decode cX9_swap 63 = .ok (.iload_n 2, 1)) rfl ?_
  refine re_iloadn (pc := 64) 1 (by decide +kernel : decode cX9_swap 64 = .ok (.iload_n 3, 1)) rfl ?_
  obtain ⟨u43_, g44_, h⟩ := rv_b_e h
  obtain ⟨S46_, g47_, h⟩ := rv_b_e h
  have m45_ := metX6_move n S38_ a41_ x2 x5_ _ g47_
  have z48_ : rv_same S38_ S46_ := m45_.sh rfl
  refine re_cV (pc := 65) [.int x2, .int x5_] m45_ (rv_okl.k z48_) (rv_up.sh z48_) (by decide) (rv_ck_e g44_) ⟨by decide, rfl⟩ (Nat.le_of_ble_eq_true rfl) lVX9_132 rfl (by decide +kernel : decode cX9_swap 65 = .ok (.invokevirtual 132, 3)) ?_
  cases h
  exact re_vret (by decide +kernel : decode cX9_swap 68 = .ok (.return_, 1))
theorem metX9_swap (n : Nat) (S : rvS) (a0 : Nat) (x1 : Int32) (x2 : Int32) (S' : rvS) (h : fnX9_swap n S a0 x1 x2 = some S') : rv_Met yX9_swap mX9_swap 2 [.ref a0, .int x1, .int x2] S none S' := rv_Met.of ⟨by decide +kernel, rfl, (fun z => by first | rfl | cases z), rfl⟩ (Nat.le_of_ble_eq_true rfl) rfl (eX9_swap_in n S a0 x1 x2 S' h)
noncomputable def fnX9_goesOnAfterChange (n : Nat) (S : rvS) (a0 : Nat) (x1 : Int32) (x2 : Int32) (x3 : Int32) : Option Int32 :=
  (rv_gR S 8 a0 1).bind fun a1_ =>
  (rv_gR S 8 a0 1).bind fun a3_ =>
  (rv_gR S 5 a3_ 3).bind fun a5_ =>
  (rv_aI S 0 a5_ x2).bind fun x7_ =>
  (rv_gR S 8 a0 1).bind fun a9_ =>
  (rv_gR S 5 a9_ 4).bind fun a11_ =>
  (rv_aI S 0 a11_ x2).bind fun x13_ =>
  (rv_ck S 5 a1_).bind fun u15_ =>
  (fnX6_rimAfter n S a1_ x7_ x13_).bind fun x18_ =>
  (rv_gR S 8 a0 0).bind fun a20_ =>
  (rv_gR S 8 a0 1).bind fun a22_ =>
  (rv_gR S 5 a22_ 3).bind fun a24_ =>
  (rv_aI S 0 a24_ x1).bind fun x26_ =>
  (rv_ck S 0 a20_).bind fun u28_ =>
  (fnX1_whyNot n S a20_ x26_ x18_ x3).bind fun x31_ =>
  if x31_ = 0 then (
    some (1 : Int32))
  else (
    some (0 : Int32))
set_option maxRecDepth 20000 in
set_option maxHeartbeats 4000000 in
theorem eX9_goesOnAfterChange_in (n : Nat) (S : rvS) (a0 : Nat) (x1 : Int32) (x2 : Int32) (x3 : Int32) (r : Int32) (h : fnX9_goesOnAfterChange n S a0 x1 x2 x3 = some r) : rv_Ev mX9_goesOnAfterChange 3 0 [(0, .ref a0), (1, .int x1), (2, .int x2), (3, .int x3)] [] S (some (.int r)) S := by
  unfold fnX9_goesOnAfterChange at h
  refine re_aloadn (pc := 0) 0 (by decide +kernel : decode cX9_goesOnAfterChange 0 = .ok (.aload_n 0, 1)) rfl ?_
  obtain ⟨a1_, g2_, h⟩ := rv_b_e h
  refine re_gR (pc := 1) g2_ lfX9_21 rfl (by decide +kernel : decode cX9_goesOnAfterChange 1 = .ok (.getfield 21, 3)) ?_
  refine re_aloadn (pc := 4) 0 (by decide +kernel : decode cX9_goesOnAfterChange 4 = .ok (.aload_n 0, 1)) rfl ?_
  obtain ⟨a3_, g4_, h⟩ := rv_b_e h
  refine re_gR (pc := 5) g4_ lfX9_21 rfl (by decide +kernel : decode cX9_goesOnAfterChange 5 = .ok (.getfield 21, 3)) ?_
  obtain ⟨a5_, g6_, h⟩ := rv_b_e h
  refine re_gR (pc := 8) g6_ lfX9_76 rfl (by decide +kernel : decode cX9_goesOnAfterChange 8 = .ok (.getfield 76, 3)) ?_
  refine re_iloadn (pc := 11) 2 (by decide +kernel : decode cX9_goesOnAfterChange 11 = .ok (.iload_n 2, 1)) rfl ?_
  obtain ⟨x7_, g8_, h⟩ := rv_b_e h
  refine re_aI (pc := 12) g8_ (by decide +kernel : decode cX9_goesOnAfterChange 12 = .ok (.iaload, 1)) ?_
  refine re_aloadn (pc := 13) 0 (by decide +kernel : decode cX9_goesOnAfterChange 13 = .ok (.aload_n 0, 1)) rfl ?_
  obtain ⟨a9_, g10_, h⟩ := rv_b_e h
  refine re_gR (pc := 14) g10_ lfX9_21 rfl (by decide +kernel : decode cX9_goesOnAfterChange 14 = .ok (.getfield 21, 3)) ?_
  obtain ⟨a11_, g12_, h⟩ := rv_b_e h
  refine re_gR (pc := 17) g12_ lfX9_79 rfl (by decide +kernel : decode cX9_goesOnAfterChange 17 = .ok (.getfield 79, 3)) ?_
  refine re_iloadn (pc := 20) 2 (by decide +kernel : decode cX9_goesOnAfterChange 20 = .ok (.iload_n 2, 1)) rfl ?_
  obtain ⟨x13_, g14_, h⟩ := rv_b_e h
  refine re_aI (pc := 21) g14_ (by decide +kernel : decode cX9_goesOnAfterChange 21 = .ok (.iaload, 1)) ?_
  obtain ⟨u15_, g16_, h⟩ := rv_b_e h
  obtain ⟨x18_, g19_, h⟩ := rv_b_e h
  have m17_ := metX6_rimAfter n S a1_ x7_ x13_ _ g19_
  refine re_cV (pc := 22) [.int x7_, .int x13_] m17_ (rv_okl.k ⟨rfl, rfl⟩) (rv_up.rf _ _) (by decide) (rv_ck_e g16_) ⟨by decide, rfl⟩ (Nat.le_of_ble_eq_true rfl) lVX9_135 rfl (by decide +kernel : decode cX9_goesOnAfterChange 22 = .ok (.invokevirtual 135, 3)) ?_
  refine re_istore (pc := 25) (lv1 := [(4, .int x18_), (0, .ref a0), (1, .int x1), (2, .int x2), (3, .int x3)]) (by decide +kernel : decode cX9_goesOnAfterChange 25 = .ok (.istore 4, 2)) (by decide) rfl ?_
  refine re_aloadn (pc := 27) 1 (by decide +kernel : decode cX9_goesOnAfterChange 27 = .ok (.aload_n 0, 1)) rfl ?_
  obtain ⟨a20_, g21_, h⟩ := rv_b_e h
  refine re_gR (pc := 28) g21_ lfX9_12 rfl (by decide +kernel : decode cX9_goesOnAfterChange 28 = .ok (.getfield 12, 3)) ?_
  refine re_aloadn (pc := 31) 1 (by decide +kernel : decode cX9_goesOnAfterChange 31 = .ok (.aload_n 0, 1)) rfl ?_
  obtain ⟨a22_, g23_, h⟩ := rv_b_e h
  refine re_gR (pc := 32) g23_ lfX9_21 rfl (by decide +kernel : decode cX9_goesOnAfterChange 32 = .ok (.getfield 21, 3)) ?_
  obtain ⟨a24_, g25_, h⟩ := rv_b_e h
  refine re_gR (pc := 35) g25_ lfX9_76 rfl (by decide +kernel : decode cX9_goesOnAfterChange 35 = .ok (.getfield 76, 3)) ?_
  refine re_iloadn (pc := 38) 2 (by decide +kernel : decode cX9_goesOnAfterChange 38 = .ok (.iload_n 1, 1)) rfl ?_
  obtain ⟨x26_, g27_, h⟩ := rv_b_e h
  refine re_aI (pc := 39) g27_ (by decide +kernel : decode cX9_goesOnAfterChange 39 = .ok (.iaload, 1)) ?_
  refine re_iload (pc := 40) 0 (by decide +kernel : decode cX9_goesOnAfterChange 40 = .ok (.iload 4, 2)) rfl ?_
  refine re_iloadn (pc := 42) 4 (by decide +kernel : decode cX9_goesOnAfterChange 42 = .ok (.iload_n 3, 1)) rfl ?_
  obtain ⟨u28_, g29_, h⟩ := rv_b_e h
  obtain ⟨x31_, g32_, h⟩ := rv_b_e h
  have m30_ := metX1_whyNot n S a20_ x26_ x18_ x3 _ g32_
  refine re_cV (pc := 43) [.int x26_, .int x18_, .int x3] m30_ (rv_okl.k ⟨rfl, rfl⟩) (rv_up.rf _ _) (by decide) (rv_ck_e g29_) ⟨by decide, rfl⟩ (Nat.le_of_ble_eq_true rfl) lVX9_86 rfl (by decide +kernel : decode cX9_goesOnAfterChange 43 = .ok (.invokevirtual 86, 3)) ?_
  rcases rv_if_e h with ⟨g33_, h⟩ | ⟨g33_, h⟩
  · refine re_if_ne_f (pc := 46) 53 (by decide +kernel : decode cX9_goesOnAfterChange 46 = .ok (.ifCond .ne 7, 3)) (by decide) g33_ ?_
    refine re_iconst (pc := 49) (1 : Int32) (by decide +kernel : decode cX9_goesOnAfterChange 49 = .ok (.iconst 1, 1)) (by decide) ?_
    refine re_goto (pc := 50) 54 (by decide +kernel : decode cX9_goesOnAfterChange 50 = .ok (.goto 4, 3)) (by decide) ?_
    cases h
    exact re_iret (fun ty hty => by cases hty; rfl) (by decide +kernel : decode cX9_goesOnAfterChange 54 = .ok (.ireturn, 1))
  · refine re_if_ne_t (pc := 46) 53 (by decide +kernel : decode cX9_goesOnAfterChange 46 = .ok (.ifCond .ne 7, 3)) (by decide) g33_ ?_
    refine re_iconst (pc := 53) (0 : Int32) (by decide +kernel : decode cX9_goesOnAfterChange 53 = .ok (.iconst 0, 1)) (by decide) ?_
    cases h
    exact re_iret (fun ty hty => by cases hty; rfl) (by decide +kernel : decode cX9_goesOnAfterChange 54 = .ok (.ireturn, 1))
theorem metX9_goesOnAfterChange (n : Nat) (S : rvS) (a0 : Nat) (x1 : Int32) (x2 : Int32) (x3 : Int32) (r : Int32) (h : fnX9_goesOnAfterChange n S a0 x1 x2 x3 = some r) : rv_Met yX9_goesOnAfterChange mX9_goesOnAfterChange 3 [.ref a0, .int x1, .int x2, .int x3] S (some (.int r)) S := rv_Met.of ⟨by decide +kernel, rfl, (fun z => by first | rfl | cases z), rfl⟩ (Nat.le_of_ble_eq_true rfl) rfl (eX9_goesOnAfterChange_in n S a0 x1 x2 x3 r h)
noncomputable def fnX9_bury (n : Nat) (S : rvS) (a0 : Nat) (x1 : Int32) (x2 : Int32) : Option (Int32 × rvS) :=
  (rv_gR S 8 a0 1).bind fun a1_ =>
  (rv_ck S 5 a1_).bind fun u3_ =>
  (fnX6_coinsOf n S a1_ x1).bind fun x6_ =>
  (fnJ13_bitCount_95d88 n S x6_).bind fun x9_ =>
  (rv_gR S 8 a0 1).bind fun a11_ =>
  (rv_ck S 5 a11_).bind fun u13_ =>
  (fnX6_inherit n S a11_ x1 x2).bind fun S16_ =>
  (rv_gR S16_ 8 a0 0).bind fun a19_ =>
  (rv_ck S16_ 0 a19_).bind fun u21_ =>
  (fnX1_die n S16_ a19_ x1).bind fun S24_ =>
  (rv_gI S24_ 8 a0 9).bind fun x27_ =>
  if x27_ = 0 then (
    (rv_gR S24_ 8 a0 1).bind fun a41_ =>
    (rv_ck S24_ 5 a41_).bind fun u43_ =>
    (fnX6_rename n S24_ a41_ x1 (-1 : Int32)).bind fun S46_ =>
    some (x9_, S46_))
  else (
    (rv_gI S24_ 8 a0 9).bind fun x30_ =>
    if x30_ = (2 : Int32) then (
      (rv_gR S24_ 8 a0 1).bind fun a33_ =>
      (rv_ck S24_ 5 a33_).bind fun u35_ =>
      (fnX6_rename n S24_ a33_ x1 x2).bind fun S38_ =>
      some (x9_, S38_))
    else (
      some (x9_, S24_)))
set_option maxRecDepth 20000 in
set_option maxHeartbeats 4000000 in
theorem eX9_bury_in (n : Nat) (S : rvS) (a0 : Nat) (x1 : Int32) (x2 : Int32) (r : Int32) (S' : rvS) (h : fnX9_bury n S a0 x1 x2 = some (r, S')) : rv_Ev mX9_bury 4 0 [(0, .ref a0), (1, .int x1), (2, .int x2)] [] S (some (.int r)) S' := by
  unfold fnX9_bury at h
  refine re_aloadn (pc := 0) 0 (by decide +kernel : decode cX9_bury 0 = .ok (.aload_n 0, 1)) rfl ?_
  obtain ⟨a1_, g2_, h⟩ := rv_b_e h
  refine re_gR (pc := 1) g2_ lfX9_21 rfl (by decide +kernel : decode cX9_bury 1 = .ok (.getfield 21, 3)) ?_
  refine re_iloadn (pc := 4) 1 (by decide +kernel : decode cX9_bury 4 = .ok (.iload_n 1, 1)) rfl ?_
  obtain ⟨u3_, g4_, h⟩ := rv_b_e h
  obtain ⟨x6_, g7_, h⟩ := rv_b_e h
  have m5_ := metX6_coinsOf n S a1_ x1 _ g7_
  refine re_cV (pc := 5) [.int x1] m5_ (rv_okl.k ⟨rfl, rfl⟩) (rv_up.rf _ _) (by decide) (rv_ck_e g4_) ⟨by decide, rfl⟩ (Nat.le_of_ble_eq_true rfl) lVX9_138 rfl (by decide +kernel : decode cX9_bury 5 = .ok (.invokevirtual 138, 3)) ?_
  obtain ⟨x9_, g10_, h⟩ := rv_b_e h
  have m8_ := metJ13_bitCount_95d88 n S x6_ _ g10_
  refine re_cS (pc := 8) [.long x6_] m8_ (rv_okl.k ⟨rfl, rfl⟩) (rv_up.rf _ _) (by decide) (Nat.le_of_ble_eq_true rfl) lSX9_142 rfl (by decide +kernel : decode cX9_bury 8 = .ok (.invokestatic 142, 3)) ?_
  refine re_istoren (pc := 11) (lv1 := [(3, .int x9_), (0, .ref a0), (1, .int x1), (2, .int x2)]) (by decide +kernel : decode cX9_bury 11 = .ok (.istore_n 3, 1)) rfl (by decide) rfl ?_
  refine re_aloadn (pc := 12) 1 (by decide +kernel : decode cX9_bury 12 = .ok (.aload_n 0, 1)) rfl ?_
  obtain ⟨a11_, g12_, h⟩ := rv_b_e h
  refine re_gR (pc := 13) g12_ lfX9_21 rfl (by decide +kernel : decode cX9_bury 13 = .ok (.getfield 21, 3)) ?_
  refine re_iloadn (pc := 16) 2 (by decide +kernel : decode cX9_bury 16 = .ok (.iload_n 1, 1)) rfl ?_
  refine re_iloadn (pc := 17) 3 (by decide +kernel : decode cX9_bury 17 = .ok (.iload_n 2, 1)) rfl ?_
  obtain ⟨u13_, g14_, h⟩ := rv_b_e h
  obtain ⟨S16_, g17_, h⟩ := rv_b_e h
  have m15_ := metX6_inherit n S a11_ x1 x2 _ g17_
  have z18_ : rv_same S S16_ := m15_.sh rfl
  refine re_cV (pc := 18) [.int x1, .int x2] m15_ (rv_okl.k z18_) (rv_up.sh z18_) (by decide) (rv_ck_e g14_) ⟨by decide, rfl⟩ (Nat.le_of_ble_eq_true rfl) lVX9_148 rfl (by decide +kernel : decode cX9_bury 18 = .ok (.invokevirtual 148, 3)) ?_
  refine re_aloadn (pc := 21) 1 (by decide +kernel : decode cX9_bury 21 = .ok (.aload_n 0, 1)) rfl ?_
  obtain ⟨a19_, g20_, h⟩ := rv_b_e h
  refine re_gR (pc := 22) g20_ lfX9_12 rfl (by decide +kernel : decode cX9_bury 22 = .ok (.getfield 12, 3)) ?_
  refine re_iloadn (pc := 25) 2 (by decide +kernel : decode cX9_bury 25 = .ok (.iload_n 1, 1)) rfl ?_
  obtain ⟨u21_, g22_, h⟩ := rv_b_e h
  obtain ⟨S24_, g25_, h⟩ := rv_b_e h
  have m23_ := metX1_die n S16_ a19_ x1 _ g25_
  have z26_ : rv_same S16_ S24_ := m23_.sh rfl
  refine re_cV (pc := 26) [.int x1] m23_ (rv_okl.k z26_) (rv_up.sh z26_) (by decide) (rv_ck_e g22_) ⟨by decide, rfl⟩ (Nat.le_of_ble_eq_true rfl) lVX9_151 rfl (by decide +kernel : decode cX9_bury 26 = .ok (.invokevirtual 151, 3)) ?_
  refine re_aloadn (pc := 29) 1 (by decide +kernel : decode cX9_bury 29 = .ok (.aload_n 0, 1)) rfl ?_
  obtain ⟨x27_, g28_, h⟩ := rv_b_e h
  refine re_gI (pc := 30) g28_ lfX9_46 rfl (by decide +kernel : decode cX9_bury 30 = .ok (.getfield 46, 3)) ?_
  rcases rv_if_e h with ⟨g29_, h⟩ | ⟨g29_, h⟩
  · refine re_if_ne_f (pc := 33) 48 (by decide +kernel : decode cX9_bury 33 = .ok (.ifCond .ne 15, 3)) (by decide) g29_ ?_
    refine re_aloadn (pc := 36) 1 (by decide +kernel : decode cX9_bury 36 = .ok (.aload_n 0, 1)) rfl ?_
    obtain ⟨a41_, g42_, h⟩ := rv_b_e h
    refine re_gR (pc := 37) g42_ lfX9_21 rfl (by decide +kernel : decode cX9_bury 37 = .ok (.getfield 21, 3)) ?_
    refine re_iloadn (pc := 40) 2 (by decide +kernel : decode cX9_bury 40 = .ok (.iload_n 1, 1)) rfl ?_
    refine re_iconst (pc := 41) (-1 : Int32) (by decide +kernel : decode cX9_bury 41 = .ok (.iconst (-1), 1)) (by decide) ?_
    obtain ⟨u43_, g44_, h⟩ := rv_b_e h
    obtain ⟨S46_, g47_, h⟩ := rv_b_e h
    have m45_ := metX6_rename n S24_ a41_ x1 (-1 : Int32) _ g47_
    have z48_ : rv_same S24_ S46_ := m45_.sh rfl
    refine re_cV (pc := 42) [.int x1, .int (-1 : Int32)] m45_ (rv_okl.k z48_) (rv_up.sh z48_) (by decide) (rv_ck_e g44_) ⟨by decide, rfl⟩ (Nat.le_of_ble_eq_true rfl) lVX9_155 rfl (by decide +kernel : decode cX9_bury 42 = .ok (.invokevirtual 155, 3)) ?_
    refine re_goto (pc := 45) 65 (by decide +kernel : decode cX9_bury 45 = .ok (.goto 20, 3)) (by decide) ?_
    refine re_iloadn (pc := 65) 0 (by decide +kernel : decode cX9_bury 65 = .ok (.iload_n 3, 1)) rfl ?_
    cases h
    exact re_iret (fun ty hty => by cases hty; rfl) (by decide +kernel : decode cX9_bury 66 = .ok (.ireturn, 1))
  · refine re_if_ne_t (pc := 33) 48 (by decide +kernel : decode cX9_bury 33 = .ok (.ifCond .ne 15, 3)) (by decide) g29_ ?_
    refine re_aloadn (pc := 48) 1 (by decide +kernel : decode cX9_bury 48 = .ok (.aload_n 0, 1)) rfl ?_
    obtain ⟨x30_, g31_, h⟩ := rv_b_e h
    refine re_gI (pc := 49) g31_ lfX9_46 rfl (by decide +kernel : decode cX9_bury 49 = .ok (.getfield 46, 3)) ?_
    refine re_iconst (pc := 52) (2 : Int32) (by decide +kernel : decode cX9_bury 52 = .ok (.iconst 2, 1)) (by decide) ?_
    rcases rv_if_e h with ⟨g32_, h⟩ | ⟨g32_, h⟩
    · refine re_icmp_ne_f (pc := 53) 65 (by decide +kernel : decode cX9_bury 53 = .ok (.if_icmp .ne 12, 3)) (by decide) g32_ ?_
      refine re_aloadn (pc := 56) 1 (by decide +kernel : decode cX9_bury 56 = .ok (.aload_n 0, 1)) rfl ?_
      obtain ⟨a33_, g34_, h⟩ := rv_b_e h
      refine re_gR (pc := 57) g34_ lfX9_21 rfl (by decide +kernel : decode cX9_bury 57 = .ok (.getfield 21, 3)) ?_
      refine re_iloadn (pc := 60) 2 (by decide +kernel : decode cX9_bury 60 = .ok (.iload_n 1, 1)) rfl ?_
      refine re_iloadn (pc := 61) 3 (by decide +kernel : decode cX9_bury 61 = .ok (.iload_n 2, 1)) rfl ?_
      obtain ⟨u35_, g36_, h⟩ := rv_b_e h
      obtain ⟨S38_, g39_, h⟩ := rv_b_e h
      have m37_ := metX6_rename n S24_ a33_ x1 x2 _ g39_
      have z40_ : rv_same S24_ S38_ := m37_.sh rfl
      refine re_cV (pc := 62) [.int x1, .int x2] m37_ (rv_okl.k z40_) (rv_up.sh z40_) (by decide) (rv_ck_e g36_) ⟨by decide, rfl⟩ (Nat.le_of_ble_eq_true rfl) lVX9_155 rfl (by decide +kernel : decode cX9_bury 62 = .ok (.invokevirtual 155, 3)) ?_
      refine re_iloadn (pc := 65) 0 (by decide +kernel : decode cX9_bury 65 = .ok (.iload_n 3, 1)) rfl ?_
      cases h
      exact re_iret (fun ty hty => by cases hty; rfl) (by decide +kernel : decode cX9_bury 66 = .ok (.ireturn, 1))
    · refine re_icmp_ne_t (pc := 53) 65 (by decide +kernel : decode cX9_bury 53 = .ok (.if_icmp .ne 12, 3)) (by decide) g32_ ?_
      refine re_iloadn (pc := 65) 0 (by decide +kernel : decode cX9_bury 65 = .ok (.iload_n 3, 1)) rfl ?_
      cases h
      exact re_iret (fun ty hty => by cases hty; rfl) (by decide +kernel : decode cX9_bury 66 = .ok (.ireturn, 1))
theorem metX9_bury (n : Nat) (S : rvS) (a0 : Nat) (x1 : Int32) (x2 : Int32) (r : Int32) (S' : rvS) (h : fnX9_bury n S a0 x1 x2 = some (r, S')) : rv_Met yX9_bury mX9_bury 4 [.ref a0, .int x1, .int x2] S (some (.int r)) S' := rv_Met.of ⟨by decide +kernel, rfl, (fun z => by first | rfl | cases z), rfl⟩ (Nat.le_of_ble_eq_true rfl) rfl (eX9_bury_in n S a0 x1 x2 r S' h)
noncomputable def fnX10_init (n : Nat) (S : rvS) (a0 : Nat) (a1 : Nat) (a2 : Nat) : Option rvS :=
  (rv_pR S 9 a0 0 a1).bind fun S1_ =>
  (rv_pR S1_ 9 a0 1 a2).bind fun S3_ =>
  some S3_
set_option maxRecDepth 20000 in
set_option maxHeartbeats 4000000 in
theorem eX10_init_in (n : Nat) (S : rvS) (a0 : Nat) (a1 : Nat) (a2 : Nat) (S' : rvS) (h : fnX10_init n S a0 a1 a2 = some S') : rv_Ev mX10_init 1 0 [(0, .ref a0), (1, .ref a1), (2, .ref a2)] [] S none S' := by
  unfold fnX10_init at h
  refine re_aloadn (pc := 0) 0 (by decide +kernel : decode cX10_init 0 = .ok (.aload_n 0, 1)) rfl ?_
  refine re_obj (pc := 1) (rw3 4 (by decide +kernel) rfl) rwoi rwoc (Nat.le_of_ble_eq_true rfl) (by decide) (by decide +kernel : decode cX10_init 1 = .ok (.invokespecial 3, 3)) ?_
  refine re_aloadn (pc := 4) 0 (by decide +kernel : decode cX10_init 4 = .ok (.aload_n 0, 1)) rfl ?_
  refine re_aloadn (pc := 5) 1 (by decide +kernel : decode cX10_init 5 = .ok (.aload_n 1, 1)) rfl ?_
  obtain ⟨S1_, g2_, h⟩ := rv_b_e h
  refine re_pR (pc := 6) g2_ lfX10_9 rfl (Or.inr ⟨rfl, rfl, rfl, (rw3 5 (by decide +kernel) rfl)⟩) (by decide +kernel : decode cX10_init 6 = .ok (.putfield 9, 3)) ?_
  refine re_aloadn (pc := 9) 0 (by decide +kernel : decode cX10_init 9 = .ok (.aload_n 0, 1)) rfl ?_
  refine re_aloadn (pc := 10) 2 (by decide +kernel : decode cX10_init 10 = .ok (.aload_n 2, 1)) rfl ?_
  obtain ⟨S3_, g4_, h⟩ := rv_b_e h
  refine re_pR (pc := 11) g4_ lfX10_15 rfl (Or.inr ⟨rfl, rfl, rfl, (rw3 6 (by decide +kernel) rfl)⟩) (by decide +kernel : decode cX10_init 11 = .ok (.putfield 15, 3)) ?_
  cases h
  exact re_vret (by decide +kernel : decode cX10_init 14 = .ok (.return_, 1))
theorem metX10_init (n : Nat) (S : rvS) (a0 : Nat) (a1 : Nat) (a2 : Nat) (S' : rvS) (h : fnX10_init n S a0 a1 a2 = some S') : rv_Met yX10_init mX10_init 1 [.ref a0, .ref a1, .ref a2] S none S' := rv_Met.of ⟨by decide +kernel, rfl, (fun z => by first | rfl | cases z), rfl⟩ (Nat.le_of_ble_eq_true rfl) rfl (eX10_init_in n S a0 a1 a2 S' h)
noncomputable def cX10_seesNumber_47 (n : Nat) (S : rvS) (a0 : Nat) : Option (Int32 × rvS) :=
  (rv_gR S 9 a0 0).bind fun a1_ =>
  (rv_ck S 7 a1_).bind fun u3_ =>
  rv_bp (fnX8_fail n S a1_ (2 : Int32)) fun x6_ S7_ =>
  if x6_ = 0 then (
    some ((0 : Int32), S7_))
  else (
    some ((1 : Int32), S7_))
set_option maxRecDepth 20000 in
set_option maxHeartbeats 4000000 in
theorem eX10_seesNumber_47 (n : Nat) (S : rvS) (a0 : Nat) (r : Int32) (S' : rvS) (h : cX10_seesNumber_47 n S a0 = some (r, S')) : rv_Ev mX10_seesNumber 1 47 [(0, .ref a0)] [] S (some (.int r)) S' := by
  unfold cX10_seesNumber_47 at h
  refine re_aloadn (pc := 47) 0 (by decide +kernel : decode cX10_seesNumber 47 = .ok (.aload_n 0, 1)) rfl ?_
  obtain ⟨a1_, g2_, h⟩ := rv_b_e h
  refine re_gR (pc := 48) g2_ lfX10_9 rfl (by decide +kernel : decode cX10_seesNumber 48 = .ok (.getfield 9, 3)) ?_
  refine re_iconst (pc := 51) (2 : Int32) (by decide +kernel : decode cX10_seesNumber 51 = .ok (.iconst 2, 1)) (by decide) ?_
  obtain ⟨u3_, g4_, h⟩ := rv_b_e h
  obtain ⟨x6_, S7_, g8_, h⟩ := rv_bp_e h
  have m5_ := metX8_fail n S a1_ (2 : Int32) _ _ g8_
  have z9_ : rv_same S S7_ := m5_.sh rfl
  refine re_cV (pc := 52) [.int (2 : Int32)] m5_ (rv_okl.k z9_) (rv_up.sh z9_) (by decide) (rv_ck_e g4_) ⟨by decide, rfl⟩ (Nat.le_of_ble_eq_true rfl) lVX10_34 rfl (by decide +kernel : decode cX10_seesNumber 52 = .ok (.invokevirtual 34, 3)) ?_
  rcases rv_if_e h with ⟨g10_, h⟩ | ⟨g10_, h⟩
  · refine re_if_eq_t (pc := 55) 62 (by decide +kernel : decode cX10_seesNumber 55 = .ok (.ifCond .eq 7, 3)) (by decide) g10_ ?_
    refine re_iconst (pc := 62) (0 : Int32) (by decide +kernel : decode cX10_seesNumber 62 = .ok (.iconst 0, 1)) (by decide) ?_
    cases h
    exact re_iret (fun ty hty => by cases hty; rfl) (by decide +kernel : decode cX10_seesNumber 63 = .ok (.ireturn, 1))
  · refine re_if_eq_f (pc := 55) 62 (by decide +kernel : decode cX10_seesNumber 55 = .ok (.ifCond .eq 7, 3)) (by decide) g10_ ?_
    refine re_iconst (pc := 58) (1 : Int32) (by decide +kernel : decode cX10_seesNumber 58 = .ok (.iconst 1, 1)) (by decide) ?_
    refine re_goto (pc := 59) 63 (by decide +kernel : decode cX10_seesNumber 59 = .ok (.goto 4, 3)) (by decide) ?_
    cases h
    exact re_iret (fun ty hty => by cases hty; rfl) (by decide +kernel : decode cX10_seesNumber 63 = .ok (.ireturn, 1))
noncomputable def fnX10_seesNumber (n : Nat) (S : rvS) (a0 : Nat) (x1 : Int32) (x2 : Int32) : Option (Int32 × rvS) :=
  (rv_gR S 9 a0 0).bind fun a1_ =>
  (rv_gI S 7 a1_ 4).bind fun x3_ =>
  if x3_ = (3 : Int32) then (
    (rv_gR S 9 a0 0).bind fun a6_ =>
    (rv_gI S 7 a6_ 6).bind fun x8_ =>
    (rv_pI S 9 a0 3 x8_).bind fun S10_ =>
    (rv_gI S10_ 9 a0 3).bind fun x12_ =>
    if x12_ < x1 then (
      cX10_seesNumber_47 n S10_ a0)
    else (
      (rv_gI S10_ 9 a0 3).bind fun x15_ =>
      if x15_ ≤ x2 then (
        some ((1 : Int32), S10_))
      else (
        cX10_seesNumber_47 n S10_ a0)))
  else (
    (rv_gR S 9 a0 0).bind fun a18_ =>
    (rv_ck S 7 a18_).bind fun u20_ =>
    rv_bp (fnX8_fail n S a18_ (1 : Int32)) fun x23_ S24_ =>
    (rv_bo x23_).bind fun b_ =>
    some (b_, S24_))
set_option maxRecDepth 20000 in
set_option maxHeartbeats 4000000 in
theorem eX10_seesNumber_in (n : Nat) (S : rvS) (a0 : Nat) (x1 : Int32) (x2 : Int32) (r : Int32) (S' : rvS) (h : fnX10_seesNumber n S a0 x1 x2 = some (r, S')) : rv_Ev mX10_seesNumber 1 0 [(0, .ref a0), (1, .int x1), (2, .int x2)] [] S (some (.int r)) S' := by
  unfold fnX10_seesNumber at h
  refine re_aloadn (pc := 0) 0 (by decide +kernel : decode cX10_seesNumber 0 = .ok (.aload_n 0, 1)) rfl ?_
  obtain ⟨a1_, g2_, h⟩ := rv_b_e h
  refine re_gR (pc := 1) g2_ lfX10_9 rfl (by decide +kernel : decode cX10_seesNumber 1 = .ok (.getfield 9, 3)) ?_
  obtain ⟨x3_, g4_, h⟩ := rv_b_e h
  refine re_gI (pc := 4) g4_ lfX10_24 rfl (by decide +kernel : decode cX10_seesNumber 4 = .ok (.getfield 24, 3)) ?_
  refine re_iconst (pc := 7) (3 : Int32) (by decide +kernel : decode cX10_seesNumber 7 = .ok (.iconst 3, 1)) (by decide) ?_
  rcases rv_if_e h with ⟨g5_, h⟩ | ⟨g5_, h⟩
  · refine re_icmp_eq_t (pc := 8) 20 (by decide +kernel : decode cX10_seesNumber 8 = .ok (.if_icmp .eq 12, 3)) (by decide) g5_ ?_
    refine re_aloadn (pc := 20) 0 (by decide +kernel : decode cX10_seesNumber 20 = .ok (.aload_n 0, 1)) rfl ?_
    refine re_aloadn (pc := 21) 0 (by decide +kernel : decode cX10_seesNumber 21 = .ok (.aload_n 0, 1)) rfl ?_
    obtain ⟨a6_, g7_, h⟩ := rv_b_e h
    refine re_gR (pc := 22) g7_ lfX10_9 rfl (by decide +kernel : decode cX10_seesNumber 22 = .ok (.getfield 9, 3)) ?_
    obtain ⟨x8_, g9_, h⟩ := rv_b_e h
    refine re_gI (pc := 25) g9_ lfX10_192 rfl (by decide +kernel : decode cX10_seesNumber 25 = .ok (.getfield 192, 3)) ?_
    obtain ⟨S10_, g11_, h⟩ := rv_b_e h
    refine re_pI (pc := 28) g11_ lfX10_101 rfl rfl rfl rfl (by decide +kernel : decode cX10_seesNumber 28 = .ok (.putfield 101, 3)) ?_
    refine re_aloadn (pc := 31) 0 (by decide +kernel : decode cX10_seesNumber 31 = .ok (.aload_n 0, 1)) rfl ?_
    obtain ⟨x12_, g13_, h⟩ := rv_b_e h
    refine re_gI (pc := 32) g13_ lfX10_101 rfl (by decide +kernel : decode cX10_seesNumber 32 = .ok (.getfield 101, 3)) ?_
    refine re_iloadn (pc := 35) 1 (by decide +kernel : decode cX10_seesNumber 35 = .ok (.iload_n 1, 1)) rfl ?_
    rcases rv_if_e h with ⟨g14_, h⟩ | ⟨g14_, h⟩
    · refine re_icmp_lt_t (pc := 36) 47 (by decide +kernel : decode cX10_seesNumber 36 = .ok (.if_icmp .lt 11, 3)) (by decide) g14_ ?_
      refine re_sub [0] (lv1 := [(0, .ref a0)]) rfl ?_
      exact eX10_seesNumber_47 n S10_ a0 _ _ h
    · refine re_icmp_lt_f (pc := 36) 47 (by decide +kernel : decode cX10_seesNumber 36 = .ok (.if_icmp .lt 11, 3)) (by decide) g14_ ?_
      refine re_aloadn (pc := 39) 0 (by decide +kernel : decode cX10_seesNumber 39 = .ok (.aload_n 0, 1)) rfl ?_
      obtain ⟨x15_, g16_, h⟩ := rv_b_e h
      refine re_gI (pc := 40) g16_ lfX10_101 rfl (by decide +kernel : decode cX10_seesNumber 40 = .ok (.getfield 101, 3)) ?_
      refine re_iloadn (pc := 43) 2 (by decide +kernel : decode cX10_seesNumber 43 = .ok (.iload_n 2, 1)) rfl ?_
      rcases rv_if_e h with ⟨g17_, h⟩ | ⟨g17_, h⟩
      · refine re_icmp_le_t (pc := 44) 58 (by decide +kernel : decode cX10_seesNumber 44 = .ok (.if_icmp .le 14, 3)) (by decide) g17_ ?_
        refine re_iconst (pc := 58) (1 : Int32) (by decide +kernel : decode cX10_seesNumber 58 = .ok (.iconst 1, 1)) (by decide) ?_
        refine re_goto (pc := 59) 63 (by decide +kernel : decode cX10_seesNumber 59 = .ok (.goto 4, 3)) (by decide) ?_
        cases h
        exact re_iret (fun ty hty => by cases hty; rfl) (by decide +kernel : decode cX10_seesNumber 63 = .ok (.ireturn, 1))
      · refine re_icmp_le_f (pc := 44) 58 (by decide +kernel : decode cX10_seesNumber 44 = .ok (.if_icmp .le 14, 3)) (by decide) g17_ ?_
        refine re_sub [0] (lv1 := [(0, .ref a0)]) rfl ?_
        exact eX10_seesNumber_47 n S10_ a0 _ _ h
  · refine re_icmp_eq_f (pc := 8) 20 (by decide +kernel : decode cX10_seesNumber 8 = .ok (.if_icmp .eq 12, 3)) (by decide) g5_ ?_
    refine re_aloadn (pc := 11) 0 (by decide +kernel : decode cX10_seesNumber 11 = .ok (.aload_n 0, 1)) rfl ?_
    obtain ⟨a18_, g19_, h⟩ := rv_b_e h
    refine re_gR (pc := 12) g19_ lfX10_9 rfl (by decide +kernel : decode cX10_seesNumber 12 = .ok (.getfield 9, 3)) ?_
    refine re_iconst (pc := 15) (1 : Int32) (by decide +kernel : decode cX10_seesNumber 15 = .ok (.iconst 1, 1)) (by decide) ?_
    obtain ⟨u20_, g21_, h⟩ := rv_b_e h
    obtain ⟨x23_, S24_, g25_, h⟩ := rv_bp_e h
    have m22_ := metX8_fail n S a18_ (1 : Int32) _ _ g25_
    have z26_ : rv_same S S24_ := m22_.sh rfl
    refine re_cV (pc := 16) [.int (1 : Int32)] m22_ (rv_okl.k z26_) (rv_up.sh z26_) (by decide) (rv_ck_e g21_) ⟨by decide, rfl⟩ (Nat.le_of_ble_eq_true rfl) lVX10_34 rfl (by decide +kernel : decode cX10_seesNumber 16 = .ok (.invokevirtual 34, 3)) ?_
    obtain ⟨b_, gb_, h⟩ := rv_b_e h
    obtain ⟨gb1_, gb2_⟩ := rv_bo_e gb_
    refine re_nI (pc := 19) gb1_ ?_
    cases h
    exact re_iret (fun ty hty => by cases hty; exact gb2_) (by decide +kernel : decode cX10_seesNumber 19 = .ok (.ireturn, 1))
theorem metX10_seesNumber (n : Nat) (S : rvS) (a0 : Nat) (x1 : Int32) (x2 : Int32) (r : Int32) (S' : rvS) (h : fnX10_seesNumber n S a0 x1 x2 = some (r, S')) : rv_Met yX10_seesNumber mX10_seesNumber 1 [.ref a0, .int x1, .int x2] S (some (.int r)) S' := rv_Met.of ⟨by decide +kernel, rfl, (fun z => by first | rfl | cases z), rfl⟩ (Nat.le_of_ble_eq_true rfl) rfl (eX10_seesNumber_in n S a0 x1 x2 r S' h)
noncomputable def fnX10_takesNumber (n : Nat) (S : rvS) (a0 : Nat) (x1 : Int32) (x2 : Int32) : Option (Int32 × rvS) :=
  (rv_ck S 9 a0).bind fun u1_ =>
  rv_bp (fnX10_seesNumber n S a0 x1 x2) fun x4_ S5_ =>
  if x4_ = 0 then (
    (rv_bo x4_).bind fun b_ =>
    some (b_, S5_))
  else (
    (rv_gR S5_ 9 a0 0).bind fun a9_ =>
    (rv_ck S5_ 7 a9_).bind fun u11_ =>
    (fnX8_next n S5_ a9_).bind fun S14_ =>
    (rv_bo x4_).bind fun b_ =>
    some (b_, S14_))
set_option maxRecDepth 20000 in
set_option maxHeartbeats 4000000 in
theorem eX10_takesNumber_in (n : Nat) (S : rvS) (a0 : Nat) (x1 : Int32) (x2 : Int32) (r : Int32) (S' : rvS) (h : fnX10_takesNumber n S a0 x1 x2 = some (r, S')) : rv_Ev mX10_takesNumber 3 0 [(0, .ref a0), (1, .int x1), (2, .int x2)] [] S (some (.int r)) S' := by
  unfold fnX10_takesNumber at h
  refine re_aloadn (pc := 0) 0 (by decide +kernel : decode cX10_takesNumber 0 = .ok (.aload_n 0, 1)) rfl ?_
  refine re_iloadn (pc := 1) 1 (by decide +kernel : decode cX10_takesNumber 1 = .ok (.iload_n 1, 1)) rfl ?_
  refine re_iloadn (pc := 2) 2 (by decide +kernel : decode cX10_takesNumber 2 = .ok (.iload_n 2, 1)) rfl ?_
  obtain ⟨u1_, g2_, h⟩ := rv_b_e h
  obtain ⟨x4_, S5_, g6_, h⟩ := rv_bp_e h
  have m3_ := metX10_seesNumber n S a0 x1 x2 _ _ g6_
  have z7_ : rv_same S S5_ := m3_.sh rfl
  refine re_cV (pc := 3) [.int x1, .int x2] m3_ (rv_okl.k z7_) (rv_up.sh z7_) (by decide) (rv_ck_e g2_) ⟨by decide, rfl⟩ (Nat.le_of_ble_eq_true rfl) lVX10_137 rfl (by decide +kernel : decode cX10_takesNumber 3 = .ok (.invokevirtual 137, 3)) ?_
  refine re_istoren (pc := 6) (lv1 := [(3, .int x4_), (0, .ref a0), (1, .int x1), (2, .int x2)]) (by decide +kernel : decode cX10_takesNumber 6 = .ok (.istore_n 3, 1)) rfl (by decide) rfl ?_
  refine re_iloadn (pc := 7) 0 (by decide +kernel : decode cX10_takesNumber 7 = .ok (.iload_n 3, 1)) rfl ?_
  rcases rv_if_e h with ⟨g8_, h⟩ | ⟨g8_, h⟩
  · refine re_if_eq_t (pc := 8) 18 (by decide +kernel : decode cX10_takesNumber 8 = .ok (.ifCond .eq 10, 3)) (by decide) g8_ ?_
    refine re_iloadn (pc := 18) 0 (by decide +kernel : decode cX10_takesNumber 18 = .ok (.iload_n 3, 1)) rfl ?_
    obtain ⟨b_, gb_, h⟩ := rv_b_e h
    obtain ⟨gb1_, gb2_⟩ := rv_bo_e gb_
    refine re_nI (pc := 19) gb1_ ?_
    cases h
    exact re_iret (fun ty hty => by cases hty; exact gb2_) (by decide +kernel : decode cX10_takesNumber 19 = .ok (.ireturn, 1))
  · refine re_if_eq_f (pc := 8) 18 (by decide +kernel : decode cX10_takesNumber 8 = .ok (.ifCond .eq 10, 3)) (by decide) g8_ ?_
    refine re_aloadn (pc := 11) 1 (by decide +kernel : decode cX10_takesNumber 11 = .ok (.aload_n 0, 1)) rfl ?_
    obtain ⟨a9_, g10_, h⟩ := rv_b_e h
    refine re_gR (pc := 12) g10_ lfX10_9 rfl (by decide +kernel : decode cX10_takesNumber 12 = .ok (.getfield 9, 3)) ?_
    obtain ⟨u11_, g12_, h⟩ := rv_b_e h
    obtain ⟨S14_, g15_, h⟩ := rv_b_e h
    have m13_ := metX8_next n S5_ a9_ _ g15_
    have z16_ : rv_same S5_ S14_ := m13_.sh rfl
    refine re_cV (pc := 15) [] m13_ (rv_okl.k z16_) (rv_up.sh z16_) (by decide) (rv_ck_e g12_) ⟨by decide, rfl⟩ (Nat.le_of_ble_eq_true rfl) lVX10_38 rfl (by decide +kernel : decode cX10_takesNumber 15 = .ok (.invokevirtual 38, 3)) ?_
    refine re_iloadn (pc := 18) 0 (by decide +kernel : decode cX10_takesNumber 18 = .ok (.iload_n 3, 1)) rfl ?_
    obtain ⟨b_, gb_, h⟩ := rv_b_e h
    obtain ⟨gb1_, gb2_⟩ := rv_bo_e gb_
    refine re_nI (pc := 19) gb1_ ?_
    cases h
    exact re_iret (fun ty hty => by cases hty; exact gb2_) (by decide +kernel : decode cX10_takesNumber 19 = .ok (.ireturn, 1))
theorem metX10_takesNumber (n : Nat) (S : rvS) (a0 : Nat) (x1 : Int32) (x2 : Int32) (r : Int32) (S' : rvS) (h : fnX10_takesNumber n S a0 x1 x2 = some (r, S')) : rv_Met yX10_takesNumber mX10_takesNumber 3 [.ref a0, .int x1, .int x2] S (some (.int r)) S' := rv_Met.of ⟨by decide +kernel, rfl, (fun z => by first | rfl | cases z), rfl⟩ (Nat.le_of_ble_eq_true rfl) rfl (eX10_takesNumber_in n S a0 x1 x2 r S' h)
noncomputable def cX10_readRim_20 (n : Nat) (S : rvS) (a0 : Nat) : Option (Int32 × rvS) :=
  (rv_gR S 9 a0 0).bind fun a1_ =>
  (rv_ck S 7 a1_).bind fun u3_ =>
  rv_bp (fnX8_fail n S a1_ (3 : Int32)) fun x6_ S7_ =>
  (rv_bo x6_).bind fun b_ =>
  some (b_, S7_)
set_option maxRecDepth 20000 in
set_option maxHeartbeats 4000000 in
theorem eX10_readRim_20 (n : Nat) (S : rvS) (a0 : Nat) (r : Int32) (S' : rvS) (h : cX10_readRim_20 n S a0 = some (r, S')) : rv_Ev mX10_readRim 4 20 [(0, .ref a0)] [] S (some (.int r)) S' := by
  unfold cX10_readRim_20 at h
  refine re_aloadn (pc := 20) 0 (by decide +kernel : decode cX10_readRim 20 = .ok (.aload_n 0, 1)) rfl ?_
  obtain ⟨a1_, g2_, h⟩ := rv_b_e h
  refine re_gR (pc := 21) g2_ lfX10_9 rfl (by decide +kernel : decode cX10_readRim 21 = .ok (.getfield 9, 3)) ?_
  refine re_iconst (pc := 24) (3 : Int32) (by decide +kernel : decode cX10_readRim 24 = .ok (.iconst 3, 1)) (by decide) ?_
  obtain ⟨u3_, g4_, h⟩ := rv_b_e h
  obtain ⟨x6_, S7_, g8_, h⟩ := rv_bp_e h
  have m5_ := metX8_fail n S a1_ (3 : Int32) _ _ g8_
  have z9_ : rv_same S S7_ := m5_.sh rfl
  refine re_cV (pc := 25) [.int (3 : Int32)] m5_ (rv_okl.k z9_) (rv_up.sh z9_) (by decide) (rv_ck_e g4_) ⟨by decide, rfl⟩ (Nat.le_of_ble_eq_true rfl) lVX10_34 rfl (by decide +kernel : decode cX10_readRim 25 = .ok (.invokevirtual 34, 3)) ?_
  obtain ⟨b_, gb_, h⟩ := rv_b_e h
  obtain ⟨gb1_, gb2_⟩ := rv_bo_e gb_
  refine re_nI (pc := 28) gb1_ ?_
  cases h
  exact re_iret (fun ty hty => by cases hty; exact gb2_) (by decide +kernel : decode cX10_readRim 28 = .ok (.ireturn, 1))
noncomputable def fnX10_readRim (n : Nat) (S : rvS) (a0 : Nat) : Option (Int32 × rvS) :=
  (rv_gI S 9 a0 5).bind fun x1_ =>
  if x1_ = 0 then (
    (rv_gR S 9 a0 1).bind fun a4_ =>
    (rv_gR S 8 a4_ 1).bind fun a6_ =>
    (rv_gI S 5 a6_ 0).bind fun x8_ =>
    if x8_ ≤ 0 then (
      (rv_pI S 9 a0 5 (1 : Int32)).bind fun S11_ =>
      (rv_gR S11_ 9 a0 0).bind fun a13_ =>
      (rv_ck S11_ 7 a13_).bind fun u15_ =>
      (fnX8_next n S11_ a13_).bind fun S18_ =>
      (rv_ck S18_ 9 a0).bind fun u21_ =>
      rv_bp (fnX10_takesNumber n S18_ a0 (0 : Int32) (3 : Int32)) fun x24_ S25_ =>
      if x24_ = 0 then (
        some ((0 : Int32), S25_))
      else (
        (rv_gR S25_ 9 a0 1).bind fun a29_ =>
        (rv_gR S25_ 8 a29_ 1).bind fun a31_ =>
        (rv_gI S25_ 9 a0 3).bind fun x33_ =>
        (rv_pI S25_ 5 a31_ 1 x33_).bind fun S35_ =>
        some ((1 : Int32), S35_)))
    else (
      cX10_readRim_20 n S a0))
  else (
    cX10_readRim_20 n S a0)
set_option maxRecDepth 20000 in
set_option maxHeartbeats 4000000 in
theorem eX10_readRim_in (n : Nat) (S : rvS) (a0 : Nat) (r : Int32) (S' : rvS) (h : fnX10_readRim n S a0 = some (r, S')) : rv_Ev mX10_readRim 4 0 [(0, .ref a0)] [] S (some (.int r)) S' := by
  unfold fnX10_readRim at h
  refine re_aloadn (pc := 0) 0 (by decide +kernel : decode cX10_readRim 0 = .ok (.aload_n 0, 1)) rfl ?_
  obtain ⟨x1_, g2_, h⟩ := rv_b_e h
  refine re_gI (pc := 1) g2_ lfX10_84 rfl (by decide +kernel : decode cX10_readRim 1 = .ok (.getfield 84, 3)) ?_
  rcases rv_if_e h with ⟨g3_, h⟩ | ⟨g3_, h⟩
  · refine re_if_ne_f (pc := 4) 20 (by decide +kernel : decode cX10_readRim 4 = .ok (.ifCond .ne 16, 3)) (by decide) g3_ ?_
    refine re_aloadn (pc := 7) 0 (by decide +kernel : decode cX10_readRim 7 = .ok (.aload_n 0, 1)) rfl ?_
    obtain ⟨a4_, g5_, h⟩ := rv_b_e h
    refine re_gR (pc := 8) g5_ lfX10_15 rfl (by decide +kernel : decode cX10_readRim 8 = .ok (.getfield 15, 3)) ?_
    obtain ⟨a6_, g7_, h⟩ := rv_b_e h
    refine re_gR (pc := 11) g7_ lfX10_88 rfl (by decide +kernel : decode cX10_readRim 11 = .ok (.getfield 88, 3)) ?_
    obtain ⟨x8_, g9_, h⟩ := rv_b_e h
    refine re_gI (pc := 14) g9_ lfX10_92 rfl (by decide +kernel : decode cX10_readRim 14 = .ok (.getfield 92, 3)) ?_
    rcases rv_if_e h with ⟨g10_, h⟩ | ⟨g10_, h⟩
    · refine re_if_le_t (pc := 17) 29 (by decide +kernel : decode cX10_readRim 17 = .ok (.ifCond .le 12, 3)) (by decide) g10_ ?_
      refine re_aloadn (pc := 29) 0 (by decide +kernel : decode cX10_readRim 29 = .ok (.aload_n 0, 1)) rfl ?_
      refine re_iconst (pc := 30) (1 : Int32) (by decide +kernel : decode cX10_readRim 30 = .ok (.iconst 1, 1)) (by decide) ?_
      obtain ⟨S11_, g12_, h⟩ := rv_b_e h
      refine re_pI (pc := 31) g12_ lfX10_84 rfl rfl rfl rfl (by decide +kernel : decode cX10_readRim 31 = .ok (.putfield 84, 3)) ?_
      refine re_aloadn (pc := 34) 0 (by decide +kernel : decode cX10_readRim 34 = .ok (.aload_n 0, 1)) rfl ?_
      obtain ⟨a13_, g14_, h⟩ := rv_b_e h
      refine re_gR (pc := 35) g14_ lfX10_9 rfl (by decide +kernel : decode cX10_readRim 35 = .ok (.getfield 9, 3)) ?_
      obtain ⟨u15_, g16_, h⟩ := rv_b_e h
      obtain ⟨S18_, g19_, h⟩ := rv_b_e h
      have m17_ := metX8_next n S11_ a13_ _ g19_
      have z20_ : rv_same S11_ S18_ := m17_.sh rfl
      refine re_cV (pc := 38) [] m17_ (rv_okl.k z20_) (rv_up.sh z20_) (by decide) (rv_ck_e g16_) ⟨by decide, rfl⟩ (Nat.le_of_ble_eq_true rfl) lVX10_38 rfl (by decide +kernel : decode cX10_readRim 38 = .ok (.invokevirtual 38, 3)) ?_
      refine re_aloadn (pc := 41) 0 (by decide +kernel : decode cX10_readRim 41 = .ok (.aload_n 0, 1)) rfl ?_
      refine re_iconst (pc := 42) (0 : Int32) (by decide +kernel : decode cX10_readRim 42 = .ok (.iconst 0, 1)) (by decide) ?_
      refine re_iconst (pc := 43) (3 : Int32) (by decide +kernel : decode cX10_readRim 43 = .ok (.iconst 3, 1)) (by decide) ?_
      obtain ⟨u21_, g22_, h⟩ := rv_b_e h
      obtain ⟨x24_, S25_, g26_, h⟩ := rv_bp_e h
      have m23_ := metX10_takesNumber n S18_ a0 (0 : Int32) (3 : Int32) _ _ g26_
      have z27_ : rv_same S18_ S25_ := m23_.sh rfl
      refine re_cV (pc := 44) [.int (0 : Int32), .int (3 : Int32)] m23_ (rv_okl.k z27_) (rv_up.sh z27_) (by decide) (rv_ck_e g22_) ⟨by decide, rfl⟩ (Nat.le_of_ble_eq_true rfl) lVX10_97 rfl (by decide +kernel : decode cX10_readRim 44 = .ok (.invokevirtual 97, 3)) ?_
      rcases rv_if_e h with ⟨g28_, h⟩ | ⟨g28_, h⟩
      · refine re_if_ne_f (pc := 47) 52 (by decide +kernel : decode cX10_readRim 47 = .ok (.ifCond .ne 5, 3)) (by decide) g28_ ?_
        refine re_iconst (pc := 50) (0 : Int32) (by decide +kernel : decode cX10_readRim 50 = .ok (.iconst 0, 1)) (by decide) ?_
        cases h
        exact re_iret (fun ty hty => by cases hty; rfl) (by decide +kernel : decode cX10_readRim 51 = .ok (.ireturn, 1))
      · refine re_if_ne_t (pc := 47) 52 (by decide +kernel : decode cX10_readRim 47 = .ok (.ifCond .ne 5, 3)) (by decide) g28_ ?_
        refine re_aloadn (pc := 52) 0 (by decide +kernel : decode cX10_readRim 52 = .ok (.aload_n 0, 1)) rfl ?_
        obtain ⟨a29_, g30_, h⟩ := rv_b_e h
        refine re_gR (pc := 53) g30_ lfX10_15 rfl (by decide +kernel : decode cX10_readRim 53 = .ok (.getfield 15, 3)) ?_
        obtain ⟨a31_, g32_, h⟩ := rv_b_e h
        refine re_gR (pc := 56) g32_ lfX10_88 rfl (by decide +kernel : decode cX10_readRim 56 = .ok (.getfield 88, 3)) ?_
        refine re_aloadn (pc := 59) 0 (by decide +kernel : decode cX10_readRim 59 = .ok (.aload_n 0, 1)) rfl ?_
        obtain ⟨x33_, g34_, h⟩ := rv_b_e h
        refine re_gI (pc := 60) g34_ lfX10_101 rfl (by decide +kernel : decode cX10_readRim 60 = .ok (.getfield 101, 3)) ?_
        obtain ⟨S35_, g36_, h⟩ := rv_b_e h
        refine re_pI (pc := 63) g36_ lfX10_104 rfl rfl rfl rfl (by decide +kernel : decode cX10_readRim 63 = .ok (.putfield 104, 3)) ?_
        refine re_iconst (pc := 66) (1 : Int32) (by decide +kernel : decode cX10_readRim 66 = .ok (.iconst 1, 1)) (by decide) ?_
        cases h
        exact re_iret (fun ty hty => by cases hty; rfl) (by decide +kernel : decode cX10_readRim 67 = .ok (.ireturn, 1))
    · refine re_if_le_f (pc := 17) 29 (by decide +kernel : decode cX10_readRim 17 = .ok (.ifCond .le 12, 3)) (by decide) g10_ ?_
      exact eX10_readRim_20 n S a0 _ _ h
  · refine re_if_ne_t (pc := 4) 20 (by decide +kernel : decode cX10_readRim 4 = .ok (.ifCond .ne 16, 3)) (by decide) g3_ ?_
    exact eX10_readRim_20 n S a0 _ _ h
theorem metX10_readRim (n : Nat) (S : rvS) (a0 : Nat) (r : Int32) (S' : rvS) (h : fnX10_readRim n S a0 = some (r, S')) : rv_Met yX10_readRim mX10_readRim 4 [.ref a0] S (some (.int r)) S' := rv_Met.of ⟨by decide +kernel, rfl, (fun z => by first | rfl | cases z), rfl⟩ (Nat.le_of_ble_eq_true rfl) rfl (eX10_readRim_in n S a0 r S' h)
